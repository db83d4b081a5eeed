/-! ===== a turn of the law, act by act ===== -/
/-- what comes behind an act: due and told are the same -/
def Nxt (pX : Program) (l : Launch) (eX : Env) (sX : State) (mX : MethodId) (argsX : Array Value) (belowX : List Frame) (methX : Method) (cX : Code) (QX : State → Prop) (g : GG) (q : Nat → Nat) (b0 : Nat) (e9 tn : Int) (cells slots : Nat) : Prop :=
  ∀ (U : Sto) (z2 : Sig) (R2 : Int → Int) (v : Int), inR v → LI U q (gT g) z2 z2 R2 → Wf z2 → Wk pX l eX room_1 sX mX argsX belowX methX cX QX g 22 (cells + 161) (slots + 3006) 1114 [(0, .ref b0), (1, .ref (q 80)), (2, .int (iI e9)), (3, .ref (q 0)), (4, .ref (q 81)), (5, .ref (q 82)), (6, .ref (q 83)), (7, .ref (q 84)), (8, .ref (q 85)), (9, .ref (q 86)), (10, .ref (q 87)), (11, .ref (q 88)), (12, .int (iI tn)), (16, .int (iI v)), (17, .int (iI v))] [] U
section
variable {pX : Program} {l : Launch} {eX : Env} {sX : State} {mX : MethodId} {argsX : Array Value} {belowX : List Frame} {methX : Method} {cX : Code} {QX : State → Prop} {g : GG} {cells slots b0 : Nat} {S : Sto} {q : Nat → Nat}
set_option maxRecDepth 100000 in
set_option maxHeartbeats 4000000 in
theorem sg_put (hnt : l.stackTraces = false) (C : Cx pX l sX mX argsX methX cX cL_law 22 RL ret g) (hnc : Ncs sX) (hc : cells + 475 ≤ 600128 ∧ slots + 4890 ≤ 7301064) (e9 : Int) (tn a9 p9 o9 : Nat) (z : Sig) (R : Int → Int) (hI : LI S q (gT g) z z R) (hW : Wf z) (hp9 : p9 < 20) (ho9 : o9 ≤ zo z) (kk : Nxt pX l eX sX mX argsX belowX methX cX QX g q b0 e9 (tn : Int) cells slots) : Wk pX l eX room_1 sX mX argsX belowX methX cX QX g 22 cells slots 217 [(0, .ref b0), (1, .ref (q 80)), (2, .int (iI e9)), (3, .ref (q 0)), (4, .ref (q 81)), (5, .ref (q 82)), (6, .ref (q 83)), (7, .ref (q 84)), (8, .ref (q 85)), (9, .ref (q 86)), (10, .ref (q 87)), (11, .ref (q 88)), (12, .int (iI (tn : Int))), (13, .int (iI (a9 : Int))), (14, .int (iI (p9 : Int))), (15, .int (iI (o9 : Int))), (16, .int (iI 0)), (17, .int (iI 0))] [] S := by
  refine KRg (fun hR => ?_)
  obtain ⟨h12, h6c⟩ := hI.l12
  have hC := hW.1
  have hbo := hW.2.1.2
  have hp1 := hW.plI (x := (p9 : Int)) (by omega)
  refine KIload_n C dL_law_217 rfl 2 rfl ?_
  refine KBipush C dL_law_218 (by decide) ?_
  refine KIshr (v := iI ((iI e9 >>> (iI 10 &&& 31)).toInt)) C dL_law_220 (iI_of _).symm ?_
  refine KAload_n C dL_law_221 rfl 1 rfl ?_
  refine KIconst C dL_law_222 ?_
  refine KIald  (v := zA z) C 8 (hI.1.at0 80 20) (hI.1.ln0 80 8) ⟨by omega, by omega⟩ (by omega) hI.q5 dL_law_223 ?_
  refine KCallS (As := [.int (iI ((iI e9 >>> (iI 10 &&& 31)).toInt)), .int (iI (zA z))]) (st := []) C (ct_L_low l g S ((iI e9 >>> (iI 10 &&& 31)).toInt) (zA z) (by omega)) u_ml_RL_125 u_st_yL_low u_in_RL u_co_yL_low hd_yL_low ⟨Nat.le_of_ble_eq_true rfl, Nat.le_of_ble_eq_true rfl⟩ ⟨by show cells + 0 ≤ 600128; omega, by show slots + 0 ≤ 7301064; omega⟩ (Nat.le_of_ble_eq_true rfl) dL_law_224 rfl (fun v224 u224 hp224 => ?_)
  obtain ⟨rfl, rfl⟩ := hp224
  refine KSt (st2 := [.int (iI ((lowN ((iI e9 >>> (iI 10 &&& 31)).toInt) (zA z) : Nat) : Int))]) rfl ?_
  obtain ⟨r224, hrd224⟩ : ∃ n9 : Nat, n9 = lowN ((iI e9 >>> (iI 10 &&& 31)).toInt) (zA z) := ⟨_, rfl⟩
  have hr224 := lowN_lt (x := ((iI e9 >>> (iI 10 &&& 31)).toInt)) (n := (zA z)) (by omega)
  rw [← hrd224] at hr224
  refine KTop (congrArg iI (show ((lowN ((iI e9 >>> (iI 10 &&& 31)).toInt) (zA z) : Nat) : Int) = (r224 : Int) from (by rw [hrd224]))) ?_
  refine KIstore (lv' := [(18, .int (iI (r224 : Int))), (0, .ref b0), (1, .ref (q 80)), (2, .int (iI e9)), (3, .ref (q 0)), (4, .ref (q 81)), (5, .ref (q 82)), (6, .ref (q 83)), (7, .ref (q 84)), (8, .ref (q 85)), (9, .ref (q 86)), (10, .ref (q 87)), (11, .ref (q 88)), (12, .int (iI (tn : Int))), (13, .int (iI (a9 : Int))), (14, .int (iI (p9 : Int))), (15, .int (iI (o9 : Int))), (16, .int (iI 0)), (17, .int (iI 0))]) C dL_law_227 (by decide) rfl ?_
  refine KIconst C dL_law_229 ?_
  refine KIload_n C dL_law_230 rfl 3 rfl ?_
  refine KBipush C dL_law_231 (by decide) ?_
  refine KIshr (v := iI ((iI e9 >>> (iI 13 &&& 31)).toInt)) C dL_law_233 (iI_of _).symm ?_
  refine KAload_n C dL_law_234 rfl 2 rfl ?_
  refine KBipush C dL_law_235 (by decide) ?_
  refine KIald  (v := zN z) C 8 (hI.1.at0 80 20) (hI.1.ln0 80 8) ⟨by omega, by omega⟩ (by omega) hI.q6 dL_law_237 ?_
  refine KCallS (As := [.int (iI ((iI e9 >>> (iI 13 &&& 31)).toInt)), .int (iI (zN z))]) (st := [.int (iI 1)]) C (ct_L_low l g S ((iI e9 >>> (iI 13 &&& 31)).toInt) (zN z) (by omega)) u_ml_RL_125 u_st_yL_low u_in_RL u_co_yL_low hd_yL_low ⟨Nat.le_of_ble_eq_true rfl, Nat.le_of_ble_eq_true rfl⟩ ⟨by show cells + 0 ≤ 600128; omega, by show slots + 0 ≤ 7301064; omega⟩ (Nat.le_of_ble_eq_true rfl) dL_law_238 rfl (fun v238 u238 hp238 => ?_)
  obtain ⟨rfl, rfl⟩ := hp238
  refine KSt (st2 := [.int (iI ((lowN ((iI e9 >>> (iI 13 &&& 31)).toInt) (zN z) : Nat) : Int)), .int (iI 1)]) rfl ?_
  obtain ⟨r238, hrd238⟩ : ∃ n9 : Nat, n9 = lowN ((iI e9 >>> (iI 13 &&& 31)).toInt) (zN z) := ⟨_, rfl⟩
  have hr238 := lowN_lt (x := ((iI e9 >>> (iI 13 &&& 31)).toInt)) (n := (zN z)) (by omega)
  rw [← hrd238] at hr238
  refine KTop (congrArg iI (show ((lowN ((iI e9 >>> (iI 13 &&& 31)).toInt) (zN z) : Nat) : Int) = (r238 : Int) from (by rw [hrd238]))) ?_
  refine KIadd C dL_law_241 ?_
  obtain ⟨to9, hto⟩ : ∃ t9 : Int, t9 = 100 * (r224 : Int) + (1 + (r238 : Int)) := ⟨_, rfl⟩
  refine KIstore (lv' := [(19, .int (iI (1 + (r238 : Int)))), (18, .int (iI (r224 : Int))), (0, .ref b0), (1, .ref (q 80)), (2, .int (iI e9)), (3, .ref (q 0)), (4, .ref (q 81)), (5, .ref (q 82)), (6, .ref (q 83)), (7, .ref (q 84)), (8, .ref (q 85)), (9, .ref (q 86)), (10, .ref (q 87)), (11, .ref (q 88)), (12, .int (iI (tn : Int))), (13, .int (iI (a9 : Int))), (14, .int (iI (p9 : Int))), (15, .int (iI (o9 : Int))), (16, .int (iI 0)), (17, .int (iI 0))]) C dL_law_242 (by decide) rfl ?_
  refine KAload_n C dL_law_244 rfl 3 rfl ?_
  refine KIconst C dL_law_245 ?_
  refine KIald  (v := (zb z : Int)) C 8 (hI.1.at0 80 20) (hI.1.ln0 80 8) ⟨by omega, by omega⟩ (by omega) hI.q2 dL_law_246 ?_
  refine KIf_ne (tgt := 254) C dL_law_247 (by decide) ⟨by omega, by omega⟩ (fun c247 => ?_) (fun c247 => ?_)
  · refine KIconst C dL_law_254 ?_
    refine KIstore (lv' := [(20, .int (iI 0)), (19, .int (iI (1 + (r238 : Int)))), (18, .int (iI (r224 : Int))), (0, .ref b0), (1, .ref (q 80)), (2, .int (iI e9)), (3, .ref (q 0)), (4, .ref (q 81)), (5, .ref (q 82)), (6, .ref (q 83)), (7, .ref (q 84)), (8, .ref (q 85)), (9, .ref (q 86)), (10, .ref (q 87)), (11, .ref (q 88)), (12, .int (iI (tn : Int))), (13, .int (iI (a9 : Int))), (14, .int (iI (p9 : Int))), (15, .int (iI (o9 : Int))), (16, .int (iI 0)), (17, .int (iI 0))]) C dL_law_255 (by decide) rfl ?_
    refine KIconst C dL_law_257 ?_
    refine KIstore (lv' := [(21, .int (iI 0)), (20, .int (iI 0)), (19, .int (iI (1 + (r238 : Int)))), (18, .int (iI (r224 : Int))), (0, .ref b0), (1, .ref (q 80)), (2, .int (iI e9)), (3, .ref (q 0)), (4, .ref (q 81)), (5, .ref (q 82)), (6, .ref (q 83)), (7, .ref (q 84)), (8, .ref (q 85)), (9, .ref (q 86)), (10, .ref (q 87)), (11, .ref (q 88)), (12, .int (iI (tn : Int))), (13, .int (iI (a9 : Int))), (14, .int (iI (p9 : Int))), (15, .int (iI (o9 : Int))), (16, .int (iI 0)), (17, .int (iI 0))]) C dL_law_258 (by decide) rfl ?_
    refine KLv (lv' := [(0, .ref b0), (1, .ref (q 80)), (2, .int (iI e9)), (3, .ref (q 0)), (4, .ref (q 81)), (5, .ref (q 82)), (6, .ref (q 83)), (7, .ref (q 84)), (8, .ref (q 85)), (9, .ref (q 86)), (10, .ref (q 87)), (11, .ref (q 88)), (12, .int (iI (tn : Int))), (13, .int (iI (a9 : Int))), (14, .int (iI (p9 : Int))), (15, .int (iI (o9 : Int))), (16, .int (iI 0)), (17, .int (iI 0)), (18, .int (iI (r224 : Int))), (19, .int (iI (1 + (r238 : Int)))), (20, .int (iI 0)), (21, .int (iI 0))]) [4, 5, 6, 7, 8, 9, 10, 11, 12, 13, 14, 15, 16, 17, 18, 19, 20, 21, 3, 2, 1, 0] rfl ?_
    have loop260 : ∀ (nX : Nat) (fb : Int) (k : Nat), 20 - k < nX → (k ≤ 20) → ((fb = 1 ∧ zb z = 0) ∨ (fb = 0 ∧ 0 < zb z)) → Wk pX l eX room_1 sX mX argsX belowX methX cX QX g 22 cells slots 260 [(0, .ref b0), (1, .ref (q 80)), (2, .int (iI e9)), (3, .ref (q 0)), (4, .ref (q 81)), (5, .ref (q 82)), (6, .ref (q 83)), (7, .ref (q 84)), (8, .ref (q 85)), (9, .ref (q 86)), (10, .ref (q 87)), (11, .ref (q 88)), (12, .int (iI (tn : Int))), (13, .int (iI (a9 : Int))), (14, .int (iI (p9 : Int))), (15, .int (iI (o9 : Int))), (16, .int (iI 0)), (17, .int (iI 0)), (18, .int (iI (r224 : Int))), (19, .int (iI (1 + (r238 : Int)))), (20, .int (iI (fpI (zP z) (p9 : Int) to9 fb k))), (21, .int (iI (k : Int)))] [] S := by
      intro nX
      induction nX with
      | zero => intro fb k hm; exact absurd hm (Nat.not_lt_zero _)
      | succ nX ih260 =>
        intro fb k hm260 hk hfb
        refine KRg (fun hR => ?_)
        have hfpb := fpI_b (P := zP z) (p := (p9 : Int)) (to := to9) (b0 := fb) (by omega) k
        refine KIload C dL_law_260 21 rfl ?_
        refine KBipush C dL_law_262 (by decide) ?_
        refine KIcmp_ge (tgt := 308) C dL_law_264 (by decide) ⟨by omega, by omega⟩ ⟨by omega, by omega⟩ (fun c264 => ?_) (fun c264 => ?_)
        · have hk20 : k = 20 := by omega
          rw [hk20] at hfpb
          refine KLvE (lv2 := [(0, .ref b0), (1, .ref (q 80)), (2, .int (iI e9)), (3, .ref (q 0)), (4, .ref (q 81)), (5, .ref (q 82)), (6, .ref (q 83)), (7, .ref (q 84)), (8, .ref (q 85)), (9, .ref (q 86)), (10, .ref (q 87)), (11, .ref (q 88)), (12, .int (iI (tn : Int))), (13, .int (iI (a9 : Int))), (14, .int (iI (p9 : Int))), (15, .int (iI (o9 : Int))), (16, .int (iI 0)), (17, .int (iI 0)), (18, .int (iI (r224 : Int))), (19, .int (iI (1 + (r238 : Int)))), (20, .int (iI (fpI (zP z) (p9 : Int) to9 fb 20))), (21, .int (iI (k : Int)))]) (congrArg (fun zz : Int => ([(0, .ref b0), (1, .ref (q 80)), (2, .int (iI e9)), (3, .ref (q 0)), (4, .ref (q 81)), (5, .ref (q 82)), (6, .ref (q 83)), (7, .ref (q 84)), (8, .ref (q 85)), (9, .ref (q 86)), (10, .ref (q 87)), (11, .ref (q 88)), (12, .int (iI (tn : Int))), (13, .int (iI (a9 : Int))), (14, .int (iI (p9 : Int))), (15, .int (iI (o9 : Int))), (16, .int (iI 0)), (17, .int (iI 0)), (18, .int (iI (r224 : Int))), (19, .int (iI (1 + (r238 : Int)))), (20, .int (iI zz)), (21, .int (iI (k : Int)))] : List (Nat × Value))) (show (fpI (zP z) (p9 : Int) to9 fb k : Int) = fpI (zP z) (p9 : Int) to9 fb 20 from (by rw [hk20]))) ?_
          refine KIload C dL_law_308 20 rfl ?_
          refine KIf_eq (tgt := 321) C dL_law_310 (by decide) ⟨by omega, by omega⟩ (fun c310 => ?_) (fun c310 => ?_)
          · have hoP := ho_put0 (z := z) (a := (r224 : Int)) (i := 1 + (r238 : Int)) (b0 := fb) hp9 ⟨by omega, by omega⟩ ⟨by omega, by omega⟩ hfb (by rw [← hto]; omega)
            refine KBipush C dL_law_321 (by decide) ?_
            refine KIstore (lv' := [(16, .int (iI (-3))), (0, .ref b0), (1, .ref (q 80)), (2, .int (iI e9)), (3, .ref (q 0)), (4, .ref (q 81)), (5, .ref (q 82)), (6, .ref (q 83)), (7, .ref (q 84)), (8, .ref (q 85)), (9, .ref (q 86)), (10, .ref (q 87)), (11, .ref (q 88)), (12, .int (iI (tn : Int))), (13, .int (iI (a9 : Int))), (14, .int (iI (p9 : Int))), (15, .int (iI (o9 : Int))), (17, .int (iI 0)), (18, .int (iI (r224 : Int))), (19, .int (iI (1 + (r238 : Int)))), (20, .int (iI (fpI (zP z) (p9 : Int) to9 fb 20))), (21, .int (iI (k : Int)))]) C dL_law_323 (by decide) rfl ?_
            refine KAload C dL_law_325 5 rfl ?_
            refine KIload C dL_law_327 15 rfl ?_
            refine KIload C dL_law_329 20 rfl ?_
            refine KIf_eq (tgt := 345) C dL_law_331 (by decide) ⟨by omega, by omega⟩ (fun c331 => ?_) (fun c331 => absurd c331 (by omega))
            refine KAload C dL_law_345 5 rfl ?_
            refine KIload C dL_law_347 15 rfl ?_
            refine KIald  (v := zP z (p9 : Int)) C 20 (hI.1.at0 81 20) (hI.1.ln0 81 20) ⟨by omega, by omega⟩ (by omega) (congrFun hI.P _) dL_law_349 ?_
            refine KIast C 20 (hI.1.at0 81 20) (hI.1.ln0 81 20) ⟨by omega, by omega⟩ (by omega) ⟨by omega, by omega⟩ dL_law_350 ?_
            have hI350 := hI.putn p9
            refine KAload_n C dL_law_351 rfl 4 rfl ?_
            refine KIconst C dL_law_352 ?_
            refine KIload C dL_law_353 15 rfl ?_
            refine KIload C dL_law_355 18 rfl ?_
            refine KIload C dL_law_357 19 rfl ?_
            refine KCallSH (As := [.ref (q 0), .int (iI 0), .int (iI (p9 : Int)), .int (iI (r224 : Int)), .int (iI (1 + (r238 : Int)))]) (st := []) C hnc (ct_L_calls_put l g hnt (uI S (q 81) (p9 : Int) (zP z (p9 : Int))) q (p9 : Int) (r224 : Int) (1 + (r238 : Int)) z hI350.1 hW hI350.2.1 ⟨by omega, by omega⟩ ⟨by omega, by omega⟩ ⟨by omega, by omega⟩ (gT g) rfl) u_ml_RL_89 u_st_yL_calls u_in_RL u_cw_calls hd_yL_calls ⟨Nat.le_of_ble_eq_true rfl, Nat.le_of_ble_eq_true rfl⟩ ⟨by show cells + 3 ≤ 600128; omega, by show slots + 18 ≤ 7301064; omega⟩ (Nat.le_of_ble_eq_true rfl) dL_law_359 rfl (fun v359 u359 hp359 => ?_)
            obtain ⟨rfl, hc359⟩ := hp359.no (hoP) (by decide) (by decide : _ = ((-3) : Int))
            have hI359 := hI350.cp hc359
            refine KSt (st2 := [.int (iI (-3))]) rfl ?_
            refine KRg (fun hR => ?_)
            have hWn := hW
            refine KIstore (lv' := [(17, .int (iI (-3))), (16, .int (iI (-3))), (0, .ref b0), (1, .ref (q 80)), (2, .int (iI e9)), (3, .ref (q 0)), (4, .ref (q 81)), (5, .ref (q 82)), (6, .ref (q 83)), (7, .ref (q 84)), (8, .ref (q 85)), (9, .ref (q 86)), (10, .ref (q 87)), (11, .ref (q 88)), (12, .int (iI (tn : Int))), (13, .int (iI (a9 : Int))), (14, .int (iI (p9 : Int))), (15, .int (iI (o9 : Int))), (18, .int (iI (r224 : Int))), (19, .int (iI (1 + (r238 : Int)))), (20, .int (iI (fpI (zP z) (p9 : Int) to9 fb 20))), (21, .int (iI (k : Int)))]) C dL_law_362 (by decide) rfl ?_
            refine KGoto (tgt := 1114) C dL_law_364 (by decide) ?_
            refine KLv (lv' := [(0, .ref b0), (1, .ref (q 80)), (2, .int (iI e9)), (3, .ref (q 0)), (4, .ref (q 81)), (5, .ref (q 82)), (6, .ref (q 83)), (7, .ref (q 84)), (8, .ref (q 85)), (9, .ref (q 86)), (10, .ref (q 87)), (11, .ref (q 88)), (12, .int (iI (tn : Int))), (16, .int (iI (-3))), (17, .int (iI (-3)))]) [2, 3, 4, 5, 6, 7, 8, 9, 10, 11, 12, 13, 14, 1, 0] rfl ?_
            exact KWiden (by omega) (by omega) (kk _ _ _ _ ⟨by omega, by omega⟩ hI359 hWn)
          · have hoP := ho_put1 (z := z) (a := (r224 : Int)) (i := 1 + (r238 : Int)) (b0 := fb) hp9 ⟨by omega, by omega⟩ ⟨by omega, by omega⟩ hfb (by rw [← hto]; omega)
            rw [← hto] at hoP
            refine KAload C dL_law_313 4 rfl ?_
            refine KIload C dL_law_315 14 rfl ?_
            refine KIald  (v := zP z (p9 : Int)) C 20 (hI.1.at0 81 20) (hI.1.ln0 81 20) ⟨by omega, by omega⟩ (by omega) (congrFun hI.P _) dL_law_317 ?_
            refine KGoto (tgt := 323) C dL_law_318 (by decide) ?_
            refine KIstore (lv' := [(16, .int (iI (zP z (p9 : Int)))), (0, .ref b0), (1, .ref (q 80)), (2, .int (iI e9)), (3, .ref (q 0)), (4, .ref (q 81)), (5, .ref (q 82)), (6, .ref (q 83)), (7, .ref (q 84)), (8, .ref (q 85)), (9, .ref (q 86)), (10, .ref (q 87)), (11, .ref (q 88)), (12, .int (iI (tn : Int))), (13, .int (iI (a9 : Int))), (14, .int (iI (p9 : Int))), (15, .int (iI (o9 : Int))), (17, .int (iI 0)), (18, .int (iI (r224 : Int))), (19, .int (iI (1 + (r238 : Int)))), (20, .int (iI (fpI (zP z) (p9 : Int) to9 fb 20))), (21, .int (iI (k : Int)))]) C dL_law_323 (by decide) rfl ?_
            refine KAload C dL_law_325 5 rfl ?_
            refine KIload C dL_law_327 15 rfl ?_
            refine KIload C dL_law_329 20 rfl ?_
            refine KIf_eq (tgt := 345) C dL_law_331 (by decide) ⟨by omega, by omega⟩ (fun c331 => absurd c331 (by omega)) (fun c331 => ?_)
            refine KBipush C dL_law_334 (by decide) ?_
            refine KIload C dL_law_336 18 rfl ?_
            refine KImul C dL_law_338 ?_
            refine KIload C dL_law_339 19 rfl ?_
            refine KIadd C dL_law_341 ?_
            refine KTop (congrArg iI (show (100 * (r224 : Int)) + (1 + (r238 : Int)) = to9 from (by rw [hto]))) ?_
            refine KGoto (tgt := 350) C dL_law_342 (by decide) ?_
            refine KIast C 20 (hI.1.at0 81 20) (hI.1.ln0 81 20) ⟨by omega, by omega⟩ (by omega) ⟨by omega, by omega⟩ dL_law_350 ?_
            have hI350 := hI.put p9 to9
            refine KAload_n C dL_law_351 rfl 4 rfl ?_
            refine KIconst C dL_law_352 ?_
            refine KIload C dL_law_353 15 rfl ?_
            refine KIload C dL_law_355 18 rfl ?_
            refine KIload C dL_law_357 19 rfl ?_
            refine KCallSH (As := [.ref (q 0), .int (iI 0), .int (iI (p9 : Int)), .int (iI (r224 : Int)), .int (iI (1 + (r238 : Int)))]) (st := []) C hnc (ct_L_calls_put l g hnt (uI S (q 81) (p9 : Int) to9) q (p9 : Int) (r224 : Int) (1 + (r238 : Int)) z hI350.1 hW hI350.2.1 ⟨by omega, by omega⟩ ⟨by omega, by omega⟩ ⟨by omega, by omega⟩ (gT g) rfl) u_ml_RL_89 u_st_yL_calls u_in_RL u_cw_calls hd_yL_calls ⟨Nat.le_of_ble_eq_true rfl, Nat.le_of_ble_eq_true rfl⟩ ⟨by show cells + 3 ≤ 600128; omega, by show slots + 18 ≤ 7301064; omega⟩ (Nat.le_of_ble_eq_true rfl) dL_law_359 rfl (fun v359 u359 hp359 => ?_)
            obtain ⟨rfl, hc359⟩ := hp359.ok (hoP)
            have hI359 := hI350.cp hc359
            refine KSt (st2 := [.int (iI (zP z (p9 : Int)))]) rfl ?_
            refine KRg (fun hR => ?_)
            have hWn := wf_oPut hW (p9 : Int) (r224 : Int) (1 + (r238 : Int))
            rw [hoP] at hWn
            refine KIstore (lv' := [(17, .int (iI (zP z (p9 : Int)))), (16, .int (iI (zP z (p9 : Int)))), (0, .ref b0), (1, .ref (q 80)), (2, .int (iI e9)), (3, .ref (q 0)), (4, .ref (q 81)), (5, .ref (q 82)), (6, .ref (q 83)), (7, .ref (q 84)), (8, .ref (q 85)), (9, .ref (q 86)), (10, .ref (q 87)), (11, .ref (q 88)), (12, .int (iI (tn : Int))), (13, .int (iI (a9 : Int))), (14, .int (iI (p9 : Int))), (15, .int (iI (o9 : Int))), (18, .int (iI (r224 : Int))), (19, .int (iI (1 + (r238 : Int)))), (20, .int (iI (fpI (zP z) (p9 : Int) to9 fb 20))), (21, .int (iI (k : Int)))]) C dL_law_362 (by decide) rfl ?_
            refine KGoto (tgt := 1114) C dL_law_364 (by decide) ?_
            refine KLv (lv' := [(0, .ref b0), (1, .ref (q 80)), (2, .int (iI e9)), (3, .ref (q 0)), (4, .ref (q 81)), (5, .ref (q 82)), (6, .ref (q 83)), (7, .ref (q 84)), (8, .ref (q 85)), (9, .ref (q 86)), (10, .ref (q 87)), (11, .ref (q 88)), (12, .int (iI (tn : Int))), (16, .int (iI (zP z (p9 : Int)))), (17, .int (iI (zP z (p9 : Int))))]) [2, 3, 4, 5, 6, 7, 8, 9, 10, 11, 12, 13, 14, 1, 0] rfl ?_
            exact KWiden (by omega) (by omega) (kk _ _ _ _ ⟨by omega, by omega⟩ hI359 hWn)
        · have hpk := hW.plI (x := (k : Int)) (by omega)
          refine KIload C dL_law_267 20 rfl ?_
          refine KIf_eq (tgt := 299) C dL_law_269 (by decide) ⟨by omega, by omega⟩ (fun c269 => ?_) (fun c269 => ?_)
          · refine KIconst C dL_law_299 ?_
            refine KTop (congrArg iI (show 0 = fpI (zP z) (p9 : Int) to9 fb (k + 1) from (by first | exact fpI_t ⟨by omega, Or.inl (by omega)⟩ | exact fpI_t ⟨by omega, Or.inr (by omega)⟩ | exact fpI_f (fun h9 => by omega)))) ?_
            refine KIstore (lv' := [(20, .int (iI (fpI (zP z) (p9 : Int) to9 fb (k + 1)))), (0, .ref b0), (1, .ref (q 80)), (2, .int (iI e9)), (3, .ref (q 0)), (4, .ref (q 81)), (5, .ref (q 82)), (6, .ref (q 83)), (7, .ref (q 84)), (8, .ref (q 85)), (9, .ref (q 86)), (10, .ref (q 87)), (11, .ref (q 88)), (12, .int (iI (tn : Int))), (13, .int (iI (a9 : Int))), (14, .int (iI (p9 : Int))), (15, .int (iI (o9 : Int))), (16, .int (iI 0)), (17, .int (iI 0)), (18, .int (iI (r224 : Int))), (19, .int (iI (1 + (r238 : Int)))), (21, .int (iI (k : Int)))]) C dL_law_300 (by decide) rfl ?_
            refine KIinc (v := ((k + 1 : Nat) : Int)) (lv' := [(21, .int (iI ((k + 1 : Nat) : Int))), (20, .int (iI (fpI (zP z) (p9 : Int) to9 fb (k + 1)))), (0, .ref b0), (1, .ref (q 80)), (2, .int (iI e9)), (3, .ref (q 0)), (4, .ref (q 81)), (5, .ref (q 82)), (6, .ref (q 83)), (7, .ref (q 84)), (8, .ref (q 85)), (9, .ref (q 86)), (10, .ref (q 87)), (11, .ref (q 88)), (12, .int (iI (tn : Int))), (13, .int (iI (a9 : Int))), (14, .int (iI (p9 : Int))), (15, .int (iI (o9 : Int))), (16, .int (iI 0)), (17, .int (iI 0)), (18, .int (iI (r224 : Int))), (19, .int (iI (1 + (r238 : Int))))]) C dL_law_302 21 rfl (by omega) (by decide) rfl ?_
            refine KGoto (tgt := 260) C dL_law_305 (by decide) ?_
            refine KLv (lv' := [(0, .ref b0), (1, .ref (q 80)), (2, .int (iI e9)), (3, .ref (q 0)), (4, .ref (q 81)), (5, .ref (q 82)), (6, .ref (q 83)), (7, .ref (q 84)), (8, .ref (q 85)), (9, .ref (q 86)), (10, .ref (q 87)), (11, .ref (q 88)), (12, .int (iI (tn : Int))), (13, .int (iI (a9 : Int))), (14, .int (iI (p9 : Int))), (15, .int (iI (o9 : Int))), (16, .int (iI 0)), (17, .int (iI 0)), (18, .int (iI (r224 : Int))), (19, .int (iI (1 + (r238 : Int)))), (20, .int (iI (fpI (zP z) (p9 : Int) to9 fb (k + 1)))), (21, .int (iI ((k + 1 : Nat) : Int)))]) [2, 3, 4, 5, 6, 7, 8, 9, 10, 11, 12, 13, 14, 15, 16, 17, 18, 19, 20, 21, 1, 0] rfl ?_
            exact ih260 fb (k + 1) (by omega) (by omega) (by omega)
          · refine KIload C dL_law_272 21 rfl ?_
            refine KIload C dL_law_274 14 rfl ?_
            refine KIcmp_eq (tgt := 295) C dL_law_276 (by decide) ⟨by omega, by omega⟩ ⟨by omega, by omega⟩ (fun c276 => ?_) (fun c276 => ?_)
            · refine KIconst C dL_law_295 ?_
              refine KGoto (tgt := 300) C dL_law_296 (by decide) ?_
              refine KTop (congrArg iI (show 1 = fpI (zP z) (p9 : Int) to9 fb (k + 1) from (by first | exact fpI_t ⟨by omega, Or.inl (by omega)⟩ | exact fpI_t ⟨by omega, Or.inr (by omega)⟩ | exact fpI_f (fun h9 => by omega)))) ?_
              refine KIstore (lv' := [(20, .int (iI (fpI (zP z) (p9 : Int) to9 fb (k + 1)))), (0, .ref b0), (1, .ref (q 80)), (2, .int (iI e9)), (3, .ref (q 0)), (4, .ref (q 81)), (5, .ref (q 82)), (6, .ref (q 83)), (7, .ref (q 84)), (8, .ref (q 85)), (9, .ref (q 86)), (10, .ref (q 87)), (11, .ref (q 88)), (12, .int (iI (tn : Int))), (13, .int (iI (a9 : Int))), (14, .int (iI (p9 : Int))), (15, .int (iI (o9 : Int))), (16, .int (iI 0)), (17, .int (iI 0)), (18, .int (iI (r224 : Int))), (19, .int (iI (1 + (r238 : Int)))), (21, .int (iI (k : Int)))]) C dL_law_300 (by decide) rfl ?_
              refine KIinc (v := ((k + 1 : Nat) : Int)) (lv' := [(21, .int (iI ((k + 1 : Nat) : Int))), (20, .int (iI (fpI (zP z) (p9 : Int) to9 fb (k + 1)))), (0, .ref b0), (1, .ref (q 80)), (2, .int (iI e9)), (3, .ref (q 0)), (4, .ref (q 81)), (5, .ref (q 82)), (6, .ref (q 83)), (7, .ref (q 84)), (8, .ref (q 85)), (9, .ref (q 86)), (10, .ref (q 87)), (11, .ref (q 88)), (12, .int (iI (tn : Int))), (13, .int (iI (a9 : Int))), (14, .int (iI (p9 : Int))), (15, .int (iI (o9 : Int))), (16, .int (iI 0)), (17, .int (iI 0)), (18, .int (iI (r224 : Int))), (19, .int (iI (1 + (r238 : Int))))]) C dL_law_302 21 rfl (by omega) (by decide) rfl ?_
              refine KGoto (tgt := 260) C dL_law_305 (by decide) ?_
              refine KLv (lv' := [(0, .ref b0), (1, .ref (q 80)), (2, .int (iI e9)), (3, .ref (q 0)), (4, .ref (q 81)), (5, .ref (q 82)), (6, .ref (q 83)), (7, .ref (q 84)), (8, .ref (q 85)), (9, .ref (q 86)), (10, .ref (q 87)), (11, .ref (q 88)), (12, .int (iI (tn : Int))), (13, .int (iI (a9 : Int))), (14, .int (iI (p9 : Int))), (15, .int (iI (o9 : Int))), (16, .int (iI 0)), (17, .int (iI 0)), (18, .int (iI (r224 : Int))), (19, .int (iI (1 + (r238 : Int)))), (20, .int (iI (fpI (zP z) (p9 : Int) to9 fb (k + 1)))), (21, .int (iI ((k + 1 : Nat) : Int)))]) [2, 3, 4, 5, 6, 7, 8, 9, 10, 11, 12, 13, 14, 15, 16, 17, 18, 19, 20, 21, 1, 0] rfl ?_
              exact ih260 fb (k + 1) (by omega) (by omega) (by omega)
            · refine KAload C dL_law_279 4 rfl ?_
              refine KIload C dL_law_281 21 rfl ?_
              refine KIald  (v := zP z (k : Int)) C 20 (hI.1.at0 81 20) (hI.1.ln0 81 20) ⟨by omega, by omega⟩ (by omega) (congrFun hI.P _) dL_law_283 ?_
              refine KBipush C dL_law_284 (by decide) ?_
              refine KIload C dL_law_286 18 rfl ?_
              refine KImul C dL_law_288 ?_
              refine KIload C dL_law_289 19 rfl ?_
              refine KIadd C dL_law_291 ?_
              refine KTop (congrArg iI (show (100 * (r224 : Int)) + (1 + (r238 : Int)) = to9 from (by rw [hto]))) ?_
              refine KIcmp_eq (tgt := 299) C dL_law_292 (by decide) ⟨by omega, by omega⟩ ⟨by omega, by omega⟩ (fun c292 => ?_) (fun c292 => ?_)
              · refine KIconst C dL_law_299 ?_
                refine KTop (congrArg iI (show 0 = fpI (zP z) (p9 : Int) to9 fb (k + 1) from (by first | exact fpI_t ⟨by omega, Or.inl (by omega)⟩ | exact fpI_t ⟨by omega, Or.inr (by omega)⟩ | exact fpI_f (fun h9 => by omega)))) ?_
                refine KIstore (lv' := [(20, .int (iI (fpI (zP z) (p9 : Int) to9 fb (k + 1)))), (0, .ref b0), (1, .ref (q 80)), (2, .int (iI e9)), (3, .ref (q 0)), (4, .ref (q 81)), (5, .ref (q 82)), (6, .ref (q 83)), (7, .ref (q 84)), (8, .ref (q 85)), (9, .ref (q 86)), (10, .ref (q 87)), (11, .ref (q 88)), (12, .int (iI (tn : Int))), (13, .int (iI (a9 : Int))), (14, .int (iI (p9 : Int))), (15, .int (iI (o9 : Int))), (16, .int (iI 0)), (17, .int (iI 0)), (18, .int (iI (r224 : Int))), (19, .int (iI (1 + (r238 : Int)))), (21, .int (iI (k : Int)))]) C dL_law_300 (by decide) rfl ?_
                refine KIinc (v := ((k + 1 : Nat) : Int)) (lv' := [(21, .int (iI ((k + 1 : Nat) : Int))), (20, .int (iI (fpI (zP z) (p9 : Int) to9 fb (k + 1)))), (0, .ref b0), (1, .ref (q 80)), (2, .int (iI e9)), (3, .ref (q 0)), (4, .ref (q 81)), (5, .ref (q 82)), (6, .ref (q 83)), (7, .ref (q 84)), (8, .ref (q 85)), (9, .ref (q 86)), (10, .ref (q 87)), (11, .ref (q 88)), (12, .int (iI (tn : Int))), (13, .int (iI (a9 : Int))), (14, .int (iI (p9 : Int))), (15, .int (iI (o9 : Int))), (16, .int (iI 0)), (17, .int (iI 0)), (18, .int (iI (r224 : Int))), (19, .int (iI (1 + (r238 : Int))))]) C dL_law_302 21 rfl (by omega) (by decide) rfl ?_
                refine KGoto (tgt := 260) C dL_law_305 (by decide) ?_
                refine KLv (lv' := [(0, .ref b0), (1, .ref (q 80)), (2, .int (iI e9)), (3, .ref (q 0)), (4, .ref (q 81)), (5, .ref (q 82)), (6, .ref (q 83)), (7, .ref (q 84)), (8, .ref (q 85)), (9, .ref (q 86)), (10, .ref (q 87)), (11, .ref (q 88)), (12, .int (iI (tn : Int))), (13, .int (iI (a9 : Int))), (14, .int (iI (p9 : Int))), (15, .int (iI (o9 : Int))), (16, .int (iI 0)), (17, .int (iI 0)), (18, .int (iI (r224 : Int))), (19, .int (iI (1 + (r238 : Int)))), (20, .int (iI (fpI (zP z) (p9 : Int) to9 fb (k + 1)))), (21, .int (iI ((k + 1 : Nat) : Int)))]) [2, 3, 4, 5, 6, 7, 8, 9, 10, 11, 12, 13, 14, 15, 16, 17, 18, 19, 20, 21, 1, 0] rfl ?_
                exact ih260 fb (k + 1) (by omega) (by omega) (by omega)
              · refine KIconst C dL_law_295 ?_
                refine KGoto (tgt := 300) C dL_law_296 (by decide) ?_
                refine KTop (congrArg iI (show 1 = fpI (zP z) (p9 : Int) to9 fb (k + 1) from (by first | exact fpI_t ⟨by omega, Or.inl (by omega)⟩ | exact fpI_t ⟨by omega, Or.inr (by omega)⟩ | exact fpI_f (fun h9 => by omega)))) ?_
                refine KIstore (lv' := [(20, .int (iI (fpI (zP z) (p9 : Int) to9 fb (k + 1)))), (0, .ref b0), (1, .ref (q 80)), (2, .int (iI e9)), (3, .ref (q 0)), (4, .ref (q 81)), (5, .ref (q 82)), (6, .ref (q 83)), (7, .ref (q 84)), (8, .ref (q 85)), (9, .ref (q 86)), (10, .ref (q 87)), (11, .ref (q 88)), (12, .int (iI (tn : Int))), (13, .int (iI (a9 : Int))), (14, .int (iI (p9 : Int))), (15, .int (iI (o9 : Int))), (16, .int (iI 0)), (17, .int (iI 0)), (18, .int (iI (r224 : Int))), (19, .int (iI (1 + (r238 : Int)))), (21, .int (iI (k : Int)))]) C dL_law_300 (by decide) rfl ?_
                refine KIinc (v := ((k + 1 : Nat) : Int)) (lv' := [(21, .int (iI ((k + 1 : Nat) : Int))), (20, .int (iI (fpI (zP z) (p9 : Int) to9 fb (k + 1)))), (0, .ref b0), (1, .ref (q 80)), (2, .int (iI e9)), (3, .ref (q 0)), (4, .ref (q 81)), (5, .ref (q 82)), (6, .ref (q 83)), (7, .ref (q 84)), (8, .ref (q 85)), (9, .ref (q 86)), (10, .ref (q 87)), (11, .ref (q 88)), (12, .int (iI (tn : Int))), (13, .int (iI (a9 : Int))), (14, .int (iI (p9 : Int))), (15, .int (iI (o9 : Int))), (16, .int (iI 0)), (17, .int (iI 0)), (18, .int (iI (r224 : Int))), (19, .int (iI (1 + (r238 : Int))))]) C dL_law_302 21 rfl (by omega) (by decide) rfl ?_
                refine KGoto (tgt := 260) C dL_law_305 (by decide) ?_
                refine KLv (lv' := [(0, .ref b0), (1, .ref (q 80)), (2, .int (iI e9)), (3, .ref (q 0)), (4, .ref (q 81)), (5, .ref (q 82)), (6, .ref (q 83)), (7, .ref (q 84)), (8, .ref (q 85)), (9, .ref (q 86)), (10, .ref (q 87)), (11, .ref (q 88)), (12, .int (iI (tn : Int))), (13, .int (iI (a9 : Int))), (14, .int (iI (p9 : Int))), (15, .int (iI (o9 : Int))), (16, .int (iI 0)), (17, .int (iI 0)), (18, .int (iI (r224 : Int))), (19, .int (iI (1 + (r238 : Int)))), (20, .int (iI (fpI (zP z) (p9 : Int) to9 fb (k + 1)))), (21, .int (iI ((k + 1 : Nat) : Int)))]) [2, 3, 4, 5, 6, 7, 8, 9, 10, 11, 12, 13, 14, 15, 16, 17, 18, 19, 20, 21, 1, 0] rfl ?_
                exact ih260 fb (k + 1) (by omega) (by omega) (by omega)
    exact loop260 _ 0 0 (Nat.lt_succ_self _) (by omega) (by omega)
  · refine KIconst C dL_law_250 ?_
    refine KGoto (tgt := 255) C dL_law_251 (by decide) ?_
    refine KIstore (lv' := [(20, .int (iI 1)), (19, .int (iI (1 + (r238 : Int)))), (18, .int (iI (r224 : Int))), (0, .ref b0), (1, .ref (q 80)), (2, .int (iI e9)), (3, .ref (q 0)), (4, .ref (q 81)), (5, .ref (q 82)), (6, .ref (q 83)), (7, .ref (q 84)), (8, .ref (q 85)), (9, .ref (q 86)), (10, .ref (q 87)), (11, .ref (q 88)), (12, .int (iI (tn : Int))), (13, .int (iI (a9 : Int))), (14, .int (iI (p9 : Int))), (15, .int (iI (o9 : Int))), (16, .int (iI 0)), (17, .int (iI 0))]) C dL_law_255 (by decide) rfl ?_
    refine KIconst C dL_law_257 ?_
    refine KIstore (lv' := [(21, .int (iI 0)), (20, .int (iI 1)), (19, .int (iI (1 + (r238 : Int)))), (18, .int (iI (r224 : Int))), (0, .ref b0), (1, .ref (q 80)), (2, .int (iI e9)), (3, .ref (q 0)), (4, .ref (q 81)), (5, .ref (q 82)), (6, .ref (q 83)), (7, .ref (q 84)), (8, .ref (q 85)), (9, .ref (q 86)), (10, .ref (q 87)), (11, .ref (q 88)), (12, .int (iI (tn : Int))), (13, .int (iI (a9 : Int))), (14, .int (iI (p9 : Int))), (15, .int (iI (o9 : Int))), (16, .int (iI 0)), (17, .int (iI 0))]) C dL_law_258 (by decide) rfl ?_
    refine KLv (lv' := [(0, .ref b0), (1, .ref (q 80)), (2, .int (iI e9)), (3, .ref (q 0)), (4, .ref (q 81)), (5, .ref (q 82)), (6, .ref (q 83)), (7, .ref (q 84)), (8, .ref (q 85)), (9, .ref (q 86)), (10, .ref (q 87)), (11, .ref (q 88)), (12, .int (iI (tn : Int))), (13, .int (iI (a9 : Int))), (14, .int (iI (p9 : Int))), (15, .int (iI (o9 : Int))), (16, .int (iI 0)), (17, .int (iI 0)), (18, .int (iI (r224 : Int))), (19, .int (iI (1 + (r238 : Int)))), (20, .int (iI 1)), (21, .int (iI 0))]) [4, 5, 6, 7, 8, 9, 10, 11, 12, 13, 14, 15, 16, 17, 18, 19, 20, 21, 3, 2, 1, 0] rfl ?_
    have loop260 : ∀ (nX : Nat) (fb : Int) (k : Nat), 20 - k < nX → (k ≤ 20) → ((fb = 1 ∧ zb z = 0) ∨ (fb = 0 ∧ 0 < zb z)) → Wk pX l eX room_1 sX mX argsX belowX methX cX QX g 22 cells slots 260 [(0, .ref b0), (1, .ref (q 80)), (2, .int (iI e9)), (3, .ref (q 0)), (4, .ref (q 81)), (5, .ref (q 82)), (6, .ref (q 83)), (7, .ref (q 84)), (8, .ref (q 85)), (9, .ref (q 86)), (10, .ref (q 87)), (11, .ref (q 88)), (12, .int (iI (tn : Int))), (13, .int (iI (a9 : Int))), (14, .int (iI (p9 : Int))), (15, .int (iI (o9 : Int))), (16, .int (iI 0)), (17, .int (iI 0)), (18, .int (iI (r224 : Int))), (19, .int (iI (1 + (r238 : Int)))), (20, .int (iI (fpI (zP z) (p9 : Int) to9 fb k))), (21, .int (iI (k : Int)))] [] S := by
      intro nX
      induction nX with
      | zero => intro fb k hm; exact absurd hm (Nat.not_lt_zero _)
      | succ nX ih260 =>
        intro fb k hm260 hk hfb
        refine KRg (fun hR => ?_)
        have hfpb := fpI_b (P := zP z) (p := (p9 : Int)) (to := to9) (b0 := fb) (by omega) k
        refine KIload C dL_law_260 21 rfl ?_
        refine KBipush C dL_law_262 (by decide) ?_
        refine KIcmp_ge (tgt := 308) C dL_law_264 (by decide) ⟨by omega, by omega⟩ ⟨by omega, by omega⟩ (fun c264 => ?_) (fun c264 => ?_)
        · have hk20 : k = 20 := by omega
          rw [hk20] at hfpb
          refine KLvE (lv2 := [(0, .ref b0), (1, .ref (q 80)), (2, .int (iI e9)), (3, .ref (q 0)), (4, .ref (q 81)), (5, .ref (q 82)), (6, .ref (q 83)), (7, .ref (q 84)), (8, .ref (q 85)), (9, .ref (q 86)), (10, .ref (q 87)), (11, .ref (q 88)), (12, .int (iI (tn : Int))), (13, .int (iI (a9 : Int))), (14, .int (iI (p9 : Int))), (15, .int (iI (o9 : Int))), (16, .int (iI 0)), (17, .int (iI 0)), (18, .int (iI (r224 : Int))), (19, .int (iI (1 + (r238 : Int)))), (20, .int (iI (fpI (zP z) (p9 : Int) to9 fb 20))), (21, .int (iI (k : Int)))]) (congrArg (fun zz : Int => ([(0, .ref b0), (1, .ref (q 80)), (2, .int (iI e9)), (3, .ref (q 0)), (4, .ref (q 81)), (5, .ref (q 82)), (6, .ref (q 83)), (7, .ref (q 84)), (8, .ref (q 85)), (9, .ref (q 86)), (10, .ref (q 87)), (11, .ref (q 88)), (12, .int (iI (tn : Int))), (13, .int (iI (a9 : Int))), (14, .int (iI (p9 : Int))), (15, .int (iI (o9 : Int))), (16, .int (iI 0)), (17, .int (iI 0)), (18, .int (iI (r224 : Int))), (19, .int (iI (1 + (r238 : Int)))), (20, .int (iI zz)), (21, .int (iI (k : Int)))] : List (Nat × Value))) (show (fpI (zP z) (p9 : Int) to9 fb k : Int) = fpI (zP z) (p9 : Int) to9 fb 20 from (by rw [hk20]))) ?_
          refine KIload C dL_law_308 20 rfl ?_
          refine KIf_eq (tgt := 321) C dL_law_310 (by decide) ⟨by omega, by omega⟩ (fun c310 => ?_) (fun c310 => ?_)
          · have hoP := ho_put0 (z := z) (a := (r224 : Int)) (i := 1 + (r238 : Int)) (b0 := fb) hp9 ⟨by omega, by omega⟩ ⟨by omega, by omega⟩ hfb (by rw [← hto]; omega)
            refine KBipush C dL_law_321 (by decide) ?_
            refine KIstore (lv' := [(16, .int (iI (-3))), (0, .ref b0), (1, .ref (q 80)), (2, .int (iI e9)), (3, .ref (q 0)), (4, .ref (q 81)), (5, .ref (q 82)), (6, .ref (q 83)), (7, .ref (q 84)), (8, .ref (q 85)), (9, .ref (q 86)), (10, .ref (q 87)), (11, .ref (q 88)), (12, .int (iI (tn : Int))), (13, .int (iI (a9 : Int))), (14, .int (iI (p9 : Int))), (15, .int (iI (o9 : Int))), (17, .int (iI 0)), (18, .int (iI (r224 : Int))), (19, .int (iI (1 + (r238 : Int)))), (20, .int (iI (fpI (zP z) (p9 : Int) to9 fb 20))), (21, .int (iI (k : Int)))]) C dL_law_323 (by decide) rfl ?_
            refine KAload C dL_law_325 5 rfl ?_
            refine KIload C dL_law_327 15 rfl ?_
            refine KIload C dL_law_329 20 rfl ?_
            refine KIf_eq (tgt := 345) C dL_law_331 (by decide) ⟨by omega, by omega⟩ (fun c331 => ?_) (fun c331 => absurd c331 (by omega))
            refine KAload C dL_law_345 5 rfl ?_
            refine KIload C dL_law_347 15 rfl ?_
            refine KIald  (v := zP z (p9 : Int)) C 20 (hI.1.at0 81 20) (hI.1.ln0 81 20) ⟨by omega, by omega⟩ (by omega) (congrFun hI.P _) dL_law_349 ?_
            refine KIast C 20 (hI.1.at0 81 20) (hI.1.ln0 81 20) ⟨by omega, by omega⟩ (by omega) ⟨by omega, by omega⟩ dL_law_350 ?_
            have hI350 := hI.putn p9
            refine KAload_n C dL_law_351 rfl 4 rfl ?_
            refine KIconst C dL_law_352 ?_
            refine KIload C dL_law_353 15 rfl ?_
            refine KIload C dL_law_355 18 rfl ?_
            refine KIload C dL_law_357 19 rfl ?_
            refine KCallSH (As := [.ref (q 0), .int (iI 0), .int (iI (p9 : Int)), .int (iI (r224 : Int)), .int (iI (1 + (r238 : Int)))]) (st := []) C hnc (ct_L_calls_put l g hnt (uI S (q 81) (p9 : Int) (zP z (p9 : Int))) q (p9 : Int) (r224 : Int) (1 + (r238 : Int)) z hI350.1 hW hI350.2.1 ⟨by omega, by omega⟩ ⟨by omega, by omega⟩ ⟨by omega, by omega⟩ (gT g) rfl) u_ml_RL_89 u_st_yL_calls u_in_RL u_cw_calls hd_yL_calls ⟨Nat.le_of_ble_eq_true rfl, Nat.le_of_ble_eq_true rfl⟩ ⟨by show cells + 3 ≤ 600128; omega, by show slots + 18 ≤ 7301064; omega⟩ (Nat.le_of_ble_eq_true rfl) dL_law_359 rfl (fun v359 u359 hp359 => ?_)
            obtain ⟨rfl, hc359⟩ := hp359.no (hoP) (by decide) (by decide : _ = ((-3) : Int))
            have hI359 := hI350.cp hc359
            refine KSt (st2 := [.int (iI (-3))]) rfl ?_
            refine KRg (fun hR => ?_)
            have hWn := hW
            refine KIstore (lv' := [(17, .int (iI (-3))), (16, .int (iI (-3))), (0, .ref b0), (1, .ref (q 80)), (2, .int (iI e9)), (3, .ref (q 0)), (4, .ref (q 81)), (5, .ref (q 82)), (6, .ref (q 83)), (7, .ref (q 84)), (8, .ref (q 85)), (9, .ref (q 86)), (10, .ref (q 87)), (11, .ref (q 88)), (12, .int (iI (tn : Int))), (13, .int (iI (a9 : Int))), (14, .int (iI (p9 : Int))), (15, .int (iI (o9 : Int))), (18, .int (iI (r224 : Int))), (19, .int (iI (1 + (r238 : Int)))), (20, .int (iI (fpI (zP z) (p9 : Int) to9 fb 20))), (21, .int (iI (k : Int)))]) C dL_law_362 (by decide) rfl ?_
            refine KGoto (tgt := 1114) C dL_law_364 (by decide) ?_
            refine KLv (lv' := [(0, .ref b0), (1, .ref (q 80)), (2, .int (iI e9)), (3, .ref (q 0)), (4, .ref (q 81)), (5, .ref (q 82)), (6, .ref (q 83)), (7, .ref (q 84)), (8, .ref (q 85)), (9, .ref (q 86)), (10, .ref (q 87)), (11, .ref (q 88)), (12, .int (iI (tn : Int))), (16, .int (iI (-3))), (17, .int (iI (-3)))]) [2, 3, 4, 5, 6, 7, 8, 9, 10, 11, 12, 13, 14, 1, 0] rfl ?_
            exact KWiden (by omega) (by omega) (kk _ _ _ _ ⟨by omega, by omega⟩ hI359 hWn)
          · have hoP := ho_put1 (z := z) (a := (r224 : Int)) (i := 1 + (r238 : Int)) (b0 := fb) hp9 ⟨by omega, by omega⟩ ⟨by omega, by omega⟩ hfb (by rw [← hto]; omega)
            rw [← hto] at hoP
            refine KAload C dL_law_313 4 rfl ?_
            refine KIload C dL_law_315 14 rfl ?_
            refine KIald  (v := zP z (p9 : Int)) C 20 (hI.1.at0 81 20) (hI.1.ln0 81 20) ⟨by omega, by omega⟩ (by omega) (congrFun hI.P _) dL_law_317 ?_
            refine KGoto (tgt := 323) C dL_law_318 (by decide) ?_
            refine KIstore (lv' := [(16, .int (iI (zP z (p9 : Int)))), (0, .ref b0), (1, .ref (q 80)), (2, .int (iI e9)), (3, .ref (q 0)), (4, .ref (q 81)), (5, .ref (q 82)), (6, .ref (q 83)), (7, .ref (q 84)), (8, .ref (q 85)), (9, .ref (q 86)), (10, .ref (q 87)), (11, .ref (q 88)), (12, .int (iI (tn : Int))), (13, .int (iI (a9 : Int))), (14, .int (iI (p9 : Int))), (15, .int (iI (o9 : Int))), (17, .int (iI 0)), (18, .int (iI (r224 : Int))), (19, .int (iI (1 + (r238 : Int)))), (20, .int (iI (fpI (zP z) (p9 : Int) to9 fb 20))), (21, .int (iI (k : Int)))]) C dL_law_323 (by decide) rfl ?_
            refine KAload C dL_law_325 5 rfl ?_
            refine KIload C dL_law_327 15 rfl ?_
            refine KIload C dL_law_329 20 rfl ?_
            refine KIf_eq (tgt := 345) C dL_law_331 (by decide) ⟨by omega, by omega⟩ (fun c331 => absurd c331 (by omega)) (fun c331 => ?_)
            refine KBipush C dL_law_334 (by decide) ?_
            refine KIload C dL_law_336 18 rfl ?_
            refine KImul C dL_law_338 ?_
            refine KIload C dL_law_339 19 rfl ?_
            refine KIadd C dL_law_341 ?_
            refine KTop (congrArg iI (show (100 * (r224 : Int)) + (1 + (r238 : Int)) = to9 from (by rw [hto]))) ?_
            refine KGoto (tgt := 350) C dL_law_342 (by decide) ?_
            refine KIast C 20 (hI.1.at0 81 20) (hI.1.ln0 81 20) ⟨by omega, by omega⟩ (by omega) ⟨by omega, by omega⟩ dL_law_350 ?_
            have hI350 := hI.put p9 to9
            refine KAload_n C dL_law_351 rfl 4 rfl ?_
            refine KIconst C dL_law_352 ?_
            refine KIload C dL_law_353 15 rfl ?_
            refine KIload C dL_law_355 18 rfl ?_
            refine KIload C dL_law_357 19 rfl ?_
            refine KCallSH (As := [.ref (q 0), .int (iI 0), .int (iI (p9 : Int)), .int (iI (r224 : Int)), .int (iI (1 + (r238 : Int)))]) (st := []) C hnc (ct_L_calls_put l g hnt (uI S (q 81) (p9 : Int) to9) q (p9 : Int) (r224 : Int) (1 + (r238 : Int)) z hI350.1 hW hI350.2.1 ⟨by omega, by omega⟩ ⟨by omega, by omega⟩ ⟨by omega, by omega⟩ (gT g) rfl) u_ml_RL_89 u_st_yL_calls u_in_RL u_cw_calls hd_yL_calls ⟨Nat.le_of_ble_eq_true rfl, Nat.le_of_ble_eq_true rfl⟩ ⟨by show cells + 3 ≤ 600128; omega, by show slots + 18 ≤ 7301064; omega⟩ (Nat.le_of_ble_eq_true rfl) dL_law_359 rfl (fun v359 u359 hp359 => ?_)
            obtain ⟨rfl, hc359⟩ := hp359.ok (hoP)
            have hI359 := hI350.cp hc359
            refine KSt (st2 := [.int (iI (zP z (p9 : Int)))]) rfl ?_
            refine KRg (fun hR => ?_)
            have hWn := wf_oPut hW (p9 : Int) (r224 : Int) (1 + (r238 : Int))
            rw [hoP] at hWn
            refine KIstore (lv' := [(17, .int (iI (zP z (p9 : Int)))), (16, .int (iI (zP z (p9 : Int)))), (0, .ref b0), (1, .ref (q 80)), (2, .int (iI e9)), (3, .ref (q 0)), (4, .ref (q 81)), (5, .ref (q 82)), (6, .ref (q 83)), (7, .ref (q 84)), (8, .ref (q 85)), (9, .ref (q 86)), (10, .ref (q 87)), (11, .ref (q 88)), (12, .int (iI (tn : Int))), (13, .int (iI (a9 : Int))), (14, .int (iI (p9 : Int))), (15, .int (iI (o9 : Int))), (18, .int (iI (r224 : Int))), (19, .int (iI (1 + (r238 : Int)))), (20, .int (iI (fpI (zP z) (p9 : Int) to9 fb 20))), (21, .int (iI (k : Int)))]) C dL_law_362 (by decide) rfl ?_
            refine KGoto (tgt := 1114) C dL_law_364 (by decide) ?_
            refine KLv (lv' := [(0, .ref b0), (1, .ref (q 80)), (2, .int (iI e9)), (3, .ref (q 0)), (4, .ref (q 81)), (5, .ref (q 82)), (6, .ref (q 83)), (7, .ref (q 84)), (8, .ref (q 85)), (9, .ref (q 86)), (10, .ref (q 87)), (11, .ref (q 88)), (12, .int (iI (tn : Int))), (16, .int (iI (zP z (p9 : Int)))), (17, .int (iI (zP z (p9 : Int))))]) [2, 3, 4, 5, 6, 7, 8, 9, 10, 11, 12, 13, 14, 1, 0] rfl ?_
            exact KWiden (by omega) (by omega) (kk _ _ _ _ ⟨by omega, by omega⟩ hI359 hWn)
        · have hpk := hW.plI (x := (k : Int)) (by omega)
          refine KIload C dL_law_267 20 rfl ?_
          refine KIf_eq (tgt := 299) C dL_law_269 (by decide) ⟨by omega, by omega⟩ (fun c269 => ?_) (fun c269 => ?_)
          · refine KIconst C dL_law_299 ?_
            refine KTop (congrArg iI (show 0 = fpI (zP z) (p9 : Int) to9 fb (k + 1) from (by first | exact fpI_t ⟨by omega, Or.inl (by omega)⟩ | exact fpI_t ⟨by omega, Or.inr (by omega)⟩ | exact fpI_f (fun h9 => by omega)))) ?_
            refine KIstore (lv' := [(20, .int (iI (fpI (zP z) (p9 : Int) to9 fb (k + 1)))), (0, .ref b0), (1, .ref (q 80)), (2, .int (iI e9)), (3, .ref (q 0)), (4, .ref (q 81)), (5, .ref (q 82)), (6, .ref (q 83)), (7, .ref (q 84)), (8, .ref (q 85)), (9, .ref (q 86)), (10, .ref (q 87)), (11, .ref (q 88)), (12, .int (iI (tn : Int))), (13, .int (iI (a9 : Int))), (14, .int (iI (p9 : Int))), (15, .int (iI (o9 : Int))), (16, .int (iI 0)), (17, .int (iI 0)), (18, .int (iI (r224 : Int))), (19, .int (iI (1 + (r238 : Int)))), (21, .int (iI (k : Int)))]) C dL_law_300 (by decide) rfl ?_
            refine KIinc (v := ((k + 1 : Nat) : Int)) (lv' := [(21, .int (iI ((k + 1 : Nat) : Int))), (20, .int (iI (fpI (zP z) (p9 : Int) to9 fb (k + 1)))), (0, .ref b0), (1, .ref (q 80)), (2, .int (iI e9)), (3, .ref (q 0)), (4, .ref (q 81)), (5, .ref (q 82)), (6, .ref (q 83)), (7, .ref (q 84)), (8, .ref (q 85)), (9, .ref (q 86)), (10, .ref (q 87)), (11, .ref (q 88)), (12, .int (iI (tn : Int))), (13, .int (iI (a9 : Int))), (14, .int (iI (p9 : Int))), (15, .int (iI (o9 : Int))), (16, .int (iI 0)), (17, .int (iI 0)), (18, .int (iI (r224 : Int))), (19, .int (iI (1 + (r238 : Int))))]) C dL_law_302 21 rfl (by omega) (by decide) rfl ?_
            refine KGoto (tgt := 260) C dL_law_305 (by decide) ?_
            refine KLv (lv' := [(0, .ref b0), (1, .ref (q 80)), (2, .int (iI e9)), (3, .ref (q 0)), (4, .ref (q 81)), (5, .ref (q 82)), (6, .ref (q 83)), (7, .ref (q 84)), (8, .ref (q 85)), (9, .ref (q 86)), (10, .ref (q 87)), (11, .ref (q 88)), (12, .int (iI (tn : Int))), (13, .int (iI (a9 : Int))), (14, .int (iI (p9 : Int))), (15, .int (iI (o9 : Int))), (16, .int (iI 0)), (17, .int (iI 0)), (18, .int (iI (r224 : Int))), (19, .int (iI (1 + (r238 : Int)))), (20, .int (iI (fpI (zP z) (p9 : Int) to9 fb (k + 1)))), (21, .int (iI ((k + 1 : Nat) : Int)))]) [2, 3, 4, 5, 6, 7, 8, 9, 10, 11, 12, 13, 14, 15, 16, 17, 18, 19, 20, 21, 1, 0] rfl ?_
            exact ih260 fb (k + 1) (by omega) (by omega) (by omega)
          · refine KIload C dL_law_272 21 rfl ?_
            refine KIload C dL_law_274 14 rfl ?_
            refine KIcmp_eq (tgt := 295) C dL_law_276 (by decide) ⟨by omega, by omega⟩ ⟨by omega, by omega⟩ (fun c276 => ?_) (fun c276 => ?_)
            · refine KIconst C dL_law_295 ?_
              refine KGoto (tgt := 300) C dL_law_296 (by decide) ?_
              refine KTop (congrArg iI (show 1 = fpI (zP z) (p9 : Int) to9 fb (k + 1) from (by first | exact fpI_t ⟨by omega, Or.inl (by omega)⟩ | exact fpI_t ⟨by omega, Or.inr (by omega)⟩ | exact fpI_f (fun h9 => by omega)))) ?_
              refine KIstore (lv' := [(20, .int (iI (fpI (zP z) (p9 : Int) to9 fb (k + 1)))), (0, .ref b0), (1, .ref (q 80)), (2, .int (iI e9)), (3, .ref (q 0)), (4, .ref (q 81)), (5, .ref (q 82)), (6, .ref (q 83)), (7, .ref (q 84)), (8, .ref (q 85)), (9, .ref (q 86)), (10, .ref (q 87)), (11, .ref (q 88)), (12, .int (iI (tn : Int))), (13, .int (iI (a9 : Int))), (14, .int (iI (p9 : Int))), (15, .int (iI (o9 : Int))), (16, .int (iI 0)), (17, .int (iI 0)), (18, .int (iI (r224 : Int))), (19, .int (iI (1 + (r238 : Int)))), (21, .int (iI (k : Int)))]) C dL_law_300 (by decide) rfl ?_
              refine KIinc (v := ((k + 1 : Nat) : Int)) (lv' := [(21, .int (iI ((k + 1 : Nat) : Int))), (20, .int (iI (fpI (zP z) (p9 : Int) to9 fb (k + 1)))), (0, .ref b0), (1, .ref (q 80)), (2, .int (iI e9)), (3, .ref (q 0)), (4, .ref (q 81)), (5, .ref (q 82)), (6, .ref (q 83)), (7, .ref (q 84)), (8, .ref (q 85)), (9, .ref (q 86)), (10, .ref (q 87)), (11, .ref (q 88)), (12, .int (iI (tn : Int))), (13, .int (iI (a9 : Int))), (14, .int (iI (p9 : Int))), (15, .int (iI (o9 : Int))), (16, .int (iI 0)), (17, .int (iI 0)), (18, .int (iI (r224 : Int))), (19, .int (iI (1 + (r238 : Int))))]) C dL_law_302 21 rfl (by omega) (by decide) rfl ?_
              refine KGoto (tgt := 260) C dL_law_305 (by decide) ?_
              refine KLv (lv' := [(0, .ref b0), (1, .ref (q 80)), (2, .int (iI e9)), (3, .ref (q 0)), (4, .ref (q 81)), (5, .ref (q 82)), (6, .ref (q 83)), (7, .ref (q 84)), (8, .ref (q 85)), (9, .ref (q 86)), (10, .ref (q 87)), (11, .ref (q 88)), (12, .int (iI (tn : Int))), (13, .int (iI (a9 : Int))), (14, .int (iI (p9 : Int))), (15, .int (iI (o9 : Int))), (16, .int (iI 0)), (17, .int (iI 0)), (18, .int (iI (r224 : Int))), (19, .int (iI (1 + (r238 : Int)))), (20, .int (iI (fpI (zP z) (p9 : Int) to9 fb (k + 1)))), (21, .int (iI ((k + 1 : Nat) : Int)))]) [2, 3, 4, 5, 6, 7, 8, 9, 10, 11, 12, 13, 14, 15, 16, 17, 18, 19, 20, 21, 1, 0] rfl ?_
              exact ih260 fb (k + 1) (by omega) (by omega) (by omega)
            · refine KAload C dL_law_279 4 rfl ?_
              refine KIload C dL_law_281 21 rfl ?_
              refine KIald  (v := zP z (k : Int)) C 20 (hI.1.at0 81 20) (hI.1.ln0 81 20) ⟨by omega, by omega⟩ (by omega) (congrFun hI.P _) dL_law_283 ?_
              refine KBipush C dL_law_284 (by decide) ?_
              refine KIload C dL_law_286 18 rfl ?_
              refine KImul C dL_law_288 ?_
              refine KIload C dL_law_289 19 rfl ?_
              refine KIadd C dL_law_291 ?_
              refine KTop (congrArg iI (show (100 * (r224 : Int)) + (1 + (r238 : Int)) = to9 from (by rw [hto]))) ?_
              refine KIcmp_eq (tgt := 299) C dL_law_292 (by decide) ⟨by omega, by omega⟩ ⟨by omega, by omega⟩ (fun c292 => ?_) (fun c292 => ?_)
              · refine KIconst C dL_law_299 ?_
                refine KTop (congrArg iI (show 0 = fpI (zP z) (p9 : Int) to9 fb (k + 1) from (by first | exact fpI_t ⟨by omega, Or.inl (by omega)⟩ | exact fpI_t ⟨by omega, Or.inr (by omega)⟩ | exact fpI_f (fun h9 => by omega)))) ?_
                refine KIstore (lv' := [(20, .int (iI (fpI (zP z) (p9 : Int) to9 fb (k + 1)))), (0, .ref b0), (1, .ref (q 80)), (2, .int (iI e9)), (3, .ref (q 0)), (4, .ref (q 81)), (5, .ref (q 82)), (6, .ref (q 83)), (7, .ref (q 84)), (8, .ref (q 85)), (9, .ref (q 86)), (10, .ref (q 87)), (11, .ref (q 88)), (12, .int (iI (tn : Int))), (13, .int (iI (a9 : Int))), (14, .int (iI (p9 : Int))), (15, .int (iI (o9 : Int))), (16, .int (iI 0)), (17, .int (iI 0)), (18, .int (iI (r224 : Int))), (19, .int (iI (1 + (r238 : Int)))), (21, .int (iI (k : Int)))]) C dL_law_300 (by decide) rfl ?_
                refine KIinc (v := ((k + 1 : Nat) : Int)) (lv' := [(21, .int (iI ((k + 1 : Nat) : Int))), (20, .int (iI (fpI (zP z) (p9 : Int) to9 fb (k + 1)))), (0, .ref b0), (1, .ref (q 80)), (2, .int (iI e9)), (3, .ref (q 0)), (4, .ref (q 81)), (5, .ref (q 82)), (6, .ref (q 83)), (7, .ref (q 84)), (8, .ref (q 85)), (9, .ref (q 86)), (10, .ref (q 87)), (11, .ref (q 88)), (12, .int (iI (tn : Int))), (13, .int (iI (a9 : Int))), (14, .int (iI (p9 : Int))), (15, .int (iI (o9 : Int))), (16, .int (iI 0)), (17, .int (iI 0)), (18, .int (iI (r224 : Int))), (19, .int (iI (1 + (r238 : Int))))]) C dL_law_302 21 rfl (by omega) (by decide) rfl ?_
                refine KGoto (tgt := 260) C dL_law_305 (by decide) ?_
                refine KLv (lv' := [(0, .ref b0), (1, .ref (q 80)), (2, .int (iI e9)), (3, .ref (q 0)), (4, .ref (q 81)), (5, .ref (q 82)), (6, .ref (q 83)), (7, .ref (q 84)), (8, .ref (q 85)), (9, .ref (q 86)), (10, .ref (q 87)), (11, .ref (q 88)), (12, .int (iI (tn : Int))), (13, .int (iI (a9 : Int))), (14, .int (iI (p9 : Int))), (15, .int (iI (o9 : Int))), (16, .int (iI 0)), (17, .int (iI 0)), (18, .int (iI (r224 : Int))), (19, .int (iI (1 + (r238 : Int)))), (20, .int (iI (fpI (zP z) (p9 : Int) to9 fb (k + 1)))), (21, .int (iI ((k + 1 : Nat) : Int)))]) [2, 3, 4, 5, 6, 7, 8, 9, 10, 11, 12, 13, 14, 15, 16, 17, 18, 19, 20, 21, 1, 0] rfl ?_
                exact ih260 fb (k + 1) (by omega) (by omega) (by omega)
              · refine KIconst C dL_law_295 ?_
                refine KGoto (tgt := 300) C dL_law_296 (by decide) ?_
                refine KTop (congrArg iI (show 1 = fpI (zP z) (p9 : Int) to9 fb (k + 1) from (by first | exact fpI_t ⟨by omega, Or.inl (by omega)⟩ | exact fpI_t ⟨by omega, Or.inr (by omega)⟩ | exact fpI_f (fun h9 => by omega)))) ?_
                refine KIstore (lv' := [(20, .int (iI (fpI (zP z) (p9 : Int) to9 fb (k + 1)))), (0, .ref b0), (1, .ref (q 80)), (2, .int (iI e9)), (3, .ref (q 0)), (4, .ref (q 81)), (5, .ref (q 82)), (6, .ref (q 83)), (7, .ref (q 84)), (8, .ref (q 85)), (9, .ref (q 86)), (10, .ref (q 87)), (11, .ref (q 88)), (12, .int (iI (tn : Int))), (13, .int (iI (a9 : Int))), (14, .int (iI (p9 : Int))), (15, .int (iI (o9 : Int))), (16, .int (iI 0)), (17, .int (iI 0)), (18, .int (iI (r224 : Int))), (19, .int (iI (1 + (r238 : Int)))), (21, .int (iI (k : Int)))]) C dL_law_300 (by decide) rfl ?_
                refine KIinc (v := ((k + 1 : Nat) : Int)) (lv' := [(21, .int (iI ((k + 1 : Nat) : Int))), (20, .int (iI (fpI (zP z) (p9 : Int) to9 fb (k + 1)))), (0, .ref b0), (1, .ref (q 80)), (2, .int (iI e9)), (3, .ref (q 0)), (4, .ref (q 81)), (5, .ref (q 82)), (6, .ref (q 83)), (7, .ref (q 84)), (8, .ref (q 85)), (9, .ref (q 86)), (10, .ref (q 87)), (11, .ref (q 88)), (12, .int (iI (tn : Int))), (13, .int (iI (a9 : Int))), (14, .int (iI (p9 : Int))), (15, .int (iI (o9 : Int))), (16, .int (iI 0)), (17, .int (iI 0)), (18, .int (iI (r224 : Int))), (19, .int (iI (1 + (r238 : Int))))]) C dL_law_302 21 rfl (by omega) (by decide) rfl ?_
                refine KGoto (tgt := 260) C dL_law_305 (by decide) ?_
                refine KLv (lv' := [(0, .ref b0), (1, .ref (q 80)), (2, .int (iI e9)), (3, .ref (q 0)), (4, .ref (q 81)), (5, .ref (q 82)), (6, .ref (q 83)), (7, .ref (q 84)), (8, .ref (q 85)), (9, .ref (q 86)), (10, .ref (q 87)), (11, .ref (q 88)), (12, .int (iI (tn : Int))), (13, .int (iI (a9 : Int))), (14, .int (iI (p9 : Int))), (15, .int (iI (o9 : Int))), (16, .int (iI 0)), (17, .int (iI 0)), (18, .int (iI (r224 : Int))), (19, .int (iI (1 + (r238 : Int)))), (20, .int (iI (fpI (zP z) (p9 : Int) to9 fb (k + 1)))), (21, .int (iI ((k + 1 : Nat) : Int)))]) [2, 3, 4, 5, 6, 7, 8, 9, 10, 11, 12, 13, 14, 15, 16, 17, 18, 19, 20, 21, 1, 0] rfl ?_
                exact ih260 fb (k + 1) (by omega) (by omega) (by omega)
    exact loop260 _ 1 0 (Nat.lt_succ_self _) (by omega) (by omega)
set_option maxRecDepth 100000 in
set_option maxHeartbeats 4000000 in
theorem sg_order (hnt : l.stackTraces = false) (C : Cx pX l sX mX argsX methX cX cL_law 22 RL ret g) (hnc : Ncs sX) (hc : cells + 475 ≤ 600128 ∧ slots + 4890 ≤ 7301064) (e9 : Int) (tn a9 p9 o9 : Nat) (z : Sig) (R : Int → Int) (hI : LI S q (gT g) z z R) (hW : Wf z) (hp9 : p9 < 20) (ho9 : o9 ≤ zo z) (hzo : zo z < 12) (kk : Nxt pX l eX sX mX argsX belowX methX cX QX g q b0 e9 (tn : Int) cells slots) : Wk pX l eX room_1 sX mX argsX belowX methX cX QX g 22 cells slots 381 [(0, .ref b0), (1, .ref (q 80)), (2, .int (iI e9)), (3, .ref (q 0)), (4, .ref (q 81)), (5, .ref (q 82)), (6, .ref (q 83)), (7, .ref (q 84)), (8, .ref (q 85)), (9, .ref (q 86)), (10, .ref (q 87)), (11, .ref (q 88)), (12, .int (iI (tn : Int))), (13, .int (iI (a9 : Int))), (14, .int (iI (p9 : Int))), (15, .int (iI (o9 : Int))), (16, .int (iI 0)), (17, .int (iI 0))] [] S := by
  refine KRg (fun hR => ?_)
  obtain ⟨h12, h6c⟩ := hI.l12
  have hC := hW.1
  have hbo := hW.2.1.2
  refine KAload C dL_law_381 6 rfl ?_
  refine KIconst C dL_law_383 ?_
  refine KAload_n C dL_law_384 rfl 1 rfl ?_
  refine KIconst C dL_law_385 ?_
  refine KIald  (v := (zo z : Int)) C 8 (hI.1.at0 80 20) (hI.1.ln0 80 8) ⟨by omega, by omega⟩ (by omega) hI.q1 dL_law_386 ?_
  refine KImul C dL_law_387 ?_
  refine KTop (congrArg iI (show 4 * (zo z : Int) = ((4 * zo z : Nat) : Int) from (by omega))) ?_
  refine KIload_n C dL_law_388 rfl 2 rfl ?_
  refine KIconst C dL_law_389 ?_
  refine KIshr (v := iI ((iI e9 >>> (iI 4 &&& 31)).toInt)) C dL_law_390 (iI_of _).symm ?_
  refine KSipush C dL_law_391 (by decide) ?_
  refine KCallS (As := [.int (iI ((iI e9 >>> (iI 4 &&& 31)).toInt)), .int (iI 1000)]) (st := [.int (iI ((4 * zo z : Nat) : Int)), .ref (q 83)]) C (ct_L_low l g S ((iI e9 >>> (iI 4 &&& 31)).toInt) 1000 (by omega)) u_ml_RL_125 u_st_yL_low u_in_RL u_co_yL_low hd_yL_low ⟨Nat.le_of_ble_eq_true rfl, Nat.le_of_ble_eq_true rfl⟩ ⟨by show cells + 0 ≤ 600128; omega, by show slots + 0 ≤ 7301064; omega⟩ (Nat.le_of_ble_eq_true rfl) dL_law_394 rfl (fun v394 u394 hp394 => ?_)
  obtain ⟨rfl, rfl⟩ := hp394
  refine KSt (st2 := [.int (iI ((lowN ((iI e9 >>> (iI 4 &&& 31)).toInt) 1000 : Nat) : Int)), .int (iI ((4 * zo z : Nat) : Int)), .ref (q 83)]) rfl ?_
  obtain ⟨r394, hrd394⟩ : ∃ n9 : Nat, n9 = lowN ((iI e9 >>> (iI 4 &&& 31)).toInt) 1000 := ⟨_, rfl⟩
  have hr394 := lowN_lt (x := ((iI e9 >>> (iI 4 &&& 31)).toInt)) (n := 1000) (by omega)
  rw [← hrd394] at hr394
  refine KTop (congrArg iI (show ((lowN ((iI e9 >>> (iI 4 &&& 31)).toInt) 1000 : Nat) : Int) = (r394 : Int) from (by rw [hrd394]))) ?_
  refine KIast C 48 (hI.1.at0 83 20) (hI.1.ln0 83 48) ⟨by omega, by omega⟩ (by omega) ⟨by omega, by omega⟩ dL_law_397 ?_
  refine KAload C dL_law_398 6 rfl ?_
  refine KIconst C dL_law_400 ?_
  refine KAload_n C dL_law_401 rfl 1 rfl ?_
  refine KIconst C dL_law_402 ?_
  refine KIald (S := uI S (q 83) ((4 * zo z : Nat) : Int) (r394 : Int))  (v := (zo z : Int)) C 8 (hI.1.at0 80 20) (hI.1.ln0 80 8) ⟨by omega, by omega⟩ (by omega) ((congrFun (up2_row _ _ _ (hI.1.ne 80 83)) _).trans hI.q1) dL_law_403 ?_
  refine KImul C dL_law_404 ?_
  refine KIconst C dL_law_405 ?_
  refine KIadd C dL_law_406 ?_
  refine KTop (congrArg iI (show (4 * (zo z : Int)) + 1 = ((4 * zo z + 1 : Nat) : Int) from (by omega))) ?_
  refine KIconst C dL_law_407 ?_
  refine KIast (S := uI S (q 83) ((4 * zo z : Nat) : Int) (r394 : Int)) C 48 (hI.1.at0 83 20) (hI.1.ln0 83 48) ⟨by omega, by omega⟩ (by omega) ⟨by omega, by omega⟩ dL_law_408 ?_
  refine KAload C dL_law_409 6 rfl ?_
  refine KIconst C dL_law_411 ?_
  refine KAload_n C dL_law_412 rfl 1 rfl ?_
  refine KIconst C dL_law_413 ?_
  refine KIald (S := uI (uI S (q 83) ((4 * zo z : Nat) : Int) (r394 : Int)) (q 83) ((4 * zo z + 1 : Nat) : Int) 0)  (v := (zo z : Int)) C 8 (hI.1.at0 80 20) (hI.1.ln0 80 8) ⟨by omega, by omega⟩ (by omega) ((congrFun ((up2_row _ _ _ (hI.1.ne 80 83)).trans (up2_row _ _ _ (hI.1.ne 80 83))) _).trans hI.q1) dL_law_414 ?_
  refine KImul C dL_law_415 ?_
  refine KIconst C dL_law_416 ?_
  refine KIadd C dL_law_417 ?_
  refine KTop (congrArg iI (show (4 * (zo z : Int)) + 2 = ((4 * zo z + 2 : Nat) : Int) from (by omega))) ?_
  refine KIconst C dL_law_418 ?_
  refine KIast (S := uI (uI S (q 83) ((4 * zo z : Nat) : Int) (r394 : Int)) (q 83) ((4 * zo z + 1 : Nat) : Int) 0) C 48 (hI.1.at0 83 20) (hI.1.ln0 83 48) ⟨by omega, by omega⟩ (by omega) ⟨by omega, by omega⟩ dL_law_419 ?_
  refine KAload C dL_law_420 6 rfl ?_
  refine KIconst C dL_law_422 ?_
  refine KAload_n C dL_law_423 rfl 1 rfl ?_
  refine KIconst C dL_law_424 ?_
  refine KIald (S := uI (uI (uI S (q 83) ((4 * zo z : Nat) : Int) (r394 : Int)) (q 83) ((4 * zo z + 1 : Nat) : Int) 0) (q 83) ((4 * zo z + 2 : Nat) : Int) (-1))  (v := (zo z : Int)) C 8 (hI.1.at0 80 20) (hI.1.ln0 80 8) ⟨by omega, by omega⟩ (by omega) ((congrFun ((up2_row _ _ _ (hI.1.ne 80 83)).trans ((up2_row _ _ _ (hI.1.ne 80 83)).trans (up2_row _ _ _ (hI.1.ne 80 83)))) _).trans hI.q1) dL_law_425 ?_
  refine KImul C dL_law_426 ?_
  refine KIconst C dL_law_427 ?_
  refine KIadd C dL_law_428 ?_
  refine KTop (congrArg iI (show (4 * (zo z : Int)) + 3 = ((4 * zo z + 3 : Nat) : Int) from (by omega))) ?_
  refine KIconst C dL_law_429 ?_
  refine KIast (S := uI (uI (uI S (q 83) ((4 * zo z : Nat) : Int) (r394 : Int)) (q 83) ((4 * zo z + 1 : Nat) : Int) 0) (q 83) ((4 * zo z + 2 : Nat) : Int) (-1)) C 48 (hI.1.at0 83 20) (hI.1.ln0 83 48) ⟨by omega, by omega⟩ (by omega) ⟨by omega, by omega⟩ dL_law_430 ?_
  refine KAload_n C dL_law_431 rfl 1 rfl ?_
  refine KIconst C dL_law_432 ?_
  refine KIald (S := uI (uI (uI (uI S (q 83) ((4 * zo z : Nat) : Int) (r394 : Int)) (q 83) ((4 * zo z + 1 : Nat) : Int) 0) (q 83) ((4 * zo z + 2 : Nat) : Int) (-1)) (q 83) ((4 * zo z + 3 : Nat) : Int) 0)  (v := (zo z : Int)) C 8 (hI.1.at0 80 20) (hI.1.ln0 80 8) ⟨by omega, by omega⟩ (by omega) ((congrFun ((up2_row _ _ _ (hI.1.ne 80 83)).trans ((up2_row _ _ _ (hI.1.ne 80 83)).trans ((up2_row _ _ _ (hI.1.ne 80 83)).trans (up2_row _ _ _ (hI.1.ne 80 83))))) _).trans hI.q1) dL_law_433 ?_
  refine KIstore (lv' := [(16, .int (iI (zo z : Int))), (0, .ref b0), (1, .ref (q 80)), (2, .int (iI e9)), (3, .ref (q 0)), (4, .ref (q 81)), (5, .ref (q 82)), (6, .ref (q 83)), (7, .ref (q 84)), (8, .ref (q 85)), (9, .ref (q 86)), (10, .ref (q 87)), (11, .ref (q 88)), (12, .int (iI (tn : Int))), (13, .int (iI (a9 : Int))), (14, .int (iI (p9 : Int))), (15, .int (iI (o9 : Int))), (17, .int (iI 0))]) C dL_law_434 (by decide) rfl ?_
  refine KAload_n C dL_law_436 rfl 2 rfl ?_
  refine KIconst C dL_law_437 ?_
  refine KDup2 C dL_law_438 rfl rfl ?_
  refine KIald (S := uI (uI (uI (uI S (q 83) ((4 * zo z : Nat) : Int) (r394 : Int)) (q 83) ((4 * zo z + 1 : Nat) : Int) 0) (q 83) ((4 * zo z + 2 : Nat) : Int) (-1)) (q 83) ((4 * zo z + 3 : Nat) : Int) 0)  (v := (zo z : Int)) C 8 (hI.1.at0 80 20) (hI.1.ln0 80 8) ⟨by omega, by omega⟩ (by omega) ((congrFun ((up2_row _ _ _ (hI.1.ne 80 83)).trans ((up2_row _ _ _ (hI.1.ne 80 83)).trans ((up2_row _ _ _ (hI.1.ne 80 83)).trans (up2_row _ _ _ (hI.1.ne 80 83))))) _).trans hI.q1) dL_law_439 ?_
  refine KIconst C dL_law_440 ?_
  refine KIadd C dL_law_441 ?_
  refine KIast (S := uI (uI (uI (uI S (q 83) ((4 * zo z : Nat) : Int) (r394 : Int)) (q 83) ((4 * zo z + 1 : Nat) : Int) 0) (q 83) ((4 * zo z + 2 : Nat) : Int) (-1)) (q 83) ((4 * zo z + 3 : Nat) : Int) 0) C 8 (hI.1.at0 80 20) (hI.1.ln0 80 8) ⟨by omega, by omega⟩ (by omega) ⟨by omega, by omega⟩ dL_law_442 ?_
  have hI442 := hI.ord hW hzo (r394 : Int)
  refine KAload_n C dL_law_443 rfl 4 rfl ?_
  refine KAload C dL_law_444 7 rfl ?_
  refine KIconst C dL_law_446 ?_
  refine KAload_n C dL_law_447 rfl 2 rfl ?_
  refine KIconst C dL_law_448 ?_
  refine KIald (S := uI (uI (uI (uI (uI S (q 83) ((4 * zo z : Nat) : Int) (r394 : Int)) (q 83) ((4 * zo z + 1 : Nat) : Int) 0) (q 83) ((4 * zo z + 2 : Nat) : Int) (-1)) (q 83) ((4 * zo z + 3 : Nat) : Int) 0) (q 80) 1 ((zo z : Int) + 1))  (v := (zo z : Int) + 1) C 8 (hI442.1.at0 80 20) (hI442.1.ln0 80 8) ⟨by omega, by omega⟩ (by omega) (up2_same _ _ _ _) dL_law_449 ?_
  refine KImul C dL_law_450 ?_
  refine KIconst C dL_law_451 ?_
  refine KIsub C dL_law_452 ?_
  refine KTop (congrArg iI (show (4 * ((zo z : Int) + 1)) - 4 = ((4 * zo z : Nat) : Int) from (by omega))) ?_
  refine KIald (S := uI (uI (uI (uI (uI S (q 83) ((4 * zo z : Nat) : Int) (r394 : Int)) (q 83) ((4 * zo z + 1 : Nat) : Int) 0) (q 83) ((4 * zo z + 2 : Nat) : Int) (-1)) (q 83) ((4 * zo z + 3 : Nat) : Int) 0) (q 80) 1 ((zo z : Int) + 1))  (v := (r394 : Int)) C 48 (hI442.1.at0 83 20) (hI442.1.ln0 83 48) ⟨by omega, by omega⟩ (by omega) ((up2_ne _ _ _ _ (hI.1.ne 83 80)).trans ((up2_nk _ _ _ _ (by omega)).trans ((up2_nk _ _ _ _ (by omega)).trans ((up2_nk _ _ _ _ (by omega)).trans (up2_same _ _ _ _))))) dL_law_453 ?_
  have hoO := ho_Ord (z := z) (v := r394) (by omega) hzo
  refine KCallVC (As := [.int (iI (r394 : Int))]) (b := q 0) (st := []) C (ct_X5_order l g hnt (uI (uI (uI (uI (uI S (q 83) ((4 * zo z : Nat) : Int) (r394 : Int)) (q 83) ((4 * zo z + 1 : Nat) : Int) 0) (q 83) ((4 * zo z + 2 : Nat) : Int) (-1)) (q 83) ((4 * zo z + 3 : Nat) : Int) 0) (q 80) 1 ((zo z : Int) + 1)) q (r394 : Int) z hI442.1 hW (hI442.2.1) (⟨by omega, by omega⟩) (gT g) rfl) u_ml_RL_138 u_im_yX5_order u_se_yX5_order u_in_RX5 u_co_yX5_order hd_yX5_order (hI442.1.at0 0 6) (by decide) rfl rfl ⟨Nat.le_of_ble_eq_true rfl, Nat.le_of_ble_eq_true rfl⟩ ⟨by show cells + 4 ≤ 600128; omega, by show slots + 90 ≤ 7301064; omega⟩ (Nat.le_of_ble_eq_true rfl) dL_law_454 rfl (fun E9 u9 hx9 => False.elim (by obtain ⟨hc9, -⟩ := hx9; rw [hoO] at hc9; simp at hc9)) (fun v454 u454 hp454 => ?_)
  obtain ⟨r454, z454, ho454, rfl, hc454⟩ := hp454
  rw [hoO] at ho454; cases ho454
  have hI454 := hI442.cp hc454
  refine KSt (st2 := [.int (iI (zo z : Int))]) rfl ?_
  refine KRg (fun hR => ?_)
  have hWn := wf_oOrd hW (r394 : Int)
  rw [hoO] at hWn
  refine KIstore (lv' := [(17, .int (iI (zo z : Int))), (16, .int (iI (zo z : Int))), (0, .ref b0), (1, .ref (q 80)), (2, .int (iI e9)), (3, .ref (q 0)), (4, .ref (q 81)), (5, .ref (q 82)), (6, .ref (q 83)), (7, .ref (q 84)), (8, .ref (q 85)), (9, .ref (q 86)), (10, .ref (q 87)), (11, .ref (q 88)), (12, .int (iI (tn : Int))), (13, .int (iI (a9 : Int))), (14, .int (iI (p9 : Int))), (15, .int (iI (o9 : Int)))]) C dL_law_457 (by decide) rfl ?_
  refine KGoto (tgt := 1114) C dL_law_459 (by decide) ?_
  refine KLv (lv' := [(0, .ref b0), (1, .ref (q 80)), (2, .int (iI e9)), (3, .ref (q 0)), (4, .ref (q 81)), (5, .ref (q 82)), (6, .ref (q 83)), (7, .ref (q 84)), (8, .ref (q 85)), (9, .ref (q 86)), (10, .ref (q 87)), (11, .ref (q 88)), (12, .int (iI (tn : Int))), (16, .int (iI (zo z : Int))), (17, .int (iI (zo z : Int)))]) [2, 3, 4, 5, 6, 7, 8, 9, 10, 11, 12, 13, 14, 1, 0] rfl ?_
  exact KWiden (by omega) (by omega) (kk _ _ _ _ ⟨by omega, by omega⟩ hI454 hWn)
end
