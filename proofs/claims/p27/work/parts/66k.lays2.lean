def P_L_laysOut (S : Sto) (q : Nat → Nat) (z : Sig) : Option Value → Sto → Prop := fun v u => v = some (.int (iI (asg (zP z) (rkL z 20) (spL z 20) (rkL z 20).length).1)) ∧ ∃ f, u = wI S f ∧ Lo S q f ∧ LR (wI S f) q (zuP z (asg (zP z) (rkL z 20) (spL z 20) (rkL z 20).length).2)
set_option maxRecDepth 100000 in
set_option maxHeartbeats 4000000 in
theorem ct_L_laysOut (l : Launch) (g : GG) (S : Sto) (q : Nat → Nat) (z : Sig) (hT : Top S q) (hW : Wf z) (hL : LR S q z) : MetS l g yL_laysOut cL_laysOut 12 (some FieldType.int) 2 0 0 [.ref (q 81), .ref (q 82), .ref (q 86), .ref (q 80)] S (P_L_laysOut S q z) := by
  refine MetS.of (own := RL) (lv := [(0, .ref (q 81)), (1, .ref (q 82)), (2, .ref (q 86)), (3, .ref (q 80))]) (by decide) rfl (Nat.le_of_ble_eq_true rfl) rfl ?_
  intro pX eX sX mX argsX belowX methX cX C hin
  refine KRg (fun hR => ?_)
  obtain ⟨⟨lq0, lq1, lq2, lq3, lq4, lq5, lq6, lq7⟩, ⟨lP, lpr, lqt⟩, lo, lt, l12, l6⟩ := id hL
  have hC := hW.1
  have hlen := rkL_le z 20
  refine KIconst C dL_laysOut_0 ?_
  refine KIstore (lv' := [(4, .int (iI 0)), (0, .ref (q 81)), (1, .ref (q 82)), (2, .ref (q 86)), (3, .ref (q 80))]) C dL_laysOut_1 (by decide) rfl ?_
  refine KIconst C dL_laysOut_3 ?_
  refine KIstore (lv' := [(5, .int (iI 0)), (4, .int (iI 0)), (0, .ref (q 81)), (1, .ref (q 82)), (2, .ref (q 86)), (3, .ref (q 80))]) C dL_laysOut_4 (by decide) rfl ?_
  refine KIconst C dL_laysOut_6 ?_
  refine KIstore (lv' := [(6, .int (iI 0)), (5, .int (iI 0)), (4, .int (iI 0)), (0, .ref (q 81)), (1, .ref (q 82)), (2, .ref (q 86)), (3, .ref (q 80))]) C dL_laysOut_7 (by decide) rfl ?_
  refine KIconst C dL_laysOut_9 ?_
  refine KIstore (lv' := [(7, .int (iI 0)), (6, .int (iI 0)), (5, .int (iI 0)), (4, .int (iI 0)), (0, .ref (q 81)), (1, .ref (q 82)), (2, .ref (q 86)), (3, .ref (q 80))]) C dL_laysOut_10 (by decide) rfl ?_
  refine KLv (lv' := [(0, .ref (q 81)), (1, .ref (q 82)), (2, .ref (q 86)), (3, .ref (q 80)), (4, .int (iI 0)), (5, .int (iI 0)), (6, .int (iI 0)), (7, .int (iI 0))]) [4, 5, 6, 7, 3, 2, 1, 0] rfl ?_
  have loop12 : ∀ (nX : Nat) (k : Nat) (c : Nat) (left : Nat) (f : Nat → Int → Int), 20 - k < nX → (k ≤ 20) → (∀ c9, c9 ≠ q 86 → f c9 = sI S c9) → (LyA z (f (q 86)) c k left) → Wk pX l eX (rmK 2 0 0) sX mX argsX belowX methX cX (MQ belowX (QcG g (P_L_laysOut S q z)) argsX sX 0 0 (ge (gB g))) g 12 0 0 12 [(0, .ref (q 81)), (1, .ref (q 82)), (2, .ref (q 86)), (3, .ref (q 80)), (4, .int (iI 0)), (5, .int (iI (c : Int))), (6, .int (iI (left : Int))), (7, .int (iI (k : Int)))] [] (wI S f) := by
    intro nX
    induction nX with
    | zero => intro k c left f hm; exact absurd hm (Nat.not_lt_zero _)
    | succ nX ih12 =>
      intro k c left f hm12 hk hF2 hA
      refine KRg (fun hR => ?_)
      have hck := hA.cle
      refine KIload C dL_laysOut_12 7 rfl ?_
      refine KBipush C dL_laysOut_14 (by decide) ?_
      refine KIcmp_ge (tgt := 52) C dL_laysOut_16 (by decide) ⟨by omega, by omega⟩ ⟨by omega, by omega⟩ (fun c16 => ?_) (fun c16 => ?_)
      · have hk20 : k = 20 := by omega
        rw [hk20] at hA
        have hA20 := hA
        refine KIload C dL_laysOut_52 5 rfl ?_
        refine KIstore (lv' := [(7, .int (iI (c : Int))), (0, .ref (q 81)), (1, .ref (q 82)), (2, .ref (q 86)), (3, .ref (q 80)), (4, .int (iI 0)), (5, .int (iI (c : Int))), (6, .int (iI (left : Int)))]) C dL_laysOut_54 (by decide) rfl ?_
        refine KLv (lv' := [(0, .ref (q 81)), (1, .ref (q 82)), (2, .ref (q 86)), (3, .ref (q 80)), (4, .int (iI 0)), (5, .int (iI (c : Int))), (6, .int (iI (left : Int))), (7, .int (iI (c : Int)))]) [1, 2, 3, 4, 5, 6, 7, 0] rfl ?_
        have loop56 : ∀ (nX : Nat) (n : Nat) (t : Nat) (left : Nat) (f : Nat → Int → Int), n < nX → (∀ c9, c9 ≠ q 81 → c9 ≠ q 86 → f c9 = sI S c9) → (f (q 81) = (asg (zP z) (rkL z 20) (spL z 20) t).2) → (LyB z (f (q 86)) n t left) → Wk pX l eX (rmK 2 0 0) sX mX argsX belowX methX cX (MQ belowX (QcG g (P_L_laysOut S q z)) argsX sX 0 0 (ge (gB g))) g 12 0 0 56 [(0, .ref (q 81)), (1, .ref (q 82)), (2, .ref (q 86)), (3, .ref (q 80)), (4, .int (iI ((asg (zP z) (rkL z 20) (spL z 20) t).1))), (5, .int (iI (c : Int))), (6, .int (iI (left : Int))), (7, .int (iI (n : Int)))] [] (wI S f) := by
          intro nX
          induction nX with
          | zero => intro n t left f hm; exact absurd hm (Nat.not_lt_zero _)
          | succ nX ih56 =>
            intro n t left f hm56 hF hP hB
            refine KRg (fun hR => ?_)
            have hb20 := hB.b20
            refine KIload C dL_laysOut_56 7 rfl ?_
            refine KIf_le (tgt := 240) C dL_laysOut_58 (by decide) ⟨by omega, by omega⟩ (fun c58 => ?_) (fun c58 => ?_)
            · have ht20 : t = (rkL z 20).length := by have h9 := hB.1; omega
              rw [ht20] at hP
              refine KIload C dL_laysOut_240 4 rfl ?_
              refine KIret C rfl rfl (by
                exact ⟨by rw [ht20], f, rfl, lo_lay hF, hL.lay hT hF hP⟩) (by decide) (by decide) dL_laysOut_242
            · have ht20 : t < (rkL z 20).length := by have h9 := hB.1; omega
              refine KIconst C dL_laysOut_61 ?_
              refine KIstore (lv' := [(8, .int (iI 0)), (0, .ref (q 81)), (1, .ref (q 82)), (2, .ref (q 86)), (3, .ref (q 80)), (4, .int (iI ((asg (zP z) (rkL z 20) (spL z 20) t).1))), (5, .int (iI (c : Int))), (6, .int (iI (left : Int))), (7, .int (iI (n : Int)))]) C dL_laysOut_62 (by decide) rfl ?_
              refine KIconst C dL_laysOut_64 ?_
              refine KIstore (lv' := [(9, .int (iI (-1))), (8, .int (iI 0)), (0, .ref (q 81)), (1, .ref (q 82)), (2, .ref (q 86)), (3, .ref (q 80)), (4, .int (iI ((asg (zP z) (rkL z 20) (spL z 20) t).1))), (5, .int (iI (c : Int))), (6, .int (iI (left : Int))), (7, .int (iI (n : Int)))]) C dL_laysOut_65 (by decide) rfl ?_
              refine KIconst C dL_laysOut_67 ?_
              refine KIstore (lv' := [(10, .int (iI 1)), (9, .int (iI (-1))), (8, .int (iI 0)), (0, .ref (q 81)), (1, .ref (q 82)), (2, .ref (q 86)), (3, .ref (q 80)), (4, .int (iI ((asg (zP z) (rkL z 20) (spL z 20) t).1))), (5, .int (iI (c : Int))), (6, .int (iI (left : Int))), (7, .int (iI (n : Int)))]) C dL_laysOut_68 (by decide) rfl ?_
              refine KLv (lv' := [(0, .ref (q 81)), (1, .ref (q 82)), (2, .ref (q 86)), (3, .ref (q 80)), (4, .int (iI ((asg (zP z) (rkL z 20) (spL z 20) t).1))), (5, .int (iI (c : Int))), (6, .int (iI (left : Int))), (7, .int (iI (n : Int))), (8, .int (iI 0)), (9, .int (iI (-1))), (10, .int (iI 1))]) [3, 4, 5, 6, 7, 8, 9, 10, 2, 1, 0] rfl ?_
              have loop70 : ∀ (nX : Nat) (i : Nat) (sp : Nat), n - i < nX → (1 ≤ i) → (i ≤ n) → (sp < i) → (∀ j : Nat, j < i → ¬ ltP z (f (q 86) (j : Int)) (f (q 86) (sp : Int))) → Wk pX l eX (rmK 2 0 0) sX mX argsX belowX methX cX (MQ belowX (QcG g (P_L_laysOut S q z)) argsX sX 0 0 (ge (gB g))) g 12 0 0 70 [(0, .ref (q 81)), (1, .ref (q 82)), (2, .ref (q 86)), (3, .ref (q 80)), (4, .int (iI ((asg (zP z) (rkL z 20) (spL z 20) t).1))), (5, .int (iI (c : Int))), (6, .int (iI (left : Int))), (7, .int (iI (n : Int))), (8, .int (iI (sp : Int))), (9, .int (iI (-1))), (10, .int (iI (i : Int)))] [] (wI S f) := by
                intro nX
                induction nX with
                | zero => intro i sp hm; exact absurd hm (Nat.not_lt_zero _)
                | succ nX ih70 =>
                  intro i sp hm70 hi1 hin hsp hmn
                  refine KRg (fun hR => ?_)
                  refine KIload C dL_laysOut_70 10 rfl ?_
                  refine KIload C dL_laysOut_72 7 rfl ?_
                  refine KIcmp_ge (tgt := 134) C dL_laysOut_74 (by decide) ⟨by omega, by omega⟩ ⟨by omega, by omega⟩ (fun c74 => ?_) (fun c74 => ?_)
                  · have hie : i = n := by omega
                    rw [hie] at hmn
                    have hsn : sp < n := by omega
                    have hspt := hB.spot hW hsn hmn
                    have hcs := hB.pl hW hsn
                    have hcn := hB.pl hW (show n - 1 < n by omega)
                    refine KIconst C dL_laysOut_134 ?_
                    refine KIstore (lv' := [(10, .int (iI 0)), (0, .ref (q 81)), (1, .ref (q 82)), (2, .ref (q 86)), (3, .ref (q 80)), (4, .int (iI ((asg (zP z) (rkL z 20) (spL z 20) t).1))), (5, .int (iI (c : Int))), (6, .int (iI (left : Int))), (7, .int (iI (n : Int))), (8, .int (iI (sp : Int))), (9, .int (iI (-1)))]) C dL_laysOut_135 (by decide) rfl ?_
                    refine KLv (lv' := [(0, .ref (q 81)), (1, .ref (q 82)), (2, .ref (q 86)), (3, .ref (q 80)), (4, .int (iI ((asg (zP z) (rkL z 20) (spL z 20) t).1))), (5, .int (iI (c : Int))), (6, .int (iI (left : Int))), (7, .int (iI (n : Int))), (8, .int (iI (sp : Int))), (9, .int (iI (-1))), (10, .int (iI 0))]) [1, 2, 3, 4, 5, 6, 7, 8, 9, 10, 0] rfl ?_
                    have loop137 : ∀ (nX : Nat) (k : Nat) (pd : Int), 20 - k < nX → (k ≤ 20) → (PdI z left k pd) → Wk pX l eX (rmK 2 0 0) sX mX argsX belowX methX cX (MQ belowX (QcG g (P_L_laysOut S q z)) argsX sX 0 0 (ge (gB g))) g 12 0 0 137 [(0, .ref (q 81)), (1, .ref (q 82)), (2, .ref (q 86)), (3, .ref (q 80)), (4, .int (iI ((asg (zP z) (rkL z 20) (spL z 20) t).1))), (5, .int (iI (c : Int))), (6, .int (iI (left : Int))), (7, .int (iI (n : Int))), (8, .int (iI (sp : Int))), (9, .int (iI pd)), (10, .int (iI (k : Int)))] [] (wI S f) := by
                      intro nX
                      induction nX with
                      | zero => intro k pd hm; exact absurd hm (Nat.not_lt_zero _)
                      | succ nX ih137 =>
                        intro k pd hm137 hk hpd
                        refine KRg (fun hR => ?_)
                        have hpdb := hpd.b
                        refine KIload C dL_laysOut_137 10 rfl ?_
                        refine KBipush C dL_laysOut_139 (by decide) ?_
                        refine KIcmp_ge (tgt := 186) C dL_laysOut_141 (by decide) ⟨by omega, by omega⟩ ⟨by omega, by omega⟩ (fun c141 => ?_) (fun c141 => ?_)
                        · have hk20 : k = 20 := by omega
                          rw [hk20] at hpd
                          obtain ⟨hpe, hrl, hrb⟩ := hB.prod (by omega) hpd
                          obtain ⟨rt, hrt⟩ : ∃ n9, n9 = (rkL z 20).getD t 0 := ⟨_, rfl⟩
                          rw [← hrt] at hpe hrl hrb
                          obtain ⟨st9, hst9⟩ : ∃ n9, n9 = zP z (((spL z 20).getD t 0 : Nat) : Int) := ⟨_, rfl⟩
                          have hspt2 : f (q 86) (sp : Int) = st9 := by rw [hst9]; exact hspt
                          have hge2 := tb_ge hrb
                          refine KLvE (lv2 := [(0, .ref (q 81)), (1, .ref (q 82)), (2, .ref (q 86)), (3, .ref (q 80)), (4, .int (iI ((asg (zP z) (rkL z 20) (spL z 20) t).1))), (5, .int (iI (c : Int))), (6, .int (iI (left : Int))), (7, .int (iI (n : Int))), (8, .int (iI (sp : Int))), (9, .int (iI (rt : Int))), (10, .int (iI (k : Int)))]) (congrArg (fun zz : Int => ([(0, .ref (q 81)), (1, .ref (q 82)), (2, .ref (q 86)), (3, .ref (q 80)), (4, .int (iI ((asg (zP z) (rkL z 20) (spL z 20) t).1))), (5, .int (iI (c : Int))), (6, .int (iI (left : Int))), (7, .int (iI (n : Int))), (8, .int (iI (sp : Int))), (9, .int (iI zz)), (10, .int (iI (k : Int)))] : List (Nat × Value))) (show (pd : Int) = (rt : Int) from hpe)) ?_
                          refine KIload C dL_laysOut_186 6 rfl ?_
                          refine KIconst C dL_laysOut_188 ?_
                          refine KIload C dL_laysOut_189 9 rfl ?_
                          refine KIshl (v := iI ((2 ^ rt : Nat) : Int)) C dL_laysOut_191 (ib_shl (by omega)) ?_
                          refine KIsub C dL_laysOut_192 ?_
                          refine KTop (congrArg iI (show (left : Int) - ((2 ^ rt : Nat) : Int) = ((left - 2 ^ rt : Nat) : Int) from (by omega))) ?_
                          refine KTop (congrArg iI (show ((left - 2 ^ rt : Nat) : Int) = ((left - 2 ^ (rkL z 20).getD t 0 : Nat) : Int) from (by rw [hrt]))) ?_
                          refine KIstore (lv' := [(6, .int (iI ((left - 2 ^ (rkL z 20).getD t 0 : Nat) : Int))), (0, .ref (q 81)), (1, .ref (q 82)), (2, .ref (q 86)), (3, .ref (q 80)), (4, .int (iI ((asg (zP z) (rkL z 20) (spL z 20) t).1))), (5, .int (iI (c : Int))), (7, .int (iI (n : Int))), (8, .int (iI (sp : Int))), (9, .int (iI (rt : Int))), (10, .int (iI (k : Int)))]) C dL_laysOut_193 (by decide) rfl ?_
                          refine KIload C dL_laysOut_195 5 rfl ?_
                          refine KAload_n C dL_laysOut_197 rfl 1 rfl ?_
                          refine KIload C dL_laysOut_198 9 rfl ?_
                          refine KIald (S := wI S f)  (v := (asg (zP z) (rkL z 20) (spL z 20) t).2 (rt : Int)) C 20 (hT.at0 81 20) (hT.ln0 81 20) ⟨by omega, by omega⟩ (by omega) (congrFun hP _) dL_laysOut_200 ?_
                          have rb1 := hR.b (q 81) (rt : Int) (v := (asg (zP z) (rkL z 20) (spL z 20) t).2 (rt : Int)) (congrFun hP _)
                          refine KAload_n C dL_laysOut_201 rfl 3 rfl ?_
                          refine KIload C dL_laysOut_202 8 rfl ?_
                          refine KIald (S := wI S f)  (v := st9) C 20 (hT.at0 86 20) (hT.ln0 86 20) ⟨by omega, by omega⟩ (by omega) hspt2 dL_laysOut_204 ?_
                          have rb2 := hR.b (q 86) (sp : Int) (v := st9) hspt2
                          refine KIcmp_ne (tgt := 212) C dL_laysOut_205 (by decide) ⟨by omega, by omega⟩ ⟨by omega, by omega⟩ (fun c205 => ?_) (fun c205 => ?_)
                          · have has : (asg (zP z) (rkL z 20) (spL z 20) t).1 + 1 = (asg (zP z) (rkL z 20) (spL z 20) (t + 1)).1 := asg_ne (by rw [← hrt]) hst9.symm (by omega)
                            refine KIconst C dL_laysOut_212 ?_
                            refine KIadd C dL_laysOut_213 ?_
                            refine KTop (congrArg iI (show ((asg (zP z) (rkL z 20) (spL z 20) t).1) + 1 = (asg (zP z) (rkL z 20) (spL z 20) (t + 1)).1 from has)) ?_
                            refine KIstore (lv' := [(4, .int (iI ((asg (zP z) (rkL z 20) (spL z 20) (t + 1)).1))), (6, .int (iI ((left - 2 ^ (rkL z 20).getD t 0 : Nat) : Int))), (0, .ref (q 81)), (1, .ref (q 82)), (2, .ref (q 86)), (3, .ref (q 80)), (5, .int (iI (c : Int))), (7, .int (iI (n : Int))), (8, .int (iI (sp : Int))), (9, .int (iI (rt : Int))), (10, .int (iI (k : Int)))]) C dL_laysOut_214 (by decide) rfl ?_
                            refine KAload_n C dL_laysOut_216 rfl 2 rfl ?_
                            refine KIload C dL_laysOut_217 9 rfl ?_
                            refine KAload_n C dL_laysOut_219 rfl 4 rfl ?_
                            refine KIload C dL_laysOut_220 8 rfl ?_
                            refine KIald (S := wI S f)  (v := st9) C 20 (hT.at0 86 20) (hT.ln0 86 20) ⟨by omega, by omega⟩ (by omega) hspt2 dL_laysOut_222 ?_
                            have rb3 := hR.b (q 86) (sp : Int) (v := st9) hspt2
                            refine KIast (S := wI S f) C 20 (hT.at0 81 20) (hT.ln0 81 20) ⟨by omega, by omega⟩ (by omega) ⟨by omega, by omega⟩ dL_laysOut_223 ?_
                            refine KAload_n C dL_laysOut_224 rfl 4 rfl ?_
                            refine KIload C dL_laysOut_225 8 rfl ?_
                            refine KAload_n C dL_laysOut_227 rfl 4 rfl ?_
                            refine KIload C dL_laysOut_228 7 rfl ?_
                            refine KIconst C dL_laysOut_230 ?_
                            refine KIsub C dL_laysOut_231 ?_
                            refine KTop (congrArg iI (show (n : Int) - 1 = ((n - 1 : Nat) : Int) from (by omega))) ?_
                            refine KIald (S := uI (wI S f) (q 81) (rt : Int) st9)  (v := f (q 86) ((n - 1 : Nat) : Int)) C 20 (hT.at0 86 20) (hT.ln0 86 20) ⟨by omega, by omega⟩ (by omega) (up2_ne _ _ _ _ (hT.ne 86 81)) dL_laysOut_232 ?_
                            refine KIast (S := uI (wI S f) (q 81) (rt : Int) st9) C 20 (hT.at0 86 20) (hT.ln0 86 20) ⟨by omega, by omega⟩ (by omega) ⟨by omega, by omega⟩ dL_laysOut_233 ?_
                            refine KIinc (v := ((n - 1 : Nat) : Int)) (lv' := [(7, .int (iI ((n - 1 : Nat) : Int))), (4, .int (iI ((asg (zP z) (rkL z 20) (spL z 20) (t + 1)).1))), (6, .int (iI ((left - 2 ^ (rkL z 20).getD t 0 : Nat) : Int))), (0, .ref (q 81)), (1, .ref (q 82)), (2, .ref (q 86)), (3, .ref (q 80)), (5, .int (iI (c : Int))), (8, .int (iI (sp : Int))), (9, .int (iI (rt : Int))), (10, .int (iI (k : Int)))]) C dL_laysOut_234 7 rfl (by omega) (by decide) rfl ?_
                            refine KGoto (tgt := 56) C dL_laysOut_237 (by decide) ?_
                            refine KLv (lv' := [(0, .ref (q 81)), (1, .ref (q 82)), (2, .ref (q 86)), (3, .ref (q 80)), (4, .int (iI ((asg (zP z) (rkL z 20) (spL z 20) (t + 1)).1))), (5, .int (iI (c : Int))), (6, .int (iI ((left - 2 ^ (rkL z 20).getD t 0 : Nat) : Int))), (7, .int (iI ((n - 1 : Nat) : Int)))]) [3, 4, 5, 6, 1, 7, 2, 0] rfl ?_
                            exact ih56 (n - 1) (t + 1) (left - 2 ^ (rkL z 20).getD t 0) (up2 (up2 f (q 81) (rt : Int) st9) (q 86) (sp : Int) (f (q 86) ((n - 1 : Nat) : Int))) (by omega) (fun c9 h9 h8 => (up2_row _ _ _ h8).trans ((up2_row _ _ _ h9).trans (hF c9 h9 h8))) (by rw [up2_row _ _ _ (hT.ne 81 86), up2_at, hP, hrt, hst9]; rfl) (by rw [up2_at, up2_row _ _ _ (hT.ne 86 81)]; exact hB.next hW hsn hspt)
                          · have has : (asg (zP z) (rkL z 20) (spL z 20) t).1 + 0 = (asg (zP z) (rkL z 20) (spL z 20) (t + 1)).1 := asg_eq (by rw [← hrt]) hst9.symm (by omega)
                            refine KIconst C dL_laysOut_208 ?_
                            refine KGoto (tgt := 213) C dL_laysOut_209 (by decide) ?_
                            refine KIadd C dL_laysOut_213 ?_
                            refine KTop (congrArg iI (show ((asg (zP z) (rkL z 20) (spL z 20) t).1) + 0 = (asg (zP z) (rkL z 20) (spL z 20) (t + 1)).1 from has)) ?_
                            refine KIstore (lv' := [(4, .int (iI ((asg (zP z) (rkL z 20) (spL z 20) (t + 1)).1))), (6, .int (iI ((left - 2 ^ (rkL z 20).getD t 0 : Nat) : Int))), (0, .ref (q 81)), (1, .ref (q 82)), (2, .ref (q 86)), (3, .ref (q 80)), (5, .int (iI (c : Int))), (7, .int (iI (n : Int))), (8, .int (iI (sp : Int))), (9, .int (iI (rt : Int))), (10, .int (iI (k : Int)))]) C dL_laysOut_214 (by decide) rfl ?_
                            refine KAload_n C dL_laysOut_216 rfl 2 rfl ?_
                            refine KIload C dL_laysOut_217 9 rfl ?_
                            refine KAload_n C dL_laysOut_219 rfl 4 rfl ?_
                            refine KIload C dL_laysOut_220 8 rfl ?_
                            refine KIald (S := wI S f)  (v := st9) C 20 (hT.at0 86 20) (hT.ln0 86 20) ⟨by omega, by omega⟩ (by omega) hspt2 dL_laysOut_222 ?_
                            have rb4 := hR.b (q 86) (sp : Int) (v := st9) hspt2
                            refine KIast (S := wI S f) C 20 (hT.at0 81 20) (hT.ln0 81 20) ⟨by omega, by omega⟩ (by omega) ⟨by omega, by omega⟩ dL_laysOut_223 ?_
                            refine KAload_n C dL_laysOut_224 rfl 4 rfl ?_
                            refine KIload C dL_laysOut_225 8 rfl ?_
                            refine KAload_n C dL_laysOut_227 rfl 4 rfl ?_
                            refine KIload C dL_laysOut_228 7 rfl ?_
                            refine KIconst C dL_laysOut_230 ?_
                            refine KIsub C dL_laysOut_231 ?_
                            refine KTop (congrArg iI (show (n : Int) - 1 = ((n - 1 : Nat) : Int) from (by omega))) ?_
                            refine KIald (S := uI (wI S f) (q 81) (rt : Int) st9)  (v := f (q 86) ((n - 1 : Nat) : Int)) C 20 (hT.at0 86 20) (hT.ln0 86 20) ⟨by omega, by omega⟩ (by omega) (up2_ne _ _ _ _ (hT.ne 86 81)) dL_laysOut_232 ?_
                            refine KIast (S := uI (wI S f) (q 81) (rt : Int) st9) C 20 (hT.at0 86 20) (hT.ln0 86 20) ⟨by omega, by omega⟩ (by omega) ⟨by omega, by omega⟩ dL_laysOut_233 ?_
                            refine KIinc (v := ((n - 1 : Nat) : Int)) (lv' := [(7, .int (iI ((n - 1 : Nat) : Int))), (4, .int (iI ((asg (zP z) (rkL z 20) (spL z 20) (t + 1)).1))), (6, .int (iI ((left - 2 ^ (rkL z 20).getD t 0 : Nat) : Int))), (0, .ref (q 81)), (1, .ref (q 82)), (2, .ref (q 86)), (3, .ref (q 80)), (5, .int (iI (c : Int))), (8, .int (iI (sp : Int))), (9, .int (iI (rt : Int))), (10, .int (iI (k : Int)))]) C dL_laysOut_234 7 rfl (by omega) (by decide) rfl ?_
                            refine KGoto (tgt := 56) C dL_laysOut_237 (by decide) ?_
                            refine KLv (lv' := [(0, .ref (q 81)), (1, .ref (q 82)), (2, .ref (q 86)), (3, .ref (q 80)), (4, .int (iI ((asg (zP z) (rkL z 20) (spL z 20) (t + 1)).1))), (5, .int (iI (c : Int))), (6, .int (iI ((left - 2 ^ (rkL z 20).getD t 0 : Nat) : Int))), (7, .int (iI ((n - 1 : Nat) : Int)))]) [3, 4, 5, 6, 1, 7, 2, 0] rfl ?_
                            exact ih56 (n - 1) (t + 1) (left - 2 ^ (rkL z 20).getD t 0) (up2 (up2 f (q 81) (rt : Int) st9) (q 86) (sp : Int) (f (q 86) ((n - 1 : Nat) : Int))) (by omega) (fun c9 h9 h8 => (up2_row _ _ _ h8).trans ((up2_row _ _ _ h9).trans (hF c9 h9 h8))) (by rw [up2_row _ _ _ (hT.ne 81 86), up2_at, hP, hrt, hst9]; rfl) (by rw [up2_at, up2_row _ _ _ (hT.ne 86 81)]; exact hB.next hW hsn hspt)
                        · refine KIload C dL_laysOut_144 6 rfl ?_
                          refine KIload C dL_laysOut_146 10 rfl ?_
                          refine KIshr (v := iI ((left / 2 ^ k : Nat) : Int)) C dL_laysOut_148 (ib_shr (by omega) (by omega)) ?_
                          refine KIconst C dL_laysOut_149 ?_
                          refine KIand (v := iI ((left / 2 ^ k % 2 : Nat) : Int)) C dL_laysOut_150 (ib_bit (by omega) (by omega)) ?_
                          refine KIconst C dL_laysOut_151 ?_
                          refine KIcmp_ne (tgt := 176) C dL_laysOut_152 (by decide) ⟨by omega, by omega⟩ ⟨by omega, by omega⟩ (fun c152 => ?_) (fun c152 => ?_)
                          · have hbt : ¬ left.testBit k = true := by rw [tb_0 (by omega)]; exact Bool.false_ne_true
                            have hPn : PdI z left (k + 1) pd := hpd.no hbt
                            refine KIload C dL_laysOut_176 9 rfl ?_
                            refine KIstore (lv' := [(9, .int (iI pd)), (0, .ref (q 81)), (1, .ref (q 82)), (2, .ref (q 86)), (3, .ref (q 80)), (4, .int (iI ((asg (zP z) (rkL z 20) (spL z 20) t).1))), (5, .int (iI (c : Int))), (6, .int (iI (left : Int))), (7, .int (iI (n : Int))), (8, .int (iI (sp : Int))), (10, .int (iI (k : Int)))]) C dL_laysOut_178 (by decide) rfl ?_
                            refine KIinc (v := ((k + 1 : Nat) : Int)) (lv' := [(10, .int (iI ((k + 1 : Nat) : Int))), (9, .int (iI pd)), (0, .ref (q 81)), (1, .ref (q 82)), (2, .ref (q 86)), (3, .ref (q 80)), (4, .int (iI ((asg (zP z) (rkL z 20) (spL z 20) t).1))), (5, .int (iI (c : Int))), (6, .int (iI (left : Int))), (7, .int (iI (n : Int))), (8, .int (iI (sp : Int)))]) C dL_laysOut_180 10 rfl (by omega) (by decide) rfl ?_
                            refine KGoto (tgt := 137) C dL_laysOut_183 (by decide) ?_
                            refine KLv (lv' := [(0, .ref (q 81)), (1, .ref (q 82)), (2, .ref (q 86)), (3, .ref (q 80)), (4, .int (iI ((asg (zP z) (rkL z 20) (spL z 20) t).1))), (5, .int (iI (c : Int))), (6, .int (iI (left : Int))), (7, .int (iI (n : Int))), (8, .int (iI (sp : Int))), (9, .int (iI pd)), (10, .int (iI ((k + 1 : Nat) : Int)))]) [2, 3, 4, 5, 6, 7, 8, 9, 10, 1, 0] rfl ?_
                            exact ih137 (k + 1) pd (by omega) (by omega) hPn
                          · have hbt : left.testBit k = true := tb_1 (by omega)
                            refine KIload C dL_laysOut_155 9 rfl ?_
                            refine KIf_lt (tgt := 171) C dL_laysOut_157 (by decide) ⟨by omega, by omega⟩ (fun c157 => ?_) (fun c157 => ?_)
                            · have hPn : PdI z left (k + 1) (k : Int) := hpd.first hbt (by omega)
                              refine KIload C dL_laysOut_171 10 rfl ?_
                              refine KGoto (tgt := 178) C dL_laysOut_173 (by decide) ?_
                              refine KIstore (lv' := [(9, .int (iI (k : Int))), (0, .ref (q 81)), (1, .ref (q 82)), (2, .ref (q 86)), (3, .ref (q 80)), (4, .int (iI ((asg (zP z) (rkL z 20) (spL z 20) t).1))), (5, .int (iI (c : Int))), (6, .int (iI (left : Int))), (7, .int (iI (n : Int))), (8, .int (iI (sp : Int))), (10, .int (iI (k : Int)))]) C dL_laysOut_178 (by decide) rfl ?_
                              refine KIinc (v := ((k + 1 : Nat) : Int)) (lv' := [(10, .int (iI ((k + 1 : Nat) : Int))), (9, .int (iI (k : Int))), (0, .ref (q 81)), (1, .ref (q 82)), (2, .ref (q 86)), (3, .ref (q 80)), (4, .int (iI ((asg (zP z) (rkL z 20) (spL z 20) t).1))), (5, .int (iI (c : Int))), (6, .int (iI (left : Int))), (7, .int (iI (n : Int))), (8, .int (iI (sp : Int)))]) C dL_laysOut_180 10 rfl (by omega) (by decide) rfl ?_
                              refine KGoto (tgt := 137) C dL_laysOut_183 (by decide) ?_
                              refine KLv (lv' := [(0, .ref (q 81)), (1, .ref (q 82)), (2, .ref (q 86)), (3, .ref (q 80)), (4, .int (iI ((asg (zP z) (rkL z 20) (spL z 20) t).1))), (5, .int (iI (c : Int))), (6, .int (iI (left : Int))), (7, .int (iI (n : Int))), (8, .int (iI (sp : Int))), (9, .int (iI (k : Int))), (10, .int (iI ((k + 1 : Nat) : Int)))]) [2, 3, 4, 5, 6, 7, 8, 9, 10, 1, 0] rfl ?_
                              exact ih137 (k + 1) (k : Int) (by omega) (by omega) hPn
                            · refine KAload_n C dL_laysOut_160 rfl 1 rfl ?_
                              refine KIload C dL_laysOut_161 10 rfl ?_
                              refine KIald (S := wI S f)  (v := ztv z (k : Int)) C 20 (hT.at0 82 20) (hT.ln0 82 20) ⟨by omega, by omega⟩ (by omega) ((congrFun (hF _ (hT.ne 82 81) (hT.ne 82 86)) _).trans (lt k (by omega))) dL_laysOut_163 ?_
                              have rb5 := hR.b (q 82) (k : Int) (v := ztv z (k : Int)) ((congrFun (hF _ (hT.ne 82 81) (hT.ne 82 86)) _).trans (lt k (by omega)))
                              refine KAload_n C dL_laysOut_164 rfl 1 rfl ?_
                              refine KIload C dL_laysOut_165 9 rfl ?_
                              refine KIald (S := wI S f)  (v := ztv z pd) C 20 (hT.at0 82 20) (hT.ln0 82 20) ⟨by omega, by omega⟩ (by omega) (by obtain ⟨n9, hn9⟩ : ∃ n9 : Nat, pd = (n9 : Int) := ⟨pd.toNat, by omega⟩; rw [hn9]; exact ((congrFun (hF _ (hT.ne 82 81) (hT.ne 82 86)) _).trans (lt n9 (by omega)))) dL_laysOut_167 ?_
                              have rb6 := hR.b (q 82) pd (v := ztv z pd) (by obtain ⟨n9, hn9⟩ : ∃ n9 : Nat, pd = (n9 : Int) := ⟨pd.toNat, by omega⟩; rw [hn9]; exact ((congrFun (hF _ (hT.ne 82 81) (hT.ne 82 86)) _).trans (lt n9 (by omega))))
                              refine KIcmp_le (tgt := 176) C dL_laysOut_168 (by decide) ⟨by omega, by omega⟩ ⟨by omega, by omega⟩ (fun c168 => ?_) (fun c168 => ?_)
                              · have hPn : PdI z left (k + 1) pd := hpd.less (by omega) (by omega)
                                refine KIload C dL_laysOut_176 9 rfl ?_
                                refine KIstore (lv' := [(9, .int (iI pd)), (0, .ref (q 81)), (1, .ref (q 82)), (2, .ref (q 86)), (3, .ref (q 80)), (4, .int (iI ((asg (zP z) (rkL z 20) (spL z 20) t).1))), (5, .int (iI (c : Int))), (6, .int (iI (left : Int))), (7, .int (iI (n : Int))), (8, .int (iI (sp : Int))), (10, .int (iI (k : Int)))]) C dL_laysOut_178 (by decide) rfl ?_
                                refine KIinc (v := ((k + 1 : Nat) : Int)) (lv' := [(10, .int (iI ((k + 1 : Nat) : Int))), (9, .int (iI pd)), (0, .ref (q 81)), (1, .ref (q 82)), (2, .ref (q 86)), (3, .ref (q 80)), (4, .int (iI ((asg (zP z) (rkL z 20) (spL z 20) t).1))), (5, .int (iI (c : Int))), (6, .int (iI (left : Int))), (7, .int (iI (n : Int))), (8, .int (iI (sp : Int)))]) C dL_laysOut_180 10 rfl (by omega) (by decide) rfl ?_
                                refine KGoto (tgt := 137) C dL_laysOut_183 (by decide) ?_
                                refine KLv (lv' := [(0, .ref (q 81)), (1, .ref (q 82)), (2, .ref (q 86)), (3, .ref (q 80)), (4, .int (iI ((asg (zP z) (rkL z 20) (spL z 20) t).1))), (5, .int (iI (c : Int))), (6, .int (iI (left : Int))), (7, .int (iI (n : Int))), (8, .int (iI (sp : Int))), (9, .int (iI pd)), (10, .int (iI ((k + 1 : Nat) : Int)))]) [2, 3, 4, 5, 6, 7, 8, 9, 10, 1, 0] rfl ?_
                                exact ih137 (k + 1) pd (by omega) (by omega) hPn
                              · have hPn : PdI z left (k + 1) (k : Int) := hpd.more hbt (by omega) (by omega)
                                refine KIload C dL_laysOut_171 10 rfl ?_
                                refine KGoto (tgt := 178) C dL_laysOut_173 (by decide) ?_
                                refine KIstore (lv' := [(9, .int (iI (k : Int))), (0, .ref (q 81)), (1, .ref (q 82)), (2, .ref (q 86)), (3, .ref (q 80)), (4, .int (iI ((asg (zP z) (rkL z 20) (spL z 20) t).1))), (5, .int (iI (c : Int))), (6, .int (iI (left : Int))), (7, .int (iI (n : Int))), (8, .int (iI (sp : Int))), (10, .int (iI (k : Int)))]) C dL_laysOut_178 (by decide) rfl ?_
                                refine KIinc (v := ((k + 1 : Nat) : Int)) (lv' := [(10, .int (iI ((k + 1 : Nat) : Int))), (9, .int (iI (k : Int))), (0, .ref (q 81)), (1, .ref (q 82)), (2, .ref (q 86)), (3, .ref (q 80)), (4, .int (iI ((asg (zP z) (rkL z 20) (spL z 20) t).1))), (5, .int (iI (c : Int))), (6, .int (iI (left : Int))), (7, .int (iI (n : Int))), (8, .int (iI (sp : Int)))]) C dL_laysOut_180 10 rfl (by omega) (by decide) rfl ?_
                                refine KGoto (tgt := 137) C dL_laysOut_183 (by decide) ?_
                                refine KLv (lv' := [(0, .ref (q 81)), (1, .ref (q 82)), (2, .ref (q 86)), (3, .ref (q 80)), (4, .int (iI ((asg (zP z) (rkL z 20) (spL z 20) t).1))), (5, .int (iI (c : Int))), (6, .int (iI (left : Int))), (7, .int (iI (n : Int))), (8, .int (iI (sp : Int))), (9, .int (iI (k : Int))), (10, .int (iI ((k + 1 : Nat) : Int)))]) [2, 3, 4, 5, 6, 7, 8, 9, 10, 1, 0] rfl ?_
                                exact ih137 (k + 1) (k : Int) (by omega) (by omega) hPn
                    exact loop137 _ 0 (-1) (Nat.lt_succ_self _) (by omega) PdI.init
                  · have hci := hB.pl hW (show i < n by omega)
                    have hcs := hB.pl hW (show sp < n by omega)
                    refine KIconst C dL_laysOut_77 ?_
                    refine KAload_n C dL_laysOut_78 rfl 2 rfl ?_
                    refine KIload C dL_laysOut_79 10 rfl ?_
                    refine KIald (S := wI S f)  (v := f (q 86) (i : Int)) C 20 (hT.at0 86 20) (hT.ln0 86 20) ⟨by omega, by omega⟩ (by omega) rfl dL_laysOut_81 ?_
                    refine KAload_n C dL_laysOut_82 rfl 3 rfl ?_
                    refine KCallS (As := [.int (iI 0), .int (iI (f (q 86) (i : Int))), .ref (q 80)]) (st := []) C (ct_L_way l g (wI S f) q 0 (f (q 86) (i : Int)) (zN z) (zG z) hT ((congrFun (hF _ (hT.ne 80 81) (hT.ne 80 86)) _).trans lq6) ((congrFun (hF _ (hT.ne 80 81) (hT.ne 80 86)) _).trans lq7) (by omega) (by omega) (by omega) (by omega)) u_ml_RL_52 u_st_yL_way u_in_RL u_co_yL_way hd_yL_way ⟨Nat.le_of_ble_eq_true rfl, Nat.le_of_ble_eq_true rfl⟩ ⟨Nat.le_of_ble_eq_true rfl, Nat.le_of_ble_eq_true rfl⟩ (Nat.le_of_ble_eq_true rfl) dL_laysOut_83 rfl (fun v83 u83 hp83 => ?_)
                    obtain ⟨rfl, rfl⟩ := hp83
                    refine KSt (st2 := [.int (iI (dst (zN z) (zG z) 0 (f (q 86) (i : Int))))]) rfl ?_
                    refine KRg (fun hR => ?_)
                    refine KIconst C dL_laysOut_86 ?_
                    refine KAload_n C dL_laysOut_87 rfl 2 rfl ?_
                    refine KIload C dL_laysOut_88 8 rfl ?_
                    refine KIald (S := wI S f)  (v := f (q 86) (sp : Int)) C 20 (hT.at0 86 20) (hT.ln0 86 20) ⟨by omega, by omega⟩ (by omega) rfl dL_laysOut_90 ?_
                    refine KAload_n C dL_laysOut_91 rfl 3 rfl ?_
                    refine KCallS (As := [.int (iI 0), .int (iI (f (q 86) (sp : Int))), .ref (q 80)]) (st := [.int (iI (dst (zN z) (zG z) 0 (f (q 86) (i : Int))))]) C (ct_L_way l g (wI S f) q 0 (f (q 86) (sp : Int)) (zN z) (zG z) hT ((congrFun (hF _ (hT.ne 80 81) (hT.ne 80 86)) _).trans lq6) ((congrFun (hF _ (hT.ne 80 81) (hT.ne 80 86)) _).trans lq7) (by omega) (by omega) (by omega) (by omega)) u_ml_RL_52 u_st_yL_way u_in_RL u_co_yL_way hd_yL_way ⟨Nat.le_of_ble_eq_true rfl, Nat.le_of_ble_eq_true rfl⟩ ⟨Nat.le_of_ble_eq_true rfl, Nat.le_of_ble_eq_true rfl⟩ (Nat.le_of_ble_eq_true rfl) dL_laysOut_92 rfl (fun v92 u92 hp92 => ?_)
                    obtain ⟨rfl, rfl⟩ := hp92
                    refine KSt (st2 := [.int (iI (dst (zN z) (zG z) 0 (f (q 86) (sp : Int)))), .int (iI (dst (zN z) (zG z) 0 (f (q 86) (i : Int))))]) rfl ?_
                    refine KRg (fun hR => ?_)
                    refine KIsub C dL_laysOut_95 ?_
                    refine KIstore (lv' := [(11, .int (iI ((dst (zN z) (zG z) 0 (f (q 86) (i : Int))) - (dst (zN z) (zG z) 0 (f (q 86) (sp : Int)))))), (0, .ref (q 81)), (1, .ref (q 82)), (2, .ref (q 86)), (3, .ref (q 80)), (4, .int (iI ((asg (zP z) (rkL z 20) (spL z 20) t).1))), (5, .int (iI (c : Int))), (6, .int (iI (left : Int))), (7, .int (iI (n : Int))), (8, .int (iI (sp : Int))), (9, .int (iI (-1))), (10, .int (iI (i : Int)))]) C dL_laysOut_96 (by decide) rfl ?_
                    refine KIload C dL_laysOut_98 0 rfl ?_
                    refine KIf_lt (tgt := 119) C dL_laysOut_100 (by decide) ⟨by omega, by omega⟩ (fun c100 => ?_) (fun c100 => ?_)
                    · have hlt : ltP z (f (q 86) (i : Int)) (f (q 86) (sp : Int)) := by unfold ltP; omega
                      refine KIload C dL_laysOut_119 11 rfl ?_
                      refine KGoto (tgt := 126) C dL_laysOut_121 (by decide) ?_
                      refine KIstore (lv' := [(8, .int (iI (i : Int))), (11, .int (iI ((dst (zN z) (zG z) 0 (f (q 86) (i : Int))) - (dst (zN z) (zG z) 0 (f (q 86) (sp : Int)))))), (0, .ref (q 81)), (1, .ref (q 82)), (2, .ref (q 86)), (3, .ref (q 80)), (4, .int (iI ((asg (zP z) (rkL z 20) (spL z 20) t).1))), (5, .int (iI (c : Int))), (6, .int (iI (left : Int))), (7, .int (iI (n : Int))), (9, .int (iI (-1))), (10, .int (iI (i : Int)))]) C dL_laysOut_126 (by decide) rfl ?_
                      refine KIinc (v := ((i + 1 : Nat) : Int)) (lv' := [(10, .int (iI ((i + 1 : Nat) : Int))), (8, .int (iI (i : Int))), (11, .int (iI ((dst (zN z) (zG z) 0 (f (q 86) (i : Int))) - (dst (zN z) (zG z) 0 (f (q 86) (sp : Int)))))), (0, .ref (q 81)), (1, .ref (q 82)), (2, .ref (q 86)), (3, .ref (q 80)), (4, .int (iI ((asg (zP z) (rkL z 20) (spL z 20) t).1))), (5, .int (iI (c : Int))), (6, .int (iI (left : Int))), (7, .int (iI (n : Int))), (9, .int (iI (-1)))]) C dL_laysOut_128 11 rfl (by omega) (by decide) rfl ?_
                      refine KGoto (tgt := 70) C dL_laysOut_131 (by decide) ?_
                      refine KLv (lv' := [(0, .ref (q 81)), (1, .ref (q 82)), (2, .ref (q 86)), (3, .ref (q 80)), (4, .int (iI ((asg (zP z) (rkL z 20) (spL z 20) t).1))), (5, .int (iI (c : Int))), (6, .int (iI (left : Int))), (7, .int (iI (n : Int))), (8, .int (iI (i : Int))), (9, .int (iI (-1))), (10, .int (iI ((i + 1 : Nat) : Int)))]) [3, 4, 5, 6, 7, 8, 9, 10, 1, 11, 0] rfl ?_
                      exact ih70 (i + 1) i (by omega) (by omega) (by omega) (by omega) (by first | exact mn_new hmn hlt | exact mn_old hmn hge)
                    · refine KIload C dL_laysOut_103 0 rfl ?_
                      refine KIf_ne (tgt := 124) C dL_laysOut_105 (by decide) ⟨by omega, by omega⟩ (fun c105 => ?_) (fun c105 => ?_)
                      · have hge : ¬ ltP z (f (q 86) (i : Int)) (f (q 86) (sp : Int)) := by unfold ltP; omega
                        refine KIload C dL_laysOut_124 9 rfl ?_
                        refine KIstore (lv' := [(8, .int (iI (sp : Int))), (11, .int (iI ((dst (zN z) (zG z) 0 (f (q 86) (i : Int))) - (dst (zN z) (zG z) 0 (f (q 86) (sp : Int)))))), (0, .ref (q 81)), (1, .ref (q 82)), (2, .ref (q 86)), (3, .ref (q 80)), (4, .int (iI ((asg (zP z) (rkL z 20) (spL z 20) t).1))), (5, .int (iI (c : Int))), (6, .int (iI (left : Int))), (7, .int (iI (n : Int))), (9, .int (iI (-1))), (10, .int (iI (i : Int)))]) C dL_laysOut_126 (by decide) rfl ?_
                        refine KIinc (v := ((i + 1 : Nat) : Int)) (lv' := [(10, .int (iI ((i + 1 : Nat) : Int))), (8, .int (iI (sp : Int))), (11, .int (iI ((dst (zN z) (zG z) 0 (f (q 86) (i : Int))) - (dst (zN z) (zG z) 0 (f (q 86) (sp : Int)))))), (0, .ref (q 81)), (1, .ref (q 82)), (2, .ref (q 86)), (3, .ref (q 80)), (4, .int (iI ((asg (zP z) (rkL z 20) (spL z 20) t).1))), (5, .int (iI (c : Int))), (6, .int (iI (left : Int))), (7, .int (iI (n : Int))), (9, .int (iI (-1)))]) C dL_laysOut_128 11 rfl (by omega) (by decide) rfl ?_
                        refine KGoto (tgt := 70) C dL_laysOut_131 (by decide) ?_
                        refine KLv (lv' := [(0, .ref (q 81)), (1, .ref (q 82)), (2, .ref (q 86)), (3, .ref (q 80)), (4, .int (iI ((asg (zP z) (rkL z 20) (spL z 20) t).1))), (5, .int (iI (c : Int))), (6, .int (iI (left : Int))), (7, .int (iI (n : Int))), (8, .int (iI (sp : Int))), (9, .int (iI (-1))), (10, .int (iI ((i + 1 : Nat) : Int)))]) [3, 4, 5, 6, 7, 8, 9, 10, 1, 11, 0] rfl ?_
                        exact ih70 (i + 1) sp (by omega) (by omega) (by omega) (by omega) (by first | exact mn_new hmn hlt | exact mn_old hmn hge)
                      · refine KAload_n C dL_laysOut_108 rfl 3 rfl ?_
                        refine KIload C dL_laysOut_109 11 rfl ?_
                        refine KIald (S := wI S f)  (v := f (q 86) (i : Int)) C 20 (hT.at0 86 20) (hT.ln0 86 20) ⟨by omega, by omega⟩ (by omega) rfl dL_laysOut_111 ?_
                        refine KAload_n C dL_laysOut_112 rfl 3 rfl ?_
                        refine KIload C dL_laysOut_113 9 rfl ?_
                        refine KIald (S := wI S f)  (v := f (q 86) (sp : Int)) C 20 (hT.at0 86 20) (hT.ln0 86 20) ⟨by omega, by omega⟩ (by omega) rfl dL_laysOut_115 ?_
                        refine KIcmp_ge (tgt := 124) C dL_laysOut_116 (by decide) ⟨by omega, by omega⟩ ⟨by omega, by omega⟩ (fun c116 => ?_) (fun c116 => ?_)
                        · have hge : ¬ ltP z (f (q 86) (i : Int)) (f (q 86) (sp : Int)) := by unfold ltP; omega
                          refine KIload C dL_laysOut_124 9 rfl ?_
                          refine KIstore (lv' := [(8, .int (iI (sp : Int))), (11, .int (iI ((dst (zN z) (zG z) 0 (f (q 86) (i : Int))) - (dst (zN z) (zG z) 0 (f (q 86) (sp : Int)))))), (0, .ref (q 81)), (1, .ref (q 82)), (2, .ref (q 86)), (3, .ref (q 80)), (4, .int (iI ((asg (zP z) (rkL z 20) (spL z 20) t).1))), (5, .int (iI (c : Int))), (6, .int (iI (left : Int))), (7, .int (iI (n : Int))), (9, .int (iI (-1))), (10, .int (iI (i : Int)))]) C dL_laysOut_126 (by decide) rfl ?_
                          refine KIinc (v := ((i + 1 : Nat) : Int)) (lv' := [(10, .int (iI ((i + 1 : Nat) : Int))), (8, .int (iI (sp : Int))), (11, .int (iI ((dst (zN z) (zG z) 0 (f (q 86) (i : Int))) - (dst (zN z) (zG z) 0 (f (q 86) (sp : Int)))))), (0, .ref (q 81)), (1, .ref (q 82)), (2, .ref (q 86)), (3, .ref (q 80)), (4, .int (iI ((asg (zP z) (rkL z 20) (spL z 20) t).1))), (5, .int (iI (c : Int))), (6, .int (iI (left : Int))), (7, .int (iI (n : Int))), (9, .int (iI (-1)))]) C dL_laysOut_128 11 rfl (by omega) (by decide) rfl ?_
                          refine KGoto (tgt := 70) C dL_laysOut_131 (by decide) ?_
                          refine KLv (lv' := [(0, .ref (q 81)), (1, .ref (q 82)), (2, .ref (q 86)), (3, .ref (q 80)), (4, .int (iI ((asg (zP z) (rkL z 20) (spL z 20) t).1))), (5, .int (iI (c : Int))), (6, .int (iI (left : Int))), (7, .int (iI (n : Int))), (8, .int (iI (sp : Int))), (9, .int (iI (-1))), (10, .int (iI ((i + 1 : Nat) : Int)))]) [3, 4, 5, 6, 7, 8, 9, 10, 1, 11, 0] rfl ?_
                          exact ih70 (i + 1) sp (by omega) (by omega) (by omega) (by omega) (by first | exact mn_new hmn hlt | exact mn_old hmn hge)
                        · have hlt : ltP z (f (q 86) (i : Int)) (f (q 86) (sp : Int)) := by unfold ltP; omega
                          refine KIload C dL_laysOut_119 11 rfl ?_
                          refine KGoto (tgt := 126) C dL_laysOut_121 (by decide) ?_
                          refine KIstore (lv' := [(8, .int (iI (i : Int))), (11, .int (iI ((dst (zN z) (zG z) 0 (f (q 86) (i : Int))) - (dst (zN z) (zG z) 0 (f (q 86) (sp : Int)))))), (0, .ref (q 81)), (1, .ref (q 82)), (2, .ref (q 86)), (3, .ref (q 80)), (4, .int (iI ((asg (zP z) (rkL z 20) (spL z 20) t).1))), (5, .int (iI (c : Int))), (6, .int (iI (left : Int))), (7, .int (iI (n : Int))), (9, .int (iI (-1))), (10, .int (iI (i : Int)))]) C dL_laysOut_126 (by decide) rfl ?_
                          refine KIinc (v := ((i + 1 : Nat) : Int)) (lv' := [(10, .int (iI ((i + 1 : Nat) : Int))), (8, .int (iI (i : Int))), (11, .int (iI ((dst (zN z) (zG z) 0 (f (q 86) (i : Int))) - (dst (zN z) (zG z) 0 (f (q 86) (sp : Int)))))), (0, .ref (q 81)), (1, .ref (q 82)), (2, .ref (q 86)), (3, .ref (q 80)), (4, .int (iI ((asg (zP z) (rkL z 20) (spL z 20) t).1))), (5, .int (iI (c : Int))), (6, .int (iI (left : Int))), (7, .int (iI (n : Int))), (9, .int (iI (-1)))]) C dL_laysOut_128 11 rfl (by omega) (by decide) rfl ?_
                          refine KGoto (tgt := 70) C dL_laysOut_131 (by decide) ?_
                          refine KLv (lv' := [(0, .ref (q 81)), (1, .ref (q 82)), (2, .ref (q 86)), (3, .ref (q 80)), (4, .int (iI ((asg (zP z) (rkL z 20) (spL z 20) t).1))), (5, .int (iI (c : Int))), (6, .int (iI (left : Int))), (7, .int (iI (n : Int))), (8, .int (iI (i : Int))), (9, .int (iI (-1))), (10, .int (iI ((i + 1 : Nat) : Int)))]) [3, 4, 5, 6, 7, 8, 9, 10, 1, 11, 0] rfl ?_
                          exact ih70 (i + 1) i (by omega) (by omega) (by omega) (by omega) (by first | exact mn_new hmn hlt | exact mn_old hmn hge)
              exact loop70 _ 1 0 (Nat.lt_succ_self _) (by omega) (by omega) (by omega) (fun j hj h9 => by rw [show j = 0 by omega] at h9; unfold ltP at h9; omega)
        exact loop56 _ c 0 left f (Nat.lt_succ_self _) (fun c9 _ h9 => hF2 c9 h9) ((hF2 _ (hT.ne 81 86)).trans lP) hA20.fin
      · refine KAload_n C dL_laysOut_19 rfl 0 rfl ?_
        refine KIload C dL_laysOut_20 7 rfl ?_
        refine KIald (S := wI S f)  (v := zP z (k : Int)) C 20 (hT.at0 81 20) (hT.ln0 81 20) ⟨by omega, by omega⟩ (by omega) ((congrFun (hF2 _ (hT.ne 81 86)) _).trans (congrFun lP _)) dL_laysOut_22 ?_
        have hpk := hW.plI (x := (k : Int)) (by omega)
        refine KIf_lt (tgt := 46) C dL_laysOut_23 (by decide) ⟨by omega, by omega⟩ (fun c23 => ?_) (fun c23 => ?_)
        · have hAn : LyA z (f (q 86)) c (k + 1) left := hA.skip (by omega)
          refine KIinc (v := ((k + 1 : Nat) : Int)) (lv' := [(7, .int (iI ((k + 1 : Nat) : Int))), (0, .ref (q 81)), (1, .ref (q 82)), (2, .ref (q 86)), (3, .ref (q 80)), (4, .int (iI 0)), (5, .int (iI (c : Int))), (6, .int (iI (left : Int)))]) C dL_laysOut_46 7 rfl (by omega) (by decide) rfl ?_
          refine KGoto (tgt := 12) C dL_laysOut_49 (by decide) ?_
          refine KLv (lv' := [(0, .ref (q 81)), (1, .ref (q 82)), (2, .ref (q 86)), (3, .ref (q 80)), (4, .int (iI 0)), (5, .int (iI (c : Int))), (6, .int (iI (left : Int))), (7, .int (iI ((k + 1 : Nat) : Int)))]) [1, 2, 3, 4, 5, 6, 7, 0] rfl ?_
          exact ih12 (k + 1) c left f (by omega) (by omega) (by first | exact hFn | exact hF2) hAn
        · have hAn : LyA z (up2 f (q 86) (c : Int) (zP z (k : Int)) (q 86)) (c + 1) (k + 1) (left ||| 2 ^ k) := by rw [up2_at]; exact hA.put hW (by omega) (by omega)
          have hFn : ∀ c9, c9 ≠ q 86 → up2 f (q 86) (c : Int) (zP z (k : Int)) c9 = sI S c9 := fun c9 h9 => (up2_row _ _ _ h9).trans (hF2 c9 h9)
          refine KAload_n C dL_laysOut_26 rfl 2 rfl ?_
          refine KIload C dL_laysOut_27 5 rfl ?_
          refine KAload_n C dL_laysOut_29 rfl 0 rfl ?_
          refine KIload C dL_laysOut_30 7 rfl ?_
          refine KIald (S := wI S f)  (v := zP z (k : Int)) C 20 (hT.at0 81 20) (hT.ln0 81 20) ⟨by omega, by omega⟩ (by omega) ((congrFun (hF2 _ (hT.ne 81 86)) _).trans (congrFun lP _)) dL_laysOut_32 ?_
          refine KIast (S := wI S f) C 20 (hT.at0 86 20) (hT.ln0 86 20) ⟨by omega, by omega⟩ (by omega) ⟨by omega, by omega⟩ dL_laysOut_33 ?_
          refine KIinc (v := ((c + 1 : Nat) : Int)) (lv' := [(5, .int (iI ((c + 1 : Nat) : Int))), (0, .ref (q 81)), (1, .ref (q 82)), (2, .ref (q 86)), (3, .ref (q 80)), (4, .int (iI 0)), (6, .int (iI (left : Int))), (7, .int (iI (k : Int)))]) C dL_laysOut_34 5 rfl (by omega) (by decide) rfl ?_
          refine KIload C dL_laysOut_37 6 rfl ?_
          refine KIconst C dL_laysOut_39 ?_
          refine KIload C dL_laysOut_40 7 rfl ?_
          refine KIshl (v := iI ((2 ^ k : Nat) : Int)) C dL_laysOut_42 (ib_shl (by omega)) ?_
          refine KIor (v := iI ((left ||| 2 ^ k : Nat) : Int)) C dL_laysOut_43 (ib_or _ _) ?_
          refine KIstore (lv' := [(6, .int (iI ((left ||| 2 ^ k : Nat) : Int))), (5, .int (iI ((c + 1 : Nat) : Int))), (0, .ref (q 81)), (1, .ref (q 82)), (2, .ref (q 86)), (3, .ref (q 80)), (4, .int (iI 0)), (7, .int (iI (k : Int)))]) C dL_laysOut_44 (by decide) rfl ?_
          refine KIinc (v := ((k + 1 : Nat) : Int)) (lv' := [(7, .int (iI ((k + 1 : Nat) : Int))), (6, .int (iI ((left ||| 2 ^ k : Nat) : Int))), (5, .int (iI ((c + 1 : Nat) : Int))), (0, .ref (q 81)), (1, .ref (q 82)), (2, .ref (q 86)), (3, .ref (q 80)), (4, .int (iI 0))]) C dL_laysOut_46 7 rfl (by omega) (by decide) rfl ?_
          refine KGoto (tgt := 12) C dL_laysOut_49 (by decide) ?_
          refine KLv (lv' := [(0, .ref (q 81)), (1, .ref (q 82)), (2, .ref (q 86)), (3, .ref (q 80)), (4, .int (iI 0)), (5, .int (iI ((c + 1 : Nat) : Int))), (6, .int (iI ((left ||| 2 ^ k : Nat) : Int))), (7, .int (iI ((k + 1 : Nat) : Int)))]) [3, 4, 5, 6, 7, 2, 1, 0] rfl ?_
          exact ih12 (k + 1) (c + 1) (left ||| 2 ^ k) (up2 f (q 86) (c : Int) (zP z (k : Int))) (by omega) (by omega) (by first | exact hFn | exact hF2) hAn
  exact loop12 _ 0 0 0 (sI S) (Nat.lt_succ_self _) (by omega) (fun _ _ => rfl) LyA.init
