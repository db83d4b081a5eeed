def P_L_plans (S : Sto) (q : Nat → Nat) (t : Int) (z : Sig) : Option Value → Sto → Prop := fun v u => v = none ∧ ∃ f, u = wI S f ∧ Lo S q f ∧ LR (wI S f) q (zjn (zwv z t))
set_option maxRecDepth 100000 in
set_option maxHeartbeats 4000000 in
theorem ct_L_plans (l : Launch) (g : GG) (S : Sto) (q : Nat → Nat) (t : Int) (z : Sig) (hT : Top S q) (hW : Wf z) (hL : LR S q z) (ht : 0 ≤ t ∧ t ≤ 999) (hzb : zb z = 0) (htk : 0 < tkN z t (zo z)) : MetS l g yL_plans cL_plans 15 (none) 4 0 0 [.int (iI t), .ref (q 81), .ref (q 83), .ref (q 84), .ref (q 87), .ref (q 88), .ref (q 80)] S (P_L_plans S q t z) := by
  refine MetS.of (own := RL) (lv := [(0, .int (iI t)), (1, .ref (q 81)), (2, .ref (q 83)), (3, .ref (q 84)), (4, .ref (q 87)), (5, .ref (q 88)), (6, .ref (q 80))]) (by decide) rfl (Nat.le_of_ble_eq_true rfl) rfl ?_
  intro pX eX sX mX argsX belowX methX cX C hin
  refine KRg (fun hR => ?_)
  have h12 : zo z ≤ 12 := hL.2.2.2.2.1
  refine KIconst C dL_plans_0 ?_
  refine KIstore (lv' := [(7, .int (iI 0)), (0, .int (iI t)), (1, .ref (q 81)), (2, .ref (q 83)), (3, .ref (q 84)), (4, .ref (q 87)), (5, .ref (q 88)), (6, .ref (q 80))]) C dL_plans_1 (by decide) rfl ?_
  refine KLv (lv' := [(0, .int (iI t)), (1, .ref (q 81)), (2, .ref (q 83)), (3, .ref (q 84)), (4, .ref (q 87)), (5, .ref (q 88)), (6, .ref (q 80)), (7, .int (iI 0))]) [1, 2, 3, 4, 5, 6, 7, 0] rfl ?_
  have loop3 : ∀ (nX : Nat) (k : Nat) (f : Nat → Int → Int), zo z - k < nX → (k ≤ zo z) → (LR (wI S f) q (zwk z t k)) → (Lo S q f) → Wk pX l eX (rmK 4 0 0) sX mX argsX belowX methX cX (MQ belowX (QcG g (P_L_plans S q t z)) argsX sX 0 0 (ge (gB g))) g 15 0 0 3 [(0, .int (iI t)), (1, .ref (q 81)), (2, .ref (q 83)), (3, .ref (q 84)), (4, .ref (q 87)), (5, .ref (q 88)), (6, .ref (q 80)), (7, .int (iI (k : Int)))] [] (wI S f) := by
    intro nX
    induction nX with
    | zero => intro k f hm; exact absurd hm (Nat.not_lt_zero _)
    | succ nX ih3 =>
      intro k f hm3 hk hLf hLo
      refine KRg (fun hR => ?_)
      refine KIload C dL_plans_3 7 rfl ?_
      refine KAload C dL_plans_5 6 rfl ?_
      refine KIconst C dL_plans_7 ?_
      refine KIald (S := wI S f)  (v := (zo z : Int)) C 8 (hT.at0 80 20) (hT.ln0 80 8) ⟨by omega, by omega⟩ (by omega) hLf.1.2.1 dL_plans_8 ?_
      refine KIcmp_ge (tgt := 79) C dL_plans_9 (by decide) ⟨by omega, by omega⟩ ⟨by omega, by omega⟩ (fun c9 => ?_) (fun c9 => ?_)
      · have hkz : k = zo z := by omega
        have hLw : LR (wI S f) q (zwv z t) := by rw [hkz] at hLf; exact hLf
        refine KIconst C dL_plans_79 ?_
        refine KIstore (lv' := [(7, .int (iI 1)), (0, .int (iI t)), (1, .ref (q 81)), (2, .ref (q 83)), (3, .ref (q 84)), (4, .ref (q 87)), (5, .ref (q 88)), (6, .ref (q 80))]) C dL_plans_80 (by decide) rfl ?_
        refine KLv (lv' := [(0, .int (iI t)), (1, .ref (q 81)), (2, .ref (q 83)), (3, .ref (q 84)), (4, .ref (q 87)), (5, .ref (q 88)), (6, .ref (q 80)), (7, .int (iI 1))]) [1, 2, 3, 4, 5, 6, 7, 0] rfl ?_
        have loop82 : ∀ (nX : Nat) (zy : Sig) (f : Nat → Int → Int) (best : Int) (c9 : Nat), c9 < nX → (Wf zy) → (LR (wI S f) q zy) → (Lo S q f) → (0 < zb zy) → (zjn zy = zjn (zwv z t)) → ((0 < best ∧ zb zy < c9) ∨ (best = 0 ∧ ¬ 0 < (zj zy).1)) → (0 ≤ best ∧ best ≤ 1320) → Wk pX l eX (rmK 4 0 0) sX mX argsX belowX methX cX (MQ belowX (QcG g (P_L_plans S q t z)) argsX sX 0 0 (ge (gB g))) g 15 0 0 82 [(0, .int (iI t)), (1, .ref (q 81)), (2, .ref (q 83)), (3, .ref (q 84)), (4, .ref (q 87)), (5, .ref (q 88)), (6, .ref (q 80)), (7, .int (iI best))] [] (wI S f) := by
          intro nX
          induction nX with
          | zero => intro zy f best c9 hm; exact absurd hm (Nat.not_lt_zero _)
          | succ nX ih82 =>
            intro zy f best c9 hm82 hWz hLz hLo hbz hjn hc9 hbb
            refine KRg (fun hR => ?_)
            refine KIload C dL_plans_82 7 rfl ?_
            refine KIf_le (tgt := 365) C dL_plans_84 (by decide) ⟨by omega, by omega⟩ (fun c84 => ?_) (fun c84 => ?_)
            · have hfin : LR (wI S f) q (zjn (zwv z t)) := by rw [← hjn, zjn_end (by omega)]; exact hLz
              refine KVret C rfl (by
                exact ⟨rfl, f, rfl, hLo, hfin⟩) (by decide) (by decide) dL_plans_365
            · have hz12b : zo zy ≤ 12 := hLz.2.2.2.2.1
              have hz12 : zb zy ≤ 12 := Nat.le_trans hWz.2.1.2 hLz.2.2.2.2.1
              obtain ⟨n2, hn2⟩ : ∃ n2 : Nat, n2 = zb zy * zb zy := ⟨_, rfl⟩
              have hn2b : n2 ≤ 144 := by rw [hn2]; exact Nat.mul_le_mul hz12 hz12
              have hCz := hWz.1
              have hC6 : zC zy ≤ 6 := hLz.2.2.2.2.2
              refine KIconst C dL_plans_87 ?_
              refine KIstore (lv' := [(7, .int (iI 0)), (0, .int (iI t)), (1, .ref (q 81)), (2, .ref (q 83)), (3, .ref (q 84)), (4, .ref (q 87)), (5, .ref (q 88)), (6, .ref (q 80))]) C dL_plans_88 (by decide) rfl ?_
              refine KIconst C dL_plans_90 ?_
              refine KIstore (lv' := [(8, .int (iI 0)), (7, .int (iI 0)), (0, .int (iI t)), (1, .ref (q 81)), (2, .ref (q 83)), (3, .ref (q 84)), (4, .ref (q 87)), (5, .ref (q 88)), (6, .ref (q 80))]) C dL_plans_91 (by decide) rfl ?_
              refine KIconst C dL_plans_93 ?_
              refine KIstore (lv' := [(9, .int (iI 0)), (8, .int (iI 0)), (7, .int (iI 0)), (0, .int (iI t)), (1, .ref (q 81)), (2, .ref (q 83)), (3, .ref (q 84)), (4, .ref (q 87)), (5, .ref (q 88)), (6, .ref (q 80))]) C dL_plans_94 (by decide) rfl ?_
              refine KLv (lv' := [(0, .int (iI t)), (1, .ref (q 81)), (2, .ref (q 83)), (3, .ref (q 84)), (4, .ref (q 87)), (5, .ref (q 88)), (6, .ref (q 80)), (7, .int (iI 0)), (8, .int (iI 0)), (9, .int (iI 0))]) [3, 4, 5, 6, 7, 8, 9, 2, 1, 0] rfl ?_
              have loop96 : ∀ (nX : Nat) (k : Nat) (h : Nat → Int → Int), n2 - k < nX → (k ≤ n2) → (KR (wI S f) q h) → (LR (wI S h) q zy) → Wk pX l eX (rmK 4 0 0) sX mX argsX belowX methX cX (MQ belowX (QcG g (P_L_plans S q t z)) argsX sX 0 0 (ge (gB g))) g 15 0 0 96 [(0, .int (iI t)), (1, .ref (q 81)), (2, .ref (q 83)), (3, .ref (q 84)), (4, .ref (q 87)), (5, .ref (q 88)), (6, .ref (q 80)), (7, .int (iI ((pjk zy k).1))), (8, .int (iI (((pjk zy k).2 : Nat) : Int))), (9, .int (iI (k : Int)))] [] (wI S h) := by
                intro nX
                induction nX with
                | zero => intro k h hm; exact absurd hm (Nat.not_lt_zero _)
                | succ nX ih96 =>
                  intro k h hm96 hk hKh hLh
                  refine KRg (fun hR => ?_)
                  have hpb := pjk_b hWz k
                  refine KIload C dL_plans_96 9 rfl ?_
                  refine KAload C dL_plans_98 6 rfl ?_
                  refine KIconst C dL_plans_100 ?_
                  refine KIald (S := wI S h)  (v := (zb zy : Int)) C 8 (hT.at0 80 20) (hT.ln0 80 8) ⟨by omega, by omega⟩ (by omega) hLh.1.2.2.1 dL_plans_101 ?_
                  refine KAload C dL_plans_102 6 rfl ?_
                  refine KIconst C dL_plans_104 ?_
                  refine KIald (S := wI S h)  (v := (zb zy : Int)) C 8 (hT.at0 80 20) (hT.ln0 80 8) ⟨by omega, by omega⟩ (by omega) hLh.1.2.2.1 dL_plans_105 ?_
                  refine KImul C dL_plans_106 ?_
                  refine KTop (congrArg iI (show (zb zy : Int) * (zb zy : Int) = (n2 : Int) from (by rw [hn2, Int.natCast_mul]))) ?_
                  refine KIcmp_ge (tgt := 262) C dL_plans_107 (by decide) ⟨by omega, by omega⟩ ⟨by omega, by omega⟩ (fun c107 => ?_) (fun c107 => ?_)
                  · have hkk : k = zb zy * zb zy := by rw [← hn2]; omega
                    obtain ⟨bv, pr, hbp⟩ : ∃ (bv : Int) (pr : Nat), pjk zy k = (bv, pr) := ⟨_, _, rfl⟩
                    have hrp : RPj (zb zy) (bv, pr) (zj zy) := by rw [← hbp, hkk]; exact pjk_zj hWz hbz
                    have hr1 : bv = (zj zy).1 := hrp.1
                    have hpb2 : 0 ≤ bv ∧ bv ≤ 1320 ∧ pr ≤ k := by have h9 := hpb; rw [hbp] at h9; exact h9
                    have hLoh : Lo S q h := hLo.kr hKh
                    obtain ⟨fi9, hfi⟩ : ∃ n9 : Nat, n9 = pr / zb zy := ⟨_, rfl⟩
                    obtain ⟨se9, hse⟩ : ∃ n9 : Nat, n9 = pr % zb zy := ⟨_, rfl⟩
                    have hfb : fi9 ≤ pr := by rw [hfi]; exact Nat.div_le_self _ _
                    have hsb : se9 < zb zy := by rw [hse]; exact Nat.mod_lt _ hbz
                    have he1 : 0 < bv → (fi9 : Int) = (zj zy).2.1 := fun h9 => by rw [hfi]; exact (hrp.2 h9).1
                    have he2 : 0 < bv → (se9 : Int) = (zj zy).2.2 := fun h9 => by rw [hse]; exact (hrp.2 h9).2
                    refine KLvE (lv2 := [(0, .int (iI t)), (1, .ref (q 81)), (2, .ref (q 83)), (3, .ref (q 84)), (4, .ref (q 87)), (5, .ref (q 88)), (6, .ref (q 80)), (7, .int (iI bv)), (8, .int (iI (((pjk zy k).2 : Nat) : Int))), (9, .int (iI (k : Int)))]) (congrArg (fun zz : Int => ([(0, .int (iI t)), (1, .ref (q 81)), (2, .ref (q 83)), (3, .ref (q 84)), (4, .ref (q 87)), (5, .ref (q 88)), (6, .ref (q 80)), (7, .int (iI zz)), (8, .int (iI (((pjk zy k).2 : Nat) : Int))), (9, .int (iI (k : Int)))] : List (Nat × Value))) (show ((pjk zy k).1 : Int) = bv from (by rw [hbp]))) ?_
                    refine KLvE (lv2 := [(0, .int (iI t)), (1, .ref (q 81)), (2, .ref (q 83)), (3, .ref (q 84)), (4, .ref (q 87)), (5, .ref (q 88)), (6, .ref (q 80)), (7, .int (iI bv)), (8, .int (iI (pr : Int))), (9, .int (iI (k : Int)))]) (congrArg (fun zz : Int => ([(0, .int (iI t)), (1, .ref (q 81)), (2, .ref (q 83)), (3, .ref (q 84)), (4, .ref (q 87)), (5, .ref (q 88)), (6, .ref (q 80)), (7, .int (iI bv)), (8, .int (iI zz)), (9, .int (iI (k : Int)))] : List (Nat × Value))) (show ((((pjk zy k).2 : Nat) : Int) : Int) = (pr : Int) from (by rw [hbp]))) ?_
                    refine KIload C dL_plans_262 8 rfl ?_
                    refine KAload C dL_plans_264 6 rfl ?_
                    refine KIconst C dL_plans_266 ?_
                    refine KIald (S := wI S h)  (v := (zb zy : Int)) C 8 (hT.at0 80 20) (hT.ln0 80 8) ⟨by omega, by omega⟩ (by omega) hLh.1.2.2.1 dL_plans_267 ?_
                    refine KIrem (z := (se9 : Int)) C dL_plans_268 ⟨by omega, by omega⟩ ⟨by omega, by omega⟩ (by omega) (by rw [hse]; exact (tmod_pos (by omega)).trans (Int.natCast_emod _ _).symm) ?_
                    refine KIstore (lv' := [(9, .int (iI (se9 : Int))), (0, .int (iI t)), (1, .ref (q 81)), (2, .ref (q 83)), (3, .ref (q 84)), (4, .ref (q 87)), (5, .ref (q 88)), (6, .ref (q 80)), (7, .int (iI bv)), (8, .int (iI (pr : Int)))]) C dL_plans_269 (by decide) rfl ?_
                    refine KIconst C dL_plans_271 ?_
                    refine KIstore (lv' := [(10, .int (iI 0)), (9, .int (iI (se9 : Int))), (0, .int (iI t)), (1, .ref (q 81)), (2, .ref (q 83)), (3, .ref (q 84)), (4, .ref (q 87)), (5, .ref (q 88)), (6, .ref (q 80)), (7, .int (iI bv)), (8, .int (iI (pr : Int)))]) C dL_plans_272 (by decide) rfl ?_
                    refine KLv (lv' := [(0, .int (iI t)), (1, .ref (q 81)), (2, .ref (q 83)), (3, .ref (q 84)), (4, .ref (q 87)), (5, .ref (q 88)), (6, .ref (q 80)), (7, .int (iI bv)), (8, .int (iI (pr : Int))), (9, .int (iI (se9 : Int))), (10, .int (iI 0))]) [2, 3, 4, 5, 6, 7, 8, 9, 10, 1, 0] rfl ?_
                    have loop274 : ∀ (nX : Nat) (k : Nat) (h2 : Nat → Int → Int), zo zy - k < nX → (k ≤ zo zy) → (LR (wI S h2) q (zmk zy (fi9 : Int) (se9 : Int) k)) → (Lo S q h2) → (0 < bv ∨ k = 0) → Wk pX l eX (rmK 4 0 0) sX mX argsX belowX methX cX (MQ belowX (QcG g (P_L_plans S q t z)) argsX sX 0 0 (ge (gB g))) g 15 0 0 274 [(0, .int (iI t)), (1, .ref (q 81)), (2, .ref (q 83)), (3, .ref (q 84)), (4, .ref (q 87)), (5, .ref (q 88)), (6, .ref (q 80)), (7, .int (iI bv)), (8, .int (iI (pr : Int))), (9, .int (iI (se9 : Int))), (10, .int (iI (k : Int)))] [] (wI S h2) := by
                      intro nX
                      induction nX with
                      | zero => intro k h2 hm; exact absurd hm (Nat.not_lt_zero _)
                      | succ nX ih274 =>
                        intro k h2 hm274 hk hMk hLo2 hk0
                        refine KRg (fun hR => ?_)
                        refine KIload C dL_plans_274 10 rfl ?_
                        refine KAload C dL_plans_276 6 rfl ?_
                        refine KIconst C dL_plans_278 ?_
                        refine KIald (S := wI S h2)  (v := (zo zy : Int)) C 8 (hT.at0 80 20) (hT.ln0 80 8) ⟨by omega, by omega⟩ (by omega) hMk.1.2.1 dL_plans_279 ?_
                        refine KIcmp_ge (tgt := 345) C dL_plans_280 (by decide) ⟨by omega, by omega⟩ ⟨by omega, by omega⟩ (fun c280 => ?_) (fun c280 => ?_)
                        · refine KAload C dL_plans_345 6 rfl ?_
                          refine KIconst C dL_plans_347 ?_
                          refine KDup2 C dL_plans_348 rfl rfl ?_
                          refine KIald (S := wI S h2)  (v := (zb zy : Int)) C 8 (hT.at0 80 20) (hT.ln0 80 8) ⟨by omega, by omega⟩ (by omega) hMk.1.2.2.1 dL_plans_349 ?_
                          refine KIload C dL_plans_350 7 rfl ?_
                          refine KIf_le (tgt := 359) C dL_plans_352 (by decide) ⟨by omega, by omega⟩ (fun c352 => ?_) (fun c352 => ?_)
                          · have hk00 : k = 0 := by omega
                            have hbv0 : bv = 0 := by omega
                            have hWn := hWz
                            have hLn2 : LR (wI S (up2 h2 (q 80) 2 ((zb zy : Int) - 0))) q zy := LR.nb0 hT (by rw [hk00, zmk_0] at hMk; exact hMk)
                            have hbn := hbz
                            have hjn2 := hjn
                            have hcn : (0 < bv ∧ zb zy < c9 - 1) ∨ (bv = 0 ∧ ¬ 0 < (zj zy).1) := Or.inr ⟨hbv0, by omega⟩
                            refine KIconst C dL_plans_359 ?_
                            refine KIsub C dL_plans_360 ?_
                            refine KIast (S := wI S h2) C 8 (hT.at0 80 20) (hT.ln0 80 8) ⟨by omega, by omega⟩ (by omega) ⟨by omega, by omega⟩ dL_plans_361 ?_
                            refine KGoto (tgt := 82) C dL_plans_362 (by decide) ?_
                            refine KLv (lv' := [(0, .int (iI t)), (1, .ref (q 81)), (2, .ref (q 83)), (3, .ref (q 84)), (4, .ref (q 87)), (5, .ref (q 88)), (6, .ref (q 80)), (7, .int (iI bv))]) [0, 1, 2, 3, 4, 5, 6, 7] rfl ?_
                            exact ih82 zy (up2 h2 (q 80) 2 ((zb zy : Int) - 0)) bv (c9 - 1) (by omega) hWn hLn2 (hLo2.up 80 _ _) hbn hjn2 hcn (by omega)
                          · have hkz2 : k = zo zy := by omega
                            have hg1 := he1 (by omega)
                            have hg2 := he2 (by omega)
                            have hzp : 0 < (zj zy).1 := by omega
                            have hlt9 : fi9 < se9 := by rcases zj_in (z := zy) with ⟨e9, -⟩ | ⟨x9, y9, h9, h8, e9, -⟩; omega; rw [e9] at hg1 hg2; dsimp only at hg1 hg2; omega
                            have hWn : Wf (zjo zy (fi9 : Int) (se9 : Int)) := by rw [hg1, hg2]; exact hWz.jo hzp
                            have hLn2 : LR (wI S (up2 h2 (q 80) 2 ((zb zy : Int) - 1))) q (zjo zy (fi9 : Int) (se9 : Int)) := LR.mgE hT (by omega) hbz (by rw [hkz2] at hMk; exact hMk)
                            have hbn : 0 < zb (zjo zy (fi9 : Int) (se9 : Int)) := by show 0 < zb zy - 1; omega
                            have hjn2 : zjn (zjo zy (fi9 : Int) (se9 : Int)) = zjn (zwv z t) := by rw [hg1, hg2, ← zjn_step hzp]; exact hjn
                            have hcn : (0 < bv ∧ zb (zjo zy (fi9 : Int) (se9 : Int)) < c9 - 1) ∨ (bv = 0 ∧ ¬ 0 < (zj (zjo zy (fi9 : Int) (se9 : Int))).1) := Or.inl ⟨by omega, by show zb zy - 1 < c9 - 1; omega⟩
                            refine KIconst C dL_plans_355 ?_
                            refine KGoto (tgt := 360) C dL_plans_356 (by decide) ?_
                            refine KIsub C dL_plans_360 ?_
                            refine KIast (S := wI S h2) C 8 (hT.at0 80 20) (hT.ln0 80 8) ⟨by omega, by omega⟩ (by omega) ⟨by omega, by omega⟩ dL_plans_361 ?_
                            refine KGoto (tgt := 82) C dL_plans_362 (by decide) ?_
                            refine KLv (lv' := [(0, .int (iI t)), (1, .ref (q 81)), (2, .ref (q 83)), (3, .ref (q 84)), (4, .ref (q 87)), (5, .ref (q 88)), (6, .ref (q 80)), (7, .int (iI bv))]) [0, 1, 2, 3, 4, 5, 6, 7] rfl ?_
                            exact ih82 (zjo zy (fi9 : Int) (se9 : Int)) (up2 h2 (q 80) 2 ((zb zy : Int) - 1)) bv (c9 - 1) (by omega) hWn hLn2 (hLo2.up 80 _ _) hbn hjn2 hcn (by omega)
                        · have hko : k < zo zy := by omega
                          have hbk := hWz.bt hko
                          refine KIload C dL_plans_283 7 rfl ?_
                          refine KIf_le (tgt := 345) C dL_plans_285 (by decide) ⟨by omega, by omega⟩ (fun c285 => ?_) (fun c285 => ?_)
                          · refine KAload C dL_plans_345 6 rfl ?_
                            refine KIconst C dL_plans_347 ?_
                            refine KDup2 C dL_plans_348 rfl rfl ?_
                            refine KIald (S := wI S h2)  (v := (zb zy : Int)) C 8 (hT.at0 80 20) (hT.ln0 80 8) ⟨by omega, by omega⟩ (by omega) hMk.1.2.2.1 dL_plans_349 ?_
                            refine KIload C dL_plans_350 7 rfl ?_
                            refine KIf_le (tgt := 359) C dL_plans_352 (by decide) ⟨by omega, by omega⟩ (fun c352 => ?_) (fun c352 => absurd c352 (by omega))
                            have hk00 : k = 0 := by omega
                            have hbv0 : bv = 0 := by omega
                            have hWn := hWz
                            have hLn2 : LR (wI S (up2 h2 (q 80) 2 ((zb zy : Int) - 0))) q zy := LR.nb0 hT (by rw [hk00, zmk_0] at hMk; exact hMk)
                            have hbn := hbz
                            have hjn2 := hjn
                            have hcn : (0 < bv ∧ zb zy < c9 - 1) ∨ (bv = 0 ∧ ¬ 0 < (zj zy).1) := Or.inr ⟨hbv0, by omega⟩
                            refine KIconst C dL_plans_359 ?_
                            refine KIsub C dL_plans_360 ?_
                            refine KIast (S := wI S h2) C 8 (hT.at0 80 20) (hT.ln0 80 8) ⟨by omega, by omega⟩ (by omega) ⟨by omega, by omega⟩ dL_plans_361 ?_
                            refine KGoto (tgt := 82) C dL_plans_362 (by decide) ?_
                            refine KLv (lv' := [(0, .int (iI t)), (1, .ref (q 81)), (2, .ref (q 83)), (3, .ref (q 84)), (4, .ref (q 87)), (5, .ref (q 88)), (6, .ref (q 80)), (7, .int (iI bv))]) [0, 1, 2, 3, 4, 5, 6, 7] rfl ?_
                            exact ih82 zy (up2 h2 (q 80) 2 ((zb zy : Int) - 0)) bv (c9 - 1) (by omega) hWn hLn2 (hLo2.up 80 _ _) hbn hjn2 hcn (by omega)
                          · refine KAload_n C dL_plans_288 rfl 2 rfl ?_
                            refine KIconst C dL_plans_289 ?_
                            refine KIload C dL_plans_290 10 rfl ?_
                            refine KImul C dL_plans_292 ?_
                            refine KIconst C dL_plans_293 ?_
                            refine KIadd C dL_plans_294 ?_
                            refine KTop (congrArg iI (show (4 * (k : Int)) + 2 = ((4 * k + 2 : Nat) : Int) from (by omega))) ?_
                            refine KIald (S := wI S h2)  (v := zbt zy (k : Int)) C 48 (hT.at0 83 20) (hT.ln0 83 48) ⟨by omega, by omega⟩ (by omega) ((hMk.2.2.1 k hko).2.2.1.trans (mjk_at _ _ _ _)) dL_plans_295 ?_
                            have rb1 := hR.b (q 83) ((4 * k + 2 : Nat) : Int) (v := zbt zy (k : Int)) ((hMk.2.2.1 k hko).2.2.1.trans (mjk_at _ _ _ _))
                            refine KIstore (lv' := [(11, .int (iI (zbt zy (k : Int)))), (0, .int (iI t)), (1, .ref (q 81)), (2, .ref (q 83)), (3, .ref (q 84)), (4, .ref (q 87)), (5, .ref (q 88)), (6, .ref (q 80)), (7, .int (iI bv)), (8, .int (iI (pr : Int))), (9, .int (iI (se9 : Int))), (10, .int (iI (k : Int)))]) C dL_plans_296 (by decide) rfl ?_
                            refine KAload_n C dL_plans_298 rfl 3 rfl ?_
                            refine KIconst C dL_plans_299 ?_
                            refine KIload C dL_plans_300 11 rfl ?_
                            refine KImul C dL_plans_302 ?_
                            refine KIconst C dL_plans_303 ?_
                            refine KIadd C dL_plans_304 ?_
                            refine KTop (congrArg iI (show (4 * (k : Int)) + 2 = ((4 * k + 2 : Nat) : Int) from (by omega))) ?_
                            refine KIload C dL_plans_305 0 rfl ?_
                            refine KIload C dL_plans_307 10 rfl ?_
                            refine KIcmp_ne (tgt := 322) C dL_plans_309 (by decide) ⟨by omega, by omega⟩ ⟨by omega, by omega⟩ (fun c309 => ?_) (fun c309 => ?_)
                            · refine KIload C dL_plans_322 0 rfl ?_
                              refine KIload C dL_plans_324 10 rfl ?_
                              refine KIcmp_le (tgt := 336) C dL_plans_326 (by decide) ⟨by omega, by omega⟩ ⟨by omega, by omega⟩ (fun c326 => ?_) (fun c326 => ?_)
                              · refine KIload C dL_plans_336 0 rfl ?_
                                refine KIast (S := wI S h2) C 48 (hT.at0 83 20) (hT.ln0 83 48) ⟨by omega, by omega⟩ (by omega) ⟨by omega, by omega⟩ dL_plans_338 ?_
                                refine KIinc (v := ((k + 1 : Nat) : Int)) (lv' := [(10, .int (iI ((k + 1 : Nat) : Int))), (11, .int (iI (zbt zy (k : Int)))), (0, .int (iI t)), (1, .ref (q 81)), (2, .ref (q 83)), (3, .ref (q 84)), (4, .ref (q 87)), (5, .ref (q 88)), (6, .ref (q 80)), (7, .int (iI bv)), (8, .int (iI (pr : Int))), (9, .int (iI (se9 : Int)))]) C dL_plans_339 11 rfl (by omega) (by decide) rfl ?_
                                refine KGoto (tgt := 274) C dL_plans_342 (by decide) ?_
                                refine KLv (lv' := [(0, .int (iI t)), (1, .ref (q 81)), (2, .ref (q 83)), (3, .ref (q 84)), (4, .ref (q 87)), (5, .ref (q 88)), (6, .ref (q 80)), (7, .int (iI bv)), (8, .int (iI (pr : Int))), (9, .int (iI (se9 : Int))), (10, .int (iI ((k + 1 : Nat) : Int)))]) [2, 3, 4, 5, 6, 7, 8, 9, 10, 11, 0] rfl ?_
                                exact ih274 (k + 1) (up2 h2 (q 83) ((4 * k + 2 : Nat) : Int) (zbt zy (k : Int))) (by omega) (by omega) (by exact LR.mg hT hMk (by first | rw [if_pos (by omega)] | rw [if_neg (by omega), if_pos (by omega)] | rw [if_neg (by omega), if_neg (by omega)])) (hLo2.up 83 _ _) (Or.inl (by omega))
                              · refine KIload C dL_plans_329 0 rfl ?_
                                refine KIconst C dL_plans_331 ?_
                                refine KIsub C dL_plans_332 ?_
                                refine KGoto (tgt := 338) C dL_plans_333 (by decide) ?_
                                refine KIast (S := wI S h2) C 48 (hT.at0 83 20) (hT.ln0 83 48) ⟨by omega, by omega⟩ (by omega) ⟨by omega, by omega⟩ dL_plans_338 ?_
                                refine KIinc (v := ((k + 1 : Nat) : Int)) (lv' := [(10, .int (iI ((k + 1 : Nat) : Int))), (11, .int (iI (zbt zy (k : Int)))), (0, .int (iI t)), (1, .ref (q 81)), (2, .ref (q 83)), (3, .ref (q 84)), (4, .ref (q 87)), (5, .ref (q 88)), (6, .ref (q 80)), (7, .int (iI bv)), (8, .int (iI (pr : Int))), (9, .int (iI (se9 : Int)))]) C dL_plans_339 11 rfl (by omega) (by decide) rfl ?_
                                refine KGoto (tgt := 274) C dL_plans_342 (by decide) ?_
                                refine KLv (lv' := [(0, .int (iI t)), (1, .ref (q 81)), (2, .ref (q 83)), (3, .ref (q 84)), (4, .ref (q 87)), (5, .ref (q 88)), (6, .ref (q 80)), (7, .int (iI bv)), (8, .int (iI (pr : Int))), (9, .int (iI (se9 : Int))), (10, .int (iI ((k + 1 : Nat) : Int)))]) [2, 3, 4, 5, 6, 7, 8, 9, 10, 11, 0] rfl ?_
                                exact ih274 (k + 1) (up2 h2 (q 83) ((4 * k + 2 : Nat) : Int) ((zbt zy (k : Int)) - 1)) (by omega) (by omega) (by exact LR.mg hT hMk (by first | rw [if_pos (by omega)] | rw [if_neg (by omega), if_pos (by omega)] | rw [if_neg (by omega), if_neg (by omega)])) (hLo2.up 83 _ _) (Or.inl (by omega))
                            · refine KIload C dL_plans_312 9 rfl ?_
                              refine KAload C dL_plans_314 7 rfl ?_
                              refine KIconst C dL_plans_316 ?_
                              refine KIald (S := wI S h2)  (v := (zb zy : Int)) C 8 (hT.at0 80 20) (hT.ln0 80 8) ⟨by omega, by omega⟩ (by omega) hMk.1.2.2.1 dL_plans_317 ?_
                              refine KIdiv (z := (fi9 : Int)) C dL_plans_318 ⟨by omega, by omega⟩ ⟨by omega, by omega⟩ (by omega) (by rw [hfi]; exact (tdiv_pos (by omega)).trans (Int.natCast_ediv _ _).symm) ?_
                              refine KGoto (tgt := 338) C dL_plans_319 (by decide) ?_
                              refine KIast (S := wI S h2) C 48 (hT.at0 83 20) (hT.ln0 83 48) ⟨by omega, by omega⟩ (by omega) ⟨by omega, by omega⟩ dL_plans_338 ?_
                              refine KIinc (v := ((k + 1 : Nat) : Int)) (lv' := [(10, .int (iI ((k + 1 : Nat) : Int))), (11, .int (iI (zbt zy (k : Int)))), (0, .int (iI t)), (1, .ref (q 81)), (2, .ref (q 83)), (3, .ref (q 84)), (4, .ref (q 87)), (5, .ref (q 88)), (6, .ref (q 80)), (7, .int (iI bv)), (8, .int (iI (pr : Int))), (9, .int (iI (se9 : Int)))]) C dL_plans_339 11 rfl (by omega) (by decide) rfl ?_
                              refine KGoto (tgt := 274) C dL_plans_342 (by decide) ?_
                              refine KLv (lv' := [(0, .int (iI t)), (1, .ref (q 81)), (2, .ref (q 83)), (3, .ref (q 84)), (4, .ref (q 87)), (5, .ref (q 88)), (6, .ref (q 80)), (7, .int (iI bv)), (8, .int (iI (pr : Int))), (9, .int (iI (se9 : Int))), (10, .int (iI ((k + 1 : Nat) : Int)))]) [2, 3, 4, 5, 6, 7, 8, 9, 10, 11, 0] rfl ?_
                              exact ih274 (k + 1) (up2 h2 (q 83) ((4 * k + 2 : Nat) : Int) (fi9 : Int)) (by omega) (by omega) (by exact LR.mg hT hMk (by first | rw [if_pos (by omega)] | rw [if_neg (by omega), if_pos (by omega)] | rw [if_neg (by omega), if_neg (by omega)])) (hLo2.up 83 _ _) (Or.inl (by omega))
                    exact loop274 _ 0 h (Nat.lt_succ_self _) (by omega) (by rw [zmk_0]; exact hLh) hLoh (Or.inr rfl)
                  · obtain ⟨a9, ha9⟩ : ∃ n9 : Nat, n9 = k / zb zy := ⟨_, rfl⟩
                    obtain ⟨b9, hb9⟩ : ∃ n9 : Nat, n9 = k % zb zy := ⟨_, rfl⟩
                    have hab : a9 < zb zy := by rw [ha9]; exact Nat.div_lt_of_lt_mul (by rw [← hn2]; omega)
                    have hbb9 : b9 < zb zy := by rw [hb9]; exact Nat.mod_lt _ hbz
                    refine KIload C dL_plans_110 9 rfl ?_
                    refine KAload C dL_plans_112 6 rfl ?_
                    refine KIconst C dL_plans_114 ?_
                    refine KIald (S := wI S h)  (v := (zb zy : Int)) C 8 (hT.at0 80 20) (hT.ln0 80 8) ⟨by omega, by omega⟩ (by omega) hLh.1.2.2.1 dL_plans_115 ?_
                    refine KIdiv (z := (a9 : Int)) C dL_plans_116 ⟨by omega, by omega⟩ ⟨by omega, by omega⟩ (by omega) (by rw [ha9]; exact (tdiv_pos (by omega)).trans (Int.natCast_ediv _ _).symm) ?_
                    refine KIstore (lv' := [(10, .int (iI (a9 : Int))), (0, .int (iI t)), (1, .ref (q 81)), (2, .ref (q 83)), (3, .ref (q 84)), (4, .ref (q 87)), (5, .ref (q 88)), (6, .ref (q 80)), (7, .int (iI ((pjk zy k).1))), (8, .int (iI (((pjk zy k).2 : Nat) : Int))), (9, .int (iI (k : Int)))]) C dL_plans_117 (by decide) rfl ?_
                    refine KIload C dL_plans_119 10 rfl ?_
                    refine KAload C dL_plans_121 7 rfl ?_
                    refine KIconst C dL_plans_123 ?_
                    refine KIald (S := wI S h)  (v := (zb zy : Int)) C 8 (hT.at0 80 20) (hT.ln0 80 8) ⟨by omega, by omega⟩ (by omega) hLh.1.2.2.1 dL_plans_124 ?_
                    refine KIrem (z := (b9 : Int)) C dL_plans_125 ⟨by omega, by omega⟩ ⟨by omega, by omega⟩ (by omega) (by rw [hb9]; exact (tmod_pos (by omega)).trans (Int.natCast_emod _ _).symm) ?_
                    refine KIstore (lv' := [(11, .int (iI (b9 : Int))), (10, .int (iI (a9 : Int))), (0, .int (iI t)), (1, .ref (q 81)), (2, .ref (q 83)), (3, .ref (q 84)), (4, .ref (q 87)), (5, .ref (q 88)), (6, .ref (q 80)), (7, .int (iI ((pjk zy k).1))), (8, .int (iI (((pjk zy k).2 : Nat) : Int))), (9, .int (iI (k : Int)))]) C dL_plans_126 (by decide) rfl ?_
                    refine KIload C dL_plans_128 1 rfl ?_
                    refine KIload C dL_plans_130 0 rfl ?_
                    refine KIcmp_ge (tgt := 256) C dL_plans_132 (by decide) ⟨by omega, by omega⟩ ⟨by omega, by omega⟩ (fun c132 => ?_) (fun c132 => ?_)
                    · have hpf : pjk zy (k + 1) = pjk zy k := pjk_f (Or.inl (by rw [← ha9, ← hb9]; omega))
                      refine KLvE (lv2 := [(11, .int (iI (b9 : Int))), (10, .int (iI (a9 : Int))), (0, .int (iI t)), (1, .ref (q 81)), (2, .ref (q 83)), (3, .ref (q 84)), (4, .ref (q 87)), (5, .ref (q 88)), (6, .ref (q 80)), (7, .int (iI ((pjk zy (k + 1)).1))), (8, .int (iI (((pjk zy k).2 : Nat) : Int))), (9, .int (iI (k : Int)))]) (congrArg (fun zz : Int => ([(11, .int (iI (b9 : Int))), (10, .int (iI (a9 : Int))), (0, .int (iI t)), (1, .ref (q 81)), (2, .ref (q 83)), (3, .ref (q 84)), (4, .ref (q 87)), (5, .ref (q 88)), (6, .ref (q 80)), (7, .int (iI zz)), (8, .int (iI (((pjk zy k).2 : Nat) : Int))), (9, .int (iI (k : Int)))] : List (Nat × Value))) (show ((pjk zy k).1 : Int) = (pjk zy (k + 1)).1 from (by rw [hpf]))) ?_
                      refine KLvE (lv2 := [(11, .int (iI (b9 : Int))), (10, .int (iI (a9 : Int))), (0, .int (iI t)), (1, .ref (q 81)), (2, .ref (q 83)), (3, .ref (q 84)), (4, .ref (q 87)), (5, .ref (q 88)), (6, .ref (q 80)), (7, .int (iI ((pjk zy (k + 1)).1))), (8, .int (iI (((pjk zy (k + 1)).2 : Nat) : Int))), (9, .int (iI (k : Int)))]) (congrArg (fun zz : Int => ([(11, .int (iI (b9 : Int))), (10, .int (iI (a9 : Int))), (0, .int (iI t)), (1, .ref (q 81)), (2, .ref (q 83)), (3, .ref (q 84)), (4, .ref (q 87)), (5, .ref (q 88)), (6, .ref (q 80)), (7, .int (iI ((pjk zy (k + 1)).1))), (8, .int (iI zz)), (9, .int (iI (k : Int)))] : List (Nat × Value))) (show ((((pjk zy k).2 : Nat) : Int) : Int) = (((pjk zy (k + 1)).2 : Nat) : Int) from (by rw [hpf]))) ?_
                      refine KIinc (v := ((k + 1 : Nat) : Int)) (lv' := [(9, .int (iI ((k + 1 : Nat) : Int))), (11, .int (iI (b9 : Int))), (10, .int (iI (a9 : Int))), (0, .int (iI t)), (1, .ref (q 81)), (2, .ref (q 83)), (3, .ref (q 84)), (4, .ref (q 87)), (5, .ref (q 88)), (6, .ref (q 80)), (7, .int (iI ((pjk zy (k + 1)).1))), (8, .int (iI (((pjk zy (k + 1)).2 : Nat) : Int)))]) C dL_plans_256 11 rfl (by omega) (by decide) rfl ?_
                      refine KGoto (tgt := 96) C dL_plans_259 (by decide) ?_
                      refine KLv (lv' := [(0, .int (iI t)), (1, .ref (q 81)), (2, .ref (q 83)), (3, .ref (q 84)), (4, .ref (q 87)), (5, .ref (q 88)), (6, .ref (q 80)), (7, .int (iI ((pjk zy (k + 1)).1))), (8, .int (iI (((pjk zy (k + 1)).2 : Nat) : Int))), (9, .int (iI ((k + 1 : Nat) : Int)))]) [3, 4, 5, 6, 7, 8, 9, 10, 11, 0] rfl ?_
                      exact ih96 (k + 1) h (by omega) (by omega) (by first | exact hK218 | exact hKh) (by first | exact hL218 | exact hLh)
                    · refine KIload C dL_plans_135 1 rfl ?_
                      refine KAload_n C dL_plans_137 rfl 4 rfl ?_
                      refine KAload C dL_plans_138 8 rfl ?_
                      refine KCallS (As := [.int (iI (a9 : Int)), .ref (q 83), .ref (q 80)]) (st := []) C (ct_L_lines l g (wI S h) q (a9 : Int) zy hT hWz hLh (by omega)) u_ml_RL_60 u_st_yL_lines u_in_RL u_co_yL_lines hd_yL_lines ⟨Nat.le_of_ble_eq_true rfl, Nat.le_of_ble_eq_true rfl⟩ ⟨Nat.le_of_ble_eq_true rfl, Nat.le_of_ble_eq_true rfl⟩ (Nat.le_of_ble_eq_true rfl) dL_plans_140 rfl (fun v140 u140 hp140 => ?_)
                      obtain ⟨rfl, rfl⟩ := hp140
                      refine KSt (st2 := [.int (iI (zln zy (a9 : Int)))]) rfl ?_
                      refine KRg (fun hR => ?_)
                      have hl1 := hWz.ln0 (a9 : Int)
                      refine KIload C dL_plans_143 0 rfl ?_
                      refine KAload_n C dL_plans_145 rfl 4 rfl ?_
                      refine KAload C dL_plans_146 8 rfl ?_
                      refine KCallS (As := [.int (iI (b9 : Int)), .ref (q 83), .ref (q 80)]) (st := [.int (iI (zln zy (a9 : Int)))]) C (ct_L_lines l g (wI S h) q (b9 : Int) zy hT hWz hLh (by omega)) u_ml_RL_60 u_st_yL_lines u_in_RL u_co_yL_lines hd_yL_lines ⟨Nat.le_of_ble_eq_true rfl, Nat.le_of_ble_eq_true rfl⟩ ⟨Nat.le_of_ble_eq_true rfl, Nat.le_of_ble_eq_true rfl⟩ (Nat.le_of_ble_eq_true rfl) dL_plans_148 rfl (fun v148 u148 hp148 => ?_)
                      obtain ⟨rfl, rfl⟩ := hp148
                      refine KSt (st2 := [.int (iI (zln zy (b9 : Int))), .int (iI (zln zy (a9 : Int)))]) rfl ?_
                      refine KRg (fun hR => ?_)
                      have hl2 := hWz.ln0 (b9 : Int)
                      refine KIadd C dL_plans_151 ?_
                      refine KAload C dL_plans_152 8 rfl ?_
                      refine KIconst C dL_plans_154 ?_
                      refine KIald (S := wI S h)  (v := zC zy) C 8 (hT.at0 80 20) (hT.ln0 80 8) ⟨by omega, by omega⟩ (by omega) hLh.1.1 dL_plans_155 ?_
                      refine KIcmp_gt (tgt := 256) C dL_plans_156 (by decide) ⟨by omega, by omega⟩ ⟨by omega, by omega⟩ (fun c156 => ?_) (fun c156 => ?_)
                      · have hpf : pjk zy (k + 1) = pjk zy k := pjk_f (Or.inr (by rw [← ha9, ← hb9, saving_0 (by omega)]; omega))
                        refine KLvE (lv2 := [(11, .int (iI (b9 : Int))), (10, .int (iI (a9 : Int))), (0, .int (iI t)), (1, .ref (q 81)), (2, .ref (q 83)), (3, .ref (q 84)), (4, .ref (q 87)), (5, .ref (q 88)), (6, .ref (q 80)), (7, .int (iI ((pjk zy (k + 1)).1))), (8, .int (iI (((pjk zy k).2 : Nat) : Int))), (9, .int (iI (k : Int)))]) (congrArg (fun zz : Int => ([(11, .int (iI (b9 : Int))), (10, .int (iI (a9 : Int))), (0, .int (iI t)), (1, .ref (q 81)), (2, .ref (q 83)), (3, .ref (q 84)), (4, .ref (q 87)), (5, .ref (q 88)), (6, .ref (q 80)), (7, .int (iI zz)), (8, .int (iI (((pjk zy k).2 : Nat) : Int))), (9, .int (iI (k : Int)))] : List (Nat × Value))) (show ((pjk zy k).1 : Int) = (pjk zy (k + 1)).1 from (by rw [hpf]))) ?_
                        refine KLvE (lv2 := [(11, .int (iI (b9 : Int))), (10, .int (iI (a9 : Int))), (0, .int (iI t)), (1, .ref (q 81)), (2, .ref (q 83)), (3, .ref (q 84)), (4, .ref (q 87)), (5, .ref (q 88)), (6, .ref (q 80)), (7, .int (iI ((pjk zy (k + 1)).1))), (8, .int (iI (((pjk zy (k + 1)).2 : Nat) : Int))), (9, .int (iI (k : Int)))]) (congrArg (fun zz : Int => ([(11, .int (iI (b9 : Int))), (10, .int (iI (a9 : Int))), (0, .int (iI t)), (1, .ref (q 81)), (2, .ref (q 83)), (3, .ref (q 84)), (4, .ref (q 87)), (5, .ref (q 88)), (6, .ref (q 80)), (7, .int (iI ((pjk zy (k + 1)).1))), (8, .int (iI zz)), (9, .int (iI (k : Int)))] : List (Nat × Value))) (show ((((pjk zy k).2 : Nat) : Int) : Int) = (((pjk zy (k + 1)).2 : Nat) : Int) from (by rw [hpf]))) ?_
                        refine KIinc (v := ((k + 1 : Nat) : Int)) (lv' := [(9, .int (iI ((k + 1 : Nat) : Int))), (11, .int (iI (b9 : Int))), (10, .int (iI (a9 : Int))), (0, .int (iI t)), (1, .ref (q 81)), (2, .ref (q 83)), (3, .ref (q 84)), (4, .ref (q 87)), (5, .ref (q 88)), (6, .ref (q 80)), (7, .int (iI ((pjk zy (k + 1)).1))), (8, .int (iI (((pjk zy (k + 1)).2 : Nat) : Int)))]) C dL_plans_256 11 rfl (by omega) (by decide) rfl ?_
                        refine KGoto (tgt := 96) C dL_plans_259 (by decide) ?_
                        refine KLv (lv' := [(0, .int (iI t)), (1, .ref (q 81)), (2, .ref (q 83)), (3, .ref (q 84)), (4, .ref (q 87)), (5, .ref (q 88)), (6, .ref (q 80)), (7, .int (iI ((pjk zy (k + 1)).1))), (8, .int (iI (((pjk zy (k + 1)).2 : Nat) : Int))), (9, .int (iI ((k + 1 : Nat) : Int)))]) [3, 4, 5, 6, 7, 8, 9, 10, 11, 0] rfl ?_
                        exact ih96 (k + 1) h (by omega) (by omega) (by first | exact hK218 | exact hKh) (by first | exact hL218 | exact hLh)
                      · have hsm : zln zy (a9 : Int) + zln zy (b9 : Int) ≤ zC zy := by omega
                        have hma := hWz.okB (b := (a9 : Int)) (by omega)
                        have hmb := hWz.okB (b := (b9 : Int)) (by omega)
                        have hmc := hWz.okBB (a := (a9 : Int)) (b := (b9 : Int)) (by omega)
                        refine KIload C dL_plans_159 1 rfl ?_
                        refine KAload_n C dL_plans_161 rfl 4 rfl ?_
                        refine KAload_n C dL_plans_162 rfl 5 rfl ?_
                        refine KAload C dL_plans_163 8 rfl ?_
                        refine KCallS (As := [.int (iI (a9 : Int)), .ref (q 83), .ref (q 84), .ref (q 80)]) (st := []) C (ct_L_products l g (wI S h) q (a9 : Int) zy hT hWz hLh (by omega)) u_ml_RL_63 u_st_yL_products u_in_RL u_co_yL_products hd_yL_products ⟨Nat.le_of_ble_eq_true rfl, Nat.le_of_ble_eq_true rfl⟩ ⟨Nat.le_of_ble_eq_true rfl, Nat.le_of_ble_eq_true rfl⟩ (Nat.le_of_ble_eq_true rfl) dL_plans_165 rfl (fun v165 u165 hp165 => ?_)
                        obtain ⟨rfl, rfl⟩ := hp165
                        refine KSt (st2 := [.int (iI ((zpd zy (a9 : Int) : Nat) : Int))]) rfl ?_
                        refine KRg (fun hR => ?_)
                        refine KIstore (lv' := [(12, .int (iI ((zpd zy (a9 : Int) : Nat) : Int))), (11, .int (iI (b9 : Int))), (10, .int (iI (a9 : Int))), (0, .int (iI t)), (1, .ref (q 81)), (2, .ref (q 83)), (3, .ref (q 84)), (4, .ref (q 87)), (5, .ref (q 88)), (6, .ref (q 80)), (7, .int (iI ((pjk zy k).1))), (8, .int (iI (((pjk zy k).2 : Nat) : Int))), (9, .int (iI (k : Int)))]) C dL_plans_168 (by decide) rfl ?_
                        refine KIload C dL_plans_170 1 rfl ?_
                        refine KAload_n C dL_plans_172 rfl 5 rfl ?_
                        refine KAload_n C dL_plans_173 rfl 6 rfl ?_
                        refine KAload C dL_plans_174 9 rfl ?_
                        refine KCallS (As := [.int (iI (b9 : Int)), .ref (q 83), .ref (q 84), .ref (q 80)]) (st := []) C (ct_L_products l g (wI S h) q (b9 : Int) zy hT hWz hLh (by omega)) u_ml_RL_63 u_st_yL_products u_in_RL u_co_yL_products hd_yL_products ⟨Nat.le_of_ble_eq_true rfl, Nat.le_of_ble_eq_true rfl⟩ ⟨Nat.le_of_ble_eq_true rfl, Nat.le_of_ble_eq_true rfl⟩ (Nat.le_of_ble_eq_true rfl) dL_plans_176 rfl (fun v176 u176 hp176 => ?_)
                        obtain ⟨rfl, rfl⟩ := hp176
                        refine KSt (st2 := [.int (iI ((zpd zy (b9 : Int) : Nat) : Int))]) rfl ?_
                        refine KRg (fun hR => ?_)
                        refine KIstore (lv' := [(13, .int (iI ((zpd zy (b9 : Int) : Nat) : Int))), (12, .int (iI ((zpd zy (a9 : Int) : Nat) : Int))), (11, .int (iI (b9 : Int))), (10, .int (iI (a9 : Int))), (0, .int (iI t)), (1, .ref (q 81)), (2, .ref (q 83)), (3, .ref (q 84)), (4, .ref (q 87)), (5, .ref (q 88)), (6, .ref (q 80)), (7, .int (iI ((pjk zy k).1))), (8, .int (iI (((pjk zy k).2 : Nat) : Int))), (9, .int (iI (k : Int)))]) C dL_plans_179 (by decide) rfl ?_
                        refine KIload C dL_plans_181 1 rfl ?_
                        refine KAload_n C dL_plans_183 rfl 5 rfl ?_
                        refine KAload C dL_plans_184 8 rfl ?_
                        refine KAload C dL_plans_186 9 rfl ?_
                        refine KAload C dL_plans_188 10 rfl ?_
                        refine KCallS (As := [.int (iI ((zpd zy (a9 : Int) : Nat) : Int)), .ref (q 81), .ref (q 87), .ref (q 88), .ref (q 80)]) (st := []) C (ct_L_route l g (wI S h) q (zpd zy (a9 : Int)) (zN zy) (zG zy) (zP zy) hT hLh.1.2.2.2.2.2.2.1 hLh.1.2.2.2.2.2.2.2 hLh.2.1.1 (by omega) (by omega) hma (hWz.ds hma) (sl6_b hWz (by omega))) u_ml_RL_67 u_st_yL_route u_in_RL u_co_yL_route hd_yL_route ⟨Nat.le_of_ble_eq_true rfl, Nat.le_of_ble_eq_true rfl⟩ ⟨Nat.le_of_ble_eq_true rfl, Nat.le_of_ble_eq_true rfl⟩ (Nat.le_of_ble_eq_true rfl) dL_plans_190 rfl (fun v190 u190 hp190 => ?_)
                        obtain ⟨rfl, f190, rfl, hKR190, hw0190, hwj190⟩ := hp190
                        refine KSt (st2 := [.int (iI (tour (zN zy) (zG zy) (zP zy) (zpd zy (a9 : Int))))]) rfl ?_
                        refine KRg (fun hR => ?_)
                        refine KTop (congrArg iI (show tour (zN zy) (zG zy) (zP zy) (zpd zy (a9 : Int)) = zto zy (zpd zy (a9 : Int)) from rfl)) ?_
                        have hb190 := zto_b hWz hma
                        have hL190 : LR (wI S f190) q zy := LR.kr (S := wI S h) hT hLh hKR190
                        refine KIload C dL_plans_193 0 rfl ?_
                        refine KAload_n C dL_plans_195 rfl 5 rfl ?_
                        refine KAload C dL_plans_196 8 rfl ?_
                        refine KAload C dL_plans_198 9 rfl ?_
                        refine KAload C dL_plans_200 10 rfl ?_
                        refine KCallS (As := [.int (iI ((zpd zy (b9 : Int) : Nat) : Int)), .ref (q 81), .ref (q 87), .ref (q 88), .ref (q 80)]) (st := [.int (iI (zto zy (zpd zy (a9 : Int))))]) C (ct_L_route l g (wI S f190) q (zpd zy (b9 : Int)) (zN zy) (zG zy) (zP zy) hT hL190.1.2.2.2.2.2.2.1 hL190.1.2.2.2.2.2.2.2 hL190.2.1.1 (by omega) (by omega) hmb (hWz.ds hmb) (sl6_b hWz (by omega))) u_ml_RL_67 u_st_yL_route u_in_RL u_co_yL_route hd_yL_route ⟨Nat.le_of_ble_eq_true rfl, Nat.le_of_ble_eq_true rfl⟩ ⟨Nat.le_of_ble_eq_true rfl, Nat.le_of_ble_eq_true rfl⟩ (Nat.le_of_ble_eq_true rfl) dL_plans_202 rfl (fun v202 u202 hp202 => ?_)
                        obtain ⟨rfl, f202, rfl, hKR202, hw0202, hwj202⟩ := hp202
                        refine KSt (st2 := [.int (iI (tour (zN zy) (zG zy) (zP zy) (zpd zy (b9 : Int)))), .int (iI (zto zy (zpd zy (a9 : Int))))]) rfl ?_
                        refine KRg (fun hR => ?_)
                        refine KTop (congrArg iI (show tour (zN zy) (zG zy) (zP zy) (zpd zy (b9 : Int)) = zto zy (zpd zy (b9 : Int)) from rfl)) ?_
                        have hb202 := zto_b hWz hmb
                        have hL202 : LR (wI S f202) q zy := LR.kr (S := wI S f190) hT hL190 hKR202
                        refine KIadd C dL_plans_205 ?_
                        refine KIload C dL_plans_206 1 rfl ?_
                        refine KIload C dL_plans_208 0 rfl ?_
                        refine KIor (v := iI ((zpd zy (a9 : Int) ||| zpd zy (b9 : Int) : Nat) : Int)) C dL_plans_210 (ib_or _ _) ?_
                        refine KAload_n C dL_plans_211 rfl 5 rfl ?_
                        refine KAload C dL_plans_212 8 rfl ?_
                        refine KAload C dL_plans_214 9 rfl ?_
                        refine KAload C dL_plans_216 10 rfl ?_
                        refine KCallS (As := [.int (iI ((zpd zy (a9 : Int) ||| zpd zy (b9 : Int) : Nat) : Int)), .ref (q 81), .ref (q 87), .ref (q 88), .ref (q 80)]) (st := [.int (iI ((zto zy (zpd zy (a9 : Int))) + (zto zy (zpd zy (b9 : Int)))))]) C (ct_L_route l g (wI S f202) q (zpd zy (a9 : Int) ||| zpd zy (b9 : Int)) (zN zy) (zG zy) (zP zy) hT hL202.1.2.2.2.2.2.2.1 hL202.1.2.2.2.2.2.2.2 hL202.2.1.1 (by omega) (by omega) hmc (hWz.ds hmc) (sl6_bb hWz (by omega))) u_ml_RL_67 u_st_yL_route u_in_RL u_co_yL_route hd_yL_route ⟨Nat.le_of_ble_eq_true rfl, Nat.le_of_ble_eq_true rfl⟩ ⟨Nat.le_of_ble_eq_true rfl, Nat.le_of_ble_eq_true rfl⟩ (Nat.le_of_ble_eq_true rfl) dL_plans_218 rfl (fun v218 u218 hp218 => ?_)
                        obtain ⟨rfl, f218, rfl, hKR218, hw0218, hwj218⟩ := hp218
                        refine KSt (st2 := [.int (iI (tour (zN zy) (zG zy) (zP zy) (zpd zy (a9 : Int) ||| zpd zy (b9 : Int)))), .int (iI ((zto zy (zpd zy (a9 : Int))) + (zto zy (zpd zy (b9 : Int)))))]) rfl ?_
                        refine KRg (fun hR => ?_)
                        refine KTop (congrArg iI (show tour (zN zy) (zG zy) (zP zy) (zpd zy (a9 : Int) ||| zpd zy (b9 : Int)) = zto zy (zpd zy (a9 : Int) ||| zpd zy (b9 : Int)) from rfl)) ?_
                        have hb218 := zto_b hWz hmc
                        have hL218 : LR (wI S f218) q zy := LR.kr (S := wI S f202) hT hL202 hKR218
                        have hK218 : KR (wI S f) q f218 := ((hKh.trans hKR190).trans hKR202).trans hKR218
                        refine KIsub C dL_plans_221 ?_
                        refine KTop (congrArg iI (show ((zto zy (zpd zy (a9 : Int))) + (zto zy (zpd zy (b9 : Int)))) - (zto zy (zpd zy (a9 : Int) ||| zpd zy (b9 : Int))) = zsv zy a9 b9 from (saving_eq hsm))) ?_
                        refine KIstore (lv' := [(14, .int (iI (zsv zy a9 b9))), (13, .int (iI ((zpd zy (b9 : Int) : Nat) : Int))), (12, .int (iI ((zpd zy (a9 : Int) : Nat) : Int))), (11, .int (iI (b9 : Int))), (10, .int (iI (a9 : Int))), (0, .int (iI t)), (1, .ref (q 81)), (2, .ref (q 83)), (3, .ref (q 84)), (4, .ref (q 87)), (5, .ref (q 88)), (6, .ref (q 80)), (7, .int (iI ((pjk zy k).1))), (8, .int (iI (((pjk zy k).2 : Nat) : Int))), (9, .int (iI (k : Int)))]) C dL_plans_222 (by decide) rfl ?_
                        have hsv := zsv_b hWz a9 b9
                        refine KIload C dL_plans_224 0 rfl ?_
                        refine KIload C dL_plans_226 12 rfl ?_
                        refine KIcmp_le (tgt := 236) C dL_plans_228 (by decide) ⟨by omega, by omega⟩ ⟨by omega, by omega⟩ (fun c228 => ?_) (fun c228 => ?_)
                        · have hpf : pjk zy (k + 1) = pjk zy k := pjk_f (Or.inr (by rw [← ha9, ← hb9]; omega))
                          refine KIload C dL_plans_236 13 rfl ?_
                          refine KTop (congrArg iI (show (((pjk zy k).2 : Nat) : Int) = (((pjk zy (k + 1)).2 : Nat) : Int) from (by first | rw [hpf] | rw [hpt]))) ?_
                          refine KIstore (lv' := [(8, .int (iI (((pjk zy (k + 1)).2 : Nat) : Int))), (14, .int (iI (zsv zy a9 b9))), (13, .int (iI ((zpd zy (b9 : Int) : Nat) : Int))), (12, .int (iI ((zpd zy (a9 : Int) : Nat) : Int))), (11, .int (iI (b9 : Int))), (10, .int (iI (a9 : Int))), (0, .int (iI t)), (1, .ref (q 81)), (2, .ref (q 83)), (3, .ref (q 84)), (4, .ref (q 87)), (5, .ref (q 88)), (6, .ref (q 80)), (7, .int (iI ((pjk zy k).1))), (9, .int (iI (k : Int)))]) C dL_plans_238 (by decide) rfl ?_
                          refine KIload C dL_plans_240 1 rfl ?_
                          refine KIload C dL_plans_242 13 rfl ?_
                          refine KIcmp_le (tgt := 252) C dL_plans_244 (by decide) ⟨by omega, by omega⟩ ⟨by omega, by omega⟩ (fun c244 => ?_) (fun c244 => absurd c244 (by omega))
                          refine KIload C dL_plans_252 13 rfl ?_
                          refine KTop (congrArg iI (show (pjk zy k).1 = (pjk zy (k + 1)).1 from (by first | rw [hpf] | rw [hpt]))) ?_
                          refine KIstore (lv' := [(7, .int (iI ((pjk zy (k + 1)).1))), (8, .int (iI (((pjk zy (k + 1)).2 : Nat) : Int))), (14, .int (iI (zsv zy a9 b9))), (13, .int (iI ((zpd zy (b9 : Int) : Nat) : Int))), (12, .int (iI ((zpd zy (a9 : Int) : Nat) : Int))), (11, .int (iI (b9 : Int))), (10, .int (iI (a9 : Int))), (0, .int (iI t)), (1, .ref (q 81)), (2, .ref (q 83)), (3, .ref (q 84)), (4, .ref (q 87)), (5, .ref (q 88)), (6, .ref (q 80)), (9, .int (iI (k : Int)))]) C dL_plans_254 (by decide) rfl ?_
                          refine KIinc (v := ((k + 1 : Nat) : Int)) (lv' := [(9, .int (iI ((k + 1 : Nat) : Int))), (7, .int (iI ((pjk zy (k + 1)).1))), (8, .int (iI (((pjk zy (k + 1)).2 : Nat) : Int))), (14, .int (iI (zsv zy a9 b9))), (13, .int (iI ((zpd zy (b9 : Int) : Nat) : Int))), (12, .int (iI ((zpd zy (a9 : Int) : Nat) : Int))), (11, .int (iI (b9 : Int))), (10, .int (iI (a9 : Int))), (0, .int (iI t)), (1, .ref (q 81)), (2, .ref (q 83)), (3, .ref (q 84)), (4, .ref (q 87)), (5, .ref (q 88)), (6, .ref (q 80))]) C dL_plans_256 14 rfl (by omega) (by decide) rfl ?_
                          refine KGoto (tgt := 96) C dL_plans_259 (by decide) ?_
                          refine KLv (lv' := [(0, .int (iI t)), (1, .ref (q 81)), (2, .ref (q 83)), (3, .ref (q 84)), (4, .ref (q 87)), (5, .ref (q 88)), (6, .ref (q 80)), (7, .int (iI ((pjk zy (k + 1)).1))), (8, .int (iI (((pjk zy (k + 1)).2 : Nat) : Int))), (9, .int (iI ((k + 1 : Nat) : Int)))]) [8, 9, 10, 11, 12, 13, 14, 1, 2, 0] rfl ?_
                          exact ih96 (k + 1) f218 (by omega) (by omega) (by first | exact hK218 | exact hKh) (by first | exact hL218 | exact hLh)
                        · have hpt : pjk zy (k + 1) = (zsv zy a9 b9, k) := by have h9 := pjk_t (z := zy) (k := k) (by rw [← ha9, ← hb9]; omega) (by rw [← ha9, ← hb9]; omega); rw [← ha9, ← hb9] at h9; exact h9
                          refine KIload C dL_plans_231 14 rfl ?_
                          refine KGoto (tgt := 238) C dL_plans_233 (by decide) ?_
                          refine KTop (congrArg iI (show (k : Int) = (((pjk zy (k + 1)).2 : Nat) : Int) from (by first | rw [hpf] | rw [hpt]))) ?_
                          refine KIstore (lv' := [(8, .int (iI (((pjk zy (k + 1)).2 : Nat) : Int))), (14, .int (iI (zsv zy a9 b9))), (13, .int (iI ((zpd zy (b9 : Int) : Nat) : Int))), (12, .int (iI ((zpd zy (a9 : Int) : Nat) : Int))), (11, .int (iI (b9 : Int))), (10, .int (iI (a9 : Int))), (0, .int (iI t)), (1, .ref (q 81)), (2, .ref (q 83)), (3, .ref (q 84)), (4, .ref (q 87)), (5, .ref (q 88)), (6, .ref (q 80)), (7, .int (iI ((pjk zy k).1))), (9, .int (iI (k : Int)))]) C dL_plans_238 (by decide) rfl ?_
                          refine KIload C dL_plans_240 1 rfl ?_
                          refine KIload C dL_plans_242 13 rfl ?_
                          refine KIcmp_le (tgt := 252) C dL_plans_244 (by decide) ⟨by omega, by omega⟩ ⟨by omega, by omega⟩ (fun c244 => absurd c244 (by omega)) (fun c244 => ?_)
                          refine KIload C dL_plans_247 1 rfl ?_
                          refine KGoto (tgt := 254) C dL_plans_249 (by decide) ?_
                          refine KTop (congrArg iI (show zsv zy a9 b9 = (pjk zy (k + 1)).1 from (by first | rw [hpf] | rw [hpt]))) ?_
                          refine KIstore (lv' := [(7, .int (iI ((pjk zy (k + 1)).1))), (8, .int (iI (((pjk zy (k + 1)).2 : Nat) : Int))), (14, .int (iI (zsv zy a9 b9))), (13, .int (iI ((zpd zy (b9 : Int) : Nat) : Int))), (12, .int (iI ((zpd zy (a9 : Int) : Nat) : Int))), (11, .int (iI (b9 : Int))), (10, .int (iI (a9 : Int))), (0, .int (iI t)), (1, .ref (q 81)), (2, .ref (q 83)), (3, .ref (q 84)), (4, .ref (q 87)), (5, .ref (q 88)), (6, .ref (q 80)), (9, .int (iI (k : Int)))]) C dL_plans_254 (by decide) rfl ?_
                          refine KIinc (v := ((k + 1 : Nat) : Int)) (lv' := [(9, .int (iI ((k + 1 : Nat) : Int))), (7, .int (iI ((pjk zy (k + 1)).1))), (8, .int (iI (((pjk zy (k + 1)).2 : Nat) : Int))), (14, .int (iI (zsv zy a9 b9))), (13, .int (iI ((zpd zy (b9 : Int) : Nat) : Int))), (12, .int (iI ((zpd zy (a9 : Int) : Nat) : Int))), (11, .int (iI (b9 : Int))), (10, .int (iI (a9 : Int))), (0, .int (iI t)), (1, .ref (q 81)), (2, .ref (q 83)), (3, .ref (q 84)), (4, .ref (q 87)), (5, .ref (q 88)), (6, .ref (q 80))]) C dL_plans_256 14 rfl (by omega) (by decide) rfl ?_
                          refine KGoto (tgt := 96) C dL_plans_259 (by decide) ?_
                          refine KLv (lv' := [(0, .int (iI t)), (1, .ref (q 81)), (2, .ref (q 83)), (3, .ref (q 84)), (4, .ref (q 87)), (5, .ref (q 88)), (6, .ref (q 80)), (7, .int (iI ((pjk zy (k + 1)).1))), (8, .int (iI (((pjk zy (k + 1)).2 : Nat) : Int))), (9, .int (iI ((k + 1 : Nat) : Int)))]) [8, 9, 10, 11, 12, 13, 14, 1, 2, 0] rfl ?_
                          exact ih96 (k + 1) f218 (by omega) (by omega) (by first | exact hK218 | exact hKh) (by first | exact hL218 | exact hLh)
              exact loop96 _ 0 f (Nat.lt_succ_self _) (by omega) (KR.refl (S := wI S f)) hLz
        exact loop82 _ (zwv z t) f 1 (zb (zwv z t) + 1) (Nat.lt_succ_self _) (hW.wv t hzb) hLw hLo (tkW_pos htk) rfl (Or.inl ⟨by decide, Nat.lt_succ_self _⟩) (by omega)
      · have hkz : k < zo z := by omega
        obtain ⟨⟨w1, w2⟩, w3, w4, w5, ⟨w6, w7⟩, -, -⟩ := hW.2.2.2.2.1 k hkz
        obtain ⟨r1, r2, r3, r4⟩ := hLf.2.2.1 k hkz
        refine KAload_n C dL_plans_12 rfl 2 rfl ?_
        refine KIconst C dL_plans_13 ?_
        refine KIload C dL_plans_14 7 rfl ?_
        refine KImul C dL_plans_16 ?_
        refine KIconst C dL_plans_17 ?_
        refine KIadd C dL_plans_18 ?_
        refine KTop (congrArg iI (show (4 * (k : Int)) + 1 = ((4 * k + 1 : Nat) : Int) from (by omega))) ?_
        refine KIald (S := wI S f)  (v := zst z (k : Int)) C 48 (hT.at0 83 20) (hT.ln0 83 48) ⟨by omega, by omega⟩ (by omega) (r2.trans (tkW_at z t k (k : Int) (Int.le_refl _)).1) dL_plans_19 ?_
        have rb2 := hR.b (q 83) ((4 * k + 1 : Nat) : Int) (v := zst z (k : Int)) (r2.trans (tkW_at z t k (k : Int) (Int.le_refl _)).1)
        refine KIf_ne (tgt := 73) C dL_plans_20 (by decide) ⟨by omega, by omega⟩ (fun c20 => ?_) (fun c20 => ?_)
        · have hLn : LR (wI S f) q (zwk z t (k + 1)) := by rw [zwk_f (fun h9 => absurd h9.1 (by omega))]; exact hLf
          refine KIinc (v := ((k + 1 : Nat) : Int)) (lv' := [(7, .int (iI ((k + 1 : Nat) : Int))), (0, .int (iI t)), (1, .ref (q 81)), (2, .ref (q 83)), (3, .ref (q 84)), (4, .ref (q 87)), (5, .ref (q 88)), (6, .ref (q 80))]) C dL_plans_73 7 rfl (by omega) (by decide) rfl ?_
          refine KGoto (tgt := 3) C dL_plans_76 (by decide) ?_
          refine KLv (lv' := [(0, .int (iI t)), (1, .ref (q 81)), (2, .ref (q 83)), (3, .ref (q 84)), (4, .ref (q 87)), (5, .ref (q 88)), (6, .ref (q 80)), (7, .int (iI ((k + 1 : Nat) : Int)))]) [1, 2, 3, 4, 5, 6, 7, 0] rfl ?_
          exact ih3 (k + 1) f (by omega) (by omega) hLn (by first | exact hLo | exact ((hLo.up 83 _ _).up 83 _ _).up 80 _ _)
        · refine KAload_n C dL_plans_23 rfl 2 rfl ?_
          refine KIconst C dL_plans_24 ?_
          refine KIload C dL_plans_25 7 rfl ?_
          refine KImul C dL_plans_27 ?_
          refine KIconst C dL_plans_28 ?_
          refine KIadd C dL_plans_29 ?_
          refine KTop (congrArg iI (show (4 * (k : Int)) + 3 = ((4 * k + 3 : Nat) : Int) from (by omega))) ?_
          refine KIald (S := wI S f)  (v := zmn z (k : Int)) C 48 (hT.at0 83 20) (hT.ln0 83 48) ⟨by omega, by omega⟩ (by omega) r4 dL_plans_30 ?_
          have rb3 := hR.b (q 83) ((4 * k + 3 : Nat) : Int) (v := zmn z (k : Int)) r4
          refine KIf_le (tgt := 73) C dL_plans_31 (by decide) ⟨by omega, by omega⟩ (fun c31 => ?_) (fun c31 => ?_)
          · have hLn : LR (wI S f) q (zwk z t (k + 1)) := by rw [zwk_f (fun h9 => absurd h9.2.1 (by omega))]; exact hLf
            refine KIinc (v := ((k + 1 : Nat) : Int)) (lv' := [(7, .int (iI ((k + 1 : Nat) : Int))), (0, .int (iI t)), (1, .ref (q 81)), (2, .ref (q 83)), (3, .ref (q 84)), (4, .ref (q 87)), (5, .ref (q 88)), (6, .ref (q 80))]) C dL_plans_73 7 rfl (by omega) (by decide) rfl ?_
            refine KGoto (tgt := 3) C dL_plans_76 (by decide) ?_
            refine KLv (lv' := [(0, .int (iI t)), (1, .ref (q 81)), (2, .ref (q 83)), (3, .ref (q 84)), (4, .ref (q 87)), (5, .ref (q 88)), (6, .ref (q 80)), (7, .int (iI ((k + 1 : Nat) : Int)))]) [1, 2, 3, 4, 5, 6, 7, 0] rfl ?_
            exact ih3 (k + 1) f (by omega) (by omega) hLn (by first | exact hLo | exact ((hLo.up 83 _ _).up 83 _ _).up 80 _ _)
          · refine KAload_n C dL_plans_34 rfl 2 rfl ?_
            refine KIconst C dL_plans_35 ?_
            refine KIload C dL_plans_36 7 rfl ?_
            refine KImul C dL_plans_38 ?_
            refine KTop (congrArg iI (show 4 * (k : Int) = ((4 * k : Nat) : Int) from (by omega))) ?_
            refine KIald (S := wI S f)  (v := zdu z (k : Int)) C 48 (hT.at0 83 20) (hT.ln0 83 48) ⟨by omega, by omega⟩ (by omega) r1 dL_plans_39 ?_
            have rb4 := hR.b (q 83) ((4 * k : Nat) : Int) (v := zdu z (k : Int)) r1
            refine KIload_n C dL_plans_40 rfl 0 rfl ?_
            refine KIcmp_gt (tgt := 73) C dL_plans_41 (by decide) ⟨by omega, by omega⟩ ⟨by omega, by omega⟩ (fun c41 => ?_) (fun c41 => ?_)
            · have hLn : LR (wI S f) q (zwk z t (k + 1)) := by rw [zwk_f (fun h9 => absurd h9.2.2 (by omega))]; exact hLf
              refine KIinc (v := ((k + 1 : Nat) : Int)) (lv' := [(7, .int (iI ((k + 1 : Nat) : Int))), (0, .int (iI t)), (1, .ref (q 81)), (2, .ref (q 83)), (3, .ref (q 84)), (4, .ref (q 87)), (5, .ref (q 88)), (6, .ref (q 80))]) C dL_plans_73 7 rfl (by omega) (by decide) rfl ?_
              refine KGoto (tgt := 3) C dL_plans_76 (by decide) ?_
              refine KLv (lv' := [(0, .int (iI t)), (1, .ref (q 81)), (2, .ref (q 83)), (3, .ref (q 84)), (4, .ref (q 87)), (5, .ref (q 88)), (6, .ref (q 80)), (7, .int (iI ((k + 1 : Nat) : Int)))]) [1, 2, 3, 4, 5, 6, 7, 0] rfl ?_
              exact ih3 (k + 1) f (by omega) (by omega) hLn (by first | exact hLo | exact ((hLo.up 83 _ _).up 83 _ _).up 80 _ _)
            · have hit : isT z t k := ⟨by omega, by omega, by omega⟩
              have hLn := LR.tk hT hkz hit hLf
              have htn := tkW_n z t k
              have htb := tkN_b z t k
              refine KAload_n C dL_plans_44 rfl 2 rfl ?_
              refine KIconst C dL_plans_45 ?_
              refine KIload C dL_plans_46 7 rfl ?_
              refine KImul C dL_plans_48 ?_
              refine KIconst C dL_plans_49 ?_
              refine KIadd C dL_plans_50 ?_
              refine KTop (congrArg iI (show (4 * (k : Int)) + 1 = ((4 * k + 1 : Nat) : Int) from (by omega))) ?_
              refine KIconst C dL_plans_51 ?_
              refine KIast (S := wI S f) C 48 (hT.at0 83 20) (hT.ln0 83 48) ⟨by omega, by omega⟩ (by omega) ⟨by omega, by omega⟩ dL_plans_52 ?_
              refine KAload_n C dL_plans_53 rfl 2 rfl ?_
              refine KIconst C dL_plans_54 ?_
              refine KIload C dL_plans_55 7 rfl ?_
              refine KImul C dL_plans_57 ?_
              refine KIconst C dL_plans_58 ?_
              refine KIadd C dL_plans_59 ?_
              refine KTop (congrArg iI (show (4 * (k : Int)) + 2 = ((4 * k + 2 : Nat) : Int) from (by omega))) ?_
              refine KAload C dL_plans_60 6 rfl ?_
              refine KIconst C dL_plans_62 ?_
              refine KIald (S := uI (wI S f) (q 83) ((4 * k + 1 : Nat) : Int) 1)  (v := (((tkW z t k).1 : Nat) : Int)) C 8 (hT.at0 80 20) (hT.ln0 80 8) ⟨by omega, by omega⟩ (by omega) ((congrFun (up2_row _ _ _ (hT.ne 80 83)) _).trans hLf.1.2.2.1) dL_plans_63 ?_
              refine KIast (S := uI (wI S f) (q 83) ((4 * k + 1 : Nat) : Int) 1) C 48 (hT.at0 83 20) (hT.ln0 83 48) ⟨by omega, by omega⟩ (by omega) ⟨by omega, by omega⟩ dL_plans_64 ?_
              refine KAload C dL_plans_65 6 rfl ?_
              refine KIconst C dL_plans_67 ?_
              refine KDup2 C dL_plans_68 rfl rfl ?_
              refine KIald (S := uI (uI (wI S f) (q 83) ((4 * k + 1 : Nat) : Int) 1) (q 83) ((4 * k + 2 : Nat) : Int) (((tkW z t k).1 : Nat) : Int))  (v := (((tkW z t k).1 : Nat) : Int)) C 8 (hT.at0 80 20) (hT.ln0 80 8) ⟨by omega, by omega⟩ (by omega) ((congrFun ((up2_row _ _ _ (hT.ne 80 83)).trans (up2_row _ _ _ (hT.ne 80 83))) _).trans hLf.1.2.2.1) dL_plans_69 ?_
              refine KIconst C dL_plans_70 ?_
              refine KIadd C dL_plans_71 ?_
              refine KIast (S := uI (uI (wI S f) (q 83) ((4 * k + 1 : Nat) : Int) 1) (q 83) ((4 * k + 2 : Nat) : Int) (((tkW z t k).1 : Nat) : Int)) C 8 (hT.at0 80 20) (hT.ln0 80 8) ⟨by omega, by omega⟩ (by omega) ⟨by omega, by omega⟩ dL_plans_72 ?_
              refine KIinc (v := ((k + 1 : Nat) : Int)) (lv' := [(7, .int (iI ((k + 1 : Nat) : Int))), (0, .int (iI t)), (1, .ref (q 81)), (2, .ref (q 83)), (3, .ref (q 84)), (4, .ref (q 87)), (5, .ref (q 88)), (6, .ref (q 80))]) C dL_plans_73 7 rfl (by omega) (by decide) rfl ?_
              refine KGoto (tgt := 3) C dL_plans_76 (by decide) ?_
              refine KLv (lv' := [(0, .int (iI t)), (1, .ref (q 81)), (2, .ref (q 83)), (3, .ref (q 84)), (4, .ref (q 87)), (5, .ref (q 88)), (6, .ref (q 80)), (7, .int (iI ((k + 1 : Nat) : Int)))]) [1, 2, 3, 4, 5, 6, 7, 0] rfl ?_
              exact ih3 (k + 1) (up2 (up2 (up2 f (q 83) ((4 * k + 1 : Nat) : Int) 1) (q 83) ((4 * k + 2 : Nat) : Int) (((tkW z t k).1 : Nat) : Int)) (q 80) 2 ((((tkW z t k).1 : Nat) : Int) + 1)) (by omega) (by omega) hLn (by first | exact hLo | exact ((hLo.up 83 _ _).up 83 _ _).up 80 _ _)
  exact loop3 _ 0 (sI S) (Nat.lt_succ_self _) (by omega) (by rw [zwk_0 hzb]; exact hL) Lo.refl
