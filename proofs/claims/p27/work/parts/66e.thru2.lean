def P_L_through (S : Sto) (q : Nat → Nat) (b : Int) (z : Sig) (k0 : Nat) : Option Value → Sto → Prop := fun v u => v = some (.int (iI (zth z b))) ∧ S = u
set_option maxRecDepth 100000 in
set_option maxHeartbeats 4000000 in
theorem ct_L_through (l : Launch) (g : GG) (S : Sto) (q : Nat → Nat) (b : Int) (z : Sig) (hT : Top S q) (hW : Wf z) (lq5 : sI S (q 80) 5 = zA z) (lq6 : sI S (q 80) 6 = zN z) (lq7 : sI S (q 80) 7 = zG z) (lP : sI S (q 81) = zP z) (hb9 : zln z b ≤ 9) (k0 : Nat) (hk0 : k0 < 20 ∧ (zpd z b).testBit k0 = true) : MetS l g yL_through cL_through 11 (some FieldType.int) 1 0 0 [.int (iI ((zpd z b : Nat) : Int)), .ref (q 81), .ref (q 80)] S (P_L_through S q b z k0) := by
  refine MetS.of (own := RL) (lv := [(0, .int (iI ((zpd z b : Nat) : Int))), (1, .ref (q 81)), (2, .ref (q 80))]) (by decide) rfl (Nat.le_of_ble_eq_true rfl) rfl ?_
  intro pX eX sX mX argsX belowX methX cX C hin
  refine KRg (fun hR => ?_)
  have hm := hW.okB hb9
  have hm31 : zpd z b < 2147483648 := by have h9 := hm.2.2; omega
  have hC := hW.1
  have hpl : ∀ k : Nat, k < 20 → (zpd z b).testBit k = true → zP z (k : Int) / 100 < zA z := fun k hk hb => by have h9 := hm.1 k hk hb; rcases hW.2.2.1 k hk with e9 | e9; omega; exact e9.2.1
  have hend := thS_end hm ⟨hC.1, hC.2.1⟩ hpl hk0
  refine KIconst C dL_through_0 ?_
  refine KIstore_n (lv' := [(3, .int (iI 0)), (0, .int (iI ((zpd z b : Nat) : Int))), (1, .ref (q 81)), (2, .ref (q 80))]) C dL_through_1 rfl (by decide) rfl ?_
  refine KIconst C dL_through_2 ?_
  refine KIstore (lv' := [(4, .int (iI 0)), (3, .int (iI 0)), (0, .int (iI ((zpd z b : Nat) : Int))), (1, .ref (q 81)), (2, .ref (q 80))]) C dL_through_3 (by decide) rfl ?_
  refine KIconst C dL_through_5 ?_
  refine KIstore (lv' := [(5, .int (iI 0)), (4, .int (iI 0)), (3, .int (iI 0)), (0, .int (iI ((zpd z b : Nat) : Int))), (1, .ref (q 81)), (2, .ref (q 80))]) C dL_through_6 (by decide) rfl ?_
  refine KIconst C dL_through_8 ?_
  refine KIstore (lv' := [(6, .int (iI (-1))), (5, .int (iI 0)), (4, .int (iI 0)), (3, .int (iI 0)), (0, .int (iI ((zpd z b : Nat) : Int))), (1, .ref (q 81)), (2, .ref (q 80))]) C dL_through_9 (by decide) rfl ?_
  refine KIconst C dL_through_11 ?_
  refine KIstore (lv' := [(7, .int (iI 0)), (6, .int (iI (-1))), (5, .int (iI 0)), (4, .int (iI 0)), (3, .int (iI 0)), (0, .int (iI ((zpd z b : Nat) : Int))), (1, .ref (q 81)), (2, .ref (q 80))]) C dL_through_12 (by decide) rfl ?_
  refine KLv (lv' := [(0, .int (iI ((zpd z b : Nat) : Int))), (1, .ref (q 81)), (2, .ref (q 80)), (3, .int (iI 0)), (4, .int (iI 0)), (5, .int (iI 0)), (6, .int (iI (-1))), (7, .int (iI 0))]) [5, 6, 7, 4, 3, 2, 1, 0] rfl ?_
  have loop14 : ∀ (nX : Nat) (a : Nat) (la : Int), (zA z).toNat - a < nX → ((a : Int) ≤ zA z) → (lsM (zP z) (zpd z b) la 20 = (lsM (zP z) (zpd z b) (-1) 20)) → (-1 ≤ la ∧ la ≤ 5) → Wk pX l eX (rmK 1 0 0) sX mX argsX belowX methX cX (MQ belowX (QcG g (P_L_through S q b z k0)) argsX sX 0 0 (ge (gB g))) g 11 0 0 14 [(0, .int (iI ((zpd z b : Nat) : Int))), (1, .ref (q 81)), (2, .ref (q 80)), (3, .int (iI ((thS z b (lsM (zP z) (zpd z b) (-1) 20) a).2.2))), (4, .int (iI ((thS z b (lsM (zP z) (zpd z b) (-1) 20) a).2.1))), (5, .int (iI ((thS z b (lsM (zP z) (zpd z b) (-1) 20) a).1))), (6, .int (iI la)), (7, .int (iI (a : Int)))] [] S := by
    intro nX
    induction nX with
    | zero => intro a la hm; exact absurd hm (Nat.not_lt_zero _)
    | succ nX ih14 =>
      intro a la hm14 ha hla hlb
      refine KRg (fun hR => ?_)
      have htb := thS_b z b (lsM (zP z) (zpd z b) (-1) 20) a
      refine KIload C dL_through_14 7 rfl ?_
      refine KAload_n C dL_through_16 rfl 2 rfl ?_
      refine KIconst C dL_through_17 ?_
      refine KIald  (v := zA z) C 8 (hT.at0 80 20) (hT.ln0 80 8) ⟨by omega, by omega⟩ (by omega) lq5 dL_through_18 ?_
      refine KIcmp_ge (tgt := 213) C dL_through_19 (by decide) ⟨by omega, by omega⟩ ⟨by omega, by omega⟩ (fun c19 => ?_) (fun c19 => ?_)
      · refine KIload C dL_through_213 5 rfl ?_
        refine KIload C dL_through_215 4 rfl ?_
        refine KAload_n C dL_through_217 rfl 2 rfl ?_
        refine KBipush C dL_through_218 (by decide) ?_
        refine KIald  (v := zG z) C 8 (hT.at0 80 20) (hT.ln0 80 8) ⟨by omega, by omega⟩ (by omega) lq7 dL_through_220 ?_
        refine KImul C dL_through_221 ?_
        refine KIadd C dL_through_222 ?_
        refine KIret C rfl rfl (by
          refine ⟨?_, rfl⟩
          rw [← hend, show (zA z).toNat = a by omega]) (by decide) (by decide) dL_through_223
      · refine KIconst C dL_through_22 ?_
        refine KIstore (lv' := [(8, .int (iI 0)), (0, .int (iI ((zpd z b : Nat) : Int))), (1, .ref (q 81)), (2, .ref (q 80)), (3, .int (iI ((thS z b (lsM (zP z) (zpd z b) (-1) 20) a).2.2))), (4, .int (iI ((thS z b (lsM (zP z) (zpd z b) (-1) 20) a).2.1))), (5, .int (iI ((thS z b (lsM (zP z) (zpd z b) (-1) 20) a).1))), (6, .int (iI la)), (7, .int (iI (a : Int)))]) C dL_through_23 (by decide) rfl ?_
        refine KIconst C dL_through_25 ?_
        refine KIstore (lv' := [(9, .int (iI 0)), (8, .int (iI 0)), (0, .int (iI ((zpd z b : Nat) : Int))), (1, .ref (q 81)), (2, .ref (q 80)), (3, .int (iI ((thS z b (lsM (zP z) (zpd z b) (-1) 20) a).2.2))), (4, .int (iI ((thS z b (lsM (zP z) (zpd z b) (-1) 20) a).2.1))), (5, .int (iI ((thS z b (lsM (zP z) (zpd z b) (-1) 20) a).1))), (6, .int (iI la)), (7, .int (iI (a : Int)))]) C dL_through_26 (by decide) rfl ?_
        refine KLv (lv' := [(0, .int (iI ((zpd z b : Nat) : Int))), (1, .ref (q 81)), (2, .ref (q 80)), (3, .int (iI ((thS z b (lsM (zP z) (zpd z b) (-1) 20) a).2.2))), (4, .int (iI ((thS z b (lsM (zP z) (zpd z b) (-1) 20) a).2.1))), (5, .int (iI ((thS z b (lsM (zP z) (zpd z b) (-1) 20) a).1))), (6, .int (iI la)), (7, .int (iI (a : Int))), (8, .int (iI 0)), (9, .int (iI 0))]) [2, 3, 4, 5, 6, 7, 8, 9, 1, 0] rfl ?_
        have loop28 : ∀ (nX : Nat) (k : Nat), 20 - k < nX → (k ≤ 20) → Wk pX l eX (rmK 1 0 0) sX mX argsX belowX methX cX (MQ belowX (QcG g (P_L_through S q b z k0)) argsX sX 0 0 (ge (gB g))) g 11 0 0 28 [(0, .int (iI ((zpd z b : Nat) : Int))), (1, .ref (q 81)), (2, .ref (q 80)), (3, .int (iI ((thS z b (lsM (zP z) (zpd z b) (-1) 20) a).2.2))), (4, .int (iI ((thS z b (lsM (zP z) (zpd z b) (-1) 20) a).2.1))), (5, .int (iI ((thS z b (lsM (zP z) (zpd z b) (-1) 20) a).1))), (6, .int (iI (lsM (zP z) (zpd z b) la k))), (7, .int (iI (a : Int))), (8, .int (iI (fr (zP z) (zpd z b) (a : Int) k))), (9, .int (iI (k : Int)))] [] S := by
          intro nX
          induction nX with
          | zero => intro k hm; exact absurd hm (Nat.not_lt_zero _)
          | succ nX ih28 =>
            intro k hm28 hk
            refine KRg (fun hR => ?_)
            have hfb := fr_b (zP z) (zpd z b) (a : Int) k
            have hlk := lsM_b hm hlb k hk
            refine KIload C dL_through_28 9 rfl ?_
            refine KBipush C dL_through_30 (by decide) ?_
            refine KIcmp_ge (tgt := 137) C dL_through_32 (by decide) ⟨by omega, by omega⟩ ⟨by omega, by omega⟩ (fun c32 => ?_) (fun c32 => ?_)
            · have hk20 : k = 20 := by omega
              have hfe : fr (zP z) (zpd z b) (a : Int) k = zfr z b (a : Int) := by rw [hk20]; rfl
              have hle : lsM (zP z) (zpd z b) la k = (lsM (zP z) (zpd z b) (-1) 20) := by rw [hk20]; exact hla
              refine KLvE (lv2 := [(0, .int (iI ((zpd z b : Nat) : Int))), (1, .ref (q 81)), (2, .ref (q 80)), (3, .int (iI ((thS z b (lsM (zP z) (zpd z b) (-1) 20) a).2.2))), (4, .int (iI ((thS z b (lsM (zP z) (zpd z b) (-1) 20) a).2.1))), (5, .int (iI ((thS z b (lsM (zP z) (zpd z b) (-1) 20) a).1))), (6, .int (iI (lsM (zP z) (zpd z b) (-1) 20))), (7, .int (iI (a : Int))), (8, .int (iI (fr (zP z) (zpd z b) (a : Int) k))), (9, .int (iI (k : Int)))]) (congrArg (fun zz : Int => ([(0, .int (iI ((zpd z b : Nat) : Int))), (1, .ref (q 81)), (2, .ref (q 80)), (3, .int (iI ((thS z b (lsM (zP z) (zpd z b) (-1) 20) a).2.2))), (4, .int (iI ((thS z b (lsM (zP z) (zpd z b) (-1) 20) a).2.1))), (5, .int (iI ((thS z b (lsM (zP z) (zpd z b) (-1) 20) a).1))), (6, .int (iI zz)), (7, .int (iI (a : Int))), (8, .int (iI (fr (zP z) (zpd z b) (a : Int) k))), (9, .int (iI (k : Int)))] : List (Nat × Value))) (show (lsM (zP z) (zpd z b) la k : Int) = (lsM (zP z) (zpd z b) (-1) 20) from hle)) ?_
              refine KLvE (lv2 := [(0, .int (iI ((zpd z b : Nat) : Int))), (1, .ref (q 81)), (2, .ref (q 80)), (3, .int (iI ((thS z b (lsM (zP z) (zpd z b) (-1) 20) a).2.2))), (4, .int (iI ((thS z b (lsM (zP z) (zpd z b) (-1) 20) a).2.1))), (5, .int (iI ((thS z b (lsM (zP z) (zpd z b) (-1) 20) a).1))), (6, .int (iI (lsM (zP z) (zpd z b) (-1) 20))), (7, .int (iI (a : Int))), (8, .int (iI (zfr z b (a : Int)))), (9, .int (iI (k : Int)))]) (congrArg (fun zz : Int => ([(0, .int (iI ((zpd z b : Nat) : Int))), (1, .ref (q 81)), (2, .ref (q 80)), (3, .int (iI ((thS z b (lsM (zP z) (zpd z b) (-1) 20) a).2.2))), (4, .int (iI ((thS z b (lsM (zP z) (zpd z b) (-1) 20) a).2.1))), (5, .int (iI ((thS z b (lsM (zP z) (zpd z b) (-1) 20) a).1))), (6, .int (iI (lsM (zP z) (zpd z b) (-1) 20))), (7, .int (iI (a : Int))), (8, .int (iI zz)), (9, .int (iI (k : Int)))] : List (Nat × Value))) (show ((fr (zP z) (zpd z b) (a : Int) k) : Int) = zfr z b (a : Int) from hfe)) ?_
              refine KIload C dL_through_137 8 rfl ?_
              refine KIf_le (tgt := 207) C dL_through_139 (by decide) ⟨by omega, by omega⟩ (fun c139 => ?_) (fun c139 => ?_)
              · have ets := thS_f (z := z) (b := b) (la := (lsM (zP z) (zpd z b) (-1) 20)) (a := a) (by omega)
                refine KLvE (lv2 := [(0, .int (iI ((zpd z b : Nat) : Int))), (1, .ref (q 81)), (2, .ref (q 80)), (3, .int (iI ((thS z b (lsM (zP z) (zpd z b) (-1) 20) (a + 1)).2.2))), (4, .int (iI ((thS z b (lsM (zP z) (zpd z b) (-1) 20) a).2.1))), (5, .int (iI ((thS z b (lsM (zP z) (zpd z b) (-1) 20) a).1))), (6, .int (iI (lsM (zP z) (zpd z b) (-1) 20))), (7, .int (iI (a : Int))), (8, .int (iI (zfr z b (a : Int)))), (9, .int (iI (k : Int)))]) (congrArg (fun zz : Int => ([(0, .int (iI ((zpd z b : Nat) : Int))), (1, .ref (q 81)), (2, .ref (q 80)), (3, .int (iI zz)), (4, .int (iI ((thS z b (lsM (zP z) (zpd z b) (-1) 20) a).2.1))), (5, .int (iI ((thS z b (lsM (zP z) (zpd z b) (-1) 20) a).1))), (6, .int (iI (lsM (zP z) (zpd z b) (-1) 20))), (7, .int (iI (a : Int))), (8, .int (iI (zfr z b (a : Int)))), (9, .int (iI (k : Int)))] : List (Nat × Value))) (show ((thS z b (lsM (zP z) (zpd z b) (-1) 20) a).2.2 : Int) = (thS z b (lsM (zP z) (zpd z b) (-1) 20) (a + 1)).2.2 from (by rw [ets]))) ?_
                refine KLvE (lv2 := [(0, .int (iI ((zpd z b : Nat) : Int))), (1, .ref (q 81)), (2, .ref (q 80)), (3, .int (iI ((thS z b (lsM (zP z) (zpd z b) (-1) 20) (a + 1)).2.2))), (4, .int (iI ((thS z b (lsM (zP z) (zpd z b) (-1) 20) (a + 1)).2.1))), (5, .int (iI ((thS z b (lsM (zP z) (zpd z b) (-1) 20) a).1))), (6, .int (iI (lsM (zP z) (zpd z b) (-1) 20))), (7, .int (iI (a : Int))), (8, .int (iI (zfr z b (a : Int)))), (9, .int (iI (k : Int)))]) (congrArg (fun zz : Int => ([(0, .int (iI ((zpd z b : Nat) : Int))), (1, .ref (q 81)), (2, .ref (q 80)), (3, .int (iI ((thS z b (lsM (zP z) (zpd z b) (-1) 20) (a + 1)).2.2))), (4, .int (iI zz)), (5, .int (iI ((thS z b (lsM (zP z) (zpd z b) (-1) 20) a).1))), (6, .int (iI (lsM (zP z) (zpd z b) (-1) 20))), (7, .int (iI (a : Int))), (8, .int (iI (zfr z b (a : Int)))), (9, .int (iI (k : Int)))] : List (Nat × Value))) (show ((thS z b (lsM (zP z) (zpd z b) (-1) 20) a).2.1 : Int) = (thS z b (lsM (zP z) (zpd z b) (-1) 20) (a + 1)).2.1 from (by rw [ets]))) ?_
                refine KLvE (lv2 := [(0, .int (iI ((zpd z b : Nat) : Int))), (1, .ref (q 81)), (2, .ref (q 80)), (3, .int (iI ((thS z b (lsM (zP z) (zpd z b) (-1) 20) (a + 1)).2.2))), (4, .int (iI ((thS z b (lsM (zP z) (zpd z b) (-1) 20) (a + 1)).2.1))), (5, .int (iI ((thS z b (lsM (zP z) (zpd z b) (-1) 20) (a + 1)).1))), (6, .int (iI (lsM (zP z) (zpd z b) (-1) 20))), (7, .int (iI (a : Int))), (8, .int (iI (zfr z b (a : Int)))), (9, .int (iI (k : Int)))]) (congrArg (fun zz : Int => ([(0, .int (iI ((zpd z b : Nat) : Int))), (1, .ref (q 81)), (2, .ref (q 80)), (3, .int (iI ((thS z b (lsM (zP z) (zpd z b) (-1) 20) (a + 1)).2.2))), (4, .int (iI ((thS z b (lsM (zP z) (zpd z b) (-1) 20) (a + 1)).2.1))), (5, .int (iI zz)), (6, .int (iI (lsM (zP z) (zpd z b) (-1) 20))), (7, .int (iI (a : Int))), (8, .int (iI (zfr z b (a : Int)))), (9, .int (iI (k : Int)))] : List (Nat × Value))) (show ((thS z b (lsM (zP z) (zpd z b) (-1) 20) a).1 : Int) = (thS z b (lsM (zP z) (zpd z b) (-1) 20) (a + 1)).1 from (by rw [ets]))) ?_
                refine KIinc (v := ((a + 1 : Nat) : Int)) (lv' := [(7, .int (iI ((a + 1 : Nat) : Int))), (0, .int (iI ((zpd z b : Nat) : Int))), (1, .ref (q 81)), (2, .ref (q 80)), (3, .int (iI ((thS z b (lsM (zP z) (zpd z b) (-1) 20) (a + 1)).2.2))), (4, .int (iI ((thS z b (lsM (zP z) (zpd z b) (-1) 20) (a + 1)).2.1))), (5, .int (iI ((thS z b (lsM (zP z) (zpd z b) (-1) 20) (a + 1)).1))), (6, .int (iI (lsM (zP z) (zpd z b) (-1) 20))), (8, .int (iI (zfr z b (a : Int)))), (9, .int (iI (k : Int)))]) C dL_through_207 7 rfl (by omega) (by decide) rfl ?_
                refine KGoto (tgt := 14) C dL_through_210 (by decide) ?_
                refine KLv (lv' := [(0, .int (iI ((zpd z b : Nat) : Int))), (1, .ref (q 81)), (2, .ref (q 80)), (3, .int (iI ((thS z b (lsM (zP z) (zpd z b) (-1) 20) (a + 1)).2.2))), (4, .int (iI ((thS z b (lsM (zP z) (zpd z b) (-1) 20) (a + 1)).2.1))), (5, .int (iI ((thS z b (lsM (zP z) (zpd z b) (-1) 20) (a + 1)).1))), (6, .int (iI (lsM (zP z) (zpd z b) (-1) 20))), (7, .int (iI ((a + 1 : Nat) : Int)))]) [1, 2, 3, 4, 5, 6, 7, 0] rfl ?_
                exact ih14 (a + 1) (lsM (zP z) (zpd z b) (-1) 20) (by omega) (by omega) (lsM_id 20 (Nat.le_refl _)) (lsM_b hm (by omega) 20 (Nat.le_refl _))
              · have hlb20 := lsM_b hm (v0 := -1) (by omega) 20 (Nat.le_refl _)
                refine KIload C dL_through_142 5 rfl ?_
                refine KIload C dL_through_144 7 rfl ?_
                refine KIload C dL_through_146 4 rfl ?_
                refine KIsub C dL_through_148 ?_
                refine KAload_n C dL_through_149 rfl 2 rfl ?_
                refine KBipush C dL_through_150 (by decide) ?_
                refine KIald  (v := zG z) C 8 (hT.at0 80 20) (hT.ln0 80 8) ⟨by omega, by omega⟩ (by omega) lq7 dL_through_152 ?_
                refine KImul C dL_through_153 ?_
                refine KIload C dL_through_154 7 rfl ?_
                refine KIload C dL_through_156 6 rfl ?_
                refine KIcmp_lt (tgt := 166) C dL_through_158 (by decide) ⟨by omega, by omega⟩ ⟨by omega, by omega⟩ (fun c158 => ?_) (fun c158 => ?_)
                · have ets := thS_t1 (z := z) (b := b) (la := (lsM (zP z) (zpd z b) (-1) 20)) (a := a) (by omega) (Or.inl (by omega))
                  refine KAload_n C dL_through_166 rfl 2 rfl ?_
                  refine KBipush C dL_through_167 (by decide) ?_
                  refine KIald  (v := zN z) C 8 (hT.at0 80 20) (hT.ln0 80 8) ⟨by omega, by omega⟩ (by omega) lq6 dL_through_169 ?_
                  refine KIconst C dL_through_170 ?_
                  refine KIadd C dL_through_171 ?_
                  refine KGoto (tgt := 179) C dL_through_172 (by decide) ?_
                  refine KIadd C dL_through_179 ?_
                  refine KIadd C dL_through_180 ?_
                  refine KTop (congrArg iI (show ((thS z b (lsM (zP z) (zpd z b) (-1) 20) a).1) + ((((a : Int) - ((thS z b (lsM (zP z) (zpd z b) (-1) 20) a).2.1)) * (zG z)) + ((zN z) + 1)) = (thS z b (lsM (zP z) (zpd z b) (-1) 20) (a + 1)).1 from (by rw [ets]))) ?_
                  refine KIstore (lv' := [(5, .int (iI ((thS z b (lsM (zP z) (zpd z b) (-1) 20) (a + 1)).1))), (0, .int (iI ((zpd z b : Nat) : Int))), (1, .ref (q 81)), (2, .ref (q 80)), (3, .int (iI ((thS z b (lsM (zP z) (zpd z b) (-1) 20) a).2.2))), (4, .int (iI ((thS z b (lsM (zP z) (zpd z b) (-1) 20) a).2.1))), (6, .int (iI (lsM (zP z) (zpd z b) (-1) 20))), (7, .int (iI (a : Int))), (8, .int (iI (zfr z b (a : Int)))), (9, .int (iI (k : Int)))]) C dL_through_181 (by decide) rfl ?_
                  refine KIload C dL_through_183 7 rfl ?_
                  refine KIload C dL_through_185 6 rfl ?_
                  refine KIcmp_lt (tgt := 195) C dL_through_187 (by decide) ⟨by omega, by omega⟩ ⟨by omega, by omega⟩ (fun c187 => ?_) (fun c187 => absurd c187 (by omega))
                  refine KIconst C dL_through_195 ?_
                  refine KIload_n C dL_through_196 rfl 4 rfl ?_
                  refine KIsub C dL_through_197 ?_
                  refine KGoto (tgt := 202) C dL_through_198 (by decide) ?_
                  refine KTop (congrArg iI (show 1 - ((thS z b (lsM (zP z) (zpd z b) (-1) 20) a).2.2) = (thS z b (lsM (zP z) (zpd z b) (-1) 20) (a + 1)).2.2 from (by rw [ets]))) ?_
                  refine KIstore_n (lv' := [(3, .int (iI ((thS z b (lsM (zP z) (zpd z b) (-1) 20) (a + 1)).2.2))), (5, .int (iI ((thS z b (lsM (zP z) (zpd z b) (-1) 20) (a + 1)).1))), (0, .int (iI ((zpd z b : Nat) : Int))), (1, .ref (q 81)), (2, .ref (q 80)), (4, .int (iI ((thS z b (lsM (zP z) (zpd z b) (-1) 20) a).2.1))), (6, .int (iI (lsM (zP z) (zpd z b) (-1) 20))), (7, .int (iI (a : Int))), (8, .int (iI (zfr z b (a : Int)))), (9, .int (iI (k : Int)))]) C dL_through_202 rfl (by decide) rfl ?_
                  refine KIload C dL_through_203 7 rfl ?_
                  refine KTop (congrArg iI (show (a : Int) = (thS z b (lsM (zP z) (zpd z b) (-1) 20) (a + 1)).2.1 from (by rw [ets]))) ?_
                  refine KIstore (lv' := [(4, .int (iI ((thS z b (lsM (zP z) (zpd z b) (-1) 20) (a + 1)).2.1))), (3, .int (iI ((thS z b (lsM (zP z) (zpd z b) (-1) 20) (a + 1)).2.2))), (5, .int (iI ((thS z b (lsM (zP z) (zpd z b) (-1) 20) (a + 1)).1))), (0, .int (iI ((zpd z b : Nat) : Int))), (1, .ref (q 81)), (2, .ref (q 80)), (6, .int (iI (lsM (zP z) (zpd z b) (-1) 20))), (7, .int (iI (a : Int))), (8, .int (iI (zfr z b (a : Int)))), (9, .int (iI (k : Int)))]) C dL_through_205 (by decide) rfl ?_
                  refine KIinc (v := ((a + 1 : Nat) : Int)) (lv' := [(7, .int (iI ((a + 1 : Nat) : Int))), (4, .int (iI ((thS z b (lsM (zP z) (zpd z b) (-1) 20) (a + 1)).2.1))), (3, .int (iI ((thS z b (lsM (zP z) (zpd z b) (-1) 20) (a + 1)).2.2))), (5, .int (iI ((thS z b (lsM (zP z) (zpd z b) (-1) 20) (a + 1)).1))), (0, .int (iI ((zpd z b : Nat) : Int))), (1, .ref (q 81)), (2, .ref (q 80)), (6, .int (iI (lsM (zP z) (zpd z b) (-1) 20))), (8, .int (iI (zfr z b (a : Int)))), (9, .int (iI (k : Int)))]) C dL_through_207 7 rfl (by omega) (by decide) rfl ?_
                  refine KGoto (tgt := 14) C dL_through_210 (by decide) ?_
                  refine KLv (lv' := [(0, .int (iI ((zpd z b : Nat) : Int))), (1, .ref (q 81)), (2, .ref (q 80)), (3, .int (iI ((thS z b (lsM (zP z) (zpd z b) (-1) 20) (a + 1)).2.2))), (4, .int (iI ((thS z b (lsM (zP z) (zpd z b) (-1) 20) (a + 1)).2.1))), (5, .int (iI ((thS z b (lsM (zP z) (zpd z b) (-1) 20) (a + 1)).1))), (6, .int (iI (lsM (zP z) (zpd z b) (-1) 20))), (7, .int (iI ((a + 1 : Nat) : Int)))]) [4, 5, 6, 2, 1, 3, 7, 0] rfl ?_
                  exact ih14 (a + 1) (lsM (zP z) (zpd z b) (-1) 20) (by omega) (by omega) (lsM_id 20 (Nat.le_refl _)) (lsM_b hm (by omega) 20 (Nat.le_refl _))
                · refine KIload_n C dL_through_161 rfl 3 rfl ?_
                  refine KIconst C dL_through_162 ?_
                  refine KIcmp_ne (tgt := 175) C dL_through_163 (by decide) ⟨by omega, by omega⟩ ⟨by omega, by omega⟩ (fun c163 => ?_) (fun c163 => ?_)
                  · have ets := thS_t0 (z := z) (b := b) (la := (lsM (zP z) (zpd z b) (-1) 20)) (a := a) (by omega) (by omega)
                    refine KIconst C dL_through_175 ?_
                    refine KIload C dL_through_176 8 rfl ?_
                    refine KImul C dL_through_178 ?_
                    refine KIadd C dL_through_179 ?_
                    refine KIadd C dL_through_180 ?_
                    refine KTop (congrArg iI (show ((thS z b (lsM (zP z) (zpd z b) (-1) 20) a).1) + ((((a : Int) - ((thS z b (lsM (zP z) (zpd z b) (-1) 20) a).2.1)) * (zG z)) + (2 * (zfr z b (a : Int)))) = (thS z b (lsM (zP z) (zpd z b) (-1) 20) (a + 1)).1 from (by rw [ets]))) ?_
                    refine KIstore (lv' := [(5, .int (iI ((thS z b (lsM (zP z) (zpd z b) (-1) 20) (a + 1)).1))), (0, .int (iI ((zpd z b : Nat) : Int))), (1, .ref (q 81)), (2, .ref (q 80)), (3, .int (iI ((thS z b (lsM (zP z) (zpd z b) (-1) 20) a).2.2))), (4, .int (iI ((thS z b (lsM (zP z) (zpd z b) (-1) 20) a).2.1))), (6, .int (iI (lsM (zP z) (zpd z b) (-1) 20))), (7, .int (iI (a : Int))), (8, .int (iI (zfr z b (a : Int)))), (9, .int (iI (k : Int)))]) C dL_through_181 (by decide) rfl ?_
                    refine KIload C dL_through_183 7 rfl ?_
                    refine KIload C dL_through_185 6 rfl ?_
                    refine KIcmp_lt (tgt := 195) C dL_through_187 (by decide) ⟨by omega, by omega⟩ ⟨by omega, by omega⟩ (fun c187 => absurd c187 (by omega)) (fun c187 => ?_)
                    refine KIload_n C dL_through_190 rfl 4 rfl ?_
                    refine KIconst C dL_through_191 ?_
                    refine KIcmp_ne (tgt := 201) C dL_through_192 (by decide) ⟨by omega, by omega⟩ ⟨by omega, by omega⟩ (fun c192 => ?_) (fun c192 => absurd c192 (by omega))
                    refine KIload_n C dL_through_201 rfl 4 rfl ?_
                    refine KTop (congrArg iI (show (thS z b (lsM (zP z) (zpd z b) (-1) 20) a).2.2 = (thS z b (lsM (zP z) (zpd z b) (-1) 20) (a + 1)).2.2 from (by rw [ets]))) ?_
                    refine KIstore_n (lv' := [(3, .int (iI ((thS z b (lsM (zP z) (zpd z b) (-1) 20) (a + 1)).2.2))), (5, .int (iI ((thS z b (lsM (zP z) (zpd z b) (-1) 20) (a + 1)).1))), (0, .int (iI ((zpd z b : Nat) : Int))), (1, .ref (q 81)), (2, .ref (q 80)), (4, .int (iI ((thS z b (lsM (zP z) (zpd z b) (-1) 20) a).2.1))), (6, .int (iI (lsM (zP z) (zpd z b) (-1) 20))), (7, .int (iI (a : Int))), (8, .int (iI (zfr z b (a : Int)))), (9, .int (iI (k : Int)))]) C dL_through_202 rfl (by decide) rfl ?_
                    refine KIload C dL_through_203 7 rfl ?_
                    refine KTop (congrArg iI (show (a : Int) = (thS z b (lsM (zP z) (zpd z b) (-1) 20) (a + 1)).2.1 from (by rw [ets]))) ?_
                    refine KIstore (lv' := [(4, .int (iI ((thS z b (lsM (zP z) (zpd z b) (-1) 20) (a + 1)).2.1))), (3, .int (iI ((thS z b (lsM (zP z) (zpd z b) (-1) 20) (a + 1)).2.2))), (5, .int (iI ((thS z b (lsM (zP z) (zpd z b) (-1) 20) (a + 1)).1))), (0, .int (iI ((zpd z b : Nat) : Int))), (1, .ref (q 81)), (2, .ref (q 80)), (6, .int (iI (lsM (zP z) (zpd z b) (-1) 20))), (7, .int (iI (a : Int))), (8, .int (iI (zfr z b (a : Int)))), (9, .int (iI (k : Int)))]) C dL_through_205 (by decide) rfl ?_
                    refine KIinc (v := ((a + 1 : Nat) : Int)) (lv' := [(7, .int (iI ((a + 1 : Nat) : Int))), (4, .int (iI ((thS z b (lsM (zP z) (zpd z b) (-1) 20) (a + 1)).2.1))), (3, .int (iI ((thS z b (lsM (zP z) (zpd z b) (-1) 20) (a + 1)).2.2))), (5, .int (iI ((thS z b (lsM (zP z) (zpd z b) (-1) 20) (a + 1)).1))), (0, .int (iI ((zpd z b : Nat) : Int))), (1, .ref (q 81)), (2, .ref (q 80)), (6, .int (iI (lsM (zP z) (zpd z b) (-1) 20))), (8, .int (iI (zfr z b (a : Int)))), (9, .int (iI (k : Int)))]) C dL_through_207 7 rfl (by omega) (by decide) rfl ?_
                    refine KGoto (tgt := 14) C dL_through_210 (by decide) ?_
                    refine KLv (lv' := [(0, .int (iI ((zpd z b : Nat) : Int))), (1, .ref (q 81)), (2, .ref (q 80)), (3, .int (iI ((thS z b (lsM (zP z) (zpd z b) (-1) 20) (a + 1)).2.2))), (4, .int (iI ((thS z b (lsM (zP z) (zpd z b) (-1) 20) (a + 1)).2.1))), (5, .int (iI ((thS z b (lsM (zP z) (zpd z b) (-1) 20) (a + 1)).1))), (6, .int (iI (lsM (zP z) (zpd z b) (-1) 20))), (7, .int (iI ((a + 1 : Nat) : Int)))]) [4, 5, 6, 2, 1, 3, 7, 0] rfl ?_
                    exact ih14 (a + 1) (lsM (zP z) (zpd z b) (-1) 20) (by omega) (by omega) (lsM_id 20 (Nat.le_refl _)) (lsM_b hm (by omega) 20 (Nat.le_refl _))
                  · have ets := thS_t1 (z := z) (b := b) (la := (lsM (zP z) (zpd z b) (-1) 20)) (a := a) (by omega) (Or.inr (by omega))
                    refine KAload_n C dL_through_166 rfl 2 rfl ?_
                    refine KBipush C dL_through_167 (by decide) ?_
                    refine KIald  (v := zN z) C 8 (hT.at0 80 20) (hT.ln0 80 8) ⟨by omega, by omega⟩ (by omega) lq6 dL_through_169 ?_
                    refine KIconst C dL_through_170 ?_
                    refine KIadd C dL_through_171 ?_
                    refine KGoto (tgt := 179) C dL_through_172 (by decide) ?_
                    refine KIadd C dL_through_179 ?_
                    refine KIadd C dL_through_180 ?_
                    refine KTop (congrArg iI (show ((thS z b (lsM (zP z) (zpd z b) (-1) 20) a).1) + ((((a : Int) - ((thS z b (lsM (zP z) (zpd z b) (-1) 20) a).2.1)) * (zG z)) + ((zN z) + 1)) = (thS z b (lsM (zP z) (zpd z b) (-1) 20) (a + 1)).1 from (by rw [ets]))) ?_
                    refine KIstore (lv' := [(5, .int (iI ((thS z b (lsM (zP z) (zpd z b) (-1) 20) (a + 1)).1))), (0, .int (iI ((zpd z b : Nat) : Int))), (1, .ref (q 81)), (2, .ref (q 80)), (3, .int (iI ((thS z b (lsM (zP z) (zpd z b) (-1) 20) a).2.2))), (4, .int (iI ((thS z b (lsM (zP z) (zpd z b) (-1) 20) a).2.1))), (6, .int (iI (lsM (zP z) (zpd z b) (-1) 20))), (7, .int (iI (a : Int))), (8, .int (iI (zfr z b (a : Int)))), (9, .int (iI (k : Int)))]) C dL_through_181 (by decide) rfl ?_
                    refine KIload C dL_through_183 7 rfl ?_
                    refine KIload C dL_through_185 6 rfl ?_
                    refine KIcmp_lt (tgt := 195) C dL_through_187 (by decide) ⟨by omega, by omega⟩ ⟨by omega, by omega⟩ (fun c187 => absurd c187 (by omega)) (fun c187 => ?_)
                    refine KIload_n C dL_through_190 rfl 4 rfl ?_
                    refine KIconst C dL_through_191 ?_
                    refine KIcmp_ne (tgt := 201) C dL_through_192 (by decide) ⟨by omega, by omega⟩ ⟨by omega, by omega⟩ (fun c192 => absurd c192 (by omega)) (fun c192 => ?_)
                    refine KIconst C dL_through_195 ?_
                    refine KIload_n C dL_through_196 rfl 4 rfl ?_
                    refine KIsub C dL_through_197 ?_
                    refine KGoto (tgt := 202) C dL_through_198 (by decide) ?_
                    refine KTop (congrArg iI (show 1 - ((thS z b (lsM (zP z) (zpd z b) (-1) 20) a).2.2) = (thS z b (lsM (zP z) (zpd z b) (-1) 20) (a + 1)).2.2 from (by rw [ets]))) ?_
                    refine KIstore_n (lv' := [(3, .int (iI ((thS z b (lsM (zP z) (zpd z b) (-1) 20) (a + 1)).2.2))), (5, .int (iI ((thS z b (lsM (zP z) (zpd z b) (-1) 20) (a + 1)).1))), (0, .int (iI ((zpd z b : Nat) : Int))), (1, .ref (q 81)), (2, .ref (q 80)), (4, .int (iI ((thS z b (lsM (zP z) (zpd z b) (-1) 20) a).2.1))), (6, .int (iI (lsM (zP z) (zpd z b) (-1) 20))), (7, .int (iI (a : Int))), (8, .int (iI (zfr z b (a : Int)))), (9, .int (iI (k : Int)))]) C dL_through_202 rfl (by decide) rfl ?_
                    refine KIload C dL_through_203 7 rfl ?_
                    refine KTop (congrArg iI (show (a : Int) = (thS z b (lsM (zP z) (zpd z b) (-1) 20) (a + 1)).2.1 from (by rw [ets]))) ?_
                    refine KIstore (lv' := [(4, .int (iI ((thS z b (lsM (zP z) (zpd z b) (-1) 20) (a + 1)).2.1))), (3, .int (iI ((thS z b (lsM (zP z) (zpd z b) (-1) 20) (a + 1)).2.2))), (5, .int (iI ((thS z b (lsM (zP z) (zpd z b) (-1) 20) (a + 1)).1))), (0, .int (iI ((zpd z b : Nat) : Int))), (1, .ref (q 81)), (2, .ref (q 80)), (6, .int (iI (lsM (zP z) (zpd z b) (-1) 20))), (7, .int (iI (a : Int))), (8, .int (iI (zfr z b (a : Int)))), (9, .int (iI (k : Int)))]) C dL_through_205 (by decide) rfl ?_
                    refine KIinc (v := ((a + 1 : Nat) : Int)) (lv' := [(7, .int (iI ((a + 1 : Nat) : Int))), (4, .int (iI ((thS z b (lsM (zP z) (zpd z b) (-1) 20) (a + 1)).2.1))), (3, .int (iI ((thS z b (lsM (zP z) (zpd z b) (-1) 20) (a + 1)).2.2))), (5, .int (iI ((thS z b (lsM (zP z) (zpd z b) (-1) 20) (a + 1)).1))), (0, .int (iI ((zpd z b : Nat) : Int))), (1, .ref (q 81)), (2, .ref (q 80)), (6, .int (iI (lsM (zP z) (zpd z b) (-1) 20))), (8, .int (iI (zfr z b (a : Int)))), (9, .int (iI (k : Int)))]) C dL_through_207 7 rfl (by omega) (by decide) rfl ?_
                    refine KGoto (tgt := 14) C dL_through_210 (by decide) ?_
                    refine KLv (lv' := [(0, .int (iI ((zpd z b : Nat) : Int))), (1, .ref (q 81)), (2, .ref (q 80)), (3, .int (iI ((thS z b (lsM (zP z) (zpd z b) (-1) 20) (a + 1)).2.2))), (4, .int (iI ((thS z b (lsM (zP z) (zpd z b) (-1) 20) (a + 1)).2.1))), (5, .int (iI ((thS z b (lsM (zP z) (zpd z b) (-1) 20) (a + 1)).1))), (6, .int (iI (lsM (zP z) (zpd z b) (-1) 20))), (7, .int (iI ((a + 1 : Nat) : Int)))]) [4, 5, 6, 2, 1, 3, 7, 0] rfl ?_
                    exact ih14 (a + 1) (lsM (zP z) (zpd z b) (-1) 20) (by omega) (by omega) (lsM_id 20 (Nat.le_refl _)) (lsM_b hm (by omega) 20 (Nat.le_refl _))
            · refine KIload_n C dL_through_35 rfl 0 rfl ?_
              refine KIload C dL_through_36 9 rfl ?_
              refine KIshr (v := iI ((zpd z b / 2 ^ k : Nat) : Int)) C dL_through_38 (ib_shr hm31 (by omega)) ?_
              refine KIconst C dL_through_39 ?_
              refine KIand (v := iI ((zpd z b / 2 ^ k % 2 : Nat) : Int)) C dL_through_40 (ib_bit hm31 (by omega)) ?_
              refine KIconst C dL_through_41 ?_
              refine KIcmp_ne (tgt := 61) C dL_through_42 (by decide) ⟨by omega, by omega⟩ ⟨by omega, by omega⟩ (fun c42 => ?_) (fun c42 => ?_)
              · have hbt : ¬ (zpd z b).testBit k = true := by rw [tb_0 (by omega)]; exact Bool.false_ne_true
                have efr := fr_f (P := zP z) (m := zpd z b) (ai := (a : Int)) (p := k) (Or.inl hbt)
                have els := lsM_f (P := zP z) (m := zpd z b) (v0 := la) (k := k) (Or.inl hbt)
                refine KIconst C dL_through_61 ?_
                refine KIstore (lv' := [(10, .int (iI 0)), (0, .int (iI ((zpd z b : Nat) : Int))), (1, .ref (q 81)), (2, .ref (q 80)), (3, .int (iI ((thS z b (lsM (zP z) (zpd z b) (-1) 20) a).2.2))), (4, .int (iI ((thS z b (lsM (zP z) (zpd z b) (-1) 20) a).2.1))), (5, .int (iI ((thS z b (lsM (zP z) (zpd z b) (-1) 20) a).1))), (6, .int (iI (lsM (zP z) (zpd z b) la k))), (7, .int (iI (a : Int))), (8, .int (iI (fr (zP z) (zpd z b) (a : Int) k))), (9, .int (iI (k : Int)))]) C dL_through_62 (by decide) rfl ?_
                refine KIload C dL_through_64 0 rfl ?_
                refine KIf_eq (tgt := 91) C dL_through_66 (by decide) ⟨by omega, by omega⟩ (fun _ => ?_) (fun h => absurd h (by decide))
                refine KIload C dL_through_91 9 rfl ?_
                refine KTop (congrArg iI (show (fr (zP z) (zpd z b) (a : Int) k) = (fr (zP z) (zpd z b) (a : Int) (k + 1)) from efr)) ?_
                refine KIstore (lv' := [(8, .int (iI (fr (zP z) (zpd z b) (a : Int) (k + 1)))), (10, .int (iI 0)), (0, .int (iI ((zpd z b : Nat) : Int))), (1, .ref (q 81)), (2, .ref (q 80)), (3, .int (iI ((thS z b (lsM (zP z) (zpd z b) (-1) 20) a).2.2))), (4, .int (iI ((thS z b (lsM (zP z) (zpd z b) (-1) 20) a).2.1))), (5, .int (iI ((thS z b (lsM (zP z) (zpd z b) (-1) 20) a).1))), (6, .int (iI (lsM (zP z) (zpd z b) la k))), (7, .int (iI (a : Int))), (9, .int (iI (k : Int)))]) C dL_through_93 (by decide) rfl ?_
                refine KIload_n C dL_through_95 rfl 2 rfl ?_
                refine KIload C dL_through_96 10 rfl ?_
                refine KIshr (v := iI ((zpd z b / 2 ^ k : Nat) : Int)) C dL_through_98 (ib_shr hm31 (by omega)) ?_
                refine KIconst C dL_through_99 ?_
                refine KIand (v := iI ((zpd z b / 2 ^ k % 2 : Nat) : Int)) C dL_through_100 (ib_bit hm31 (by omega)) ?_
                refine KIconst C dL_through_101 ?_
                refine KIcmp_ne (tgt := 127) C dL_through_102 (by decide) ⟨by omega, by omega⟩ ⟨by omega, by omega⟩ (fun c102 => ?_) (fun c102 => absurd c102 (fun h9 => hbt (tb_1 (by omega))))
                refine KIload C dL_through_127 8 rfl ?_
                refine KTop (congrArg iI (show lsM (zP z) (zpd z b) la k = lsM (zP z) (zpd z b) la (k + 1) from els)) ?_
                refine KIstore (lv' := [(6, .int (iI (lsM (zP z) (zpd z b) la (k + 1)))), (8, .int (iI (fr (zP z) (zpd z b) (a : Int) (k + 1)))), (10, .int (iI 0)), (0, .int (iI ((zpd z b : Nat) : Int))), (1, .ref (q 81)), (2, .ref (q 80)), (3, .int (iI ((thS z b (lsM (zP z) (zpd z b) (-1) 20) a).2.2))), (4, .int (iI ((thS z b (lsM (zP z) (zpd z b) (-1) 20) a).2.1))), (5, .int (iI ((thS z b (lsM (zP z) (zpd z b) (-1) 20) a).1))), (7, .int (iI (a : Int))), (9, .int (iI (k : Int)))]) C dL_through_129 (by decide) rfl ?_
                refine KIinc (v := ((k + 1 : Nat) : Int)) (lv' := [(9, .int (iI ((k + 1 : Nat) : Int))), (6, .int (iI (lsM (zP z) (zpd z b) la (k + 1)))), (8, .int (iI (fr (zP z) (zpd z b) (a : Int) (k + 1)))), (10, .int (iI 0)), (0, .int (iI ((zpd z b : Nat) : Int))), (1, .ref (q 81)), (2, .ref (q 80)), (3, .int (iI ((thS z b (lsM (zP z) (zpd z b) (-1) 20) a).2.2))), (4, .int (iI ((thS z b (lsM (zP z) (zpd z b) (-1) 20) a).2.1))), (5, .int (iI ((thS z b (lsM (zP z) (zpd z b) (-1) 20) a).1))), (7, .int (iI (a : Int)))]) C dL_through_131 10 rfl (by omega) (by decide) rfl ?_
                refine KGoto (tgt := 28) C dL_through_134 (by decide) ?_
                refine KLv (lv' := [(0, .int (iI ((zpd z b : Nat) : Int))), (1, .ref (q 81)), (2, .ref (q 80)), (3, .int (iI ((thS z b (lsM (zP z) (zpd z b) (-1) 20) a).2.2))), (4, .int (iI ((thS z b (lsM (zP z) (zpd z b) (-1) 20) a).2.1))), (5, .int (iI ((thS z b (lsM (zP z) (zpd z b) (-1) 20) a).1))), (6, .int (iI (lsM (zP z) (zpd z b) la (k + 1)))), (7, .int (iI (a : Int))), (8, .int (iI (fr (zP z) (zpd z b) (a : Int) (k + 1)))), (9, .int (iI ((k + 1 : Nat) : Int)))]) [4, 5, 6, 7, 8, 9, 1, 10, 2, 0] rfl ?_
                exact ih28 (k + 1) (by omega) (by omega)
              · have hbt : (zpd z b).testBit k = true := tb_1 (by omega)
                have hpk := hm.1 k (by omega) hbt
                refine KAload_n C dL_through_45 rfl 1 rfl ?_
                refine KIload C dL_through_46 9 rfl ?_
                refine KIald  (v := zP z (k : Int)) C 20 (hT.at0 81 20) (hT.ln0 81 20) ⟨by omega, by omega⟩ (by omega) (congrFun lP _) dL_through_48 ?_
                refine KBipush C dL_through_49 (by decide) ?_
                refine KIdiv (z := (zP z (k : Int)) / 100) C dL_through_51 ⟨by omega, by omega⟩ ⟨by omega, by omega⟩ (by omega) (tdiv_pos (by omega)) ?_
                refine KIload C dL_through_52 7 rfl ?_
                refine KIcmp_ne (tgt := 61) C dL_through_54 (by decide) ⟨by omega, by omega⟩ ⟨by omega, by omega⟩ (fun c54 => ?_) (fun c54 => ?_)
                · have efr := fr_f (P := zP z) (m := zpd z b) (ai := (a : Int)) (p := k) (Or.inr (Or.inl (by omega)))
                  refine KIconst C dL_through_61 ?_
                  refine KIstore (lv' := [(10, .int (iI 0)), (0, .int (iI ((zpd z b : Nat) : Int))), (1, .ref (q 81)), (2, .ref (q 80)), (3, .int (iI ((thS z b (lsM (zP z) (zpd z b) (-1) 20) a).2.2))), (4, .int (iI ((thS z b (lsM (zP z) (zpd z b) (-1) 20) a).2.1))), (5, .int (iI ((thS z b (lsM (zP z) (zpd z b) (-1) 20) a).1))), (6, .int (iI (lsM (zP z) (zpd z b) la k))), (7, .int (iI (a : Int))), (8, .int (iI (fr (zP z) (zpd z b) (a : Int) k))), (9, .int (iI (k : Int)))]) C dL_through_62 (by decide) rfl ?_
                  refine KIload C dL_through_64 0 rfl ?_
                  refine KIf_eq (tgt := 91) C dL_through_66 (by decide) ⟨by omega, by omega⟩ (fun _ => ?_) (fun h => absurd h (by decide))
                  refine KIload C dL_through_91 9 rfl ?_
                  refine KTop (congrArg iI (show (fr (zP z) (zpd z b) (a : Int) k) = (fr (zP z) (zpd z b) (a : Int) (k + 1)) from efr)) ?_
                  refine KIstore (lv' := [(8, .int (iI (fr (zP z) (zpd z b) (a : Int) (k + 1)))), (10, .int (iI 0)), (0, .int (iI ((zpd z b : Nat) : Int))), (1, .ref (q 81)), (2, .ref (q 80)), (3, .int (iI ((thS z b (lsM (zP z) (zpd z b) (-1) 20) a).2.2))), (4, .int (iI ((thS z b (lsM (zP z) (zpd z b) (-1) 20) a).2.1))), (5, .int (iI ((thS z b (lsM (zP z) (zpd z b) (-1) 20) a).1))), (6, .int (iI (lsM (zP z) (zpd z b) la k))), (7, .int (iI (a : Int))), (9, .int (iI (k : Int)))]) C dL_through_93 (by decide) rfl ?_
                  refine KIload_n C dL_through_95 rfl 2 rfl ?_
                  refine KIload C dL_through_96 10 rfl ?_
                  refine KIshr (v := iI ((zpd z b / 2 ^ k : Nat) : Int)) C dL_through_98 (ib_shr hm31 (by omega)) ?_
                  refine KIconst C dL_through_99 ?_
                  refine KIand (v := iI ((zpd z b / 2 ^ k % 2 : Nat) : Int)) C dL_through_100 (ib_bit hm31 (by omega)) ?_
                  refine KIconst C dL_through_101 ?_
                  refine KIcmp_ne (tgt := 127) C dL_through_102 (by decide) ⟨by omega, by omega⟩ ⟨by omega, by omega⟩ (fun c102 => absurd c102 (fun h9 => by rw [tb_0 (by omega)] at hbt; cases hbt)) (fun c102 => ?_)
                  refine KAload_n C dL_through_105 rfl 3 rfl ?_
                  refine KIload C dL_through_106 10 rfl ?_
                  refine KIald  (v := zP z (k : Int)) C 20 (hT.at0 81 20) (hT.ln0 81 20) ⟨by omega, by omega⟩ (by omega) (congrFun lP _) dL_through_108 ?_
                  refine KBipush C dL_through_109 (by decide) ?_
                  refine KIdiv (z := (zP z (k : Int)) / 100) C dL_through_111 ⟨by omega, by omega⟩ ⟨by omega, by omega⟩ (by omega) (tdiv_pos (by omega)) ?_
                  refine KIload C dL_through_112 8 rfl ?_
                  refine KIcmp_le (tgt := 127) C dL_through_114 (by decide) ⟨by omega, by omega⟩ ⟨by omega, by omega⟩ (fun c114 => ?_) (fun c114 => ?_)
                  · have els := lsM_f (P := zP z) (m := zpd z b) (v0 := la) (k := k) (Or.inr (by omega))
                    refine KIload C dL_through_127 8 rfl ?_
                    refine KTop (congrArg iI (show lsM (zP z) (zpd z b) la k = lsM (zP z) (zpd z b) la (k + 1) from els)) ?_
                    refine KIstore (lv' := [(6, .int (iI (lsM (zP z) (zpd z b) la (k + 1)))), (8, .int (iI (fr (zP z) (zpd z b) (a : Int) (k + 1)))), (10, .int (iI 0)), (0, .int (iI ((zpd z b : Nat) : Int))), (1, .ref (q 81)), (2, .ref (q 80)), (3, .int (iI ((thS z b (lsM (zP z) (zpd z b) (-1) 20) a).2.2))), (4, .int (iI ((thS z b (lsM (zP z) (zpd z b) (-1) 20) a).2.1))), (5, .int (iI ((thS z b (lsM (zP z) (zpd z b) (-1) 20) a).1))), (7, .int (iI (a : Int))), (9, .int (iI (k : Int)))]) C dL_through_129 (by decide) rfl ?_
                    refine KIinc (v := ((k + 1 : Nat) : Int)) (lv' := [(9, .int (iI ((k + 1 : Nat) : Int))), (6, .int (iI (lsM (zP z) (zpd z b) la (k + 1)))), (8, .int (iI (fr (zP z) (zpd z b) (a : Int) (k + 1)))), (10, .int (iI 0)), (0, .int (iI ((zpd z b : Nat) : Int))), (1, .ref (q 81)), (2, .ref (q 80)), (3, .int (iI ((thS z b (lsM (zP z) (zpd z b) (-1) 20) a).2.2))), (4, .int (iI ((thS z b (lsM (zP z) (zpd z b) (-1) 20) a).2.1))), (5, .int (iI ((thS z b (lsM (zP z) (zpd z b) (-1) 20) a).1))), (7, .int (iI (a : Int)))]) C dL_through_131 10 rfl (by omega) (by decide) rfl ?_
                    refine KGoto (tgt := 28) C dL_through_134 (by decide) ?_
                    refine KLv (lv' := [(0, .int (iI ((zpd z b : Nat) : Int))), (1, .ref (q 81)), (2, .ref (q 80)), (3, .int (iI ((thS z b (lsM (zP z) (zpd z b) (-1) 20) a).2.2))), (4, .int (iI ((thS z b (lsM (zP z) (zpd z b) (-1) 20) a).2.1))), (5, .int (iI ((thS z b (lsM (zP z) (zpd z b) (-1) 20) a).1))), (6, .int (iI (lsM (zP z) (zpd z b) la (k + 1)))), (7, .int (iI (a : Int))), (8, .int (iI (fr (zP z) (zpd z b) (a : Int) (k + 1)))), (9, .int (iI ((k + 1 : Nat) : Int)))]) [4, 5, 6, 7, 8, 9, 1, 10, 2, 0] rfl ?_
                    exact ih28 (k + 1) (by omega) (by omega)
                  · have els := lsM_t (P := zP z) (m := zpd z b) (v0 := la) (k := k) hbt (by omega)
                    refine KAload_n C dL_through_117 rfl 3 rfl ?_
                    refine KIload C dL_through_118 10 rfl ?_
                    refine KIald  (v := zP z (k : Int)) C 20 (hT.at0 81 20) (hT.ln0 81 20) ⟨by omega, by omega⟩ (by omega) (congrFun lP _) dL_through_120 ?_
                    refine KBipush C dL_through_121 (by decide) ?_
                    refine KIdiv (z := (zP z (k : Int)) / 100) C dL_through_123 ⟨by omega, by omega⟩ ⟨by omega, by omega⟩ (by omega) (tdiv_pos (by omega)) ?_
                    refine KGoto (tgt := 129) C dL_through_124 (by decide) ?_
                    refine KTop (congrArg iI (show (zP z (k : Int)) / 100 = lsM (zP z) (zpd z b) la (k + 1) from els)) ?_
                    refine KIstore (lv' := [(6, .int (iI (lsM (zP z) (zpd z b) la (k + 1)))), (8, .int (iI (fr (zP z) (zpd z b) (a : Int) (k + 1)))), (10, .int (iI 0)), (0, .int (iI ((zpd z b : Nat) : Int))), (1, .ref (q 81)), (2, .ref (q 80)), (3, .int (iI ((thS z b (lsM (zP z) (zpd z b) (-1) 20) a).2.2))), (4, .int (iI ((thS z b (lsM (zP z) (zpd z b) (-1) 20) a).2.1))), (5, .int (iI ((thS z b (lsM (zP z) (zpd z b) (-1) 20) a).1))), (7, .int (iI (a : Int))), (9, .int (iI (k : Int)))]) C dL_through_129 (by decide) rfl ?_
                    refine KIinc (v := ((k + 1 : Nat) : Int)) (lv' := [(9, .int (iI ((k + 1 : Nat) : Int))), (6, .int (iI (lsM (zP z) (zpd z b) la (k + 1)))), (8, .int (iI (fr (zP z) (zpd z b) (a : Int) (k + 1)))), (10, .int (iI 0)), (0, .int (iI ((zpd z b : Nat) : Int))), (1, .ref (q 81)), (2, .ref (q 80)), (3, .int (iI ((thS z b (lsM (zP z) (zpd z b) (-1) 20) a).2.2))), (4, .int (iI ((thS z b (lsM (zP z) (zpd z b) (-1) 20) a).2.1))), (5, .int (iI ((thS z b (lsM (zP z) (zpd z b) (-1) 20) a).1))), (7, .int (iI (a : Int)))]) C dL_through_131 10 rfl (by omega) (by decide) rfl ?_
                    refine KGoto (tgt := 28) C dL_through_134 (by decide) ?_
                    refine KLv (lv' := [(0, .int (iI ((zpd z b : Nat) : Int))), (1, .ref (q 81)), (2, .ref (q 80)), (3, .int (iI ((thS z b (lsM (zP z) (zpd z b) (-1) 20) a).2.2))), (4, .int (iI ((thS z b (lsM (zP z) (zpd z b) (-1) 20) a).2.1))), (5, .int (iI ((thS z b (lsM (zP z) (zpd z b) (-1) 20) a).1))), (6, .int (iI (lsM (zP z) (zpd z b) la (k + 1)))), (7, .int (iI (a : Int))), (8, .int (iI (fr (zP z) (zpd z b) (a : Int) (k + 1)))), (9, .int (iI ((k + 1 : Nat) : Int)))]) [4, 5, 6, 7, 8, 9, 1, 10, 2, 0] rfl ?_
                    exact ih28 (k + 1) (by omega) (by omega)
                · refine KIconst C dL_through_57 ?_
                  refine KGoto (tgt := 62) C dL_through_58 (by decide) ?_
                  refine KIstore (lv' := [(10, .int (iI 1)), (0, .int (iI ((zpd z b : Nat) : Int))), (1, .ref (q 81)), (2, .ref (q 80)), (3, .int (iI ((thS z b (lsM (zP z) (zpd z b) (-1) 20) a).2.2))), (4, .int (iI ((thS z b (lsM (zP z) (zpd z b) (-1) 20) a).2.1))), (5, .int (iI ((thS z b (lsM (zP z) (zpd z b) (-1) 20) a).1))), (6, .int (iI (lsM (zP z) (zpd z b) la k))), (7, .int (iI (a : Int))), (8, .int (iI (fr (zP z) (zpd z b) (a : Int) k))), (9, .int (iI (k : Int)))]) C dL_through_62 (by decide) rfl ?_
                  refine KIload C dL_through_64 0 rfl ?_
                  refine KIf_eq (tgt := 91) C dL_through_66 (by decide) ⟨by omega, by omega⟩ (fun h => absurd h (by decide)) (fun _ => ?_)
                  refine KAload_n C dL_through_69 rfl 2 rfl ?_
                  refine KIload C dL_through_70 10 rfl ?_
                  refine KIald  (v := zP z (k : Int)) C 20 (hT.at0 81 20) (hT.ln0 81 20) ⟨by omega, by omega⟩ (by omega) (congrFun lP _) dL_through_72 ?_
                  refine KBipush C dL_through_73 (by decide) ?_
                  refine KIrem (z := (zP z (k : Int)) % 100) C dL_through_75 ⟨by omega, by omega⟩ ⟨by omega, by omega⟩ (by omega) (tmod_pos (by omega)) ?_
                  refine KIload C dL_through_76 9 rfl ?_
                  refine KIcmp_le (tgt := 91) C dL_through_78 (by decide) ⟨by omega, by omega⟩ ⟨by omega, by omega⟩ (fun c78 => ?_) (fun c78 => ?_)
                  · have efr := fr_f (P := zP z) (m := zpd z b) (ai := (a : Int)) (p := k) (Or.inr (Or.inr (by omega)))
                    refine KIload C dL_through_91 9 rfl ?_
                    refine KTop (congrArg iI (show (fr (zP z) (zpd z b) (a : Int) k) = (fr (zP z) (zpd z b) (a : Int) (k + 1)) from efr)) ?_
                    refine KIstore (lv' := [(8, .int (iI (fr (zP z) (zpd z b) (a : Int) (k + 1)))), (10, .int (iI 1)), (0, .int (iI ((zpd z b : Nat) : Int))), (1, .ref (q 81)), (2, .ref (q 80)), (3, .int (iI ((thS z b (lsM (zP z) (zpd z b) (-1) 20) a).2.2))), (4, .int (iI ((thS z b (lsM (zP z) (zpd z b) (-1) 20) a).2.1))), (5, .int (iI ((thS z b (lsM (zP z) (zpd z b) (-1) 20) a).1))), (6, .int (iI (lsM (zP z) (zpd z b) la k))), (7, .int (iI (a : Int))), (9, .int (iI (k : Int)))]) C dL_through_93 (by decide) rfl ?_
                    refine KIload_n C dL_through_95 rfl 2 rfl ?_
                    refine KIload C dL_through_96 10 rfl ?_
                    refine KIshr (v := iI ((zpd z b / 2 ^ k : Nat) : Int)) C dL_through_98 (ib_shr hm31 (by omega)) ?_
                    refine KIconst C dL_through_99 ?_
                    refine KIand (v := iI ((zpd z b / 2 ^ k % 2 : Nat) : Int)) C dL_through_100 (ib_bit hm31 (by omega)) ?_
                    refine KIconst C dL_through_101 ?_
                    refine KIcmp_ne (tgt := 127) C dL_through_102 (by decide) ⟨by omega, by omega⟩ ⟨by omega, by omega⟩ (fun c102 => absurd c102 (fun h9 => by rw [tb_0 (by omega)] at hbt; cases hbt)) (fun c102 => ?_)
                    refine KAload_n C dL_through_105 rfl 3 rfl ?_
                    refine KIload C dL_through_106 10 rfl ?_
                    refine KIald  (v := zP z (k : Int)) C 20 (hT.at0 81 20) (hT.ln0 81 20) ⟨by omega, by omega⟩ (by omega) (congrFun lP _) dL_through_108 ?_
                    refine KBipush C dL_through_109 (by decide) ?_
                    refine KIdiv (z := (zP z (k : Int)) / 100) C dL_through_111 ⟨by omega, by omega⟩ ⟨by omega, by omega⟩ (by omega) (tdiv_pos (by omega)) ?_
                    refine KIload C dL_through_112 8 rfl ?_
                    refine KIcmp_le (tgt := 127) C dL_through_114 (by decide) ⟨by omega, by omega⟩ ⟨by omega, by omega⟩ (fun c114 => ?_) (fun c114 => ?_)
                    · have els := lsM_f (P := zP z) (m := zpd z b) (v0 := la) (k := k) (Or.inr (by omega))
                      refine KIload C dL_through_127 8 rfl ?_
                      refine KTop (congrArg iI (show lsM (zP z) (zpd z b) la k = lsM (zP z) (zpd z b) la (k + 1) from els)) ?_
                      refine KIstore (lv' := [(6, .int (iI (lsM (zP z) (zpd z b) la (k + 1)))), (8, .int (iI (fr (zP z) (zpd z b) (a : Int) (k + 1)))), (10, .int (iI 1)), (0, .int (iI ((zpd z b : Nat) : Int))), (1, .ref (q 81)), (2, .ref (q 80)), (3, .int (iI ((thS z b (lsM (zP z) (zpd z b) (-1) 20) a).2.2))), (4, .int (iI ((thS z b (lsM (zP z) (zpd z b) (-1) 20) a).2.1))), (5, .int (iI ((thS z b (lsM (zP z) (zpd z b) (-1) 20) a).1))), (7, .int (iI (a : Int))), (9, .int (iI (k : Int)))]) C dL_through_129 (by decide) rfl ?_
                      refine KIinc (v := ((k + 1 : Nat) : Int)) (lv' := [(9, .int (iI ((k + 1 : Nat) : Int))), (6, .int (iI (lsM (zP z) (zpd z b) la (k + 1)))), (8, .int (iI (fr (zP z) (zpd z b) (a : Int) (k + 1)))), (10, .int (iI 1)), (0, .int (iI ((zpd z b : Nat) : Int))), (1, .ref (q 81)), (2, .ref (q 80)), (3, .int (iI ((thS z b (lsM (zP z) (zpd z b) (-1) 20) a).2.2))), (4, .int (iI ((thS z b (lsM (zP z) (zpd z b) (-1) 20) a).2.1))), (5, .int (iI ((thS z b (lsM (zP z) (zpd z b) (-1) 20) a).1))), (7, .int (iI (a : Int)))]) C dL_through_131 10 rfl (by omega) (by decide) rfl ?_
                      refine KGoto (tgt := 28) C dL_through_134 (by decide) ?_
                      refine KLv (lv' := [(0, .int (iI ((zpd z b : Nat) : Int))), (1, .ref (q 81)), (2, .ref (q 80)), (3, .int (iI ((thS z b (lsM (zP z) (zpd z b) (-1) 20) a).2.2))), (4, .int (iI ((thS z b (lsM (zP z) (zpd z b) (-1) 20) a).2.1))), (5, .int (iI ((thS z b (lsM (zP z) (zpd z b) (-1) 20) a).1))), (6, .int (iI (lsM (zP z) (zpd z b) la (k + 1)))), (7, .int (iI (a : Int))), (8, .int (iI (fr (zP z) (zpd z b) (a : Int) (k + 1)))), (9, .int (iI ((k + 1 : Nat) : Int)))]) [4, 5, 6, 7, 8, 9, 1, 10, 2, 0] rfl ?_
                      exact ih28 (k + 1) (by omega) (by omega)
                    · have els := lsM_t (P := zP z) (m := zpd z b) (v0 := la) (k := k) hbt (by omega)
                      refine KAload_n C dL_through_117 rfl 3 rfl ?_
                      refine KIload C dL_through_118 10 rfl ?_
                      refine KIald  (v := zP z (k : Int)) C 20 (hT.at0 81 20) (hT.ln0 81 20) ⟨by omega, by omega⟩ (by omega) (congrFun lP _) dL_through_120 ?_
                      refine KBipush C dL_through_121 (by decide) ?_
                      refine KIdiv (z := (zP z (k : Int)) / 100) C dL_through_123 ⟨by omega, by omega⟩ ⟨by omega, by omega⟩ (by omega) (tdiv_pos (by omega)) ?_
                      refine KGoto (tgt := 129) C dL_through_124 (by decide) ?_
                      refine KTop (congrArg iI (show (zP z (k : Int)) / 100 = lsM (zP z) (zpd z b) la (k + 1) from els)) ?_
                      refine KIstore (lv' := [(6, .int (iI (lsM (zP z) (zpd z b) la (k + 1)))), (8, .int (iI (fr (zP z) (zpd z b) (a : Int) (k + 1)))), (10, .int (iI 1)), (0, .int (iI ((zpd z b : Nat) : Int))), (1, .ref (q 81)), (2, .ref (q 80)), (3, .int (iI ((thS z b (lsM (zP z) (zpd z b) (-1) 20) a).2.2))), (4, .int (iI ((thS z b (lsM (zP z) (zpd z b) (-1) 20) a).2.1))), (5, .int (iI ((thS z b (lsM (zP z) (zpd z b) (-1) 20) a).1))), (7, .int (iI (a : Int))), (9, .int (iI (k : Int)))]) C dL_through_129 (by decide) rfl ?_
                      refine KIinc (v := ((k + 1 : Nat) : Int)) (lv' := [(9, .int (iI ((k + 1 : Nat) : Int))), (6, .int (iI (lsM (zP z) (zpd z b) la (k + 1)))), (8, .int (iI (fr (zP z) (zpd z b) (a : Int) (k + 1)))), (10, .int (iI 1)), (0, .int (iI ((zpd z b : Nat) : Int))), (1, .ref (q 81)), (2, .ref (q 80)), (3, .int (iI ((thS z b (lsM (zP z) (zpd z b) (-1) 20) a).2.2))), (4, .int (iI ((thS z b (lsM (zP z) (zpd z b) (-1) 20) a).2.1))), (5, .int (iI ((thS z b (lsM (zP z) (zpd z b) (-1) 20) a).1))), (7, .int (iI (a : Int)))]) C dL_through_131 10 rfl (by omega) (by decide) rfl ?_
                      refine KGoto (tgt := 28) C dL_through_134 (by decide) ?_
                      refine KLv (lv' := [(0, .int (iI ((zpd z b : Nat) : Int))), (1, .ref (q 81)), (2, .ref (q 80)), (3, .int (iI ((thS z b (lsM (zP z) (zpd z b) (-1) 20) a).2.2))), (4, .int (iI ((thS z b (lsM (zP z) (zpd z b) (-1) 20) a).2.1))), (5, .int (iI ((thS z b (lsM (zP z) (zpd z b) (-1) 20) a).1))), (6, .int (iI (lsM (zP z) (zpd z b) la (k + 1)))), (7, .int (iI (a : Int))), (8, .int (iI (fr (zP z) (zpd z b) (a : Int) (k + 1)))), (9, .int (iI ((k + 1 : Nat) : Int)))]) [4, 5, 6, 7, 8, 9, 1, 10, 2, 0] rfl ?_
                      exact ih28 (k + 1) (by omega) (by omega)
                  · have efr := fr_t (P := zP z) (m := zpd z b) (ai := (a : Int)) (p := k) hbt (by omega) (by omega)
                    refine KAload_n C dL_through_81 rfl 2 rfl ?_
                    refine KIload C dL_through_82 10 rfl ?_
                    refine KIald  (v := zP z (k : Int)) C 20 (hT.at0 81 20) (hT.ln0 81 20) ⟨by omega, by omega⟩ (by omega) (congrFun lP _) dL_through_84 ?_
                    refine KBipush C dL_through_85 (by decide) ?_
                    refine KIrem (z := (zP z (k : Int)) % 100) C dL_through_87 ⟨by omega, by omega⟩ ⟨by omega, by omega⟩ (by omega) (tmod_pos (by omega)) ?_
                    refine KGoto (tgt := 93) C dL_through_88 (by decide) ?_
                    refine KTop (congrArg iI (show (zP z (k : Int)) % 100 = (fr (zP z) (zpd z b) (a : Int) (k + 1)) from efr)) ?_
                    refine KIstore (lv' := [(8, .int (iI (fr (zP z) (zpd z b) (a : Int) (k + 1)))), (10, .int (iI 1)), (0, .int (iI ((zpd z b : Nat) : Int))), (1, .ref (q 81)), (2, .ref (q 80)), (3, .int (iI ((thS z b (lsM (zP z) (zpd z b) (-1) 20) a).2.2))), (4, .int (iI ((thS z b (lsM (zP z) (zpd z b) (-1) 20) a).2.1))), (5, .int (iI ((thS z b (lsM (zP z) (zpd z b) (-1) 20) a).1))), (6, .int (iI (lsM (zP z) (zpd z b) la k))), (7, .int (iI (a : Int))), (9, .int (iI (k : Int)))]) C dL_through_93 (by decide) rfl ?_
                    refine KIload_n C dL_through_95 rfl 2 rfl ?_
                    refine KIload C dL_through_96 10 rfl ?_
                    refine KIshr (v := iI ((zpd z b / 2 ^ k : Nat) : Int)) C dL_through_98 (ib_shr hm31 (by omega)) ?_
                    refine KIconst C dL_through_99 ?_
                    refine KIand (v := iI ((zpd z b / 2 ^ k % 2 : Nat) : Int)) C dL_through_100 (ib_bit hm31 (by omega)) ?_
                    refine KIconst C dL_through_101 ?_
                    refine KIcmp_ne (tgt := 127) C dL_through_102 (by decide) ⟨by omega, by omega⟩ ⟨by omega, by omega⟩ (fun c102 => absurd c102 (fun h9 => by rw [tb_0 (by omega)] at hbt; cases hbt)) (fun c102 => ?_)
                    refine KAload_n C dL_through_105 rfl 3 rfl ?_
                    refine KIload C dL_through_106 10 rfl ?_
                    refine KIald  (v := zP z (k : Int)) C 20 (hT.at0 81 20) (hT.ln0 81 20) ⟨by omega, by omega⟩ (by omega) (congrFun lP _) dL_through_108 ?_
                    refine KBipush C dL_through_109 (by decide) ?_
                    refine KIdiv (z := (zP z (k : Int)) / 100) C dL_through_111 ⟨by omega, by omega⟩ ⟨by omega, by omega⟩ (by omega) (tdiv_pos (by omega)) ?_
                    refine KIload C dL_through_112 8 rfl ?_
                    refine KIcmp_le (tgt := 127) C dL_through_114 (by decide) ⟨by omega, by omega⟩ ⟨by omega, by omega⟩ (fun c114 => ?_) (fun c114 => ?_)
                    · have els := lsM_f (P := zP z) (m := zpd z b) (v0 := la) (k := k) (Or.inr (by omega))
                      refine KIload C dL_through_127 8 rfl ?_
                      refine KTop (congrArg iI (show lsM (zP z) (zpd z b) la k = lsM (zP z) (zpd z b) la (k + 1) from els)) ?_
                      refine KIstore (lv' := [(6, .int (iI (lsM (zP z) (zpd z b) la (k + 1)))), (8, .int (iI (fr (zP z) (zpd z b) (a : Int) (k + 1)))), (10, .int (iI 1)), (0, .int (iI ((zpd z b : Nat) : Int))), (1, .ref (q 81)), (2, .ref (q 80)), (3, .int (iI ((thS z b (lsM (zP z) (zpd z b) (-1) 20) a).2.2))), (4, .int (iI ((thS z b (lsM (zP z) (zpd z b) (-1) 20) a).2.1))), (5, .int (iI ((thS z b (lsM (zP z) (zpd z b) (-1) 20) a).1))), (7, .int (iI (a : Int))), (9, .int (iI (k : Int)))]) C dL_through_129 (by decide) rfl ?_
                      refine KIinc (v := ((k + 1 : Nat) : Int)) (lv' := [(9, .int (iI ((k + 1 : Nat) : Int))), (6, .int (iI (lsM (zP z) (zpd z b) la (k + 1)))), (8, .int (iI (fr (zP z) (zpd z b) (a : Int) (k + 1)))), (10, .int (iI 1)), (0, .int (iI ((zpd z b : Nat) : Int))), (1, .ref (q 81)), (2, .ref (q 80)), (3, .int (iI ((thS z b (lsM (zP z) (zpd z b) (-1) 20) a).2.2))), (4, .int (iI ((thS z b (lsM (zP z) (zpd z b) (-1) 20) a).2.1))), (5, .int (iI ((thS z b (lsM (zP z) (zpd z b) (-1) 20) a).1))), (7, .int (iI (a : Int)))]) C dL_through_131 10 rfl (by omega) (by decide) rfl ?_
                      refine KGoto (tgt := 28) C dL_through_134 (by decide) ?_
                      refine KLv (lv' := [(0, .int (iI ((zpd z b : Nat) : Int))), (1, .ref (q 81)), (2, .ref (q 80)), (3, .int (iI ((thS z b (lsM (zP z) (zpd z b) (-1) 20) a).2.2))), (4, .int (iI ((thS z b (lsM (zP z) (zpd z b) (-1) 20) a).2.1))), (5, .int (iI ((thS z b (lsM (zP z) (zpd z b) (-1) 20) a).1))), (6, .int (iI (lsM (zP z) (zpd z b) la (k + 1)))), (7, .int (iI (a : Int))), (8, .int (iI (fr (zP z) (zpd z b) (a : Int) (k + 1)))), (9, .int (iI ((k + 1 : Nat) : Int)))]) [4, 5, 6, 7, 8, 9, 1, 10, 2, 0] rfl ?_
                      exact ih28 (k + 1) (by omega) (by omega)
                    · have els := lsM_t (P := zP z) (m := zpd z b) (v0 := la) (k := k) hbt (by omega)
                      refine KAload_n C dL_through_117 rfl 3 rfl ?_
                      refine KIload C dL_through_118 10 rfl ?_
                      refine KIald  (v := zP z (k : Int)) C 20 (hT.at0 81 20) (hT.ln0 81 20) ⟨by omega, by omega⟩ (by omega) (congrFun lP _) dL_through_120 ?_
                      refine KBipush C dL_through_121 (by decide) ?_
                      refine KIdiv (z := (zP z (k : Int)) / 100) C dL_through_123 ⟨by omega, by omega⟩ ⟨by omega, by omega⟩ (by omega) (tdiv_pos (by omega)) ?_
                      refine KGoto (tgt := 129) C dL_through_124 (by decide) ?_
                      refine KTop (congrArg iI (show (zP z (k : Int)) / 100 = lsM (zP z) (zpd z b) la (k + 1) from els)) ?_
                      refine KIstore (lv' := [(6, .int (iI (lsM (zP z) (zpd z b) la (k + 1)))), (8, .int (iI (fr (zP z) (zpd z b) (a : Int) (k + 1)))), (10, .int (iI 1)), (0, .int (iI ((zpd z b : Nat) : Int))), (1, .ref (q 81)), (2, .ref (q 80)), (3, .int (iI ((thS z b (lsM (zP z) (zpd z b) (-1) 20) a).2.2))), (4, .int (iI ((thS z b (lsM (zP z) (zpd z b) (-1) 20) a).2.1))), (5, .int (iI ((thS z b (lsM (zP z) (zpd z b) (-1) 20) a).1))), (7, .int (iI (a : Int))), (9, .int (iI (k : Int)))]) C dL_through_129 (by decide) rfl ?_
                      refine KIinc (v := ((k + 1 : Nat) : Int)) (lv' := [(9, .int (iI ((k + 1 : Nat) : Int))), (6, .int (iI (lsM (zP z) (zpd z b) la (k + 1)))), (8, .int (iI (fr (zP z) (zpd z b) (a : Int) (k + 1)))), (10, .int (iI 1)), (0, .int (iI ((zpd z b : Nat) : Int))), (1, .ref (q 81)), (2, .ref (q 80)), (3, .int (iI ((thS z b (lsM (zP z) (zpd z b) (-1) 20) a).2.2))), (4, .int (iI ((thS z b (lsM (zP z) (zpd z b) (-1) 20) a).2.1))), (5, .int (iI ((thS z b (lsM (zP z) (zpd z b) (-1) 20) a).1))), (7, .int (iI (a : Int)))]) C dL_through_131 10 rfl (by omega) (by decide) rfl ?_
                      refine KGoto (tgt := 28) C dL_through_134 (by decide) ?_
                      refine KLv (lv' := [(0, .int (iI ((zpd z b : Nat) : Int))), (1, .ref (q 81)), (2, .ref (q 80)), (3, .int (iI ((thS z b (lsM (zP z) (zpd z b) (-1) 20) a).2.2))), (4, .int (iI ((thS z b (lsM (zP z) (zpd z b) (-1) 20) a).2.1))), (5, .int (iI ((thS z b (lsM (zP z) (zpd z b) (-1) 20) a).1))), (6, .int (iI (lsM (zP z) (zpd z b) la (k + 1)))), (7, .int (iI (a : Int))), (8, .int (iI (fr (zP z) (zpd z b) (a : Int) (k + 1)))), (9, .int (iI ((k + 1 : Nat) : Int)))]) [4, 5, 6, 7, 8, 9, 1, 10, 2, 0] rfl ?_
                      exact ih28 (k + 1) (by omega) (by omega)
        exact loop28 _ 0 (Nat.lt_succ_self _) (by omega)
  exact loop14 _ 0 (-1) (Nat.lt_succ_self _) (by omega) rfl (by omega)
