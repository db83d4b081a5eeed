def P_X6_joins (S : Sto) (q : Nat → Nat) : Option Value → Sto → Prop := fun v u => (0 < (zj (sgM S q)).1 ∧ v = some (.int (iI 1)) ∧ MP S q u (sI S (q 80) 0) (zjo (sgM S q) (zj (sgM S q)).2.1 (zj (sgM S q)).2.2)) ∨ (¬ 0 < (zj (sgM S q)).1 ∧ v = some (.int (iI 0)) ∧ MP S q u (sI S (q 80) 0) (sgM S q))
set_option maxRecDepth 100000 in
set_option maxHeartbeats 4000000 in
theorem ct_X6_joins (l : Launch) (g : GG) (S : Sto) (q : Nat → Nat) (hT : Top S q) (hW : Wf (sgM S q)) (hCn : Cn S q) : MetS l g yX6_joins cX6_joins 7 (some FieldType.boolean) 6 0 0 [.ref (q 80)] S (P_X6_joins S q) := by
  refine MetS.of (own := RX6) (lv := [(0, .ref (q 80))]) (by decide) rfl (Nat.le_of_ble_eq_true rfl) rfl ?_
  intro pX eX sX mX argsX belowX methX cX C hin
  refine KRg (fun hR => ?_)
  obtain ⟨hc6, hc13⟩ := id hCn
  have h21 := hW.2.1
  have hCap := hW.1.2.2.2.2.2.2
  change 1 ≤ sI S (q 80) 4 ∧ sI S (q 80) 4 ≤ 9 at hCap
  refine KIconst C dX6_joins_0 ?_
  refine KIstore_n (lv' := [(1, .int (iI 0)), (0, .ref (q 80))]) C dX6_joins_1 rfl (by decide) rfl ?_
  refine KIconst C dX6_joins_2 ?_
  refine KIstore_n (lv' := [(2, .int (iI (-1))), (1, .int (iI 0)), (0, .ref (q 80))]) C dX6_joins_3 rfl (by decide) rfl ?_
  refine KIconst C dX6_joins_4 ?_
  refine KIstore_n (lv' := [(3, .int (iI (-1))), (2, .int (iI (-1))), (1, .int (iI 0)), (0, .ref (q 80))]) C dX6_joins_5 rfl (by decide) rfl ?_
  refine KIconst C dX6_joins_6 ?_
  refine KIstore (lv' := [(4, .int (iI 0)), (3, .int (iI (-1))), (2, .int (iI (-1))), (1, .int (iI 0)), (0, .ref (q 80))]) C dX6_joins_7 (by decide) rfl ?_
  refine KLv (lv' := [(0, .ref (q 80)), (1, .int (iI 0)), (2, .int (iI (-1))), (3, .int (iI (-1))), (4, .int (iI 0))]) [4, 3, 2, 1, 0] rfl ?_
  have loop9 : ∀ (nX : Nat) (a : Nat) (f : Nat → Int → Int), zb (sgM S q) - a < nX → (a ≤ zb (sgM S q)) → (KeptM S q f) → Wk pX l eX (rmK 6 0 0) sX mX argsX belowX methX cX (MQ belowX (QcG g (P_X6_joins S q)) argsX sX 0 0 (ge (gB g))) g 7 0 0 9 [(0, .ref (q 80)), (1, .int (iI ((jout (zsv (sgM S q)) (zb (sgM S q)) a).1))), (2, .int (iI ((jout (zsv (sgM S q)) (zb (sgM S q)) a).2.1))), (3, .int (iI ((jout (zsv (sgM S q)) (zb (sgM S q)) a).2.2))), (4, .int (iI (a : Int)))] [] (wI S f) := by
    intro nX
    induction nX with
    | zero => intro a f hm; exact absurd hm (Nat.not_lt_zero _)
    | succ nX ih9 =>
      intro a f hm9 ha hK
      refine KRg (fun hR => ?_)
      have hjb := jout_b hW a
      refine KIload C dX6_joins_9 4 rfl ?_
      refine KAload_n C dX6_joins_11 rfl 0 rfl ?_
      refine KGetI (S := wI S f) C ul_X6 rfl (by decide) 13 13 rfl (by decide) rfl u_fl_RX6_69 (hT.at0 80 7) (v := ((zb (sgM S q) : Nat) : Int)) ((hK.at0 hT 13).trans hc13) dX6_joins_12 (fun _ h => h) ?_
      have rb1 := hR.b (q 80) 13 (v := ((zb (sgM S q) : Nat) : Int)) ((hK.at0 hT 13).trans hc13)
      refine KIcmp_ge (tgt := 145) C dX6_joins_15 (by decide) ⟨by omega, by omega⟩ ⟨by omega, by omega⟩ (fun c15 => ?_) (fun c15 => ?_)
      · have hab : a = zb (sgM S q) := by omega
        refine KLvE (lv2 := [(0, .ref (q 80)), (1, .int (iI ((zj (sgM S q)).1))), (2, .int (iI ((jout (zsv (sgM S q)) (zb (sgM S q)) a).2.1))), (3, .int (iI ((jout (zsv (sgM S q)) (zb (sgM S q)) a).2.2))), (4, .int (iI (a : Int)))]) (congrArg (fun zz : Int => ([(0, .ref (q 80)), (1, .int (iI zz)), (2, .int (iI ((jout (zsv (sgM S q)) (zb (sgM S q)) a).2.1))), (3, .int (iI ((jout (zsv (sgM S q)) (zb (sgM S q)) a).2.2))), (4, .int (iI (a : Int)))] : List (Nat × Value))) (show ((jout (zsv (sgM S q)) (zb (sgM S q)) a).1 : Int) = (zj (sgM S q)).1 from (by rw [hab]; rfl))) ?_
        refine KLvE (lv2 := [(0, .ref (q 80)), (1, .int (iI ((zj (sgM S q)).1))), (2, .int (iI ((zj (sgM S q)).2.1))), (3, .int (iI ((jout (zsv (sgM S q)) (zb (sgM S q)) a).2.2))), (4, .int (iI (a : Int)))]) (congrArg (fun zz : Int => ([(0, .ref (q 80)), (1, .int (iI ((zj (sgM S q)).1))), (2, .int (iI zz)), (3, .int (iI ((jout (zsv (sgM S q)) (zb (sgM S q)) a).2.2))), (4, .int (iI (a : Int)))] : List (Nat × Value))) (show ((jout (zsv (sgM S q)) (zb (sgM S q)) a).2.1 : Int) = (zj (sgM S q)).2.1 from (by rw [hab]; rfl))) ?_
        refine KLvE (lv2 := [(0, .ref (q 80)), (1, .int (iI ((zj (sgM S q)).1))), (2, .int (iI ((zj (sgM S q)).2.1))), (3, .int (iI ((zj (sgM S q)).2.2))), (4, .int (iI (a : Int)))]) (congrArg (fun zz : Int => ([(0, .ref (q 80)), (1, .int (iI ((zj (sgM S q)).1))), (2, .int (iI ((zj (sgM S q)).2.1))), (3, .int (iI zz)), (4, .int (iI (a : Int)))] : List (Nat × Value))) (show ((jout (zsv (sgM S q)) (zb (sgM S q)) a).2.2 : Int) = (zj (sgM S q)).2.2 from (by rw [hab]; rfl))) ?_
        refine KIconst C dX6_joins_145 ?_
        refine KIstore (lv' := [(4, .int (iI 0)), (0, .ref (q 80)), (1, .int (iI ((zj (sgM S q)).1))), (2, .int (iI ((zj (sgM S q)).2.1))), (3, .int (iI ((zj (sgM S q)).2.2)))]) C dX6_joins_146 (by decide) rfl ?_
        have e84 : f (q 84) = sI S (q 84) := funext fun k => hK.at hT 84 k
        refine KSto (S2 := wI S (row1 f (q 84) (mrg (sI S (q 84)) (zj (sgM S q)).2.1 (zj (sgM S q)).2.2 0))) (by rw [mrg_0, ← e84, row1_self]) ?_
        have hzin := zj_in (z := sgM S q)
        have hzb : 0 ≤ (zj (sgM S q)).1 ∧ (zj (sgM S q)).1 ≤ 1320 := jout_b hW (zb (sgM S q))
        refine KLv (lv' := [(0, .ref (q 80)), (1, .int (iI ((zj (sgM S q)).1))), (2, .int (iI ((zj (sgM S q)).2.1))), (3, .int (iI ((zj (sgM S q)).2.2))), (4, .int (iI 0))]) [1, 2, 3, 4, 0] rfl ?_
        have loop148 : ∀ (nX : Nat) (o : Nat), zo (sgM S q) - o < nX → (o ≤ zo (sgM S q)) → (0 < (zj (sgM S q)).1 ∨ o = 0) → Wk pX l eX (rmK 6 0 0) sX mX argsX belowX methX cX (MQ belowX (QcG g (P_X6_joins S q)) argsX sX 0 0 (ge (gB g))) g 7 0 0 148 [(0, .ref (q 80)), (1, .int (iI ((zj (sgM S q)).1))), (2, .int (iI ((zj (sgM S q)).2.1))), (3, .int (iI ((zj (sgM S q)).2.2))), (4, .int (iI (o : Int)))] [] (wI S (row1 f (q 84) (mrg (sI S (q 84)) (zj (sgM S q)).2.1 (zj (sgM S q)).2.2 o))) := by
          intro nX
          induction nX with
          | zero => intro o hm; exact absurd hm (Nat.not_lt_zero _)
          | succ nX ih148 =>
            intro o hm148 ho hob
            refine KRg (fun hR => ?_)
            have hzr := zj_r hW
            refine KIload C dX6_joins_148 4 rfl ?_
            refine KAload_n C dX6_joins_150 rfl 0 rfl ?_
            refine KGetI (S := wI S (row1 f (q 84) (mrg (sI S (q 84)) (zj (sgM S q)).2.1 (zj (sgM S q)).2.2 o))) C ul_X6 rfl (by decide) 6 6 rfl (by decide) rfl u_fl_RX6_66 (hT.at0 80 7) (v := ((zo (sgM S q) : Nat) : Int)) ((row1_ne _ _ _ (hT.ne 80 84)).trans ((hK.at0 hT 6).trans hc6)) dX6_joins_151 (fun _ h => h) ?_
            have rb2 := hR.b (q 80) 6 (v := ((zo (sgM S q) : Nat) : Int)) ((row1_ne _ _ _ (hT.ne 80 84)).trans ((hK.at0 hT 6).trans hc6))
            refine KIcmp_ge (tgt := 196) C dX6_joins_154 (by decide) ⟨by omega, by omega⟩ ⟨by omega, by omega⟩ (fun c154 => ?_) (fun c154 => ?_)
            · have hoo : o = zo (sgM S q) ∨ ¬ 0 < (zj (sgM S q)).1 := Or.inl (by omega)
              refine KIload_n C dX6_joins_196 rfl 1 rfl ?_
              refine KIf_le (tgt := 205) C dX6_joins_197 (by decide) ⟨by omega, by omega⟩ (fun c197 => ?_) (fun c197 => ?_)
              · refine KIload_n C dX6_joins_205 rfl 1 rfl ?_
                refine KIf_le (tgt := 213) C dX6_joins_206 (by decide) ⟨by omega, by omega⟩ (fun c206 => ?_) (fun c206 => absurd c206 (by omega))
                refine KIconst C dX6_joins_213 ?_
                refine KIret C rfl rfl (by
                  first | exact Or.inl ⟨by omega, rfl, jo_fin hT hCn hK hW (by omega) hon⟩ | exact Or.inr ⟨by omega, rfl, jo_none hT hCn hK (by omega) hob⟩) (by decide) (by decide) dX6_joins_214
              · have hon : o = zo (sgM S q) := by rcases hoo with h | h; exact h; exact absurd c197 h
                have hbx := MP.bt hT hCn hK (mrg (sI S (q 84)) (zj (sgM S q)).2.1 (zj (sgM S q)).2.2 o)
                refine KAload_n C dX6_joins_200 rfl 0 rfl ?_
                refine KIload_n C dX6_joins_201 rfl 3 rfl ?_
                refine KCallV (As := [.int (iI ((zj (sgM S q)).2.2))]) (b := q 80) (st := []) C (ct_X6_closeUp l g (wI S (row1 f (q 84) (mrg (sI S (q 84)) (zj (sgM S q)).2.1 (zj (sgM S q)).2.2 o))) q ((zj (sgM S q)).2.2) hT hbx.2.2.2.2.2.2.2.2 (by rw [hbx.2.2.2.2.2.2.2.1]; show zo (sgM S q) ≤ 40; omega) (by have := zj_r hW; omega) (by rw [hbx.2.2.2.2.2.2.2.1]; exact fun o9 ho9 => by rw [show sI (wI S (row1 f (q 84) (mrg (sI S (q 84)) (zj (sgM S q)).2.1 (zj (sgM S q)).2.2 o))) (q 84) (o9 : Int) = mrg (sI S (q 84)) (zj (sgM S q)).2.1 (zj (sgM S q)).2.2 o (o9 : Int) from row1_same _ _ _ _]; exact mrg_r hW o9 ho9 o)) u_ml_RX6_123 u_im_yX6_closeUp u_se_yX6_closeUp u_in_RX6 u_co_yX6_closeUp hd_yX6_closeUp (hT.at0 80 7) (by decide) rfl rfl ⟨Nat.le_of_ble_eq_true rfl, Nat.le_of_ble_eq_true rfl⟩ ⟨Nat.le_of_ble_eq_true rfl, Nat.le_of_ble_eq_true rfl⟩ (Nat.le_of_ble_eq_true rfl) dX6_joins_202 rfl (fun v202 u202 hp202 => ?_)
                obtain ⟨rfl, rfl⟩ := hp202
                refine KSt (st2 := []) rfl ?_
                refine KRg (fun hR => ?_)
                refine KIload_n C dX6_joins_205 rfl 1 rfl ?_
                refine KIf_le (tgt := 213) C dX6_joins_206 (by decide) ⟨by omega, by omega⟩ (fun c206 => absurd c206 (by omega)) (fun c206 => ?_)
                refine KIconst C dX6_joins_209 ?_
                refine KGoto (tgt := 214) C dX6_joins_210 (by decide) ?_
                refine KIret C rfl rfl (by
                  first | exact Or.inl ⟨by omega, rfl, jo_fin hT hCn hK hW (by omega) hon⟩ | exact Or.inr ⟨by omega, rfl, jo_none hT hCn hK (by omega) hob⟩) (by decide) (by decide) dX6_joins_214
            · refine KIload_n C dX6_joins_157 rfl 1 rfl ?_
              refine KIf_le (tgt := 196) C dX6_joins_158 (by decide) ⟨by omega, by omega⟩ (fun c158 => ?_) (fun c158 => ?_)
              · have hoo : o = zo (sgM S q) ∨ ¬ 0 < (zj (sgM S q)).1 := Or.inr (by omega)
                refine KIload_n C dX6_joins_196 rfl 1 rfl ?_
                refine KIf_le (tgt := 205) C dX6_joins_197 (by decide) ⟨by omega, by omega⟩ (fun c197 => ?_) (fun c197 => absurd c197 (by omega))
                refine KIload_n C dX6_joins_205 rfl 1 rfl ?_
                refine KIf_le (tgt := 213) C dX6_joins_206 (by decide) ⟨by omega, by omega⟩ (fun c206 => ?_) (fun c206 => absurd c206 (by omega))
                refine KIconst C dX6_joins_213 ?_
                refine KIret C rfl rfl (by
                  first | exact Or.inl ⟨by omega, rfl, jo_fin hT hCn hK hW (by omega) hon⟩ | exact Or.inr ⟨by omega, rfl, jo_none hT hCn hK (by omega) hob⟩) (by decide) (by decide) dX6_joins_214
              · refine KAload_n C dX6_joins_161 rfl 0 rfl ?_
                refine KGetR (S := wI S (row1 f (q 84) (mrg (sI S (q 84)) (zj (sgM S q)).2.1 (zj (sgM S q)).2.2 o))) C ul_X6 rfl (by decide) 9 9 rfl (by decide) rfl u_fl_RX6_23 (hT.at0 80 7) (b := q 84) (hT.ptr 80 9 84) dX6_joins_162 (fun _ h => h) ?_
                refine KIload C dX6_joins_165 4 rfl ?_
                refine KAload_n C dX6_joins_167 rfl 0 rfl ?_
                refine KGetR (S := wI S (row1 f (q 84) (mrg (sI S (q 84)) (zj (sgM S q)).2.1 (zj (sgM S q)).2.2 o))) C ul_X6 rfl (by decide) 9 9 rfl (by decide) rfl u_fl_RX6_23 (hT.at0 80 7) (b := q 84) (hT.ptr 80 9 84) dX6_joins_168 (fun _ h => h) ?_
                refine KIload C dX6_joins_171 4 rfl ?_
                refine KIald (S := wI S (row1 f (q 84) (mrg (sI S (q 84)) (zj (sgM S q)).2.1 (zj (sgM S q)).2.2 o)))  (v := sI S (q 84) (o : Int)) C 40 (hT.at0 84 20) (hT.ln0 84 40) ⟨by omega, by omega⟩ (by omega) ((row1_same _ _ _ _).trans (mrg_at _ _ _ _)) dX6_joins_173 ?_
                have rb3 := hR.b (q 84) (o : Int) (v := sI S (q 84) (o : Int)) ((row1_same _ _ _ _).trans (mrg_at _ _ _ _))
                refine KIload_n C dX6_joins_174 rfl 3 rfl ?_
                have hzj2 : -1 ≤ (zj (sgM S q)).2.2 ∧ (zj (sgM S q)).2.2 ≤ 100 ∧ -1 ≤ (zj (sgM S q)).2.1 ∧ (zj (sgM S q)).2.1 ≤ 100 := zj_r hW
                refine KIcmp_ne (tgt := 182) C dX6_joins_175 (by decide) ⟨by omega, by omega⟩ ⟨by omega, by omega⟩ (fun c175 => ?_) (fun c175 => ?_)
                · refine KAload_n C dX6_joins_182 rfl 0 rfl ?_
                  refine KGetR (S := wI S (row1 f (q 84) (mrg (sI S (q 84)) (zj (sgM S q)).2.1 (zj (sgM S q)).2.2 o))) C ul_X6 rfl (by decide) 9 9 rfl (by decide) rfl u_fl_RX6_23 (hT.at0 80 7) (b := q 84) (hT.ptr 80 9 84) dX6_joins_183 (fun _ h => h) ?_
                  refine KIload C dX6_joins_186 4 rfl ?_
                  refine KIald (S := wI S (row1 f (q 84) (mrg (sI S (q 84)) (zj (sgM S q)).2.1 (zj (sgM S q)).2.2 o)))  (v := sI S (q 84) (o : Int)) C 40 (hT.at0 84 20) (hT.ln0 84 40) ⟨by omega, by omega⟩ (by omega) ((row1_same _ _ _ _).trans (mrg_at _ _ _ _)) dX6_joins_188 ?_
                  have rb4 := hR.b (q 84) (o : Int) (v := sI S (q 84) (o : Int)) ((row1_same _ _ _ _).trans (mrg_at _ _ _ _))
                  have hbo := hW.bt (o := o) (by omega)
                  change -1 ≤ sI S (q 84) (o : Int) ∧ sI S (q 84) (o : Int) ≤ 100 at hbo
                  refine KIast (S := wI S (row1 f (q 84) (mrg (sI S (q 84)) (zj (sgM S q)).2.1 (zj (sgM S q)).2.2 o))) C 40 (hT.at0 84 20) (hT.ln0 84 40) ⟨by omega, by omega⟩ (by omega) ⟨by omega, by omega⟩ dX6_joins_189 ?_
                  refine KSto (S2 := wI S (row1 f (q 84) (mrg (sI S (q 84)) (zj (sgM S q)).2.1 (zj (sgM S q)).2.2 (o + 1)))) (congrArg (wI S) ((up2_row1 _ _ _ _ _).trans (congrArg _ ((congrArg _ (show sI S (q 84) (o : Int) = (if sI S (q 84) (o : Int) = (zj (sgM S q)).2.2 then (zj (sgM S q)).2.1 else sI S (q 84) (o : Int)) by split <;> omega)).trans (mrg_step _ _ _ _))))) ?_
                  refine KIinc (v := ((o + 1 : Nat) : Int)) (lv' := [(4, .int (iI ((o + 1 : Nat) : Int))), (0, .ref (q 80)), (1, .int (iI ((zj (sgM S q)).1))), (2, .int (iI ((zj (sgM S q)).2.1))), (3, .int (iI ((zj (sgM S q)).2.2)))]) C dX6_joins_190 4 rfl (by omega) (by decide) rfl ?_
                  refine KGoto (tgt := 148) C dX6_joins_193 (by decide) ?_
                  refine KLv (lv' := [(0, .ref (q 80)), (1, .int (iI ((zj (sgM S q)).1))), (2, .int (iI ((zj (sgM S q)).2.1))), (3, .int (iI ((zj (sgM S q)).2.2))), (4, .int (iI ((o + 1 : Nat) : Int)))]) [1, 2, 3, 4, 0] rfl ?_
                  exact ih148 (o + 1) (by omega) (by omega) (Or.inl (by omega))
                · refine KIload_n C dX6_joins_178 rfl 2 rfl ?_
                  refine KGoto (tgt := 189) C dX6_joins_179 (by decide) ?_
                  have hbo := hW.bt (o := o) (by omega)
                  change -1 ≤ sI S (q 84) (o : Int) ∧ sI S (q 84) (o : Int) ≤ 100 at hbo
                  refine KIast (S := wI S (row1 f (q 84) (mrg (sI S (q 84)) (zj (sgM S q)).2.1 (zj (sgM S q)).2.2 o))) C 40 (hT.at0 84 20) (hT.ln0 84 40) ⟨by omega, by omega⟩ (by omega) ⟨by omega, by omega⟩ dX6_joins_189 ?_
                  refine KSto (S2 := wI S (row1 f (q 84) (mrg (sI S (q 84)) (zj (sgM S q)).2.1 (zj (sgM S q)).2.2 (o + 1)))) (congrArg (wI S) ((up2_row1 _ _ _ _ _).trans (congrArg _ ((congrArg _ (show (zj (sgM S q)).2.1 = (if sI S (q 84) (o : Int) = (zj (sgM S q)).2.2 then (zj (sgM S q)).2.1 else sI S (q 84) (o : Int)) by split <;> omega)).trans (mrg_step _ _ _ _))))) ?_
                  refine KIinc (v := ((o + 1 : Nat) : Int)) (lv' := [(4, .int (iI ((o + 1 : Nat) : Int))), (0, .ref (q 80)), (1, .int (iI ((zj (sgM S q)).1))), (2, .int (iI ((zj (sgM S q)).2.1))), (3, .int (iI ((zj (sgM S q)).2.2)))]) C dX6_joins_190 4 rfl (by omega) (by decide) rfl ?_
                  refine KGoto (tgt := 148) C dX6_joins_193 (by decide) ?_
                  refine KLv (lv' := [(0, .ref (q 80)), (1, .int (iI ((zj (sgM S q)).1))), (2, .int (iI ((zj (sgM S q)).2.1))), (3, .int (iI ((zj (sgM S q)).2.2))), (4, .int (iI ((o + 1 : Nat) : Int)))]) [1, 2, 3, 4, 0] rfl ?_
                  exact ih148 (o + 1) (by omega) (by omega) (Or.inl (by omega))
        exact loop148 _ 0 (Nat.lt_succ_self _) (by omega) (Or.inr rfl)
      · refine KIload C dX6_joins_18 4 rfl ?_
        refine KIconst C dX6_joins_20 ?_
        refine KIadd C dX6_joins_21 ?_
        refine KTop (congrArg iI (show (a : Int) + 1 = ((a + 1 + 0 : Nat) : Int) from (by omega))) ?_
        refine KIstore (lv' := [(5, .int (iI ((a + 1 + 0 : Nat) : Int))), (0, .ref (q 80)), (1, .int (iI ((jout (zsv (sgM S q)) (zb (sgM S q)) a).1))), (2, .int (iI ((jout (zsv (sgM S q)) (zb (sgM S q)) a).2.1))), (3, .int (iI ((jout (zsv (sgM S q)) (zb (sgM S q)) a).2.2))), (4, .int (iI (a : Int)))]) C dX6_joins_22 (by decide) rfl ?_
        refine KLv (lv' := [(0, .ref (q 80)), (1, .int (iI ((jout (zsv (sgM S q)) (zb (sgM S q)) a).1))), (2, .int (iI ((jout (zsv (sgM S q)) (zb (sgM S q)) a).2.1))), (3, .int (iI ((jout (zsv (sgM S q)) (zb (sgM S q)) a).2.2))), (4, .int (iI (a : Int))), (5, .int (iI ((a + 1 + 0 : Nat) : Int)))]) [1, 2, 3, 4, 5, 0] rfl ?_
        have loop24 : ∀ (nX : Nat) (t : Nat) (f : Nat → Int → Int), zb (sgM S q) - t < nX → (a + 1 + t ≤ zb (sgM S q)) → (KeptM S q f) → Wk pX l eX (rmK 6 0 0) sX mX argsX belowX methX cX (MQ belowX (QcG g (P_X6_joins S q)) argsX sX 0 0 (ge (gB g))) g 7 0 0 24 [(0, .ref (q 80)), (1, .int (iI ((zjb (sgM S q) a t).1))), (2, .int (iI ((zjb (sgM S q) a t).2.1))), (3, .int (iI ((zjb (sgM S q) a t).2.2))), (4, .int (iI (a : Int))), (5, .int (iI ((a + 1 + t : Nat) : Int)))] [] (wI S f) := by
          intro nX
          induction nX with
          | zero => intro t f hm; exact absurd hm (Nat.not_lt_zero _)
          | succ nX ih24 =>
            intro t f hm24 ht hK
            refine KRg (fun hR => ?_)
            have hsg := sgM_kept hT hK
            have hWx : Wf (sgM (wI S f) q) := by rw [hsg]; exact hW
            have hCx := hCn.kept hT hK
            have hjb := zjb_b hW a t
            have hln1 := hW.ln0 (a : Int)
            have hln2 := hW.ln0 ((a + 1 + t : Nat) : Int)
            refine KIload C dX6_joins_24 5 rfl ?_
            refine KAload_n C dX6_joins_26 rfl 0 rfl ?_
            refine KGetI (S := wI S f) C ul_X6 rfl (by decide) 13 13 rfl (by decide) rfl u_fl_RX6_69 (hT.at0 80 7) (v := ((zb (sgM S q) : Nat) : Int)) ((hK.at0 hT 13).trans hc13) dX6_joins_27 (fun _ h => h) ?_
            have rb5 := hR.b (q 80) 13 (v := ((zb (sgM S q) : Nat) : Int)) ((hK.at0 hT 13).trans hc13)
            refine KIcmp_ge (tgt := 139) C dX6_joins_30 (by decide) ⟨by omega, by omega⟩ ⟨by omega, by omega⟩ (fun c30 => ?_) (fun c30 => ?_)
            · have hze := zjb_end (z := sgM S q) (a := a) (t := t) (by omega) (by omega)
              refine KLvE (lv2 := [(0, .ref (q 80)), (1, .int (iI ((jout (zsv (sgM S q)) (zb (sgM S q)) (a + 1)).1))), (2, .int (iI ((zjb (sgM S q) a t).2.1))), (3, .int (iI ((zjb (sgM S q) a t).2.2))), (4, .int (iI (a : Int))), (5, .int (iI ((a + 1 + t : Nat) : Int)))]) (congrArg (fun zz : Int => ([(0, .ref (q 80)), (1, .int (iI zz)), (2, .int (iI ((zjb (sgM S q) a t).2.1))), (3, .int (iI ((zjb (sgM S q) a t).2.2))), (4, .int (iI (a : Int))), (5, .int (iI ((a + 1 + t : Nat) : Int)))] : List (Nat × Value))) (show ((zjb (sgM S q) a t).1 : Int) = (jout (zsv (sgM S q)) (zb (sgM S q)) (a + 1)).1 from (by rw [hze]))) ?_
              refine KLvE (lv2 := [(0, .ref (q 80)), (1, .int (iI ((jout (zsv (sgM S q)) (zb (sgM S q)) (a + 1)).1))), (2, .int (iI ((jout (zsv (sgM S q)) (zb (sgM S q)) (a + 1)).2.1))), (3, .int (iI ((zjb (sgM S q) a t).2.2))), (4, .int (iI (a : Int))), (5, .int (iI ((a + 1 + t : Nat) : Int)))]) (congrArg (fun zz : Int => ([(0, .ref (q 80)), (1, .int (iI ((jout (zsv (sgM S q)) (zb (sgM S q)) (a + 1)).1))), (2, .int (iI zz)), (3, .int (iI ((zjb (sgM S q) a t).2.2))), (4, .int (iI (a : Int))), (5, .int (iI ((a + 1 + t : Nat) : Int)))] : List (Nat × Value))) (show ((zjb (sgM S q) a t).2.1 : Int) = (jout (zsv (sgM S q)) (zb (sgM S q)) (a + 1)).2.1 from (by rw [hze]))) ?_
              refine KLvE (lv2 := [(0, .ref (q 80)), (1, .int (iI ((jout (zsv (sgM S q)) (zb (sgM S q)) (a + 1)).1))), (2, .int (iI ((jout (zsv (sgM S q)) (zb (sgM S q)) (a + 1)).2.1))), (3, .int (iI ((jout (zsv (sgM S q)) (zb (sgM S q)) (a + 1)).2.2))), (4, .int (iI (a : Int))), (5, .int (iI ((a + 1 + t : Nat) : Int)))]) (congrArg (fun zz : Int => ([(0, .ref (q 80)), (1, .int (iI ((jout (zsv (sgM S q)) (zb (sgM S q)) (a + 1)).1))), (2, .int (iI ((jout (zsv (sgM S q)) (zb (sgM S q)) (a + 1)).2.1))), (3, .int (iI zz)), (4, .int (iI (a : Int))), (5, .int (iI ((a + 1 + t : Nat) : Int)))] : List (Nat × Value))) (show ((zjb (sgM S q) a t).2.2 : Int) = (jout (zsv (sgM S q)) (zb (sgM S q)) (a + 1)).2.2 from (by rw [hze]))) ?_
              refine KIinc (v := ((a + 1 : Nat) : Int)) (lv' := [(4, .int (iI ((a + 1 : Nat) : Int))), (0, .ref (q 80)), (1, .int (iI ((jout (zsv (sgM S q)) (zb (sgM S q)) (a + 1)).1))), (2, .int (iI ((jout (zsv (sgM S q)) (zb (sgM S q)) (a + 1)).2.1))), (3, .int (iI ((jout (zsv (sgM S q)) (zb (sgM S q)) (a + 1)).2.2))), (5, .int (iI ((a + 1 + t : Nat) : Int)))]) C dX6_joins_139 4 rfl (by omega) (by decide) rfl ?_
              refine KGoto (tgt := 9) C dX6_joins_142 (by decide) ?_
              refine KLv (lv' := [(0, .ref (q 80)), (1, .int (iI ((jout (zsv (sgM S q)) (zb (sgM S q)) (a + 1)).1))), (2, .int (iI ((jout (zsv (sgM S q)) (zb (sgM S q)) (a + 1)).2.1))), (3, .int (iI ((jout (zsv (sgM S q)) (zb (sgM S q)) (a + 1)).2.2))), (4, .int (iI ((a + 1 : Nat) : Int)))]) [1, 2, 3, 4, 0] rfl ?_
              exact ih9 (a + 1) f (by omega) (by omega) hK
            · refine KAload_n C dX6_joins_33 rfl 0 rfl ?_
              refine KIload C dX6_joins_34 4 rfl ?_
              refine KCallV (As := [.int (iI (a : Int))]) (b := q 80) (st := []) C (ct_X6_countLines l g (wI S f) q (a : Int) hT hWx.wl hCx (by omega)) u_ml_RX6_117 u_im_yX6_countLines u_se_yX6_countLines u_in_RX6 u_co_yX6_countLines hd_yX6_countLines (hT.at0 80 7) (by decide) rfl rfl ⟨Nat.le_of_ble_eq_true rfl, Nat.le_of_ble_eq_true rfl⟩ ⟨Nat.le_of_ble_eq_true rfl, Nat.le_of_ble_eq_true rfl⟩ (Nat.le_of_ble_eq_true rfl) dX6_joins_36 rfl (fun v36 u36 hp36 => ?_)
              obtain ⟨rfl, rfl⟩ := hp36
              refine KSt (st2 := [.int (iI (zln (sgM (wI S f) q) (a : Int)))]) rfl ?_
              refine KRg (fun hR => ?_)
              refine KTop (congrArg iI (show zln (sgM (wI S f) q) (a : Int) = zln (sgM S q) (a : Int) from (by rw [hsg]))) ?_
              refine KAload_n C dX6_joins_39 rfl 0 rfl ?_
              refine KIload C dX6_joins_40 5 rfl ?_
              refine KCallV (As := [.int (iI ((a + 1 + t : Nat) : Int))]) (b := q 80) (st := [.int (iI (zln (sgM S q) (a : Int)))]) C (ct_X6_countLines l g (wI S f) q ((a + 1 + t : Nat) : Int) hT hWx.wl hCx (by omega)) u_ml_RX6_117 u_im_yX6_countLines u_se_yX6_countLines u_in_RX6 u_co_yX6_countLines hd_yX6_countLines (hT.at0 80 7) (by decide) rfl rfl ⟨Nat.le_of_ble_eq_true rfl, Nat.le_of_ble_eq_true rfl⟩ ⟨Nat.le_of_ble_eq_true rfl, Nat.le_of_ble_eq_true rfl⟩ (Nat.le_of_ble_eq_true rfl) dX6_joins_42 rfl (fun v42 u42 hp42 => ?_)
              obtain ⟨rfl, rfl⟩ := hp42
              refine KSt (st2 := [.int (iI (zln (sgM (wI S f) q) ((a + 1 + t : Nat) : Int))), .int (iI (zln (sgM S q) (a : Int)))]) rfl ?_
              refine KRg (fun hR => ?_)
              refine KTop (congrArg iI (show zln (sgM (wI S f) q) ((a + 1 + t : Nat) : Int) = zln (sgM S q) ((a + 1 + t : Nat) : Int) from (by rw [hsg]))) ?_
              refine KIadd C dX6_joins_45 ?_
              refine KAload_n C dX6_joins_46 rfl 0 rfl ?_
              refine KGetI (S := wI S f) C ul_X6 rfl (by decide) 4 4 rfl (by decide) rfl u_fl_RX6_7 (hT.at0 80 7) (v := sI S (q 80) 4) (hK.at0 hT 4) dX6_joins_47 (fun _ h => h) ?_
              have rb6 := hR.b (q 80) 4 (v := sI S (q 80) 4) (hK.at0 hT 4)
              refine KIcmp_gt (tgt := 133) C dX6_joins_50 (by decide) ⟨by omega, by omega⟩ ⟨by omega, by omega⟩ (fun c50 => ?_) (fun c50 => ?_)
              · have hz0 := zjb_0 hW (a := a) (t := t) (saving_0 (z := sgM S q) (a := a) (b := a + 1 + t) (by show ¬ _ ≤ sI S (q 80) 4; omega))
                refine KLvE (lv2 := [(0, .ref (q 80)), (1, .int (iI ((zjb (sgM S q) a (t + 1)).1))), (2, .int (iI ((zjb (sgM S q) a t).2.1))), (3, .int (iI ((zjb (sgM S q) a t).2.2))), (4, .int (iI (a : Int))), (5, .int (iI ((a + 1 + t : Nat) : Int)))]) (congrArg (fun zz : Int => ([(0, .ref (q 80)), (1, .int (iI zz)), (2, .int (iI ((zjb (sgM S q) a t).2.1))), (3, .int (iI ((zjb (sgM S q) a t).2.2))), (4, .int (iI (a : Int))), (5, .int (iI ((a + 1 + t : Nat) : Int)))] : List (Nat × Value))) (show ((zjb (sgM S q) a t).1 : Int) = (zjb (sgM S q) a (t + 1)).1 from (by rw [hz0]))) ?_
                refine KLvE (lv2 := [(0, .ref (q 80)), (1, .int (iI ((zjb (sgM S q) a (t + 1)).1))), (2, .int (iI ((zjb (sgM S q) a (t + 1)).2.1))), (3, .int (iI ((zjb (sgM S q) a t).2.2))), (4, .int (iI (a : Int))), (5, .int (iI ((a + 1 + t : Nat) : Int)))]) (congrArg (fun zz : Int => ([(0, .ref (q 80)), (1, .int (iI ((zjb (sgM S q) a (t + 1)).1))), (2, .int (iI zz)), (3, .int (iI ((zjb (sgM S q) a t).2.2))), (4, .int (iI (a : Int))), (5, .int (iI ((a + 1 + t : Nat) : Int)))] : List (Nat × Value))) (show ((zjb (sgM S q) a t).2.1 : Int) = (zjb (sgM S q) a (t + 1)).2.1 from (by rw [hz0]))) ?_
                refine KLvE (lv2 := [(0, .ref (q 80)), (1, .int (iI ((zjb (sgM S q) a (t + 1)).1))), (2, .int (iI ((zjb (sgM S q) a (t + 1)).2.1))), (3, .int (iI ((zjb (sgM S q) a (t + 1)).2.2))), (4, .int (iI (a : Int))), (5, .int (iI ((a + 1 + t : Nat) : Int)))]) (congrArg (fun zz : Int => ([(0, .ref (q 80)), (1, .int (iI ((zjb (sgM S q) a (t + 1)).1))), (2, .int (iI ((zjb (sgM S q) a (t + 1)).2.1))), (3, .int (iI zz)), (4, .int (iI (a : Int))), (5, .int (iI ((a + 1 + t : Nat) : Int)))] : List (Nat × Value))) (show ((zjb (sgM S q) a t).2.2 : Int) = (zjb (sgM S q) a (t + 1)).2.2 from (by rw [hz0]))) ?_
                refine KIinc (v := ((a + 1 + (t + 1) : Nat) : Int)) (lv' := [(5, .int (iI ((a + 1 + (t + 1) : Nat) : Int))), (0, .ref (q 80)), (1, .int (iI ((zjb (sgM S q) a (t + 1)).1))), (2, .int (iI ((zjb (sgM S q) a (t + 1)).2.1))), (3, .int (iI ((zjb (sgM S q) a (t + 1)).2.2))), (4, .int (iI (a : Int)))]) C dX6_joins_133 5 rfl (by omega) (by decide) rfl ?_
                refine KGoto (tgt := 24) C dX6_joins_136 (by decide) ?_
                refine KLv (lv' := [(0, .ref (q 80)), (1, .int (iI ((zjb (sgM S q) a (t + 1)).1))), (2, .int (iI ((zjb (sgM S q) a (t + 1)).2.1))), (3, .int (iI ((zjb (sgM S q) a (t + 1)).2.2))), (4, .int (iI (a : Int))), (5, .int (iI ((a + 1 + (t + 1) : Nat) : Int)))]) [1, 2, 3, 4, 5, 0] rfl ?_
                exact ih24 (t + 1) f (by omega) (by omega) (by assumption)
              · have hokA := hW.okB (b := (a : Int)) (by omega)
                have hokB := hW.okB (b := ((a + 1 + t : Nat) : Int)) (by omega)
                have hokAB := hW.okBB (a := (a : Int)) (b := ((a + 1 + t : Nat) : Int)) (by omega)
                have hba := zto_b hW hokA
                have hbb := zto_b hW hokB
                have hbab := zto_b hW hokAB
                refine KAload_n C dX6_joins_53 rfl 0 rfl ?_
                refine KAload_n C dX6_joins_54 rfl 0 rfl ?_
                refine KIload C dX6_joins_55 4 rfl ?_
                refine KCallV (As := [.int (iI (a : Int))]) (b := q 80) (st := [.ref (q 80)]) C (ct_X6_productsOf l g (wI S f) q (a : Int) hT hWx.wl hCx (by omega)) u_ml_RX6_120 u_im_yX6_productsOf u_se_yX6_productsOf u_in_RX6 u_co_yX6_productsOf hd_yX6_productsOf (hT.at0 80 7) (by decide) rfl rfl ⟨Nat.le_of_ble_eq_true rfl, Nat.le_of_ble_eq_true rfl⟩ ⟨Nat.le_of_ble_eq_true rfl, Nat.le_of_ble_eq_true rfl⟩ (Nat.le_of_ble_eq_true rfl) dX6_joins_57 rfl (fun v57 u57 hp57 => ?_)
                obtain ⟨rfl, rfl⟩ := hp57
                refine KSt (st2 := [.int (iI ((zpd (sgM (wI S f) q) (a : Int) : Nat) : Int)), .ref (q 80)]) rfl ?_
                refine KRg (fun hR => ?_)
                refine KTop (congrArg iI (show ((zpd (sgM (wI S f) q) (a : Int) : Nat) : Int) = ((zpd (sgM S q) (a : Int) : Nat) : Int) from (by rw [hsg]))) ?_
                refine KCallV (As := [.int (iI ((zpd (sgM S q) (a : Int) : Nat) : Int))]) (b := q 80) (st := []) C (ct_X6_length l g (wI S f) q (zpd (sgM S q) (a : Int)) hT hWx.cf (by show okM (zN (sgM (wI S f) q)) (zP (sgM (wI S f) q)) _; rw [hsg]; exact hokA)) u_ml_RX6_114 u_im_yX6_length u_se_yX6_length u_in_RX6 u_co_yX6_length hd_yX6_length (hT.at0 80 7) (by decide) rfl rfl ⟨Nat.le_of_ble_eq_true rfl, Nat.le_of_ble_eq_true rfl⟩ ⟨Nat.le_of_ble_eq_true rfl, Nat.le_of_ble_eq_true rfl⟩ (Nat.le_of_ble_eq_true rfl) dX6_joins_60 rfl (fun v60 u60 hp60 => ?_)
                obtain ⟨rfl, f60, rfl, hK60, hs60⟩ := hp60
                refine KSt (st2 := [.int (iI (tour (sI (wI S f) (q 80) 2) (sI (wI S f) (q 80) 3) (sI (wI S f) (q 81)) (zpd (sgM S q) (a : Int))))]) rfl ?_
                refine KRg (fun hR => ?_)
                refine KTop (congrArg iI (show tour (sI (wI S f) (q 80) 2) (sI (wI S f) (q 80) 3) (sI (wI S f) (q 81)) (zpd (sgM S q) (a : Int)) = zto (sgM S q) (zpd (sgM S q) (a : Int)) from (by show zto (sgM (wI S f) q) _ = _; rw [hsg]))) ?_
                have hK602 : KeptM S q f60 := KeptM.trans hK hK60
                have hsg60 := sgM_kept hT hK602
                have hWx60 : Wf (sgM (wI S f60) q) := by rw [hsg60]; exact hW
                have hCx60 := hCn.kept hT hK602
                refine KAload_n C dX6_joins_63 rfl 0 rfl ?_
                refine KAload_n C dX6_joins_64 rfl 0 rfl ?_
                refine KIload C dX6_joins_65 5 rfl ?_
                refine KCallV (As := [.int (iI ((a + 1 + t : Nat) : Int))]) (b := q 80) (st := [.ref (q 80), .int (iI (zto (sgM S q) (zpd (sgM S q) (a : Int))))]) C (ct_X6_productsOf l g (wI (wI S f) f60) q ((a + 1 + t : Nat) : Int) hT hWx60.wl hCx60 (by omega)) u_ml_RX6_120 u_im_yX6_productsOf u_se_yX6_productsOf u_in_RX6 u_co_yX6_productsOf hd_yX6_productsOf (hT.at0 80 7) (by decide) rfl rfl ⟨Nat.le_of_ble_eq_true rfl, Nat.le_of_ble_eq_true rfl⟩ ⟨Nat.le_of_ble_eq_true rfl, Nat.le_of_ble_eq_true rfl⟩ (Nat.le_of_ble_eq_true rfl) dX6_joins_67 rfl (fun v67 u67 hp67 => ?_)
                obtain ⟨rfl, rfl⟩ := hp67
                refine KSt (st2 := [.int (iI ((zpd (sgM (wI (wI S f) f60) q) ((a + 1 + t : Nat) : Int) : Nat) : Int)), .ref (q 80), .int (iI (zto (sgM S q) (zpd (sgM S q) (a : Int))))]) rfl ?_
                refine KRg (fun hR => ?_)
                refine KTop (congrArg iI (show ((zpd (sgM (wI (wI S f) f60) q) ((a + 1 + t : Nat) : Int) : Nat) : Int) = ((zpd (sgM S q) ((a + 1 + t : Nat) : Int) : Nat) : Int) from (by rw [hsg60]))) ?_
                refine KCallV (As := [.int (iI ((zpd (sgM S q) ((a + 1 + t : Nat) : Int) : Nat) : Int))]) (b := q 80) (st := [.int (iI (zto (sgM S q) (zpd (sgM S q) (a : Int))))]) C (ct_X6_length l g (wI (wI S f) f60) q (zpd (sgM S q) ((a + 1 + t : Nat) : Int)) hT hWx60.cf (by show okM (zN (sgM (wI S f60) q)) (zP (sgM (wI S f60) q)) _; rw [hsg60]; exact hokB)) u_ml_RX6_114 u_im_yX6_length u_se_yX6_length u_in_RX6 u_co_yX6_length hd_yX6_length (hT.at0 80 7) (by decide) rfl rfl ⟨Nat.le_of_ble_eq_true rfl, Nat.le_of_ble_eq_true rfl⟩ ⟨Nat.le_of_ble_eq_true rfl, Nat.le_of_ble_eq_true rfl⟩ (Nat.le_of_ble_eq_true rfl) dX6_joins_70 rfl (fun v70 u70 hp70 => ?_)
                obtain ⟨rfl, f70, rfl, hK70, hs70⟩ := hp70
                refine KSt (st2 := [.int (iI (tour (sI (wI (wI S f) f60) (q 80) 2) (sI (wI (wI S f) f60) (q 80) 3) (sI (wI (wI S f) f60) (q 81)) (zpd (sgM S q) ((a + 1 + t : Nat) : Int)))), .int (iI (zto (sgM S q) (zpd (sgM S q) (a : Int))))]) rfl ?_
                refine KRg (fun hR => ?_)
                refine KTop (congrArg iI (show tour (sI (wI (wI S f) f60) (q 80) 2) (sI (wI (wI S f) f60) (q 80) 3) (sI (wI (wI S f) f60) (q 81)) (zpd (sgM S q) ((a + 1 + t : Nat) : Int)) = zto (sgM S q) (zpd (sgM S q) ((a + 1 + t : Nat) : Int)) from (by show zto (sgM (wI S f60) q) _ = _; rw [hsg60]))) ?_
                have hK702 : KeptM S q f70 := KeptM.trans hK602 hK70
                have hsg70 := sgM_kept hT hK702
                have hWx70 : Wf (sgM (wI S f70) q) := by rw [hsg70]; exact hW
                have hCx70 := hCn.kept hT hK702
                refine KIadd C dX6_joins_73 ?_
                refine KAload_n C dX6_joins_74 rfl 0 rfl ?_
                refine KAload_n C dX6_joins_75 rfl 0 rfl ?_
                refine KIload C dX6_joins_76 4 rfl ?_
                refine KCallV (As := [.int (iI (a : Int))]) (b := q 80) (st := [.ref (q 80), .int (iI ((zto (sgM S q) (zpd (sgM S q) (a : Int))) + (zto (sgM S q) (zpd (sgM S q) ((a + 1 + t : Nat) : Int)))))]) C (ct_X6_productsOf l g (wI (wI (wI S f) f60) f70) q (a : Int) hT hWx70.wl hCx70 (by omega)) u_ml_RX6_120 u_im_yX6_productsOf u_se_yX6_productsOf u_in_RX6 u_co_yX6_productsOf hd_yX6_productsOf (hT.at0 80 7) (by decide) rfl rfl ⟨Nat.le_of_ble_eq_true rfl, Nat.le_of_ble_eq_true rfl⟩ ⟨Nat.le_of_ble_eq_true rfl, Nat.le_of_ble_eq_true rfl⟩ (Nat.le_of_ble_eq_true rfl) dX6_joins_78 rfl (fun v78 u78 hp78 => ?_)
                obtain ⟨rfl, rfl⟩ := hp78
                refine KSt (st2 := [.int (iI ((zpd (sgM (wI (wI (wI S f) f60) f70) q) (a : Int) : Nat) : Int)), .ref (q 80), .int (iI ((zto (sgM S q) (zpd (sgM S q) (a : Int))) + (zto (sgM S q) (zpd (sgM S q) ((a + 1 + t : Nat) : Int)))))]) rfl ?_
                refine KRg (fun hR => ?_)
                refine KTop (congrArg iI (show ((zpd (sgM (wI (wI (wI S f) f60) f70) q) (a : Int) : Nat) : Int) = ((zpd (sgM S q) (a : Int) : Nat) : Int) from (by rw [hsg70]))) ?_
                refine KAload_n C dX6_joins_81 rfl 0 rfl ?_
                refine KIload C dX6_joins_82 5 rfl ?_
                refine KCallV (As := [.int (iI ((a + 1 + t : Nat) : Int))]) (b := q 80) (st := [.int (iI ((zpd (sgM S q) (a : Int) : Nat) : Int)), .ref (q 80), .int (iI ((zto (sgM S q) (zpd (sgM S q) (a : Int))) + (zto (sgM S q) (zpd (sgM S q) ((a + 1 + t : Nat) : Int)))))]) C (ct_X6_productsOf l g (wI (wI (wI S f) f60) f70) q ((a + 1 + t : Nat) : Int) hT hWx70.wl hCx70 (by omega)) u_ml_RX6_120 u_im_yX6_productsOf u_se_yX6_productsOf u_in_RX6 u_co_yX6_productsOf hd_yX6_productsOf (hT.at0 80 7) (by decide) rfl rfl ⟨Nat.le_of_ble_eq_true rfl, Nat.le_of_ble_eq_true rfl⟩ ⟨Nat.le_of_ble_eq_true rfl, Nat.le_of_ble_eq_true rfl⟩ (Nat.le_of_ble_eq_true rfl) dX6_joins_84 rfl (fun v84 u84 hp84 => ?_)
                obtain ⟨rfl, rfl⟩ := hp84
                refine KSt (st2 := [.int (iI ((zpd (sgM (wI (wI (wI S f) f60) f70) q) ((a + 1 + t : Nat) : Int) : Nat) : Int)), .int (iI ((zpd (sgM S q) (a : Int) : Nat) : Int)), .ref (q 80), .int (iI ((zto (sgM S q) (zpd (sgM S q) (a : Int))) + (zto (sgM S q) (zpd (sgM S q) ((a + 1 + t : Nat) : Int)))))]) rfl ?_
                refine KRg (fun hR => ?_)
                refine KTop (congrArg iI (show ((zpd (sgM (wI (wI (wI S f) f60) f70) q) ((a + 1 + t : Nat) : Int) : Nat) : Int) = ((zpd (sgM S q) ((a + 1 + t : Nat) : Int) : Nat) : Int) from (by rw [hsg70]))) ?_
                refine KIor (v := iI ((zpd (sgM S q) (a : Int) ||| zpd (sgM S q) ((a + 1 + t : Nat) : Int) : Nat) : Int)) C dX6_joins_87 (ib_or _ _) ?_
                refine KCallV (As := [.int (iI ((zpd (sgM S q) (a : Int) ||| zpd (sgM S q) ((a + 1 + t : Nat) : Int) : Nat) : Int))]) (b := q 80) (st := [.int (iI ((zto (sgM S q) (zpd (sgM S q) (a : Int))) + (zto (sgM S q) (zpd (sgM S q) ((a + 1 + t : Nat) : Int)))))]) C (ct_X6_length l g (wI (wI (wI S f) f60) f70) q (zpd (sgM S q) (a : Int) ||| zpd (sgM S q) ((a + 1 + t : Nat) : Int)) hT hWx70.cf (by show okM (zN (sgM (wI S f70) q)) (zP (sgM (wI S f70) q)) _; rw [hsg70]; exact hokAB)) u_ml_RX6_114 u_im_yX6_length u_se_yX6_length u_in_RX6 u_co_yX6_length hd_yX6_length (hT.at0 80 7) (by decide) rfl rfl ⟨Nat.le_of_ble_eq_true rfl, Nat.le_of_ble_eq_true rfl⟩ ⟨Nat.le_of_ble_eq_true rfl, Nat.le_of_ble_eq_true rfl⟩ (Nat.le_of_ble_eq_true rfl) dX6_joins_88 rfl (fun v88 u88 hp88 => ?_)
                obtain ⟨rfl, f88, rfl, hK88, hs88⟩ := hp88
                refine KSt (st2 := [.int (iI (tour (sI (wI (wI (wI S f) f60) f70) (q 80) 2) (sI (wI (wI (wI S f) f60) f70) (q 80) 3) (sI (wI (wI (wI S f) f60) f70) (q 81)) (zpd (sgM S q) (a : Int) ||| zpd (sgM S q) ((a + 1 + t : Nat) : Int)))), .int (iI ((zto (sgM S q) (zpd (sgM S q) (a : Int))) + (zto (sgM S q) (zpd (sgM S q) ((a + 1 + t : Nat) : Int)))))]) rfl ?_
                refine KRg (fun hR => ?_)
                refine KTop (congrArg iI (show tour (sI (wI (wI (wI S f) f60) f70) (q 80) 2) (sI (wI (wI (wI S f) f60) f70) (q 80) 3) (sI (wI (wI (wI S f) f60) f70) (q 81)) (zpd (sgM S q) (a : Int) ||| zpd (sgM S q) ((a + 1 + t : Nat) : Int)) = zto (sgM S q) (zpd (sgM S q) (a : Int) ||| zpd (sgM S q) ((a + 1 + t : Nat) : Int)) from (by show zto (sgM (wI S f70) q) _ = _; rw [hsg70]))) ?_
                have hK882 : KeptM S q f88 := KeptM.trans hK702 hK88
                have hsg88 := sgM_kept hT hK882
                have hWx88 : Wf (sgM (wI S f88) q) := by rw [hsg88]; exact hW
                have hCx88 := hCn.kept hT hK882
                refine KIsub C dX6_joins_91 ?_
                refine KTop (congrArg iI (show ((zto (sgM S q) (zpd (sgM S q) (a : Int))) + (zto (sgM S q) (zpd (sgM S q) ((a + 1 + t : Nat) : Int)))) - (zto (sgM S q) (zpd (sgM S q) (a : Int) ||| zpd (sgM S q) ((a + 1 + t : Nat) : Int))) = zsv (sgM S q) a (a + 1 + t) from (saving_eq (z := sgM S q) (a := a) (b := a + 1 + t) (by show _ ≤ sI S (q 80) 4; omega)))) ?_
                have hsvb := zsv_b hW a (a + 1 + t)
                refine KIstore (lv' := [(6, .int (iI (zsv (sgM S q) a (a + 1 + t)))), (0, .ref (q 80)), (1, .int (iI ((zjb (sgM S q) a t).1))), (2, .int (iI ((zjb (sgM S q) a t).2.1))), (3, .int (iI ((zjb (sgM S q) a t).2.2))), (4, .int (iI (a : Int))), (5, .int (iI ((a + 1 + t : Nat) : Int)))]) C dX6_joins_92 (by decide) rfl ?_
                refine KIload C dX6_joins_94 0 rfl ?_
                refine KIload_n C dX6_joins_96 rfl 2 rfl ?_
                refine KIcmp_le (tgt := 105) C dX6_joins_97 (by decide) ⟨by omega, by omega⟩ ⟨by omega, by omega⟩ (fun c97 => ?_) (fun c97 => ?_)
                · have hzt := zjb_f (z := sgM S q) (a := a) (t := t) (by omega)
                  refine KIload_n C dX6_joins_105 rfl 3 rfl ?_
                  refine KTop (congrArg iI (show (zjb (sgM S q) a t).2.1 = (zjb (sgM S q) a (t + 1)).2.1 from (by rw [hzt]))) ?_
                  refine KIstore_n (lv' := [(2, .int (iI ((zjb (sgM S q) a (t + 1)).2.1))), (6, .int (iI (zsv (sgM S q) a (a + 1 + t)))), (0, .ref (q 80)), (1, .int (iI ((zjb (sgM S q) a t).1))), (3, .int (iI ((zjb (sgM S q) a t).2.2))), (4, .int (iI (a : Int))), (5, .int (iI ((a + 1 + t : Nat) : Int)))]) C dX6_joins_106 rfl (by decide) rfl ?_
                  refine KIload C dX6_joins_107 1 rfl ?_
                  refine KIload_n C dX6_joins_109 rfl 3 rfl ?_
                  refine KIcmp_le (tgt := 118) C dX6_joins_110 (by decide) ⟨by omega, by omega⟩ ⟨by omega, by omega⟩ (fun c110 => ?_) (fun c110 => absurd c110 (by omega))
                  refine KIload_n C dX6_joins_118 rfl 4 rfl ?_
                  refine KTop (congrArg iI (show (zjb (sgM S q) a t).2.2 = (zjb (sgM S q) a (t + 1)).2.2 from (by rw [hzt]))) ?_
                  refine KIstore_n (lv' := [(3, .int (iI ((zjb (sgM S q) a (t + 1)).2.2))), (2, .int (iI ((zjb (sgM S q) a (t + 1)).2.1))), (6, .int (iI (zsv (sgM S q) a (a + 1 + t)))), (0, .ref (q 80)), (1, .int (iI ((zjb (sgM S q) a t).1))), (4, .int (iI (a : Int))), (5, .int (iI ((a + 1 + t : Nat) : Int)))]) C dX6_joins_119 rfl (by decide) rfl ?_
                  refine KIload C dX6_joins_120 2 rfl ?_
                  refine KIload_n C dX6_joins_122 rfl 4 rfl ?_
                  refine KIcmp_le (tgt := 131) C dX6_joins_123 (by decide) ⟨by omega, by omega⟩ ⟨by omega, by omega⟩ (fun c123 => ?_) (fun c123 => absurd c123 (by omega))
                  refine KIload_n C dX6_joins_131 rfl 4 rfl ?_
                  refine KTop (congrArg iI (show (zjb (sgM S q) a t).1 = (zjb (sgM S q) a (t + 1)).1 from (by rw [hzt]))) ?_
                  refine KIstore_n (lv' := [(1, .int (iI ((zjb (sgM S q) a (t + 1)).1))), (3, .int (iI ((zjb (sgM S q) a (t + 1)).2.2))), (2, .int (iI ((zjb (sgM S q) a (t + 1)).2.1))), (6, .int (iI (zsv (sgM S q) a (a + 1 + t)))), (0, .ref (q 80)), (4, .int (iI (a : Int))), (5, .int (iI ((a + 1 + t : Nat) : Int)))]) C dX6_joins_132 rfl (by decide) rfl ?_
                  refine KIinc (v := ((a + 1 + (t + 1) : Nat) : Int)) (lv' := [(5, .int (iI ((a + 1 + (t + 1) : Nat) : Int))), (1, .int (iI ((zjb (sgM S q) a (t + 1)).1))), (3, .int (iI ((zjb (sgM S q) a (t + 1)).2.2))), (2, .int (iI ((zjb (sgM S q) a (t + 1)).2.1))), (6, .int (iI (zsv (sgM S q) a (a + 1 + t)))), (0, .ref (q 80)), (4, .int (iI (a : Int)))]) C dX6_joins_133 6 rfl (by omega) (by decide) rfl ?_
                  refine KGoto (tgt := 24) C dX6_joins_136 (by decide) ?_
                  refine KLv (lv' := [(0, .ref (q 80)), (1, .int (iI ((zjb (sgM S q) a (t + 1)).1))), (2, .int (iI ((zjb (sgM S q) a (t + 1)).2.1))), (3, .int (iI ((zjb (sgM S q) a (t + 1)).2.2))), (4, .int (iI (a : Int))), (5, .int (iI ((a + 1 + (t + 1) : Nat) : Int)))]) [5, 1, 3, 2, 6, 0] rfl ?_
                  exact ih24 (t + 1) f88 (by omega) (by omega) (by assumption)
                · have hzt := zjb_t (z := sgM S q) (a := a) (t := t) (by omega)
                  refine KIload C dX6_joins_100 5 rfl ?_
                  refine KGoto (tgt := 106) C dX6_joins_102 (by decide) ?_
                  refine KTop (congrArg iI (show (a : Int) = (zjb (sgM S q) a (t + 1)).2.1 from (by rw [hzt]))) ?_
                  refine KIstore_n (lv' := [(2, .int (iI ((zjb (sgM S q) a (t + 1)).2.1))), (6, .int (iI (zsv (sgM S q) a (a + 1 + t)))), (0, .ref (q 80)), (1, .int (iI ((zjb (sgM S q) a t).1))), (3, .int (iI ((zjb (sgM S q) a t).2.2))), (4, .int (iI (a : Int))), (5, .int (iI ((a + 1 + t : Nat) : Int)))]) C dX6_joins_106 rfl (by decide) rfl ?_
                  refine KIload C dX6_joins_107 1 rfl ?_
                  refine KIload_n C dX6_joins_109 rfl 3 rfl ?_
                  refine KIcmp_le (tgt := 118) C dX6_joins_110 (by decide) ⟨by omega, by omega⟩ ⟨by omega, by omega⟩ (fun c110 => absurd c110 (by omega)) (fun c110 => ?_)
                  refine KIload C dX6_joins_113 6 rfl ?_
                  refine KGoto (tgt := 119) C dX6_joins_115 (by decide) ?_
                  refine KTop (congrArg iI (show ((a + 1 + t : Nat) : Int) = (zjb (sgM S q) a (t + 1)).2.2 from (by rw [hzt]))) ?_
                  refine KIstore_n (lv' := [(3, .int (iI ((zjb (sgM S q) a (t + 1)).2.2))), (2, .int (iI ((zjb (sgM S q) a (t + 1)).2.1))), (6, .int (iI (zsv (sgM S q) a (a + 1 + t)))), (0, .ref (q 80)), (1, .int (iI ((zjb (sgM S q) a t).1))), (4, .int (iI (a : Int))), (5, .int (iI ((a + 1 + t : Nat) : Int)))]) C dX6_joins_119 rfl (by decide) rfl ?_
                  refine KIload C dX6_joins_120 2 rfl ?_
                  refine KIload_n C dX6_joins_122 rfl 4 rfl ?_
                  refine KIcmp_le (tgt := 131) C dX6_joins_123 (by decide) ⟨by omega, by omega⟩ ⟨by omega, by omega⟩ (fun c123 => absurd c123 (by omega)) (fun c123 => ?_)
                  refine KIload C dX6_joins_126 2 rfl ?_
                  refine KGoto (tgt := 132) C dX6_joins_128 (by decide) ?_
                  refine KTop (congrArg iI (show zsv (sgM S q) a (a + 1 + t) = (zjb (sgM S q) a (t + 1)).1 from (by rw [hzt]))) ?_
                  refine KIstore_n (lv' := [(1, .int (iI ((zjb (sgM S q) a (t + 1)).1))), (3, .int (iI ((zjb (sgM S q) a (t + 1)).2.2))), (2, .int (iI ((zjb (sgM S q) a (t + 1)).2.1))), (6, .int (iI (zsv (sgM S q) a (a + 1 + t)))), (0, .ref (q 80)), (4, .int (iI (a : Int))), (5, .int (iI ((a + 1 + t : Nat) : Int)))]) C dX6_joins_132 rfl (by decide) rfl ?_
                  refine KIinc (v := ((a + 1 + (t + 1) : Nat) : Int)) (lv' := [(5, .int (iI ((a + 1 + (t + 1) : Nat) : Int))), (1, .int (iI ((zjb (sgM S q) a (t + 1)).1))), (3, .int (iI ((zjb (sgM S q) a (t + 1)).2.2))), (2, .int (iI ((zjb (sgM S q) a (t + 1)).2.1))), (6, .int (iI (zsv (sgM S q) a (a + 1 + t)))), (0, .ref (q 80)), (4, .int (iI (a : Int)))]) C dX6_joins_133 6 rfl (by omega) (by decide) rfl ?_
                  refine KGoto (tgt := 24) C dX6_joins_136 (by decide) ?_
                  refine KLv (lv' := [(0, .ref (q 80)), (1, .int (iI ((zjb (sgM S q) a (t + 1)).1))), (2, .int (iI ((zjb (sgM S q) a (t + 1)).2.1))), (3, .int (iI ((zjb (sgM S q) a (t + 1)).2.2))), (4, .int (iI (a : Int))), (5, .int (iI ((a + 1 + (t + 1) : Nat) : Int)))]) [5, 1, 3, 2, 6, 0] rfl ?_
                  exact ih24 (t + 1) f88 (by omega) (by omega) (by assumption)
        exact loop24 _ 0 f (Nat.lt_succ_self _) (by omega) hK
  exact loop9 _ 0 (sI S) (Nat.lt_succ_self _) (by omega) KeptM.refl
