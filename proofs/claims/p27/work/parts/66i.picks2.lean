def P_L_picks (S : Sto) (q : Nat → Nat) (b : Nat) (z : Sig) : Option Value → Sto → Prop := fun v u => v = some (.int (iI (zto z (zpd z (b : Int))))) ∧ ∃ f, u = wI S f ∧ Lo S q f ∧ LR (wI S f) q (zpk z (b : Int))
set_option maxRecDepth 100000 in
set_option maxHeartbeats 4000000 in
theorem ct_L_picks (l : Launch) (g : GG) (S : Sto) (q : Nat → Nat) (b : Nat) (z : Sig) (hT : Top S q) (hW : Wf z) (hL : LR S q z) (hb : b < zb z) : MetS l g yL_picks cL_picks 12 (some FieldType.int) 4 0 0 [.int (iI (b : Int)), .ref (q 81), .ref (q 82), .ref (q 83), .ref (q 84), .ref (q 85), .ref (q 87), .ref (q 88), .ref (q 80)] S (P_L_picks S q b z) := by
  refine MetS.of (own := RL) (lv := [(0, .int (iI (b : Int))), (1, .ref (q 81)), (2, .ref (q 82)), (3, .ref (q 83)), (4, .ref (q 84)), (5, .ref (q 85)), (6, .ref (q 87)), (7, .ref (q 88)), (8, .ref (q 80))]) (by decide) rfl (Nat.le_of_ble_eq_true rfl) rfl ?_
  intro pX eX sX mX argsX belowX methX cX C hin
  refine KRg (fun hR => ?_)
  have h12 : zo z ≤ 12 := hL.2.2.2.2.1
  have h6c : zC z ≤ 6 := hL.2.2.2.2.2
  have hbo := hW.2.1.2
  have hl9 := (hW.2.2.2.2.2.2.1 b hb).1
  have hmB := hW.okB (hW.lnB hb)
  have hC := hW.1
  have hwab := hW.wab
  refine KIload_n C dL_picks_0 rfl 0 rfl ?_
  refine KAload_n C dL_picks_1 rfl 3 rfl ?_
  refine KAload C dL_picks_2 4 rfl ?_
  refine KAload C dL_picks_4 8 rfl ?_
  refine KCallS (As := [.int (iI (b : Int)), .ref (q 83), .ref (q 84), .ref (q 80)]) (st := []) C (ct_L_products l g S q (b : Int) z hT hW hL (by omega)) u_ml_RL_63 u_st_yL_products u_in_RL u_co_yL_products hd_yL_products ⟨Nat.le_of_ble_eq_true rfl, Nat.le_of_ble_eq_true rfl⟩ ⟨Nat.le_of_ble_eq_true rfl, Nat.le_of_ble_eq_true rfl⟩ (Nat.le_of_ble_eq_true rfl) dL_picks_6 rfl (fun v6 u6 hp6 => ?_)
  obtain ⟨rfl, rfl⟩ := hp6
  refine KSt (st2 := [.int (iI ((zpd z (b : Int) : Nat) : Int))]) rfl ?_
  refine KAload_n C dL_picks_9 rfl 1 rfl ?_
  refine KAload C dL_picks_10 6 rfl ?_
  refine KAload C dL_picks_12 7 rfl ?_
  refine KAload C dL_picks_14 8 rfl ?_
  refine KCallS (As := [.int (iI ((zpd z (b : Int) : Nat) : Int)), .ref (q 81), .ref (q 87), .ref (q 88), .ref (q 80)]) (st := []) C (ct_L_route l g S q (zpd z (b : Int)) (zN z) (zG z) (zP z) hT hL.1.2.2.2.2.2.2.1 hL.1.2.2.2.2.2.2.2 hL.2.1.1 (by omega) (by omega) hmB (hW.ds hmB) (sl6_b hW (by omega))) u_ml_RL_67 u_st_yL_route u_in_RL u_co_yL_route hd_yL_route ⟨Nat.le_of_ble_eq_true rfl, Nat.le_of_ble_eq_true rfl⟩ ⟨Nat.le_of_ble_eq_true rfl, Nat.le_of_ble_eq_true rfl⟩ (Nat.le_of_ble_eq_true rfl) dL_picks_16 rfl (fun v16 u16 hp16 => ?_)
  obtain ⟨rfl, f16, rfl, hKR16, hw016, hwj16⟩ := hp16
  refine KSt (st2 := [.int (iI (tour (zN z) (zG z) (zP z) (zpd z (b : Int))))]) rfl ?_
  refine KRg (fun hR => ?_)
  refine KTop (congrArg iI (show tour (zN z) (zG z) (zP z) (zpd z (b : Int)) = zto z (zpd z (b : Int)) from rfl)) ?_
  have hb16 := zto_b hW hmB
  have hL16 : LR (wI S f16) q z := LR.kr hT hL hKR16
  refine KIstore (lv' := [(9, .int (iI (zto z (zpd z (b : Int))))), (0, .int (iI (b : Int))), (1, .ref (q 81)), (2, .ref (q 82)), (3, .ref (q 83)), (4, .ref (q 84)), (5, .ref (q 85)), (6, .ref (q 87)), (7, .ref (q 88)), (8, .ref (q 80))]) C dL_picks_19 (by decide) rfl ?_
  refine KAload C dL_picks_21 9 rfl ?_
  refine KIconst C dL_picks_23 ?_
  refine KDup2 C dL_picks_24 rfl rfl ?_
  refine KIald (S := wI S f16)  (v := zw z) C 8 (hT.at0 80 20) (hT.ln0 80 8) ⟨by omega, by omega⟩ (by omega) hL16.1.2.2.2.1 dL_picks_25 ?_
  refine KIload C dL_picks_26 0 rfl ?_
  refine KIadd C dL_picks_28 ?_
  refine KIast (S := wI S f16) C 8 (hT.at0 80 20) (hT.ln0 80 8) ⟨by omega, by omega⟩ (by omega) ⟨by omega, by omega⟩ dL_picks_29 ?_
  refine KIconst C dL_picks_30 ?_
  refine KIstore (lv' := [(10, .int (iI 0)), (9, .int (iI (zto z (zpd z (b : Int))))), (0, .int (iI (b : Int))), (1, .ref (q 81)), (2, .ref (q 82)), (3, .ref (q 83)), (4, .ref (q 84)), (5, .ref (q 85)), (6, .ref (q 87)), (7, .ref (q 88)), (8, .ref (q 80))]) C dL_picks_31 (by decide) rfl ?_
  refine KLv (lv' := [(0, .int (iI (b : Int))), (1, .ref (q 81)), (2, .ref (q 82)), (3, .ref (q 83)), (4, .ref (q 84)), (5, .ref (q 85)), (6, .ref (q 87)), (7, .ref (q 88)), (8, .ref (q 80)), (9, .int (iI (zto z (zpd z (b : Int))))), (10, .int (iI 0))]) [2, 3, 4, 5, 6, 7, 8, 9, 10, 1, 0] rfl ?_
  have loop33 : ∀ (nX : Nat) (k : Nat) (f : Nat → Int → Int), zo z - k < nX → (k ≤ zo z) → (LR (wI S f) q (zpkk z (b : Int) k)) → (Lo S q f) → Wk pX l eX (rmK 4 0 0) sX mX argsX belowX methX cX (MQ belowX (QcG g (P_L_picks S q b z)) argsX sX 0 0 (ge (gB g))) g 12 0 0 33 [(0, .int (iI (b : Int))), (1, .ref (q 81)), (2, .ref (q 82)), (3, .ref (q 83)), (4, .ref (q 84)), (5, .ref (q 85)), (6, .ref (q 87)), (7, .ref (q 88)), (8, .ref (q 80)), (9, .int (iI (zto z (zpd z (b : Int))))), (10, .int (iI (k : Int)))] [] (wI S f) := by
    intro nX
    induction nX with
    | zero => intro k f hm; exact absurd hm (Nat.not_lt_zero _)
    | succ nX ih33 =>
      intro k f hm33 hk hLk hLo
      refine KRg (fun hR => ?_)
      refine KIload C dL_picks_33 10 rfl ?_
      refine KAload C dL_picks_35 8 rfl ?_
      refine KIconst C dL_picks_37 ?_
      refine KIald (S := wI S f)  (v := (zo z : Int)) C 8 (hT.at0 80 20) (hT.ln0 80 8) ⟨by omega, by omega⟩ (by omega) hLk.1.2.1 dL_picks_38 ?_
      refine KIcmp_ge (tgt := 198) C dL_picks_39 (by decide) ⟨by omega, by omega⟩ ⟨by omega, by omega⟩ (fun c39 => ?_) (fun c39 => ?_)
      · have hkz2 : k = zo z := by omega
        rw [hkz2] at hLk
        refine KAload C dL_picks_198 8 rfl ?_
        refine KIconst C dL_picks_200 ?_
        refine KDup2 C dL_picks_201 rfl rfl ?_
        refine KIald (S := wI S f)  (v := (zb z : Int)) C 8 (hT.at0 80 20) (hT.ln0 80 8) ⟨by omega, by omega⟩ (by omega) hLk.1.2.2.1 dL_picks_202 ?_
        refine KIconst C dL_picks_203 ?_
        refine KIsub C dL_picks_204 ?_
        refine KIast (S := wI S f) C 8 (hT.at0 80 20) (hT.ln0 80 8) ⟨by omega, by omega⟩ (by omega) ⟨by omega, by omega⟩ dL_picks_205 ?_
        refine KIload C dL_picks_206 9 rfl ?_
        refine KIret C rfl rfl (by
          exact ⟨rfl, _, rfl, (hLo.up 80 _ _), LR.pk_end hT hLk (by omega) (by omega)⟩) (by decide) (by decide) dL_picks_208
      · have hkz : k < zo z := by omega
        have hbk := hW.bt hkz
        obtain ⟨⟨w1, w2⟩, w3, w4, w5, -, -, -⟩ := hW.2.2.2.2.1 k hkz
        refine KAload_n C dL_picks_42 rfl 3 rfl ?_
        refine KIconst C dL_picks_43 ?_
        refine KIload C dL_picks_44 10 rfl ?_
        refine KImul C dL_picks_46 ?_
        refine KIconst C dL_picks_47 ?_
        refine KIadd C dL_picks_48 ?_
        refine KTop (congrArg iI (show (4 * (k : Int)) + 2 = ((4 * k + 2 : Nat) : Int) from (by omega))) ?_
        refine KIald (S := wI S f)  (v := zbt z (k : Int)) C 48 (hT.at0 83 20) (hT.ln0 83 48) ⟨by omega, by omega⟩ (by omega) ((hLk.2.2.1 k hkz).2.2.1.trans (mjk_at _ _ _ _)) dL_picks_49 ?_
        refine KIload_n C dL_picks_50 rfl 0 rfl ?_
        refine KIcmp_ne (tgt := 135) C dL_picks_51 (by decide) ⟨by omega, by omega⟩ ⟨by omega, by omega⟩ (fun c51 => ?_) (fun c51 => ?_)
        · have hbe : ¬ zbt z (k : Int) = (b : Int) := by omega
          refine KAload_n C dL_picks_135 rfl 3 rfl ?_
          refine KIconst C dL_picks_136 ?_
          refine KIload C dL_picks_137 10 rfl ?_
          refine KImul C dL_picks_139 ?_
          refine KIconst C dL_picks_140 ?_
          refine KIadd C dL_picks_141 ?_
          refine KTop (congrArg iI (show (4 * (k : Int)) + 2 = ((4 * k + 2 : Nat) : Int) from (by omega))) ?_
          refine KAload_n C dL_picks_142 rfl 3 rfl ?_
          refine KIconst C dL_picks_143 ?_
          refine KIload C dL_picks_144 10 rfl ?_
          refine KImul C dL_picks_146 ?_
          refine KIconst C dL_picks_147 ?_
          refine KIadd C dL_picks_148 ?_
          refine KTop (congrArg iI (show (4 * (k : Int)) + 2 = ((4 * k + 2 : Nat) : Int) from (by omega))) ?_
          refine KIald (S := wI S f)  (v := zbt z (k : Int)) C 48 (hT.at0 83 20) (hT.ln0 83 48) ⟨by omega, by omega⟩ (by omega) ((hLk.2.2.1 k hkz).2.2.1.trans (mjk_at _ _ _ _)) dL_picks_149 ?_
          refine KIload_n C dL_picks_150 rfl 0 rfl ?_
          refine KIcmp_ne (tgt := 158) C dL_picks_151 (by decide) ⟨by omega, by omega⟩ ⟨by omega, by omega⟩ (fun c151 => ?_) (fun c151 => absurd c151 (by omega))
          refine KAload_n C dL_picks_158 rfl 3 rfl ?_
          refine KIconst C dL_picks_159 ?_
          refine KIload C dL_picks_160 10 rfl ?_
          refine KImul C dL_picks_162 ?_
          refine KIconst C dL_picks_163 ?_
          refine KIadd C dL_picks_164 ?_
          refine KTop (congrArg iI (show (4 * (k : Int)) + 2 = ((4 * k + 2 : Nat) : Int) from (by omega))) ?_
          refine KIald (S := wI S f)  (v := zbt z (k : Int)) C 48 (hT.at0 83 20) (hT.ln0 83 48) ⟨by omega, by omega⟩ (by omega) ((hLk.2.2.1 k hkz).2.2.1.trans (mjk_at _ _ _ _)) dL_picks_165 ?_
          refine KIload_n C dL_picks_166 rfl 0 rfl ?_
          refine KIcmp_le (tgt := 183) C dL_picks_167 (by decide) ⟨by omega, by omega⟩ ⟨by omega, by omega⟩ (fun c167 => ?_) (fun c167 => ?_)
          · refine KAload_n C dL_picks_183 rfl 3 rfl ?_
            refine KIconst C dL_picks_184 ?_
            refine KIload C dL_picks_185 10 rfl ?_
            refine KImul C dL_picks_187 ?_
            refine KIconst C dL_picks_188 ?_
            refine KIadd C dL_picks_189 ?_
            refine KTop (congrArg iI (show (4 * (k : Int)) + 2 = ((4 * k + 2 : Nat) : Int) from (by omega))) ?_
            refine KIald (S := wI S f)  (v := zbt z (k : Int)) C 48 (hT.at0 83 20) (hT.ln0 83 48) ⟨by omega, by omega⟩ (by omega) ((hLk.2.2.1 k hkz).2.2.1.trans (mjk_at _ _ _ _)) dL_picks_190 ?_
            refine KIast (S := wI S f) C 48 (hT.at0 83 20) (hT.ln0 83 48) ⟨by omega, by omega⟩ (by omega) ⟨by omega, by omega⟩ dL_picks_191 ?_
            refine KIinc (v := ((k + 1 : Nat) : Int)) (lv' := [(10, .int (iI ((k + 1 : Nat) : Int))), (0, .int (iI (b : Int))), (1, .ref (q 81)), (2, .ref (q 82)), (3, .ref (q 83)), (4, .ref (q 84)), (5, .ref (q 85)), (6, .ref (q 87)), (7, .ref (q 88)), (8, .ref (q 80)), (9, .int (iI (zto z (zpd z (b : Int)))))]) C dL_picks_192 10 rfl (by omega) (by decide) rfl ?_
            refine KGoto (tgt := 33) C dL_picks_195 (by decide) ?_
            refine KLv (lv' := [(0, .int (iI (b : Int))), (1, .ref (q 81)), (2, .ref (q 82)), (3, .ref (q 83)), (4, .ref (q 84)), (5, .ref (q 85)), (6, .ref (q 87)), (7, .ref (q 88)), (8, .ref (q 80)), (9, .int (iI (zto z (zpd z (b : Int))))), (10, .int (iI ((k + 1 : Nat) : Int)))]) [1, 2, 3, 4, 5, 6, 7, 8, 9, 10, 0] rfl ?_
            exact ih33 (k + 1) (up2 f (q 83) ((4 * k + 2 : Nat) : Int) (zbt z (k : Int))) (by omega) (by omega) (by first | exact LR.pk_eq hT hLq hbe | exact LR.pk_ne hT hLk hbe (by first | rw [if_pos (by omega)] | rw [if_neg (by omega)])) (by first | exact hLoh.up 83 _ _ | exact hLo.up 83 _ _)
          · refine KAload_n C dL_picks_170 rfl 3 rfl ?_
            refine KIconst C dL_picks_171 ?_
            refine KIload C dL_picks_172 10 rfl ?_
            refine KImul C dL_picks_174 ?_
            refine KIconst C dL_picks_175 ?_
            refine KIadd C dL_picks_176 ?_
            refine KTop (congrArg iI (show (4 * (k : Int)) + 2 = ((4 * k + 2 : Nat) : Int) from (by omega))) ?_
            refine KIald (S := wI S f)  (v := zbt z (k : Int)) C 48 (hT.at0 83 20) (hT.ln0 83 48) ⟨by omega, by omega⟩ (by omega) ((hLk.2.2.1 k hkz).2.2.1.trans (mjk_at _ _ _ _)) dL_picks_177 ?_
            refine KIconst C dL_picks_178 ?_
            refine KIsub C dL_picks_179 ?_
            refine KGoto (tgt := 191) C dL_picks_180 (by decide) ?_
            refine KIast (S := wI S f) C 48 (hT.at0 83 20) (hT.ln0 83 48) ⟨by omega, by omega⟩ (by omega) ⟨by omega, by omega⟩ dL_picks_191 ?_
            refine KIinc (v := ((k + 1 : Nat) : Int)) (lv' := [(10, .int (iI ((k + 1 : Nat) : Int))), (0, .int (iI (b : Int))), (1, .ref (q 81)), (2, .ref (q 82)), (3, .ref (q 83)), (4, .ref (q 84)), (5, .ref (q 85)), (6, .ref (q 87)), (7, .ref (q 88)), (8, .ref (q 80)), (9, .int (iI (zto z (zpd z (b : Int)))))]) C dL_picks_192 10 rfl (by omega) (by decide) rfl ?_
            refine KGoto (tgt := 33) C dL_picks_195 (by decide) ?_
            refine KLv (lv' := [(0, .int (iI (b : Int))), (1, .ref (q 81)), (2, .ref (q 82)), (3, .ref (q 83)), (4, .ref (q 84)), (5, .ref (q 85)), (6, .ref (q 87)), (7, .ref (q 88)), (8, .ref (q 80)), (9, .int (iI (zto z (zpd z (b : Int))))), (10, .int (iI ((k + 1 : Nat) : Int)))]) [1, 2, 3, 4, 5, 6, 7, 8, 9, 10, 0] rfl ?_
            exact ih33 (k + 1) (up2 f (q 83) ((4 * k + 2 : Nat) : Int) ((zbt z (k : Int)) - 1)) (by omega) (by omega) (by first | exact LR.pk_eq hT hLq hbe | exact LR.pk_ne hT hLk hbe (by first | rw [if_pos (by omega)] | rw [if_neg (by omega)])) (by first | exact hLoh.up 83 _ _ | exact hLo.up 83 _ _)
        · have hbe : zbt z (k : Int) = (b : Int) := by omega
          have hmW := hW.okW hkz
          have hal := alI_b2 hW (b : Int) k hk
          refine KAload C dL_picks_54 8 rfl ?_
          refine KIconst C dL_picks_56 ?_
          refine KDup2 C dL_picks_57 rfl rfl ?_
          refine KIald (S := wI S f)  (v := za z + alI z (b : Int) k) C 8 (hT.at0 80 20) (hT.ln0 80 8) ⟨by omega, by omega⟩ (by omega) hLk.1.2.2.2.2.1 dL_picks_58 ?_
          refine KIload C dL_picks_59 10 rfl ?_
          refine KAload_n C dL_picks_61 rfl 3 rfl ?_
          refine KAload C dL_picks_62 4 rfl ?_
          refine KCallS (As := [.int (iI (k : Int)), .ref (q 83), .ref (q 84)]) (st := [.int (iI (za z + alI z (b : Int) k)), .int (iI 4), .ref (q 80)]) C (ct_L_wanted l g (wI S f) q k z hT hW.wl (fun o ho => (hLk.2.2.1 o ho).2.2.2) hLk.2.1.2.1 h12 hkz) u_ml_RL_46 u_st_yL_wanted u_in_RL u_co_yL_wanted hd_yL_wanted ⟨Nat.le_of_ble_eq_true rfl, Nat.le_of_ble_eq_true rfl⟩ ⟨Nat.le_of_ble_eq_true rfl, Nat.le_of_ble_eq_true rfl⟩ (Nat.le_of_ble_eq_true rfl) dL_picks_64 rfl (fun v64 u64 hp64 => ?_)
          obtain ⟨rfl, rfl⟩ := hp64
          refine KSt (st2 := [.int (iI ((zW z k : Nat) : Int)), .int (iI (za z + alI z (b : Int) k)), .int (iI 4), .ref (q 80)]) rfl ?_
          refine KRg (fun hR => ?_)
          refine KAload_n C dL_picks_67 rfl 1 rfl ?_
          refine KAload C dL_picks_68 6 rfl ?_
          refine KAload C dL_picks_70 7 rfl ?_
          refine KAload C dL_picks_72 8 rfl ?_
          refine KCallS (As := [.int (iI ((zW z k : Nat) : Int)), .ref (q 81), .ref (q 87), .ref (q 88), .ref (q 80)]) (st := [.int (iI (za z + alI z (b : Int) k)), .int (iI 4), .ref (q 80)]) C (ct_L_route l g (wI S f) q (zW z k) (zN z) (zG z) (zP z) hT hLk.1.2.2.2.2.2.2.1 hLk.1.2.2.2.2.2.2.2 hLk.2.1.1 (by omega) (by omega) hmW (hW.ds hmW) (sl6_w hW hkz)) u_ml_RL_67 u_st_yL_route u_in_RL u_co_yL_route hd_yL_route ⟨Nat.le_of_ble_eq_true rfl, Nat.le_of_ble_eq_true rfl⟩ ⟨Nat.le_of_ble_eq_true rfl, Nat.le_of_ble_eq_true rfl⟩ (Nat.le_of_ble_eq_true rfl) dL_picks_74 rfl (fun v74 u74 hp74 => ?_)
          obtain ⟨rfl, f74, rfl, hKR74, hw074, hwj74⟩ := hp74
          refine KSt (st2 := [.int (iI (tour (zN z) (zG z) (zP z) (zW z k))), .int (iI (za z + alI z (b : Int) k)), .int (iI 4), .ref (q 80)]) rfl ?_
          refine KRg (fun hR => ?_)
          refine KTop (congrArg iI (show tour (zN z) (zG z) (zP z) (zW z k) = zto z (zW z k) from rfl)) ?_
          have hb74 := zto_b hW hmW
          have hL74 : LR (wI S f74) q (zpkk z (b : Int) k) := LR.kr (S := wI S f) hT hLk hKR74
          have hPS := LR.pk_s hT hL74
          refine KIadd C dL_picks_77 ?_
          refine KIast (S := wI S f74) C 8 (hT.at0 80 20) (hT.ln0 80 8) ⟨by omega, by omega⟩ (by omega) ⟨by omega, by omega⟩ dL_picks_78 ?_
          refine KAload_n C dL_picks_79 rfl 3 rfl ?_
          refine KIconst C dL_picks_80 ?_
          refine KIload C dL_picks_81 10 rfl ?_
          refine KImul C dL_picks_83 ?_
          refine KIconst C dL_picks_84 ?_
          refine KIadd C dL_picks_85 ?_
          refine KTop (congrArg iI (show (4 * (k : Int)) + 1 = ((4 * k + 1 : Nat) : Int) from (by omega))) ?_
          refine KIconst C dL_picks_86 ?_
          refine KIast (S := uI (wI S f74) (q 80) 4 ((za z + alI z (b : Int) k) + (zto z (zW z k)))) C 48 (hT.at0 83 20) (hT.ln0 83 48) ⟨by omega, by omega⟩ (by omega) ⟨by omega, by omega⟩ dL_picks_87 ?_
          refine KIconst C dL_picks_88 ?_
          refine KIstore (lv' := [(11, .int (iI 0)), (0, .int (iI (b : Int))), (1, .ref (q 81)), (2, .ref (q 82)), (3, .ref (q 83)), (4, .ref (q 84)), (5, .ref (q 85)), (6, .ref (q 87)), (7, .ref (q 88)), (8, .ref (q 80)), (9, .int (iI (zto z (zpd z (b : Int))))), (10, .int (iI (k : Int)))]) C dL_picks_89 (by decide) rfl ?_
          refine KLv (lv' := [(0, .int (iI (b : Int))), (1, .ref (q 81)), (2, .ref (q 82)), (3, .ref (q 83)), (4, .ref (q 84)), (5, .ref (q 85)), (6, .ref (q 87)), (7, .ref (q 88)), (8, .ref (q 80)), (9, .int (iI (zto z (zpd z (b : Int))))), (10, .int (iI (k : Int))), (11, .int (iI 0))]) [1, 2, 3, 4, 5, 6, 7, 8, 9, 10, 11, 0] rfl ?_
          have loop91 : ∀ (nX : Nat) (i : Nat) (h : Nat → Int → Int), (zmn z (k : Int)).toNat - i < nX → ((i : Int) ≤ zmn z (k : Int)) → (LRn (wI S h) q (zpks z (b : Int) k)) → (∀ p : Nat, p < 20 → h (q 82) (p : Int) = ztv (zpkk z (b : Int) k) (p : Int) + tvi (zpr z) (zqt z) (p : Int) k i) → (Lo S q h) → Wk pX l eX (rmK 4 0 0) sX mX argsX belowX methX cX (MQ belowX (QcG g (P_L_picks S q b z)) argsX sX 0 0 (ge (gB g))) g 12 0 0 91 [(0, .int (iI (b : Int))), (1, .ref (q 81)), (2, .ref (q 82)), (3, .ref (q 83)), (4, .ref (q 84)), (5, .ref (q 85)), (6, .ref (q 87)), (7, .ref (q 88)), (8, .ref (q 80)), (9, .int (iI (zto z (zpd z (b : Int))))), (10, .int (iI (k : Int))), (11, .int (iI (i : Int)))] [] (wI S h) := by
            intro nX
            induction nX with
            | zero => intro i h hm; exact absurd hm (Nat.not_lt_zero _)
            | succ nX ih91 =>
              intro i h hm91 hi hN hTt hLoh
              refine KRg (fun hR => ?_)
              refine KIload C dL_picks_91 11 rfl ?_
              refine KAload_n C dL_picks_93 rfl 3 rfl ?_
              refine KIconst C dL_picks_94 ?_
              refine KIload C dL_picks_95 10 rfl ?_
              refine KImul C dL_picks_97 ?_
              refine KIconst C dL_picks_98 ?_
              refine KIadd C dL_picks_99 ?_
              refine KTop (congrArg iI (show (4 * (k : Int)) + 3 = ((4 * k + 3 : Nat) : Int) from (by omega))) ?_
              refine KIald (S := wI S h)  (v := zmn z (k : Int)) C 48 (hT.at0 83 20) (hT.ln0 83 48) ⟨by omega, by omega⟩ (by omega) (hN.2.2.1 k hkz).2.2.2 dL_picks_100 ?_
              refine KIcmp_ge (tgt := 135) C dL_picks_101 (by decide) ⟨by omega, by omega⟩ ⟨by omega, by omega⟩ (fun c101 => ?_) (fun c101 => ?_)
              · have hLq : LR (wI S h) q (zpks z (b : Int) k) := hN.lr (fun p hp => (hTt p hp).trans (by rw [zpks_tv hkz (by omega), show (zmn z (k : Int)).toNat = i by omega]))
                refine KAload_n C dL_picks_135 rfl 3 rfl ?_
                refine KIconst C dL_picks_136 ?_
                refine KIload C dL_picks_137 10 rfl ?_
                refine KImul C dL_picks_139 ?_
                refine KIconst C dL_picks_140 ?_
                refine KIadd C dL_picks_141 ?_
                refine KTop (congrArg iI (show (4 * (k : Int)) + 2 = ((4 * k + 2 : Nat) : Int) from (by omega))) ?_
                refine KAload_n C dL_picks_142 rfl 3 rfl ?_
                refine KIconst C dL_picks_143 ?_
                refine KIload C dL_picks_144 10 rfl ?_
                refine KImul C dL_picks_146 ?_
                refine KIconst C dL_picks_147 ?_
                refine KIadd C dL_picks_148 ?_
                refine KTop (congrArg iI (show (4 * (k : Int)) + 2 = ((4 * k + 2 : Nat) : Int) from (by omega))) ?_
                refine KIald (S := wI S h)  (v := zbt z (k : Int)) C 48 (hT.at0 83 20) (hT.ln0 83 48) ⟨by omega, by omega⟩ (by omega) ((hLq.2.2.1 k hkz).2.2.1.trans (mjk_at _ _ _ _)) dL_picks_149 ?_
                refine KIload_n C dL_picks_150 rfl 0 rfl ?_
                refine KIcmp_ne (tgt := 158) C dL_picks_151 (by decide) ⟨by omega, by omega⟩ ⟨by omega, by omega⟩ (fun c151 => absurd c151 (by omega)) (fun c151 => ?_)
                refine KIconst C dL_picks_154 ?_
                refine KGoto (tgt := 191) C dL_picks_155 (by decide) ?_
                refine KIast (S := wI S h) C 48 (hT.at0 83 20) (hT.ln0 83 48) ⟨by omega, by omega⟩ (by omega) ⟨by omega, by omega⟩ dL_picks_191 ?_
                refine KIinc (v := ((k + 1 : Nat) : Int)) (lv' := [(10, .int (iI ((k + 1 : Nat) : Int))), (0, .int (iI (b : Int))), (1, .ref (q 81)), (2, .ref (q 82)), (3, .ref (q 83)), (4, .ref (q 84)), (5, .ref (q 85)), (6, .ref (q 87)), (7, .ref (q 88)), (8, .ref (q 80)), (9, .int (iI (zto z (zpd z (b : Int))))), (11, .int (iI (i : Int)))]) C dL_picks_192 10 rfl (by omega) (by decide) rfl ?_
                refine KGoto (tgt := 33) C dL_picks_195 (by decide) ?_
                refine KLv (lv' := [(0, .int (iI (b : Int))), (1, .ref (q 81)), (2, .ref (q 82)), (3, .ref (q 83)), (4, .ref (q 84)), (5, .ref (q 85)), (6, .ref (q 87)), (7, .ref (q 88)), (8, .ref (q 80)), (9, .int (iI (zto z (zpd z (b : Int))))), (10, .int (iI ((k + 1 : Nat) : Int)))]) [1, 2, 3, 4, 5, 6, 7, 8, 9, 10, 0] rfl ?_
                exact ih33 (k + 1) (up2 h (q 83) ((4 * k + 2 : Nat) : Int) (-1)) (by omega) (by omega) (by first | exact LR.pk_eq hT hLq hbe | exact LR.pk_ne hT hLk hbe (by first | rw [if_pos (by omega)] | rw [if_neg (by omega)])) (by first | exact hLoh.up 83 _ _ | exact hLo.up 83 _ _)
              · have hp3 := (hW.wl.2 k hkz).2 i (by omega)
                obtain ⟨p9, hp9⟩ : ∃ n9 : Nat, zpr z ((5 * k + i : Nat) : Int) = (n9 : Int) := ⟨(zpr z ((5 * k + i : Nat) : Int)).toNat, by omega⟩
                have htvb := zpkk_tvb hW (b : Int) k p9
                have htib := tvi_b (pr := zpr z) (qt := zqt z) (p := (p9 : Int)) (o := k) i (fun i9 h9 => hW.wq.2 k i9 hkz (by omega))
                have hqb := hW.wq.2 k i hkz (by omega)
                refine KAload_n C dL_picks_104 rfl 2 rfl ?_
                refine KAload C dL_picks_105 4 rfl ?_
                refine KIconst C dL_picks_107 ?_
                refine KIload C dL_picks_108 10 rfl ?_
                refine KImul C dL_picks_110 ?_
                refine KIload C dL_picks_111 11 rfl ?_
                refine KIadd C dL_picks_113 ?_
                refine KTop (congrArg iI (show (5 * (k : Int)) + (i : Int) = ((5 * k + i : Nat) : Int) from (by omega))) ?_
                refine KIald (S := wI S h)  (v := (p9 : Int)) C 60 (hT.at0 84 20) (hT.ln0 84 60) ⟨by omega, by omega⟩ (by omega) ((congrFun hN.2.1.2.1 _).trans hp9) dL_picks_114 ?_
                refine KDup2 C dL_picks_115 rfl rfl ?_
                refine KIald (S := wI S h)  (v := ztv (zpkk z (b : Int) k) (p9 : Int) + tvi (zpr z) (zqt z) (p9 : Int) k i) C 20 (hT.at0 82 20) (hT.ln0 82 20) ⟨by omega, by omega⟩ (by omega) (hTt p9 (by omega)) dL_picks_116 ?_
                refine KAload C dL_picks_117 5 rfl ?_
                refine KIconst C dL_picks_119 ?_
                refine KIload C dL_picks_120 10 rfl ?_
                refine KImul C dL_picks_122 ?_
                refine KIload C dL_picks_123 11 rfl ?_
                refine KIadd C dL_picks_125 ?_
                refine KTop (congrArg iI (show (5 * (k : Int)) + (i : Int) = ((5 * k + i : Nat) : Int) from (by omega))) ?_
                refine KIald (S := wI S h)  (v := zqt z ((5 * k + i : Nat) : Int)) C 60 (hT.at0 85 20) (hT.ln0 85 60) ⟨by omega, by omega⟩ (by omega) (congrFun hN.2.1.2.2 _) dL_picks_126 ?_
                refine KIadd C dL_picks_127 ?_
                refine KIast (S := wI S h) C 20 (hT.at0 82 20) (hT.ln0 82 20) ⟨by omega, by omega⟩ (by omega) ⟨by omega, by omega⟩ dL_picks_128 ?_
                refine KIinc (v := ((i + 1 : Nat) : Int)) (lv' := [(11, .int (iI ((i + 1 : Nat) : Int))), (0, .int (iI (b : Int))), (1, .ref (q 81)), (2, .ref (q 82)), (3, .ref (q 83)), (4, .ref (q 84)), (5, .ref (q 85)), (6, .ref (q 87)), (7, .ref (q 88)), (8, .ref (q 80)), (9, .int (iI (zto z (zpd z (b : Int))))), (10, .int (iI (k : Int)))]) C dL_picks_129 11 rfl (by omega) (by decide) rfl ?_
                refine KGoto (tgt := 91) C dL_picks_132 (by decide) ?_
                refine KLv (lv' := [(0, .int (iI (b : Int))), (1, .ref (q 81)), (2, .ref (q 82)), (3, .ref (q 83)), (4, .ref (q 84)), (5, .ref (q 85)), (6, .ref (q 87)), (7, .ref (q 88)), (8, .ref (q 80)), (9, .int (iI (zto z (zpd z (b : Int))))), (10, .int (iI (k : Int))), (11, .int (iI ((i + 1 : Nat) : Int)))]) [1, 2, 3, 4, 5, 6, 7, 8, 9, 10, 11, 0] rfl ?_
                exact ih91 (i + 1) (up2 h (q 82) (p9 : Int) ((ztv (zpkk z (b : Int) k) (p9 : Int) + tvi (zpr z) (zqt z) (p9 : Int) k i) + (zqt z ((5 * k + i : Nat) : Int)))) (by omega) (by omega) (LRn.row82 hT hN _ _) (t_put (T := ztv (zpkk z (b : Int) k)) hp9 hTt) (hLoh.up 82 _ _)
          exact loop91 _ 0 (up2 (up2 f74 (q 80) 4 ((za z + alI z (b : Int) k) + (zto z (zW z k)))) (q 83) ((4 * k + 1 : Nat) : Int) 2) (Nat.lt_succ_self _) (by omega) hPS.1 hPS.2 (((hLo.kr hKR74).up 80 _ _).up 83 _ _)
  exact loop33 _ 0 (up2 f16 (q 80) 3 ((zw z) + (zto z (zpd z (b : Int))))) (Nat.lt_succ_self _) (by omega) (LR.pk_0 hT hL16) ((Lo.kr (f := sI S) Lo.refl hKR16).up 80 _ _)
