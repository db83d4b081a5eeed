def P_X2_tryFrom (S : Sto) (q : Nat → Nat) (n : Nat) (d : Nat → Nat → Int) (src : Nat) (left : Nat) (gone : Int) (L : Int) (depth : Nat) : Option Value → Sto → Prop := fun v u => v = some (.int (iI (minI L (gone + tr d n left src)))) ∧ S = u
set_option maxRecDepth 100000 in
set_option maxHeartbeats 4000000 in
theorem ct_X2_tryFrom (l : Launch) (g : GG) : ∀ (b : Nat) (S : Sto) (q : Nat → Nat) (n : Nat) (d : Nat → Nat → Int) (src left : Nat) (gone L : Int) (depth : Nat), cntb left n < b → Top S q → Rt S q n d → (src < n ∨ src = 9) → left < 2 ^ n → (0 ≤ gone ∧ gone ≤ 66 * (depth : Int)) → (0 ≤ L ∧ L ≤ 1000000) → cntb left n + depth ≤ 7 → MetS l g yX2_tryFrom cX2_tryFrom 9 (some FieldType.int) (b + 2) 0 0 [.ref (q 11), .int (iI (src : Int)), .int (iI (left : Int)), .int (iI gone), .int (iI L), .int (iI (depth : Int))] S (P_X2_tryFrom S q n d src left gone L depth) := by
  intro b
  induction b with
  | zero => intro S q n d src left gone L depth hb; omega
  | succ b ihb =>
    intro S q n d src left gone L depth hcb hT hRt hsrc hl hgone hL hcd
    refine MetS.of (own := RX2) (lv := [(0, .ref (q 11)), (1, .int (iI (src : Int))), (2, .int (iI (left : Int))), (3, .int (iI gone)), (4, .int (iI L)), (5, .int (iI (depth : Int)))]) (by decide) rfl (Nat.le_of_ble_eq_true rfl) rfl ?_
    intro pX eX sX mX argsX belowX methX cX C hin
    refine KRg (fun hR => ?_)
    obtain ⟨hcn, ⟨hn9, hdb⟩, -, -, -, -⟩ := id hRt
    have h512 : 2 ^ n ≤ 2 ^ 9 := Nat.pow_le_pow_right (by omega) hn9
    have hl5 : left < 512 := Nat.lt_of_lt_of_le hl h512
    refine KIload_n C dX2_tryFrom_0 rfl 2 rfl ?_
    refine KIf_ne (tgt := 18) C dX2_tryFrom_1 (by decide) ⟨by omega, by omega⟩ (fun c1 => ?_) (fun c1 => ?_)
    · refine KIload C dX2_tryFrom_18 5 rfl ?_
      refine KBipush C dX2_tryFrom_20 (by decide) ?_
      refine KIcmp_lt (tgt := 28) C dX2_tryFrom_22 (by decide) ⟨by omega, by omega⟩ ⟨by omega, by omega⟩ (fun c22 => ?_) (fun c22 => absurd c22 (by have h0 := cntb_zero n hl (by omega); omega))
      refine KIload C dX2_tryFrom_28 4 rfl ?_
      refine KTop (congrArg iI (show L = minI L (gone + mnb 1000000 left (fun k => d src k + tr d n (left - 2 ^ k) k) 0) from (try_0 hL.2 hgone.1 left (fun k => d src k + tr d n (left - 2 ^ k) k)))) ?_
      refine KIstore (lv' := [(6, .int (iI (minI L (gone + mnb 1000000 left (fun k => d src k + tr d n (left - 2 ^ k) k) 0)))), (0, .ref (q 11)), (1, .int (iI (src : Int))), (2, .int (iI (left : Int))), (3, .int (iI gone)), (4, .int (iI L)), (5, .int (iI (depth : Int)))]) C dX2_tryFrom_30 (by decide) rfl ?_
      refine KIconst C dX2_tryFrom_32 ?_
      refine KIstore (lv' := [(7, .int (iI 0)), (6, .int (iI (minI L (gone + mnb 1000000 left (fun k => d src k + tr d n (left - 2 ^ k) k) 0)))), (0, .ref (q 11)), (1, .int (iI (src : Int))), (2, .int (iI (left : Int))), (3, .int (iI gone)), (4, .int (iI L)), (5, .int (iI (depth : Int)))]) C dX2_tryFrom_33 (by decide) rfl ?_
      refine KLv (lv' := [(0, .ref (q 11)), (1, .int (iI (src : Int))), (2, .int (iI (left : Int))), (3, .int (iI gone)), (4, .int (iI L)), (5, .int (iI (depth : Int))), (6, .int (iI (minI L (gone + mnb 1000000 left (fun k => d src k + tr d n (left - 2 ^ k) k) 0)))), (7, .int (iI 0))]) [2, 3, 4, 5, 6, 7, 1, 0] rfl ?_
      have loop35 : ∀ (nX : Nat) (k : Nat), 9 - k < nX → (k ≤ 9) → Wk pX l eX (rmK (b + 1 + 2) 0 0) sX mX argsX belowX methX cX (MQ belowX (QcG g (P_X2_tryFrom S q n d src left gone L depth)) argsX sX 0 0 (ge (gB g))) g 9 0 0 35 [(0, .ref (q 11)), (1, .int (iI (src : Int))), (2, .int (iI (left : Int))), (3, .int (iI gone)), (4, .int (iI L)), (5, .int (iI (depth : Int))), (6, .int (iI (minI L (gone + mnb 1000000 left (fun k => d src k + tr d n (left - 2 ^ k) k) k)))), (7, .int (iI (k : Int)))] [] S := by
        intro nX
        induction nX with
        | zero => intro k hm; exact absurd hm (Nat.not_lt_zero _)
        | succ nX ih35 =>
          intro k hm35 hk
          refine KRg (fun hR => ?_)
          have hmb := mnb_le 1000000 left (fun k => d src k + tr d n (left - 2 ^ k) k) k
          have hmn := mnb_nn9 (d := d) (left := left) (src := src) ⟨hn9, hdb⟩ hsrc hl k
          have hlm := minI_b L (gone + mnb 1000000 left (fun k => d src k + tr d n (left - 2 ^ k) k) k)
          refine KIload C dX2_tryFrom_35 7 rfl ?_
          refine KBipush C dX2_tryFrom_37 (by decide) ?_
          refine KIcmp_ge (tgt := 96) C dX2_tryFrom_39 (by decide) ⟨by omega, by omega⟩ ⟨by omega, by omega⟩ (fun c39 => ?_) (fun c39 => ?_)
          · refine KIload C dX2_tryFrom_96 6 rfl ?_
            refine KIret C rfl rfl (by
              refine ⟨?_, rfl⟩
              rw [tr_step d n (by omega), mnb_top hl k (by omega)]) (by decide) (by decide) dX2_tryFrom_98
          · refine KIload_n C dX2_tryFrom_42 rfl 3 rfl ?_
            refine KAload_n C dX2_tryFrom_43 rfl 0 rfl ?_
            refine KIload_n C dX2_tryFrom_44 rfl 1 rfl ?_
            refine KGaldR (b := q (20 + src)) C 10 (hT.at0 11 22) (hT.ln0 11 10) ⟨by omega, by omega⟩ (by omega) (hT.way (by omega)) dX2_tryFrom_45 ?_
            refine KIload C dX2_tryFrom_46 7 rfl ?_
            refine KIald  (v := sI S (q (20 + src)) (k : Int)) C 10 (hT.wat (by omega)) (hT.wln (by omega)) ⟨by omega, by omega⟩ (by omega) rfl dX2_tryFrom_48 ?_
            refine KIadd C dX2_tryFrom_49 ?_
            refine KIstore (lv' := [(8, .int (iI (gone + (sI S (q (20 + src)) (k : Int))))), (0, .ref (q 11)), (1, .int (iI (src : Int))), (2, .int (iI (left : Int))), (3, .int (iI gone)), (4, .int (iI L)), (5, .int (iI (depth : Int))), (6, .int (iI (minI L (gone + mnb 1000000 left (fun k => d src k + tr d n (left - 2 ^ k) k) k)))), (7, .int (iI (k : Int)))]) C dX2_tryFrom_50 (by decide) rfl ?_
            refine KIload_n C dX2_tryFrom_52 rfl 3 rfl ?_
            refine KIload C dX2_tryFrom_53 8 rfl ?_
            refine KCallSN (As := [.int (iI (left : Int)), .int (iI (k : Int))]) (st := []) C (ct_X5_isIn l g S left k (by omega) (by omega)) n_mn_RX2_65 u_st_yX5_isIn u_in_RX5 u_co_yX5_isIn hd_yX5_isIn.2 ⟨by show (1) + 1 ≤ b + 1 + 2; omega, by show 8 + (2 + 11) + 64 * (1) ≤ 64 * (b + 1 + 2); omega⟩ ⟨Nat.le_refl _, Nat.le_refl _⟩ (Nat.le_of_ble_eq_true rfl) dX2_tryFrom_55 rfl (fun v55 u55 hp55 => ?_)
            obtain ⟨⟨b55, rfl⟩ | ⟨b55, rfl⟩, rfl⟩ := hp55
            · refine KSt (st2 := [.int (iI 1)]) rfl ?_
              have hkn : k < n := tb_lt hl b55
              have edk : sI S (q (20 + src)) (k : Int) = d src k := hRt.get hsrc hkn
              have hdk := hdb src k hsrc (Or.inl hkn)
              have htk := tr_nn ⟨hn9, hdb⟩ (left - 2 ^ k) k (Or.inl hkn)
              have hlm := minI_b L (gone + mnb 1000000 left (fun k => d src k + tr d n (left - 2 ^ k) k) k)
              refine KLvE (lv2 := [(8, .int (iI (gone + (d src k)))), (0, .ref (q 11)), (1, .int (iI (src : Int))), (2, .int (iI (left : Int))), (3, .int (iI gone)), (4, .int (iI L)), (5, .int (iI (depth : Int))), (6, .int (iI (minI L (gone + mnb 1000000 left (fun k => d src k + tr d n (left - 2 ^ k) k) k)))), (7, .int (iI (k : Int)))]) (congrArg (fun zz : Int => ([(8, .int (iI zz)), (0, .ref (q 11)), (1, .int (iI (src : Int))), (2, .int (iI (left : Int))), (3, .int (iI gone)), (4, .int (iI L)), (5, .int (iI (depth : Int))), (6, .int (iI (minI L (gone + mnb 1000000 left (fun k => d src k + tr d n (left - 2 ^ k) k) k)))), (7, .int (iI (k : Int)))] : List (Nat × Value))) (show (gone + (sI S (q (20 + src)) (k : Int)) : Int) = gone + (d src k) from (by rw [edk]))) ?_
              refine KIf_eq (tgt := 90) C dX2_tryFrom_58 (by decide) ⟨by omega, by omega⟩ (fun h => absurd h (by decide)) (fun _ => ?_)
              refine KIload C dX2_tryFrom_61 0 rfl ?_
              refine KIload C dX2_tryFrom_63 7 rfl ?_
              refine KIcmp_ge (tgt := 90) C dX2_tryFrom_65 (by decide) ⟨by omega, by omega⟩ ⟨by omega, by omega⟩ (fun c65 => ?_) (fun c65 => ?_)
              · refine KLvE (lv2 := [(8, .int (iI (gone + (d src k)))), (0, .ref (q 11)), (1, .int (iI (src : Int))), (2, .int (iI (left : Int))), (3, .int (iI gone)), (4, .int (iI L)), (5, .int (iI (depth : Int))), (6, .int (iI (minI L (gone + mnb 1000000 left (fun k => d src k + tr d n (left - 2 ^ k) k) (k + 1))))), (7, .int (iI (k : Int)))]) (congrArg (fun zz : Int => ([(8, .int (iI (gone + (d src k)))), (0, .ref (q 11)), (1, .int (iI (src : Int))), (2, .int (iI (left : Int))), (3, .int (iI gone)), (4, .int (iI L)), (5, .int (iI (depth : Int))), (6, .int (iI zz)), (7, .int (iI (k : Int)))] : List (Nat × Value))) (show (minI L (gone + mnb 1000000 left (fun k => d src k + tr d n (left - 2 ^ k) k) k) : Int) = minI L (gone + mnb 1000000 left (fun k => d src k + tr d n (left - 2 ^ k) k) (k + 1)) from (try_skip b55 rfl htk c65))) ?_
                refine KIinc (v := ((k + 1 : Nat) : Int)) (lv' := [(7, .int (iI ((k + 1 : Nat) : Int))), (8, .int (iI (gone + (d src k)))), (0, .ref (q 11)), (1, .int (iI (src : Int))), (2, .int (iI (left : Int))), (3, .int (iI gone)), (4, .int (iI L)), (5, .int (iI (depth : Int))), (6, .int (iI (minI L (gone + mnb 1000000 left (fun k => d src k + tr d n (left - 2 ^ k) k) (k + 1)))))]) C dX2_tryFrom_90 8 rfl (by omega) (by decide) rfl ?_
                refine KGoto (tgt := 35) C dX2_tryFrom_93 (by decide) ?_
                refine KLv (lv' := [(0, .ref (q 11)), (1, .int (iI (src : Int))), (2, .int (iI (left : Int))), (3, .int (iI gone)), (4, .int (iI L)), (5, .int (iI (depth : Int))), (6, .int (iI (minI L (gone + mnb 1000000 left (fun k => d src k + tr d n (left - 2 ^ k) k) (k + 1))))), (7, .int (iI ((k + 1 : Nat) : Int)))]) [2, 3, 4, 5, 6, 7, 8, 0] rfl ?_
                exact ih35 (k + 1) (by omega) (by omega)
              · refine KAload_n C dX2_tryFrom_68 rfl 1 rfl ?_
                refine KIload C dX2_tryFrom_69 8 rfl ?_
                refine KIload_n C dX2_tryFrom_71 rfl 3 rfl ?_
                refine KIconst C dX2_tryFrom_72 ?_
                refine KIload C dX2_tryFrom_73 8 rfl ?_
                refine KIshl (v := iI ((2 ^ k : Nat) : Int)) C dX2_tryFrom_75 (ib_shl (by omega)) ?_
                refine KIxor (v := iI ((left - 2 ^ k : Nat) : Int)) C dX2_tryFrom_76 ((ib_xor left (2 ^ k)).trans (by rw [tb_xor b55])) ?_
                refine KIload C dX2_tryFrom_77 0 rfl ?_
                refine KIload C dX2_tryFrom_79 7 rfl ?_
                refine KIload C dX2_tryFrom_81 6 rfl ?_
                refine KIconst C dX2_tryFrom_83 ?_
                refine KIadd C dX2_tryFrom_84 ?_
                refine KTop (congrArg iI (show (depth : Int) + 1 = ((depth + 1 : Nat) : Int) from (by omega))) ?_
                have hct := cntb_take b55 hkn
                refine KCallS (As := [.ref (q 11), .int (iI (k : Int)), .int (iI ((left - 2 ^ k : Nat) : Int)), .int (iI (gone + (d src k))), .int (iI (minI L (gone + mnb 1000000 left (fun k => d src k + tr d n (left - 2 ^ k) k) k))), .int (iI ((depth + 1 : Nat) : Int))]) (st := []) C (ihb S q n d k (left - 2 ^ k) (gone + (d src k)) (minI L (gone + mnb 1000000 left (fun k => d src k + tr d n (left - 2 ^ k) k) k)) (depth + 1) (by omega) hT hRt (Or.inl (by omega)) (Nat.lt_of_le_of_lt (Nat.sub_le _ _) hl) ⟨by omega, by omega⟩ ⟨by omega, by omega⟩ (by omega)) u_ml_RX2_50 u_st_yX2_tryFrom u_in_RX2 u_co_yX2_tryFrom hd_yX2_tryFrom ⟨by show (b + 2) + 1 ≤ b + 1 + 2; omega, by show 8 + (9 + 11) + 64 * (b + 2) ≤ 64 * (b + 1 + 2); omega⟩ ⟨Nat.le_refl _, Nat.le_refl _⟩ (Nat.le_of_ble_eq_true rfl) dX2_tryFrom_85 rfl (fun v85 u85 hp85 => ?_)
                obtain ⟨rfl, rfl⟩ := hp85
                refine KSt (st2 := [.int (iI (minI (minI L (gone + mnb 1000000 left (fun k => d src k + tr d n (left - 2 ^ k) k) k)) ((gone + (d src k)) + tr d n (left - 2 ^ k) k)))]) rfl ?_
                refine KTop (congrArg iI (show minI (minI L (gone + mnb 1000000 left (fun k => d src k + tr d n (left - 2 ^ k) k) k)) ((gone + (d src k)) + tr d n (left - 2 ^ k) k) = minI L (gone + mnb 1000000 left (fun k => d src k + tr d n (left - 2 ^ k) k) (k + 1)) from (try_go b55 rfl))) ?_
                refine KIstore (lv' := [(6, .int (iI (minI L (gone + mnb 1000000 left (fun k => d src k + tr d n (left - 2 ^ k) k) (k + 1))))), (8, .int (iI (gone + (d src k)))), (0, .ref (q 11)), (1, .int (iI (src : Int))), (2, .int (iI (left : Int))), (3, .int (iI gone)), (4, .int (iI L)), (5, .int (iI (depth : Int))), (7, .int (iI (k : Int)))]) C dX2_tryFrom_88 (by decide) rfl ?_
                refine KIinc (v := ((k + 1 : Nat) : Int)) (lv' := [(7, .int (iI ((k + 1 : Nat) : Int))), (6, .int (iI (minI L (gone + mnb 1000000 left (fun k => d src k + tr d n (left - 2 ^ k) k) (k + 1))))), (8, .int (iI (gone + (d src k)))), (0, .ref (q 11)), (1, .int (iI (src : Int))), (2, .int (iI (left : Int))), (3, .int (iI gone)), (4, .int (iI L)), (5, .int (iI (depth : Int)))]) C dX2_tryFrom_90 8 rfl (by omega) (by decide) rfl ?_
                refine KGoto (tgt := 35) C dX2_tryFrom_93 (by decide) ?_
                refine KLv (lv' := [(0, .ref (q 11)), (1, .int (iI (src : Int))), (2, .int (iI (left : Int))), (3, .int (iI gone)), (4, .int (iI L)), (5, .int (iI (depth : Int))), (6, .int (iI (minI L (gone + mnb 1000000 left (fun k => d src k + tr d n (left - 2 ^ k) k) (k + 1))))), (7, .int (iI ((k + 1 : Nat) : Int)))]) [3, 4, 5, 6, 7, 8, 1, 0] rfl ?_
                exact ih35 (k + 1) (by omega) (by omega)
            · refine KSt (st2 := [.int (iI 0)]) rfl ?_
              refine KLvE (lv2 := [(8, .int (iI (gone + (sI S (q (20 + src)) (k : Int))))), (0, .ref (q 11)), (1, .int (iI (src : Int))), (2, .int (iI (left : Int))), (3, .int (iI gone)), (4, .int (iI L)), (5, .int (iI (depth : Int))), (6, .int (iI (minI L (gone + mnb 1000000 left (fun k => d src k + tr d n (left - 2 ^ k) k) (k + 1))))), (7, .int (iI (k : Int)))]) (congrArg (fun zz : Int => ([(8, .int (iI (gone + (sI S (q (20 + src)) (k : Int))))), (0, .ref (q 11)), (1, .int (iI (src : Int))), (2, .int (iI (left : Int))), (3, .int (iI gone)), (4, .int (iI L)), (5, .int (iI (depth : Int))), (6, .int (iI zz)), (7, .int (iI (k : Int)))] : List (Nat × Value))) (show (minI L (gone + mnb 1000000 left (fun k => d src k + tr d n (left - 2 ^ k) k) k) : Int) = minI L (gone + mnb 1000000 left (fun k => d src k + tr d n (left - 2 ^ k) k) (k + 1)) from (try_f b55))) ?_
              refine KIf_eq (tgt := 90) C dX2_tryFrom_58 (by decide) ⟨by omega, by omega⟩ (fun _ => ?_) (fun h => absurd h (by decide))
              refine KIinc (v := ((k + 1 : Nat) : Int)) (lv' := [(7, .int (iI ((k + 1 : Nat) : Int))), (8, .int (iI (gone + (sI S (q (20 + src)) (k : Int))))), (0, .ref (q 11)), (1, .int (iI (src : Int))), (2, .int (iI (left : Int))), (3, .int (iI gone)), (4, .int (iI L)), (5, .int (iI (depth : Int))), (6, .int (iI (minI L (gone + mnb 1000000 left (fun k => d src k + tr d n (left - 2 ^ k) k) (k + 1)))))]) C dX2_tryFrom_90 8 rfl (by omega) (by decide) rfl ?_
              refine KGoto (tgt := 35) C dX2_tryFrom_93 (by decide) ?_
              refine KLv (lv' := [(0, .ref (q 11)), (1, .int (iI (src : Int))), (2, .int (iI (left : Int))), (3, .int (iI gone)), (4, .int (iI L)), (5, .int (iI (depth : Int))), (6, .int (iI (minI L (gone + mnb 1000000 left (fun k => d src k + tr d n (left - 2 ^ k) k) (k + 1))))), (7, .int (iI ((k + 1 : Nat) : Int)))]) [2, 3, 4, 5, 6, 7, 8, 0] rfl ?_
              exact ih35 (k + 1) (by omega) (by omega)
      exact loop35 _ 0 (Nat.lt_succ_self _) (by omega)
    · refine KIload C dX2_tryFrom_4 4 rfl ?_
      refine KIload_n C dX2_tryFrom_6 rfl 3 rfl ?_
      refine KAload_n C dX2_tryFrom_7 rfl 0 rfl ?_
      refine KIload_n C dX2_tryFrom_8 rfl 1 rfl ?_
      refine KGaldR (b := q (20 + src)) C 10 (hT.at0 11 22) (hT.ln0 11 10) ⟨by omega, by omega⟩ (by omega) (hT.way (by omega)) dX2_tryFrom_9 ?_
      refine KBipush C dX2_tryFrom_10 (by decide) ?_
      refine KIald  (v := d src 9) C 10 (hT.wat (by omega)) (hT.wln (by omega)) ⟨by omega, by omega⟩ (by omega) (hRt.home hsrc) dX2_tryFrom_12 ?_
      have hd9 := hdb src 9 hsrc (Or.inr rfl)
      refine KIadd C dX2_tryFrom_13 ?_
      refine KMmin (z := minI L (gone + (d src 9))) C ⟨by omega, by omega⟩ ⟨by omega, by omega⟩ rfl u_ml_RX2_80 u_st_yJ9_min_7cf53 u_in_RJ9 u_co_yJ9_min_7cf53 ⟨by show 1 ≤ b + 1 + 2; omega, by show 0 + 13 ≤ 64 * (b + 1 + 2); omega⟩ ⟨Nat.le_of_ble_eq_true rfl, Nat.le_of_ble_eq_true rfl⟩ dX2_tryFrom_14 ?_
      have mb1 := minI_b L (gone + (d src 9))
      refine KIret C rfl rfl (by
        refine ⟨?_, rfl⟩
        rw [show left = 0 by omega]
        rfl) (by decide) (by decide) dX2_tryFrom_17
def P_X2_leastByTrying (S : Sto) (q : Nat → Nat) (m : Nat) : Option Value → Sto → Prop := fun v u => v = some (.int (iI (tour (sI S (q 1) 1) (sI S (q 1) 2) (sI S (q 6)) m))) ∧ ∃ f, u = wI S f ∧ Kept S q f
set_option maxRecDepth 100000 in
set_option maxHeartbeats 4000000 in
theorem ct_X2_leastByTrying (l : Launch) (g : GG) (S : Sto) (q : Nat → Nat) (m : Nat) (hT : Top S q) (hCf : Cf S q) (hm : okM (sI S (q 1) 1) (sI S (q 6)) m) (hz : sI S (q 29) 9 = 0) (h7 : (sll S q m).length ≤ 7) : MetS l g yX2_leastByTrying cX2_leastByTrying 2 (some FieldType.int) 13 0 0 [.ref (q 2), .int (iI (m : Int))] S (P_X2_leastByTrying S q m) := by
  refine MetS.of (own := RX2) (lv := [(0, .ref (q 2)), (1, .int (iI (m : Int)))]) (by decide) rfl (Nat.le_of_ble_eq_true rfl) rfl ?_
  intro pX eX sX mX argsX belowX methX cX C hin
  refine KRg (fun hR => ?_)
  have hp1 := Nat.two_pow_pos (sll S q m).length
  obtain ⟨hA1, hA2, hN1, hN2, hG1, hG2⟩ := id hCf
  have htb := tour_b ⟨hN1, hN2⟩ ⟨hG1, hG2⟩ hm
  refine KAload_n C dX2_leastByTrying_0 rfl 0 rfl ?_
  refine KIload_n C dX2_leastByTrying_1 rfl 1 rfl ?_
  refine KCallV (As := [.int (iI (m : Int))]) (b := q 2) (st := []) C (ct_X2_gather l g S q m hT hCf hm hz) u_ml_RX2_27 u_im_yX2_gather u_se_yX2_gather u_in_RX2 u_co_yX2_gather hd_yX2_gather (hT.at0 2 3) (by decide) rfl rfl ⟨Nat.le_of_ble_eq_true rfl, Nat.le_of_ble_eq_true rfl⟩ ⟨Nat.le_of_ble_eq_true rfl, Nat.le_of_ble_eq_true rfl⟩ (Nat.le_of_ble_eq_true rfl) dX2_leastByTrying_2 rfl (fun v2 u2 hp2 => ?_)
  obtain ⟨rfl, f2, rfl, hGat2⟩ := hp2
  refine KSt (st2 := []) rfl ?_
  refine KRg (fun hR => ?_)
  have hRt := hGat2.rt hCf hm
  have hK := hGat2.kept
  have hn9 := hRt.2.1.1
  refine KAload_n C dX2_leastByTrying_5 rfl 0 rfl ?_
  refine KGetR (S := wI S f2) C ul_X2 rfl (by decide) 3 3 rfl (by decide) rfl u_fl_RX2_17 (hT.at0 2 3) (b := q 11) (hT.ptr 2 3 11) dX2_leastByTrying_6 (fun _ h => h) ?_
  refine KBipush C dX2_leastByTrying_9 (by decide) ?_
  refine KAload_n C dX2_leastByTrying_11 rfl 0 rfl ?_
  refine KCallV (As := []) (b := q 2) (st := [.int (iI 9), .ref (q 11)]) C (ct_X2_everyPlace l g (wI S f2) q ((sll S q m).length) hT hRt.1 (by omega)) u_ml_RX2_34 u_im_yX2_everyPlace u_se_yX2_everyPlace u_in_RX2 u_co_yX2_everyPlace hd_yX2_everyPlace (hT.at0 2 3) (by decide) rfl rfl ⟨Nat.le_of_ble_eq_true rfl, Nat.le_of_ble_eq_true rfl⟩ ⟨Nat.le_of_ble_eq_true rfl, Nat.le_of_ble_eq_true rfl⟩ (Nat.le_of_ble_eq_true rfl) dX2_leastByTrying_12 rfl (fun v12 u12 hp12 => ?_)
  obtain ⟨rfl, rfl⟩ := hp12
  refine KSt (st2 := [.int (iI ((2 ^ ((sll S q m).length) - 1 : Nat) : Int)), .int (iI 9), .ref (q 11)]) rfl ?_
  refine KRg (fun hR => ?_)
  refine KIconst C dX2_leastByTrying_15 ?_
  refine KLdc (n := 1000000) C u_ct_RX2_49 (by decide) dX2_leastByTrying_16 ?_
  refine KIconst C dX2_leastByTrying_18 ?_
  refine KCallS (As := [.ref (q 11), .int (iI 9), .int (iI ((2 ^ ((sll S q m).length) - 1 : Nat) : Int)), .int (iI 0), .int (iI 1000000), .int (iI 0)]) (st := []) C (ct_X2_tryFrom l g 10 (wI S f2) q ((sll S q m).length) (dM S q m) 9 (2 ^ ((sll S q m).length) - 1) 0 1000000 0 (by rw [cntb_full]; omega) hT hRt (Or.inr rfl) (by omega) ⟨by omega, by omega⟩ ⟨by omega, by omega⟩ (by rw [cntb_full]; omega)) u_ml_RX2_50 u_st_yX2_tryFrom u_in_RX2 u_co_yX2_tryFrom hd_yX2_tryFrom ⟨Nat.le_of_ble_eq_true rfl, Nat.le_of_ble_eq_true rfl⟩ ⟨Nat.le_of_ble_eq_true rfl, Nat.le_of_ble_eq_true rfl⟩ (Nat.le_of_ble_eq_true rfl) dX2_leastByTrying_19 rfl (fun v19 u19 hp19 => ?_)
  obtain ⟨rfl, rfl⟩ := hp19
  refine KSt (st2 := [.int (iI (minI 1000000 (0 + tr (dM S q m) ((sll S q m).length) (2 ^ ((sll S q m).length) - 1) 9)))]) rfl ?_
  refine KRg (fun hR => ?_)
  refine KIret C rfl rfl (by
    refine ⟨?_, f2, rfl, hK⟩
    rw [Int.zero_add, minI_r]
    · rfl
    · have h9 := htb.2
      unfold tour at h9
      exact Int.le_trans h9 (by decide)) (by decide) (by decide) dX2_leastByTrying_22
def P_X2_countAisles (S : Sto) (q : Nat → Nat) (n : Nat) : Option Value → Sto → Prop := fun v u => v = some (.int (iI ((cntA (sI S (q 10)) n : Nat) : Int))) ∧ S = u
set_option maxRecDepth 100000 in
set_option maxHeartbeats 4000000 in
theorem ct_X2_countAisles (l : Launch) (g : GG) (S : Sto) (q : Nat → Nat) (n : Nat) (hT : Top S q) (hcn : sI S (q 2) 2 = (n : Int)) (hn9 : n ≤ 9) (hF : ∀ j : Nat, j < n → 0 ≤ sI S (q 10) (j : Int)) : MetS l g yX2_countAisles cX2_countAisles 5 (some FieldType.int) 1 0 0 [.ref (q 2)] S (P_X2_countAisles S q n) := by
  refine MetS.of (own := RX2) (lv := [(0, .ref (q 2))]) (by decide) rfl (Nat.le_of_ble_eq_true rfl) rfl ?_
  intro pX eX sX mX argsX belowX methX cX C hin
  refine KRg (fun hR => ?_)
  refine KIconst C dX2_countAisles_0 ?_
  refine KIstore_n (lv' := [(1, .int (iI 0)), (0, .ref (q 2))]) C dX2_countAisles_1 rfl (by decide) rfl ?_
  refine KIconst C dX2_countAisles_2 ?_
  refine KIstore_n (lv' := [(2, .int (iI (-1))), (1, .int (iI 0)), (0, .ref (q 2))]) C dX2_countAisles_3 rfl (by decide) rfl ?_
  refine KIconst C dX2_countAisles_4 ?_
  refine KIstore_n (lv' := [(3, .int (iI 0)), (2, .int (iI (-1))), (1, .int (iI 0)), (0, .ref (q 2))]) C dX2_countAisles_5 rfl (by decide) rfl ?_
  refine KLv (lv' := [(0, .ref (q 2)), (1, .int (iI 0)), (2, .int (iI (-1))), (3, .int (iI 0))]) [3, 2, 1, 0] rfl ?_
  have loop6 : ∀ (nX : Nat) (k : Nat), n - k < nX → (k ≤ n) → Wk pX l eX (rmK 1 0 0) sX mX argsX belowX methX cX (MQ belowX (QcG g (P_X2_countAisles S q n)) argsX sX 0 0 (ge (gB g))) g 5 0 0 6 [(0, .ref (q 2)), (1, .int (iI ((cntA (sI S (q 10)) k : Nat) : Int))), (2, .int (iI (bfA (sI S (q 10)) k))), (3, .int (iI (k : Int)))] [] S := by
    intro nX
    induction nX with
    | zero => intro k hm; exact absurd hm (Nat.not_lt_zero _)
    | succ nX ih6 =>
      intro k hm6 hk
      refine KRg (fun hR => ?_)
      have hca := cntA_le (sI S (q 10)) k
      have hbf := bfA_b hR (q 10) k
      refine KIload_n C dX2_countAisles_6 rfl 3 rfl ?_
      refine KAload_n C dX2_countAisles_7 rfl 0 rfl ?_
      refine KGetI C ul_X2 rfl (by decide) 2 2 rfl (by decide) rfl u_fl_RX2_42 (hT.at0 2 3) (v := (n : Int)) hcn dX2_countAisles_8 (fun _ h => h) ?_
      have rb1 := hR.b (q 2) 2 (v := (n : Int)) hcn
      refine KIcmp_ge (tgt := 43) C dX2_countAisles_11 (by decide) ⟨by omega, by omega⟩ ⟨by omega, by omega⟩ (fun c11 => ?_) (fun c11 => ?_)
      · refine KIload_n C dX2_countAisles_43 rfl 1 rfl ?_
        refine KIret C rfl rfl (by
          refine ⟨?_, rfl⟩
          rw [show n = k by omega]) (by decide) (by decide) dX2_countAisles_44
      · refine KAload_n C dX2_countAisles_14 rfl 0 rfl ?_
        refine KGetR C ul_X2 rfl (by decide) 1 1 rfl (by decide) rfl u_fl_RX2_9 (hT.at0 2 3) (b := q 10) (hT.ptr 2 1 10) dX2_countAisles_15 (fun _ h => h) ?_
        refine KIload_n C dX2_countAisles_18 rfl 3 rfl ?_
        refine KIald  (v := sI S (q 10) (k : Int)) C 9 (hT.at0 10 20) (hT.ln0 10 9) ⟨by omega, by omega⟩ (by omega) rfl dX2_countAisles_19 ?_
        have rb2 := hR.b (q 10) (k : Int) (v := sI S (q 10) (k : Int)) rfl
        have hFk := hF k (by omega)
        refine KBipush C dX2_countAisles_20 (by decide) ?_
        refine KIdiv (z := (sI S (q 10) (k : Int)) / 100) C dX2_countAisles_22 ⟨by omega, by omega⟩ ⟨by omega, by omega⟩ (by omega) (tdiv_pos (by omega)) ?_
        refine KIstore (lv' := [(4, .int (iI ((sI S (q 10) (k : Int)) / 100))), (0, .ref (q 2)), (1, .int (iI ((cntA (sI S (q 10)) k : Nat) : Int))), (2, .int (iI (bfA (sI S (q 10)) k))), (3, .int (iI (k : Int)))]) C dX2_countAisles_23 (by decide) rfl ?_
        refine KIload C dX2_countAisles_25 0 rfl ?_
        refine KIload_n C dX2_countAisles_27 rfl 3 rfl ?_
        refine KIcmp_eq (tgt := 34) C dX2_countAisles_28 (by decide) ⟨by omega, by omega⟩ ⟨by omega, by omega⟩ (fun c28 => ?_) (fun c28 => ?_)
        · refine KLvE (lv2 := [(4, .int (iI ((sI S (q 10) (k : Int)) / 100))), (0, .ref (q 2)), (1, .int (iI ((cntA (sI S (q 10)) (k + 1) : Nat) : Int))), (2, .int (iI (bfA (sI S (q 10)) k))), (3, .int (iI (k : Int)))]) (congrArg (fun zz : Int => ([(4, .int (iI ((sI S (q 10) (k : Int)) / 100))), (0, .ref (q 2)), (1, .int (iI zz)), (2, .int (iI (bfA (sI S (q 10)) k))), (3, .int (iI (k : Int)))] : List (Nat × Value))) (show (((cntA (sI S (q 10)) k : Nat) : Int) : Int) = ((cntA (sI S (q 10)) (k + 1) : Nat) : Int) from (by rw [show cntA (sI S (q 10)) (k + 1) = cntA (sI S (q 10)) k + (if sI S (q 10) (k : Int) / 100 = bfA (sI S (q 10)) k then 0 else 1) from rfl, if_pos c28]; rfl))) ?_
          refine KIload C dX2_countAisles_34 0 rfl ?_
          refine KTop (congrArg iI (show (sI S (q 10) (k : Int)) / 100 = bfA (sI S (q 10)) (k + 1) from rfl)) ?_
          refine KIstore_n (lv' := [(2, .int (iI (bfA (sI S (q 10)) (k + 1)))), (4, .int (iI ((sI S (q 10) (k : Int)) / 100))), (0, .ref (q 2)), (1, .int (iI ((cntA (sI S (q 10)) (k + 1) : Nat) : Int))), (3, .int (iI (k : Int)))]) C dX2_countAisles_36 rfl (by decide) rfl ?_
          refine KIinc (v := ((k + 1 : Nat) : Int)) (lv' := [(3, .int (iI ((k + 1 : Nat) : Int))), (2, .int (iI (bfA (sI S (q 10)) (k + 1)))), (4, .int (iI ((sI S (q 10) (k : Int)) / 100))), (0, .ref (q 2)), (1, .int (iI ((cntA (sI S (q 10)) (k + 1) : Nat) : Int)))]) C dX2_countAisles_37 4 rfl (by omega) (by decide) rfl ?_
          refine KGoto (tgt := 6) C dX2_countAisles_40 (by decide) ?_
          refine KLv (lv' := [(0, .ref (q 2)), (1, .int (iI ((cntA (sI S (q 10)) (k + 1) : Nat) : Int))), (2, .int (iI (bfA (sI S (q 10)) (k + 1)))), (3, .int (iI ((k + 1 : Nat) : Int)))]) [3, 4, 1, 0] rfl ?_
          exact ih6 (k + 1) (by omega) (by omega)
        · have e28 : cntA (sI S (q 10)) (k + 1) = cntA (sI S (q 10)) k + 1 := by rw [show cntA (sI S (q 10)) (k + 1) = cntA (sI S (q 10)) k + (if sI S (q 10) (k : Int) / 100 = bfA (sI S (q 10)) k then 0 else 1) from rfl, if_neg c28]
          refine KIinc (v := ((cntA (sI S (q 10)) (k + 1) : Nat) : Int)) (lv' := [(1, .int (iI ((cntA (sI S (q 10)) (k + 1) : Nat) : Int))), (4, .int (iI ((sI S (q 10) (k : Int)) / 100))), (0, .ref (q 2)), (2, .int (iI (bfA (sI S (q 10)) k))), (3, .int (iI (k : Int)))]) C dX2_countAisles_31 2 rfl (by omega) (by decide) rfl ?_
          refine KIload C dX2_countAisles_34 1 rfl ?_
          refine KTop (congrArg iI (show (sI S (q 10) (k : Int)) / 100 = bfA (sI S (q 10)) (k + 1) from rfl)) ?_
          refine KIstore_n (lv' := [(2, .int (iI (bfA (sI S (q 10)) (k + 1)))), (1, .int (iI ((cntA (sI S (q 10)) (k + 1) : Nat) : Int))), (4, .int (iI ((sI S (q 10) (k : Int)) / 100))), (0, .ref (q 2)), (3, .int (iI (k : Int)))]) C dX2_countAisles_36 rfl (by decide) rfl ?_
          refine KIinc (v := ((k + 1 : Nat) : Int)) (lv' := [(3, .int (iI ((k + 1 : Nat) : Int))), (2, .int (iI (bfA (sI S (q 10)) (k + 1)))), (1, .int (iI ((cntA (sI S (q 10)) (k + 1) : Nat) : Int))), (4, .int (iI ((sI S (q 10) (k : Int)) / 100))), (0, .ref (q 2))]) C dX2_countAisles_37 4 rfl (by omega) (by decide) rfl ?_
          refine KGoto (tgt := 6) C dX2_countAisles_40 (by decide) ?_
          refine KLv (lv' := [(0, .ref (q 2)), (1, .int (iI ((cntA (sI S (q 10)) (k + 1) : Nat) : Int))), (2, .int (iI (bfA (sI S (q 10)) (k + 1)))), (3, .int (iI ((k + 1 : Nat) : Int)))]) [4, 2, 1, 0] rfl ?_
          exact ih6 (k + 1) (by omega) (by omega)
  exact loop6 _ 0 (Nat.lt_succ_self _) (by omega)
def P_X2_throughAisles (S : Sto) (q : Nat → Nat) (m : Nat) : Option Value → Sto → Prop := fun v u => v = some (.int (iI (thrA (sI S (q 1) 1) (sI S (q 1) 2) (plc (sI S (q 6)) m) (sll S q m).length))) ∧ ∃ f, u = wI S f ∧ Kept S q f
set_option maxRecDepth 100000 in
set_option maxHeartbeats 4000000 in
theorem ct_X2_throughAisles (l : Launch) (g : GG) (S : Sto) (q : Nat → Nat) (m : Nat) (hT : Top S q) (hCf : Cf S q) (hm : okM (sI S (q 1) 1) (sI S (q 6)) m) (hz : sI S (q 29) 9 = 0) : MetS l g yX2_throughAisles cX2_throughAisles 6 (some FieldType.int) 4 0 0 [.ref (q 2), .int (iI (m : Int))] S (P_X2_throughAisles S q m) := by
  refine MetS.of (own := RX2) (lv := [(0, .ref (q 2)), (1, .int (iI (m : Int)))]) (by decide) rfl (Nat.le_of_ble_eq_true rfl) rfl ?_
  intro pX eX sX mX argsX belowX methX cX C hin
  refine KRg (fun hR => ?_)
  obtain ⟨hA1, hA2, hN1, hN2, hG1, hG2⟩ := id hCf
  obtain ⟨hm1, hm2, hm3⟩ := id hm
  have hlen : (sll S q m).length ≤ 9 := by rw [sl_len]; exact hm2
  refine KAload_n C dX2_throughAisles_0 rfl 0 rfl ?_
  refine KIload_n C dX2_throughAisles_1 rfl 1 rfl ?_
  refine KCallV (As := [.int (iI (m : Int))]) (b := q 2) (st := []) C (ct_X2_gather l g S q m hT hCf hm hz) u_ml_RX2_27 u_im_yX2_gather u_se_yX2_gather u_in_RX2 u_co_yX2_gather hd_yX2_gather (hT.at0 2 3) (by decide) rfl rfl ⟨Nat.le_of_ble_eq_true rfl, Nat.le_of_ble_eq_true rfl⟩ ⟨Nat.le_of_ble_eq_true rfl, Nat.le_of_ble_eq_true rfl⟩ (Nat.le_of_ble_eq_true rfl) dX2_throughAisles_2 rfl (fun v2 u2 hp2 => ?_)
  obtain ⟨rfl, f2, rfl, hGat2⟩ := hp2
  refine KSt (st2 := []) rfl ?_
  refine KRg (fun hR => ?_)
  have hK := hGat2.kept
  have hcn := hGat2.2.2.1
  have hFj := hGat2.2.2.2.1
  have e11 : f2 (q 1) 1 = sI S (q 1) 1 := hK.at hT 1 1
  have e12 : f2 (q 1) 2 = sI S (q 1) 2 := hK.at hT 1 2
  refine KAload_n C dX2_throughAisles_5 rfl 0 rfl ?_
  refine KGetI (S := wI S f2) C ul_X2 rfl (by decide) 2 2 rfl (by decide) rfl u_fl_RX2_42 (hT.at0 2 3) (v := ((sll S q m).length : Int)) hcn dX2_throughAisles_6 (fun _ h => h) ?_
  have rb1 := hR.b (q 2) 2 (v := ((sll S q m).length : Int)) hcn
  refine KIf_ne (tgt := 14) C dX2_throughAisles_9 (by decide) ⟨by omega, by omega⟩ (fun c9 => ?_) (fun c9 => ?_)
  · refine KAload_n C dX2_throughAisles_14 rfl 0 rfl ?_
    refine KGetR (S := wI S f2) C ul_X2 rfl (by decide) 1 1 rfl (by decide) rfl u_fl_RX2_9 (hT.at0 2 3) (b := q 10) (hT.ptr 2 1 10) dX2_throughAisles_15 (fun _ h => h) ?_
    refine KAload_n C dX2_throughAisles_18 rfl 0 rfl ?_
    refine KGetI (S := wI S f2) C ul_X2 rfl (by decide) 2 2 rfl (by decide) rfl u_fl_RX2_42 (hT.at0 2 3) (v := ((sll S q m).length : Int)) hcn dX2_throughAisles_19 (fun _ h => h) ?_
    have rb2 := hR.b (q 2) 2 (v := ((sll S q m).length : Int)) hcn
    refine KIconst C dX2_throughAisles_22 ?_
    refine KIsub C dX2_throughAisles_23 ?_
    refine KTop (congrArg iI (show ((sll S q m).length : Int) - 1 = (((sll S q m).length - 1 : Nat) : Int) from (by omega))) ?_
    refine KIald (S := wI S f2)  (v := plc (sI S (q 6)) m (((sll S q m).length - 1 : Nat) : Int)) C 9 (hT.at0 10 20) (hT.ln0 10 9) ⟨by omega, by omega⟩ (by omega) (hFj _ (by omega)) dX2_throughAisles_24 ?_
    have rb3 := hR.b (q 10) (((sll S q m).length - 1 : Nat) : Int) (v := plc (sI S (q 6)) m (((sll S q m).length - 1 : Nat) : Int)) (hFj _ (by omega))
    have hpl := (hm1 _ (sl_mem (sI S (q 6)) m 20 ((sll S q m).length - 1) (show (sll S q m).length - 1 < (sll S q m).length by omega)).1 (sl_mem (sI S (q 6)) m 20 ((sll S q m).length - 1) (show (sll S q m).length - 1 < (sll S q m).length by omega)).2)
    change 0 ≤ plc (sI S (q 6)) m (((sll S q m).length - 1 : Nat) : Int) ∧ plc (sI S (q 6)) m (((sll S q m).length - 1 : Nat) : Int) / 100 ≤ 5 ∧ 1 ≤ plc (sI S (q 6)) m (((sll S q m).length - 1 : Nat) : Int) % 100 ∧ plc (sI S (q 6)) m (((sll S q m).length - 1 : Nat) : Int) % 100 ≤ sI S (q 1) 1 at hpl
    refine KIstore_n (lv' := [(2, .int (iI (plc (sI S (q 6)) m (((sll S q m).length - 1 : Nat) : Int)))), (0, .ref (q 2)), (1, .int (iI (m : Int)))]) C dX2_throughAisles_25 rfl (by decide) rfl ?_
    refine KAload_n C dX2_throughAisles_26 rfl 1 rfl ?_
    refine KCallV (As := []) (b := q 2) (st := []) C (ct_X2_countAisles l g (wI S f2) q ((sll S q m).length) hT hcn (by omega) (fun j hj => by rw [show sI (wI S f2) (q 10) (j : Int) = _ from hGat2.2.2.2.1 j hj]; exact (hm1 _ (sl_mem (sI S (q 6)) m 20 j hj).1 (sl_mem (sI S (q 6)) m 20 j hj).2).1)) u_ml_RX2_54 u_im_yX2_countAisles u_se_yX2_countAisles u_in_RX2 u_co_yX2_countAisles hd_yX2_countAisles (hT.at0 2 3) (by decide) rfl rfl ⟨Nat.le_of_ble_eq_true rfl, Nat.le_of_ble_eq_true rfl⟩ ⟨Nat.le_of_ble_eq_true rfl, Nat.le_of_ble_eq_true rfl⟩ (Nat.le_of_ble_eq_true rfl) dX2_throughAisles_27 rfl (fun v27 u27 hp27 => ?_)
    obtain ⟨rfl, rfl⟩ := hp27
    refine KSt (st2 := [.int (iI ((cntA (sI (wI S f2) (q 10)) ((sll S q m).length) : Nat) : Int))]) rfl ?_
    refine KRg (fun hR => ?_)
    refine KTop (congrArg iI (show ((cntA (sI (wI S f2) (q 10)) ((sll S q m).length) : Nat) : Int) = ((cntA (plc (sI S (q 6)) m) (sll S q m).length : Nat) : Int) from (congrArg Nat.cast (cntA_congr (F := sI (wI S f2) (q 10)) (fun j hj => hFj j hj)).1))) ?_
    have hca := cntA_le (plc (sI S (q 6)) m) (sll S q m).length
    have hc1 := cntA_pos (F := plc (sI S (q 6)) m) (k := (sll S q m).length) (by have := hm1 _ (sl_mem (sI S (q 6)) m 20 0 (show 0 < (sll S q m).length by omega)).1 (sl_mem (sI S (q 6)) m 20 0 (show 0 < (sll S q m).length by omega)).2; exact this.1) (by omega)
    refine KIconst C dX2_throughAisles_30 ?_
    refine KIsub C dX2_throughAisles_31 ?_
    refine KIstore_n (lv' := [(3, .int (iI (((cntA (plc (sI S (q 6)) m) (sll S q m).length : Nat) : Int) - 1))), (2, .int (iI (plc (sI S (q 6)) m (((sll S q m).length - 1 : Nat) : Int)))), (0, .ref (q 2)), (1, .int (iI (m : Int)))]) C dX2_throughAisles_32 rfl (by decide) rfl ?_
    refine KIload_n C dX2_throughAisles_33 rfl 0 rfl ?_
    refine KIconst C dX2_throughAisles_34 ?_
    refine KIrem (z := (((cntA (plc (sI S (q 6)) m) (sll S q m).length : Nat) : Int) - 1) % 2) C dX2_throughAisles_35 ⟨by omega, by omega⟩ ⟨by omega, by omega⟩ (by omega) (tmod_pos (by omega)) ?_
    refine KIf_ne (tgt := 48) C dX2_throughAisles_36 (by decide) ⟨by omega, by omega⟩ (fun c36 => ?_) (fun c36 => ?_)
    · refine KAload_n C dX2_throughAisles_48 rfl 2 rfl ?_
      refine KGetR (S := wI S f2) C ul_X2 rfl (by decide) 0 0 rfl (by decide) rfl u_fl_RX2_23 (hT.at0 2 3) (b := q 1) (hT.ptr 2 0 1) dX2_throughAisles_49 (fun _ h => h) ?_
      refine KCallV (As := []) (b := q 1) (st := []) C (ct_X3_depth l g (wI S f2) q hT) u_ml_RX2_57 u_im_yX3_depth u_se_yX3_depth u_in_RX3 u_co_yX3_depth hd_yX3_depth (hT.at0 1 4) (by decide) rfl rfl ⟨Nat.le_of_ble_eq_true rfl, Nat.le_of_ble_eq_true rfl⟩ ⟨Nat.le_of_ble_eq_true rfl, Nat.le_of_ble_eq_true rfl⟩ (Nat.le_of_ble_eq_true rfl) dX2_throughAisles_52 rfl (fun v52 u52 hp52 => ?_)
      obtain ⟨rfl, rfl⟩ := hp52
      refine KSt (st2 := [.int (iI (sI (wI S f2) (q 1) 1 + 1))]) rfl ?_
      refine KRg (fun hR => ?_)
      refine KTop (congrArg iI (show sI (wI S f2) (q 1) 1 + 1 = sI S (q 1) 1 + 1 from (by rw [show sI (wI S f2) (q 1) 1 = sI S (q 1) 1 from e11]))) ?_
      refine KIstore (lv' := [(4, .int (iI (sI S (q 1) 1 + 1))), (3, .int (iI (((cntA (plc (sI S (q 6)) m) (sll S q m).length : Nat) : Int) - 1))), (2, .int (iI (plc (sI S (q 6)) m (((sll S q m).length - 1 : Nat) : Int)))), (0, .ref (q 2)), (1, .int (iI (m : Int)))]) C dX2_throughAisles_55 (by decide) rfl ?_
      refine KIconst C dX2_throughAisles_57 ?_
      refine KAload_n C dX2_throughAisles_58 rfl 3 rfl ?_
      refine KGetR (S := wI S f2) C ul_X2 rfl (by decide) 0 0 rfl (by decide) rfl u_fl_RX2_23 (hT.at0 2 3) (b := q 1) (hT.ptr 2 0 1) dX2_throughAisles_59 (fun _ h => h) ?_
      refine KGetIN (S := wI S f2) C ul_X3 rfl (by decide) 2 2 rfl (by decide) rfl n_fn_RX2_62 (hT.at0 1 4) (v := sI S (q 1) 2) e12 dX2_throughAisles_62 (fun _ h => h) ?_
      refine KImul C dX2_throughAisles_65 ?_
      refine KIload_n C dX2_throughAisles_66 rfl 2 rfl ?_
      refine KBipush C dX2_throughAisles_67 (by decide) ?_
      refine KIdiv (z := (plc (sI S (q 6)) m (((sll S q m).length - 1 : Nat) : Int)) / 100) C dX2_throughAisles_69 ⟨by omega, by omega⟩ ⟨by omega, by omega⟩ (by omega) (tdiv_pos (by omega)) ?_
      refine KImul C dX2_throughAisles_70 ?_
      refine KIstore (lv' := [(5, .int (iI ((2 * (sI S (q 1) 2)) * ((plc (sI S (q 6)) m (((sll S q m).length - 1 : Nat) : Int)) / 100)))), (4, .int (iI (sI S (q 1) 1 + 1))), (3, .int (iI (((cntA (plc (sI S (q 6)) m) (sll S q m).length : Nat) : Int) - 1))), (2, .int (iI (plc (sI S (q 6)) m (((sll S q m).length - 1 : Nat) : Int)))), (0, .ref (q 2)), (1, .int (iI (m : Int)))]) C dX2_throughAisles_71 (by decide) rfl ?_
      refine KIload C dX2_throughAisles_73 0 rfl ?_
      refine KIload_n C dX2_throughAisles_75 rfl 2 rfl ?_
      refine KAload_n C dX2_throughAisles_76 rfl 4 rfl ?_
      refine KGetR (S := wI S f2) C ul_X2 rfl (by decide) 0 0 rfl (by decide) rfl u_fl_RX2_23 (hT.at0 2 3) (b := q 1) (hT.ptr 2 0 1) dX2_throughAisles_77 (fun _ h => h) ?_
      refine KCallV (As := []) (b := q 1) (st := [.int (iI (((cntA (plc (sI S (q 6)) m) (sll S q m).length : Nat) : Int) - 1)), .int (iI ((2 * (sI S (q 1) 2)) * ((plc (sI S (q 6)) m (((sll S q m).length - 1 : Nat) : Int)) / 100)))]) C (ct_X3_depth l g (wI S f2) q hT) u_ml_RX2_57 u_im_yX3_depth u_se_yX3_depth u_in_RX3 u_co_yX3_depth hd_yX3_depth (hT.at0 1 4) (by decide) rfl rfl ⟨Nat.le_of_ble_eq_true rfl, Nat.le_of_ble_eq_true rfl⟩ ⟨Nat.le_of_ble_eq_true rfl, Nat.le_of_ble_eq_true rfl⟩ (Nat.le_of_ble_eq_true rfl) dX2_throughAisles_80 rfl (fun v80 u80 hp80 => ?_)
      obtain ⟨rfl, rfl⟩ := hp80
      refine KSt (st2 := [.int (iI (sI (wI S f2) (q 1) 1 + 1)), .int (iI (((cntA (plc (sI S (q 6)) m) (sll S q m).length : Nat) : Int) - 1)), .int (iI ((2 * (sI S (q 1) 2)) * ((plc (sI S (q 6)) m (((sll S q m).length - 1 : Nat) : Int)) / 100)))]) rfl ?_
      refine KRg (fun hR => ?_)
      refine KTop (congrArg iI (show sI (wI S f2) (q 1) 1 + 1 = sI S (q 1) 1 + 1 from (by rw [show sI (wI S f2) (q 1) 1 = sI S (q 1) 1 from e11]))) ?_
      refine KImul C dX2_throughAisles_83 ?_
      refine KIadd C dX2_throughAisles_84 ?_
      refine KIload C dX2_throughAisles_85 1 rfl ?_
      refine KIadd C dX2_throughAisles_87 ?_
      refine KIret C rfl rfl (by
        refine ⟨?_, f2, rfl, hK⟩
        unfold thrA
        rw [if_neg (by omega)]
        first | rw [if_pos (by omega)] | rw [if_neg (by omega)]) (by decide) (by decide) dX2_throughAisles_88
    · refine KIconst C dX2_throughAisles_39 ?_
      refine KIload_n C dX2_throughAisles_40 rfl 1 rfl ?_
      refine KBipush C dX2_throughAisles_41 (by decide) ?_
      refine KIrem (z := (plc (sI S (q 6)) m (((sll S q m).length - 1 : Nat) : Int)) % 100) C dX2_throughAisles_43 ⟨by omega, by omega⟩ ⟨by omega, by omega⟩ (by omega) (tmod_pos (by omega)) ?_
      refine KImul C dX2_throughAisles_44 ?_
      refine KGoto (tgt := 55) C dX2_throughAisles_45 (by decide) ?_
      refine KIstore (lv' := [(4, .int (iI (2 * ((plc (sI S (q 6)) m (((sll S q m).length - 1 : Nat) : Int)) % 100)))), (3, .int (iI (((cntA (plc (sI S (q 6)) m) (sll S q m).length : Nat) : Int) - 1))), (2, .int (iI (plc (sI S (q 6)) m (((sll S q m).length - 1 : Nat) : Int)))), (0, .ref (q 2)), (1, .int (iI (m : Int)))]) C dX2_throughAisles_55 (by decide) rfl ?_
      refine KIconst C dX2_throughAisles_57 ?_
      refine KAload_n C dX2_throughAisles_58 rfl 3 rfl ?_
      refine KGetR (S := wI S f2) C ul_X2 rfl (by decide) 0 0 rfl (by decide) rfl u_fl_RX2_23 (hT.at0 2 3) (b := q 1) (hT.ptr 2 0 1) dX2_throughAisles_59 (fun _ h => h) ?_
      refine KGetIN (S := wI S f2) C ul_X3 rfl (by decide) 2 2 rfl (by decide) rfl n_fn_RX2_62 (hT.at0 1 4) (v := sI S (q 1) 2) e12 dX2_throughAisles_62 (fun _ h => h) ?_
      refine KImul C dX2_throughAisles_65 ?_
      refine KIload_n C dX2_throughAisles_66 rfl 2 rfl ?_
      refine KBipush C dX2_throughAisles_67 (by decide) ?_
      refine KIdiv (z := (plc (sI S (q 6)) m (((sll S q m).length - 1 : Nat) : Int)) / 100) C dX2_throughAisles_69 ⟨by omega, by omega⟩ ⟨by omega, by omega⟩ (by omega) (tdiv_pos (by omega)) ?_
      refine KImul C dX2_throughAisles_70 ?_
      refine KIstore (lv' := [(5, .int (iI ((2 * (sI S (q 1) 2)) * ((plc (sI S (q 6)) m (((sll S q m).length - 1 : Nat) : Int)) / 100)))), (4, .int (iI (2 * ((plc (sI S (q 6)) m (((sll S q m).length - 1 : Nat) : Int)) % 100)))), (3, .int (iI (((cntA (plc (sI S (q 6)) m) (sll S q m).length : Nat) : Int) - 1))), (2, .int (iI (plc (sI S (q 6)) m (((sll S q m).length - 1 : Nat) : Int)))), (0, .ref (q 2)), (1, .int (iI (m : Int)))]) C dX2_throughAisles_71 (by decide) rfl ?_
      refine KIload C dX2_throughAisles_73 0 rfl ?_
      refine KIload_n C dX2_throughAisles_75 rfl 2 rfl ?_
      refine KAload_n C dX2_throughAisles_76 rfl 4 rfl ?_
      refine KGetR (S := wI S f2) C ul_X2 rfl (by decide) 0 0 rfl (by decide) rfl u_fl_RX2_23 (hT.at0 2 3) (b := q 1) (hT.ptr 2 0 1) dX2_throughAisles_77 (fun _ h => h) ?_
      refine KCallV (As := []) (b := q 1) (st := [.int (iI (((cntA (plc (sI S (q 6)) m) (sll S q m).length : Nat) : Int) - 1)), .int (iI ((2 * (sI S (q 1) 2)) * ((plc (sI S (q 6)) m (((sll S q m).length - 1 : Nat) : Int)) / 100)))]) C (ct_X3_depth l g (wI S f2) q hT) u_ml_RX2_57 u_im_yX3_depth u_se_yX3_depth u_in_RX3 u_co_yX3_depth hd_yX3_depth (hT.at0 1 4) (by decide) rfl rfl ⟨Nat.le_of_ble_eq_true rfl, Nat.le_of_ble_eq_true rfl⟩ ⟨Nat.le_of_ble_eq_true rfl, Nat.le_of_ble_eq_true rfl⟩ (Nat.le_of_ble_eq_true rfl) dX2_throughAisles_80 rfl (fun v80 u80 hp80 => ?_)
      obtain ⟨rfl, rfl⟩ := hp80
      refine KSt (st2 := [.int (iI (sI (wI S f2) (q 1) 1 + 1)), .int (iI (((cntA (plc (sI S (q 6)) m) (sll S q m).length : Nat) : Int) - 1)), .int (iI ((2 * (sI S (q 1) 2)) * ((plc (sI S (q 6)) m (((sll S q m).length - 1 : Nat) : Int)) / 100)))]) rfl ?_
      refine KRg (fun hR => ?_)
      refine KTop (congrArg iI (show sI (wI S f2) (q 1) 1 + 1 = sI S (q 1) 1 + 1 from (by rw [show sI (wI S f2) (q 1) 1 = sI S (q 1) 1 from e11]))) ?_
      refine KImul C dX2_throughAisles_83 ?_
      refine KIadd C dX2_throughAisles_84 ?_
      refine KIload C dX2_throughAisles_85 1 rfl ?_
      refine KIadd C dX2_throughAisles_87 ?_
      refine KIret C rfl rfl (by
        refine ⟨?_, f2, rfl, hK⟩
        unfold thrA
        rw [if_neg (by omega)]
        first | rw [if_pos (by omega)] | rw [if_neg (by omega)]) (by decide) (by decide) dX2_throughAisles_88
  · refine KIconst C dX2_throughAisles_12 ?_
    refine KIret C rfl rfl (by
      refine ⟨?_, f2, rfl, hK⟩
      unfold thrA
      rw [if_pos (by omega)]) (by decide) (by decide) dX2_throughAisles_13
