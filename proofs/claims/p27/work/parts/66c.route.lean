def P_L_route (S : Sto) (q : Nat → Nat) (m : Nat) (N : Int) (G : Int) (P : Int → Int) : Option Value → Sto → Prop := fun v u => v = some (.int (iI (tour N G P m))) ∧ ∃ f, u = wI S f ∧ KR S q f ∧ f (q 87) 0 = ((sl P m 20).length : Int) ∧ ∀ j : Nat, j < (sl P m 20).length → f (q 87) ((1 + j : Nat) : Int) = rout N G P m j
set_option maxRecDepth 100000 in
set_option maxHeartbeats 4000000 in
theorem ct_L_route (l : Launch) (g : GG) (S : Sto) (q : Nat → Nat) (m : Nat) (N : Int) (G : Int) (P : Int → Int) (hT : Top S q) (hNe : sI S (q 80) 6 = N) (hGe : sI S (q 80) 7 = G) (hPe : sI S (q 81) = P) (hNb : 1 ≤ N ∧ N ≤ 20) (hGb : 1 ≤ G ∧ G ≤ 9) (hm : okM N P m) (hds : ∀ a b : Nat, a < 20 → b < 20 → m.testBit a = true → m.testBit b = true → P (a : Int) = P (b : Int) → a = b) (h6 : (sl P m 20).length ≤ 6) : MetS l g yL_route cL_route 10 (some FieldType.int) 2 0 0 [.int (iI (m : Int)), .ref (q 81), .ref (q 87), .ref (q 88), .ref (q 80)] S (P_L_route S q m N G P) := by
  refine MetS.of (own := RL) (lv := [(0, .int (iI (m : Int))), (1, .ref (q 81)), (2, .ref (q 87)), (3, .ref (q 88)), (4, .ref (q 80))]) (by decide) rfl (Nat.le_of_ble_eq_true rfl) rfl ?_
  intro pX eX sX mX argsX belowX methX cX C hin
  refine KRg (fun hR => ?_)
  have hm31 : m < 2147483648 := by have h9 := hm.2.2; omega
  have hRte0 := rte_of hNb hm hds h6
  obtain ⟨n, hn⟩ : ∃ n, n = (sl P m 20).length := ⟨_, rfl⟩
  obtain ⟨pl, hpl⟩ : ∃ pl : Nat → Int, pl = fun j => P (((sl P m 20).getD j 0 : Nat) : Int) := ⟨_, rfl⟩
  rw [← hn, ← hpl] at hRte0
  have hRte := hRte0
  have hn6 : n ≤ 6 := hRte.2.2.2.2.2
  obtain ⟨d, hde⟩ : ∃ d : Nat → Nat → Int, d = (fun i9 j9 : Nat => dst N G (pq pl i9) (pq pl j9)) := ⟨_, rfl⟩
  have hdd : d = dd N G P (sl P m 20) := by rw [hde, hpl]; rfl
  have hdo : okD d n := by rw [hdd, hn]; exact okM_okD hNb hGb hm
  have hplb := hRte.2.1
  have hmono := hRte.1
  refine KIconst C dL_route_0 ?_
  refine KIstore (lv' := [(5, .int (iI 0)), (0, .int (iI (m : Int))), (1, .ref (q 81)), (2, .ref (q 87)), (3, .ref (q 88)), (4, .ref (q 80))]) C dL_route_1 (by decide) rfl ?_
  refine KIconst C dL_route_3 ?_
  refine KIstore (lv' := [(6, .int (iI 1)), (5, .int (iI 0)), (0, .int (iI (m : Int))), (1, .ref (q 81)), (2, .ref (q 87)), (3, .ref (q 88)), (4, .ref (q 80))]) C dL_route_4 (by decide) rfl ?_
  refine KLvE (lv2 := [(6, .int (iI 1)), (5, .int (iI ((clP pl ((1 : Nat) : Int) n : Nat) : Int))), (0, .int (iI (m : Int))), (1, .ref (q 81)), (2, .ref (q 87)), (3, .ref (q 88)), (4, .ref (q 80))]) (congrArg (fun zz : Int => ([(6, .int (iI 1)), (5, .int (iI zz)), (0, .int (iI (m : Int))), (1, .ref (q 81)), (2, .ref (q 87)), (3, .ref (q 88)), (4, .ref (q 80))] : List (Nat × Value))) (show (0 : Int) = ((clP pl ((1 : Nat) : Int) n : Nat) : Int) from (by rw [show ((1 : Nat) : Int) = 1 from rfl, hRte.none]; rfl))) ?_
  refine KLv (lv' := [(0, .int (iI (m : Int))), (1, .ref (q 81)), (2, .ref (q 87)), (3, .ref (q 88)), (4, .ref (q 80)), (5, .int (iI ((clP pl ((1 : Nat) : Int) n : Nat) : Int))), (6, .int (iI 1))]) [2, 3, 4, 5, 6, 1, 0] rfl ?_
  have loop6 : ∀ (nX : Nat) (sp : Nat) (f : Nat → Int → Int), 700 - sp < nX → (1 ≤ sp) → (sp ≤ 700) → (VR S q pl f (clP pl (sp : Int) n)) → Wk pX l eX (rmK 2 0 0) sX mX argsX belowX methX cX (MQ belowX (QcG g (P_L_route S q m N G P)) argsX sX 0 0 (ge (gB g))) g 10 0 0 6 [(0, .int (iI (m : Int))), (1, .ref (q 81)), (2, .ref (q 87)), (3, .ref (q 88)), (4, .ref (q 80)), (5, .int (iI ((clP pl (sp : Int) n : Nat) : Int))), (6, .int (iI (sp : Int)))] [] (wI S f) := by
    intro nX
    induction nX with
    | zero => intro sp f hm; exact absurd hm (Nat.not_lt_zero _)
    | succ nX ih6 =>
      intro sp f hm6 hs1 hs2 hV
      refine KRg (fun hR => ?_)
      have hcl := clP_le pl (sp : Int) n
      refine KIload C dL_route_6 6 rfl ?_
      refine KSipush C dL_route_8 (by decide) ?_
      refine KIcmp_ge (tgt := 64) C dL_route_11 (by decide) ⟨by omega, by omega⟩ ⟨by omega, by omega⟩ (fun c11 => ?_) (fun c11 => ?_)
      · have hs7 : (sp : Int) = 700 := by omega
        have hn7 : clP pl (sp : Int) n = n := by rw [hs7]; exact hRte.all
        have hI0 : RtI S q pl d n 0 (List.range n) [] (-1) 1 f := ⟨fun c j _ c2 => hV.1 c j c2, Or.inl ⟨rfl, enA_0 n hn6, fun j hj => by rw [hV.2 j (by rw [hn7]; exact hj), List.getD_eq_getElem?_getD, List.getElem?_range hj]; rfl⟩, Or.inl ⟨rfl, rfl, rfl⟩⟩
        refine KLvE (lv2 := [(0, .int (iI (m : Int))), (1, .ref (q 81)), (2, .ref (q 87)), (3, .ref (q 88)), (4, .ref (q 80)), (5, .int (iI (n : Int))), (6, .int (iI (sp : Int)))]) (congrArg (fun zz : Int => ([(0, .int (iI (m : Int))), (1, .ref (q 81)), (2, .ref (q 87)), (3, .ref (q 88)), (4, .ref (q 80)), (5, .int (iI zz)), (6, .int (iI (sp : Int)))] : List (Nat × Value))) (show (((clP pl (sp : Int) n : Nat) : Int) : Int) = (n : Int) from (by rw [hn7]))) ?_
        refine KIconst C dL_route_64 ?_
        refine KIstore (lv' := [(6, .int (iI (-1))), (0, .int (iI (m : Int))), (1, .ref (q 81)), (2, .ref (q 87)), (3, .ref (q 88)), (4, .ref (q 80)), (5, .int (iI (n : Int)))]) C dL_route_65 (by decide) rfl ?_
        refine KIconst C dL_route_67 ?_
        refine KIstore (lv' := [(7, .int (iI 1)), (6, .int (iI (-1))), (0, .int (iI (m : Int))), (1, .ref (q 81)), (2, .ref (q 87)), (3, .ref (q 88)), (4, .ref (q 80)), (5, .int (iI (n : Int)))]) C dL_route_68 (by decide) rfl ?_
        refine KLv (lv' := [(0, .int (iI (m : Int))), (1, .ref (q 81)), (2, .ref (q 87)), (3, .ref (q 88)), (4, .ref (q 80)), (5, .int (iI (n : Int))), (6, .int (iI (-1))), (7, .int (iI 1))]) [2, 3, 4, 5, 6, 7, 1, 0] rfl ?_
        have loop70 : ∀ (nX : Nat) (t : Nat) (a : List Nat) (x : List Nat) (le : Int) (gg : Int) (f : Nat → Int → Int), (enA n).length - t < nX → (RtI S q pl d n t a x le gg f) → Wk pX l eX (rmK 2 0 0) sX mX argsX belowX methX cX (MQ belowX (QcG g (P_L_route S q m N G P)) argsX sX 0 0 (ge (gB g))) g 10 0 0 70 [(0, .int (iI (m : Int))), (1, .ref (q 81)), (2, .ref (q 87)), (3, .ref (q 88)), (4, .ref (q 80)), (5, .int (iI (n : Int))), (6, .int (iI le)), (7, .int (iI gg))] [] (wI S f) := by
          intro nX
          induction nX with
          | zero => intro t a x le gg f hm; exact absurd hm (Nat.not_lt_zero _)
          | succ nX ih70 =>
            intro t a x le gg f hm70 hI70
            refine KRg (fun hR => ?_)
            have hgg : gg = 0 ∨ gg = 1 := by rcases hI70.2.1 with h9 | h9; exact Or.inr h9.1; exact Or.inl h9.1
            have hleb : -1 ≤ le ∧ le ≤ 1000000 := hI70.leb hdo (by omega)
            refine KIload C dL_route_70 7 rfl ?_
            refine KIf_eq (tgt := 187) C dL_route_72 (by decide) ⟨by omega, by omega⟩ (fun c72 => ?_) (fun c72 => ?_)
            · have hg0 : gg = 0 := by omega
              have hfin := hI70.fin hg0 (by omega) hdo
              refine KAload_n C dL_route_187 rfl 2 rfl ?_
              refine KIconst C dL_route_188 ?_
              refine KIload C dL_route_189 5 rfl ?_
              refine KIast (S := wI S f) C 10 (hT.at0 87 20) (hT.ln0 87 10) ⟨by omega, by omega⟩ (by omega) ⟨by omega, by omega⟩ dL_route_191 ?_
              refine KIload C dL_route_192 6 rfl ?_
              refine KIret C rfl rfl (by
                refine ⟨congrArg (fun z9 => some (Value.int (iI z9))) ?_, _, rfl, ?_, ?_, ?_⟩
                · rw [hfin.1, hdd, hn]; rfl
                · exact fun c j c1 c2 => (up2_ne _ _ _ _ c1).trans (hI70.1 c j c1 c2)
                · rw [up2_same, hn]
                · exact fun j hj => (up2_nk _ _ _ _ (by omega)).trans (by show f (q 87) _ = _; rw [hfin.2 j (by omega), hdd, hn, hpl]; rfl)) (by decide) (by decide) dL_route_194
            · have hg1 : gg = 1 := by omega
              rw [hg1] at hI70
              obtain ⟨ha, hrow⟩ : (enA n)[t]? = some a ∧ rwA pl n (f (q 88)) a := by rcases hI70.2.1 with h9 | h9; exact h9.2; exact absurd h9.1 (by decide)
              obtain ⟨al, ax, an⟩ := enA_mem (List.mem_of_getElem? ha)
              have htl : t < (enA n).length := by rcases Nat.lt_or_ge t (enA n).length with e9 | e9; exact e9; rw [List.getElem?_eq_none e9] at ha; cases ha
              have hcb := cst_b hdo a 9 ax (Or.inr rfl)
              have hKR := hI70.1
              refine KIconst C dL_route_75 ?_
              refine KTop (congrArg iI (show 0 = smk d a n 0 from rfl)) ?_
              refine KIstore (lv' := [(8, .int (iI (smk d a n 0))), (0, .int (iI (m : Int))), (1, .ref (q 81)), (2, .ref (q 87)), (3, .ref (q 88)), (4, .ref (q 80)), (5, .int (iI (n : Int))), (6, .int (iI le)), (7, .int (iI gg))]) C dL_route_76 (by decide) rfl ?_
              refine KIconst C dL_route_78 ?_
              refine KIstore (lv' := [(9, .int (iI 0)), (8, .int (iI (smk d a n 0))), (0, .int (iI (m : Int))), (1, .ref (q 81)), (2, .ref (q 87)), (3, .ref (q 88)), (4, .ref (q 80)), (5, .int (iI (n : Int))), (6, .int (iI le)), (7, .int (iI gg))]) C dL_route_79 (by decide) rfl ?_
              refine KLv (lv' := [(0, .int (iI (m : Int))), (1, .ref (q 81)), (2, .ref (q 87)), (3, .ref (q 88)), (4, .ref (q 80)), (5, .int (iI (n : Int))), (6, .int (iI le)), (7, .int (iI gg)), (8, .int (iI (smk d a n 0))), (9, .int (iI 0))]) [2, 3, 4, 5, 6, 7, 8, 9, 1, 0] rfl ?_
              have loop81 : ∀ (nX : Nat) (k : Nat), n + 1 - k < nX → (k ≤ n + 1) → Wk pX l eX (rmK 2 0 0) sX mX argsX belowX methX cX (MQ belowX (QcG g (P_L_route S q m N G P)) argsX sX 0 0 (ge (gB g))) g 10 0 0 81 [(0, .int (iI (m : Int))), (1, .ref (q 81)), (2, .ref (q 87)), (3, .ref (q 88)), (4, .ref (q 80)), (5, .int (iI (n : Int))), (6, .int (iI le)), (7, .int (iI gg)), (8, .int (iI (smk d a n k))), (9, .int (iI (k : Int)))] [] (wI S f) := by
                intro nX
                induction nX with
                | zero => intro k hm; exact absurd hm (Nat.not_lt_zero _)
                | succ nX ih81 =>
                  intro k hm81 hk
                  refine KRg (fun hR => ?_)
                  have hsb := smk_b hdo al ax k hk
                  refine KIload C dL_route_81 9 rfl ?_
                  refine KIload C dL_route_83 5 rfl ?_
                  refine KIcmp_gt (tgt := 134) C dL_route_85 (by decide) ⟨by omega, by omega⟩ ⟨by omega, by omega⟩ (fun c85 => ?_) (fun c85 => ?_)
                  · have hkn : k = n + 1 := by omega
                    have hsum : smk d a n k = cst d 9 a := by rw [hkn]; exact smk_cst al
                    refine KLvE (lv2 := [(0, .int (iI (m : Int))), (1, .ref (q 81)), (2, .ref (q 87)), (3, .ref (q 88)), (4, .ref (q 80)), (5, .int (iI (n : Int))), (6, .int (iI le)), (7, .int (iI gg)), (8, .int (iI (cst d 9 a))), (9, .int (iI (k : Int)))]) (congrArg (fun zz : Int => ([(0, .int (iI (m : Int))), (1, .ref (q 81)), (2, .ref (q 87)), (3, .ref (q 88)), (4, .ref (q 80)), (5, .int (iI (n : Int))), (6, .int (iI le)), (7, .int (iI gg)), (8, .int (iI zz)), (9, .int (iI (k : Int)))] : List (Nat × Value))) (show (smk d a n k : Int) = cst d 9 a from hsum)) ?_
                    refine KIload C dL_route_134 6 rfl ?_
                    refine KIf_lt (tgt := 146) C dL_route_136 (by decide) ⟨by omega, by omega⟩ (fun c136 => ?_) (fun c136 => ?_)
                    · have hupd : le < 0 ∨ cst d 9 a < le := Or.inl (by omega)
                      refine KIload C dL_route_146 8 rfl ?_
                      refine KIstore (lv' := [(6, .int (iI (cst d 9 a))), (0, .int (iI (m : Int))), (1, .ref (q 81)), (2, .ref (q 87)), (3, .ref (q 88)), (4, .ref (q 80)), (5, .int (iI (n : Int))), (7, .int (iI gg)), (8, .int (iI (cst d 9 a))), (9, .int (iI (k : Int)))]) C dL_route_148 (by decide) rfl ?_
                      refine KIconst C dL_route_150 ?_
                      refine KIstore (lv' := [(9, .int (iI 0)), (6, .int (iI (cst d 9 a))), (0, .int (iI (m : Int))), (1, .ref (q 81)), (2, .ref (q 87)), (3, .ref (q 88)), (4, .ref (q 80)), (5, .int (iI (n : Int))), (7, .int (iI gg)), (8, .int (iI (cst d 9 a)))]) C dL_route_151 (by decide) rfl ?_
                      refine KLv (lv' := [(0, .int (iI (m : Int))), (1, .ref (q 81)), (2, .ref (q 87)), (3, .ref (q 88)), (4, .ref (q 80)), (5, .int (iI (n : Int))), (6, .int (iI (cst d 9 a))), (7, .int (iI gg)), (8, .int (iI (cst d 9 a))), (9, .int (iI 0))]) [2, 3, 4, 5, 6, 7, 1, 8, 9, 0] rfl ?_
                      have loop153 : ∀ (nX : Nat) (k : Nat) (h : Nat → Int → Int), n - k < nX → (k ≤ n) → (∀ c j, c ≠ q 87 → h c j = f c j) → (∀ j : Nat, j < k → h (q 87) ((1 + j : Nat) : Int) = pl (a.getD j 0)) → Wk pX l eX (rmK 2 0 0) sX mX argsX belowX methX cX (MQ belowX (QcG g (P_L_route S q m N G P)) argsX sX 0 0 (ge (gB g))) g 10 0 0 153 [(0, .int (iI (m : Int))), (1, .ref (q 81)), (2, .ref (q 87)), (3, .ref (q 88)), (4, .ref (q 80)), (5, .int (iI (n : Int))), (6, .int (iI (cst d 9 a))), (7, .int (iI gg)), (8, .int (iI (cst d 9 a))), (9, .int (iI (k : Int)))] [] (wI S h) := by
                        intro nX
                        induction nX with
                        | zero => intro k h hm; exact absurd hm (Nat.not_lt_zero _)
                        | succ nX ih153 =>
                          intro k h hm153 hk hW1 hW2
                          refine KRg (fun hR => ?_)
                          refine KIload C dL_route_153 9 rfl ?_
                          refine KIload C dL_route_155 5 rfl ?_
                          refine KIcmp_ge (tgt := 176) C dL_route_157 (by decide) ⟨by omega, by omega⟩ ⟨by omega, by omega⟩ (fun c157 => ?_) (fun c157 => ?_)
                          · have hU : RtU S q pl d n t a a (cst d 9 a) h := hI70.new hT hdo hupd ⟨hW1, fun j hj => hW2 j (by omega)⟩
                            refine KAload_n C dL_route_176 rfl 3 rfl ?_
                            refine KIload C dL_route_177 5 rfl ?_
                            refine KCallS (As := [.ref (q 88), .int (iI (n : Int))]) (st := []) C (ct_L_next l g (wI S h) q n hT (by omega) (hU.dist hmono al ax an)) u_ml_RL_56 u_st_yL_next u_in_RL u_co_yL_next hd_yL_next ⟨Nat.le_of_ble_eq_true rfl, Nat.le_of_ble_eq_true rfl⟩ ⟨Nat.le_of_ble_eq_true rfl, Nat.le_of_ble_eq_true rfl⟩ (Nat.le_of_ble_eq_true rfl) dL_route_179 rfl (fun v179 u179 hp179 => ?_)
                            obtain ⟨hk179, rfl, rfl⟩ | ⟨k179, hk179, rfl, rfl⟩ := hp179
                            · refine KSt (st2 := [.int (iI 0)]) rfl ?_
                              have hIn := hU.no hn6 hmono ha hk179
                              refine KIstore (lv' := [(7, .int (iI 0)), (0, .int (iI (m : Int))), (1, .ref (q 81)), (2, .ref (q 87)), (3, .ref (q 88)), (4, .ref (q 80)), (5, .int (iI (n : Int))), (6, .int (iI (cst d 9 a))), (8, .int (iI (cst d 9 a))), (9, .int (iI (k : Int)))]) C dL_route_182 (by decide) rfl ?_
                              refine KGoto (tgt := 70) C dL_route_184 (by decide) ?_
                              refine KLv (lv' := [(0, .int (iI (m : Int))), (1, .ref (q 81)), (2, .ref (q 87)), (3, .ref (q 88)), (4, .ref (q 80)), (5, .int (iI (n : Int))), (6, .int (iI (cst d 9 a))), (7, .int (iI 0))]) [1, 2, 3, 4, 5, 6, 7, 0] rfl ?_
                              exact ih70 (t + 1) a a (cst d 9 a) 0 h (by omega) hIn
                            · refine KSt (st2 := [.int (iI 1)]) rfl ?_
                              refine KRg (fun hR => ?_)
                              obtain ⟨b9, hIn⟩ := hU.yes hT hn6 hmono ha hk179
                              refine KIstore (lv' := [(7, .int (iI 1)), (0, .int (iI (m : Int))), (1, .ref (q 81)), (2, .ref (q 87)), (3, .ref (q 88)), (4, .ref (q 80)), (5, .int (iI (n : Int))), (6, .int (iI (cst d 9 a))), (8, .int (iI (cst d 9 a))), (9, .int (iI (k : Int)))]) C dL_route_182 (by decide) rfl ?_
                              refine KGoto (tgt := 70) C dL_route_184 (by decide) ?_
                              refine KLv (lv' := [(0, .int (iI (m : Int))), (1, .ref (q 81)), (2, .ref (q 87)), (3, .ref (q 88)), (4, .ref (q 80)), (5, .int (iI (n : Int))), (6, .int (iI (cst d 9 a))), (7, .int (iI 1))]) [1, 2, 3, 4, 5, 6, 7, 0] rfl ?_
                              exact ih70 (t + 1) b9 a (cst d 9 a) 1 (row1 h (q 88) (nxF (h (q 88)) (n : Int) (k179 : Int) ((jfL (ltF (h (q 88)) k179) (n - 1) : Nat) : Int))) (by omega) hIn
                          · refine KAload_n C dL_route_160 rfl 2 rfl ?_
                            refine KIconst C dL_route_161 ?_
                            refine KIload C dL_route_162 9 rfl ?_
                            refine KIadd C dL_route_164 ?_
                            refine KTop (congrArg iI (show 1 + (k : Int) = ((1 + k : Nat) : Int) from (by omega))) ?_
                            refine KAload_n C dL_route_165 rfl 3 rfl ?_
                            refine KIload C dL_route_166 9 rfl ?_
                            refine KIald (S := wI S h)  (v := pl (a.getD k 0)) C 9 (hT.at0 88 20) (hT.ln0 88 9) ⟨by omega, by omega⟩ (by omega) ((hW1 _ _ (hT.ne 88 87)).trans (hrow k (by omega))) dL_route_168 ?_
                            have rb1 := hR.b (q 88) (k : Int) (v := pl (a.getD k 0)) ((hW1 _ _ (hT.ne 88 87)).trans (hrow k (by omega)))
                            have hgc := getD_lt ax (show k < a.length by omega)
                            refine KIast (S := wI S h) C 10 (hT.at0 87 20) (hT.ln0 87 10) ⟨by omega, by omega⟩ (by omega) ⟨by omega, by omega⟩ dL_route_169 ?_
                            refine KIinc (v := ((k + 1 : Nat) : Int)) (lv' := [(9, .int (iI ((k + 1 : Nat) : Int))), (0, .int (iI (m : Int))), (1, .ref (q 81)), (2, .ref (q 87)), (3, .ref (q 88)), (4, .ref (q 80)), (5, .int (iI (n : Int))), (6, .int (iI (cst d 9 a))), (7, .int (iI gg)), (8, .int (iI (cst d 9 a)))]) C dL_route_170 9 rfl (by omega) (by decide) rfl ?_
                            refine KGoto (tgt := 153) C dL_route_173 (by decide) ?_
                            refine KLv (lv' := [(0, .int (iI (m : Int))), (1, .ref (q 81)), (2, .ref (q 87)), (3, .ref (q 88)), (4, .ref (q 80)), (5, .int (iI (n : Int))), (6, .int (iI (cst d 9 a))), (7, .int (iI gg)), (8, .int (iI (cst d 9 a))), (9, .int (iI ((k + 1 : Nat) : Int)))]) [1, 2, 3, 4, 5, 6, 7, 8, 9, 0] rfl ?_
                            exact ih153 (k + 1) (up2 h (q 87) ((1 + k : Nat) : Int) (pl (a.getD k 0))) (by omega) (by omega) (fun c j hc => (up2_ne _ _ _ _ hc).trans (hW1 c j hc)) (w_put hW2)
                      exact loop153 _ 0 f (Nat.lt_succ_self _) (by omega) (fun _ _ _ => rfl) (fun j hj => absurd hj (Nat.not_lt_zero _))
                    · refine KIload C dL_route_139 8 rfl ?_
                      refine KIload C dL_route_141 6 rfl ?_
                      refine KIcmp_ge (tgt := 176) C dL_route_143 (by decide) ⟨by omega, by omega⟩ ⟨by omega, by omega⟩ (fun c143 => ?_) (fun c143 => ?_)
                      · have hU : RtU S q pl d n t a x le f := hI70.keep (by omega) (by omega)
                        refine KAload_n C dL_route_176 rfl 3 rfl ?_
                        refine KIload C dL_route_177 5 rfl ?_
                        refine KCallS (As := [.ref (q 88), .int (iI (n : Int))]) (st := []) C (ct_L_next l g (wI S f) q n hT (by omega) (hU.dist hmono al ax an)) u_ml_RL_56 u_st_yL_next u_in_RL u_co_yL_next hd_yL_next ⟨Nat.le_of_ble_eq_true rfl, Nat.le_of_ble_eq_true rfl⟩ ⟨Nat.le_of_ble_eq_true rfl, Nat.le_of_ble_eq_true rfl⟩ (Nat.le_of_ble_eq_true rfl) dL_route_179 rfl (fun v179 u179 hp179 => ?_)
                        obtain ⟨hk179, rfl, rfl⟩ | ⟨k179, hk179, rfl, rfl⟩ := hp179
                        · refine KSt (st2 := [.int (iI 0)]) rfl ?_
                          have hIn := hU.no hn6 hmono ha hk179
                          refine KIstore (lv' := [(7, .int (iI 0)), (0, .int (iI (m : Int))), (1, .ref (q 81)), (2, .ref (q 87)), (3, .ref (q 88)), (4, .ref (q 80)), (5, .int (iI (n : Int))), (6, .int (iI le)), (8, .int (iI (cst d 9 a))), (9, .int (iI (k : Int)))]) C dL_route_182 (by decide) rfl ?_
                          refine KGoto (tgt := 70) C dL_route_184 (by decide) ?_
                          refine KLv (lv' := [(0, .int (iI (m : Int))), (1, .ref (q 81)), (2, .ref (q 87)), (3, .ref (q 88)), (4, .ref (q 80)), (5, .int (iI (n : Int))), (6, .int (iI le)), (7, .int (iI 0))]) [1, 2, 3, 4, 5, 6, 7, 0] rfl ?_
                          exact ih70 (t + 1) a x le 0 f (by omega) hIn
                        · refine KSt (st2 := [.int (iI 1)]) rfl ?_
                          refine KRg (fun hR => ?_)
                          obtain ⟨b9, hIn⟩ := hU.yes hT hn6 hmono ha hk179
                          refine KIstore (lv' := [(7, .int (iI 1)), (0, .int (iI (m : Int))), (1, .ref (q 81)), (2, .ref (q 87)), (3, .ref (q 88)), (4, .ref (q 80)), (5, .int (iI (n : Int))), (6, .int (iI le)), (8, .int (iI (cst d 9 a))), (9, .int (iI (k : Int)))]) C dL_route_182 (by decide) rfl ?_
                          refine KGoto (tgt := 70) C dL_route_184 (by decide) ?_
                          refine KLv (lv' := [(0, .int (iI (m : Int))), (1, .ref (q 81)), (2, .ref (q 87)), (3, .ref (q 88)), (4, .ref (q 80)), (5, .int (iI (n : Int))), (6, .int (iI le)), (7, .int (iI 1))]) [1, 2, 3, 4, 5, 6, 7, 0] rfl ?_
                          exact ih70 (t + 1) b9 x le 1 (row1 f (q 88) (nxF (f (q 88)) (n : Int) (k179 : Int) ((jfL (ltF (f (q 88)) k179) (n - 1) : Nat) : Int))) (by omega) hIn
                      · have hupd : le < 0 ∨ cst d 9 a < le := Or.inr (by omega)
                        refine KIload C dL_route_146 8 rfl ?_
                        refine KIstore (lv' := [(6, .int (iI (cst d 9 a))), (0, .int (iI (m : Int))), (1, .ref (q 81)), (2, .ref (q 87)), (3, .ref (q 88)), (4, .ref (q 80)), (5, .int (iI (n : Int))), (7, .int (iI gg)), (8, .int (iI (cst d 9 a))), (9, .int (iI (k : Int)))]) C dL_route_148 (by decide) rfl ?_
                        refine KIconst C dL_route_150 ?_
                        refine KIstore (lv' := [(9, .int (iI 0)), (6, .int (iI (cst d 9 a))), (0, .int (iI (m : Int))), (1, .ref (q 81)), (2, .ref (q 87)), (3, .ref (q 88)), (4, .ref (q 80)), (5, .int (iI (n : Int))), (7, .int (iI gg)), (8, .int (iI (cst d 9 a)))]) C dL_route_151 (by decide) rfl ?_
                        refine KLv (lv' := [(0, .int (iI (m : Int))), (1, .ref (q 81)), (2, .ref (q 87)), (3, .ref (q 88)), (4, .ref (q 80)), (5, .int (iI (n : Int))), (6, .int (iI (cst d 9 a))), (7, .int (iI gg)), (8, .int (iI (cst d 9 a))), (9, .int (iI 0))]) [2, 3, 4, 5, 6, 7, 1, 8, 9, 0] rfl ?_
                        have loop153 : ∀ (nX : Nat) (k : Nat) (h : Nat → Int → Int), n - k < nX → (k ≤ n) → (∀ c j, c ≠ q 87 → h c j = f c j) → (∀ j : Nat, j < k → h (q 87) ((1 + j : Nat) : Int) = pl (a.getD j 0)) → Wk pX l eX (rmK 2 0 0) sX mX argsX belowX methX cX (MQ belowX (QcG g (P_L_route S q m N G P)) argsX sX 0 0 (ge (gB g))) g 10 0 0 153 [(0, .int (iI (m : Int))), (1, .ref (q 81)), (2, .ref (q 87)), (3, .ref (q 88)), (4, .ref (q 80)), (5, .int (iI (n : Int))), (6, .int (iI (cst d 9 a))), (7, .int (iI gg)), (8, .int (iI (cst d 9 a))), (9, .int (iI (k : Int)))] [] (wI S h) := by
                          intro nX
                          induction nX with
                          | zero => intro k h hm; exact absurd hm (Nat.not_lt_zero _)
                          | succ nX ih153 =>
                            intro k h hm153 hk hW1 hW2
                            refine KRg (fun hR => ?_)
                            refine KIload C dL_route_153 9 rfl ?_
                            refine KIload C dL_route_155 5 rfl ?_
                            refine KIcmp_ge (tgt := 176) C dL_route_157 (by decide) ⟨by omega, by omega⟩ ⟨by omega, by omega⟩ (fun c157 => ?_) (fun c157 => ?_)
                            · have hU : RtU S q pl d n t a a (cst d 9 a) h := hI70.new hT hdo hupd ⟨hW1, fun j hj => hW2 j (by omega)⟩
                              refine KAload_n C dL_route_176 rfl 3 rfl ?_
                              refine KIload C dL_route_177 5 rfl ?_
                              refine KCallS (As := [.ref (q 88), .int (iI (n : Int))]) (st := []) C (ct_L_next l g (wI S h) q n hT (by omega) (hU.dist hmono al ax an)) u_ml_RL_56 u_st_yL_next u_in_RL u_co_yL_next hd_yL_next ⟨Nat.le_of_ble_eq_true rfl, Nat.le_of_ble_eq_true rfl⟩ ⟨Nat.le_of_ble_eq_true rfl, Nat.le_of_ble_eq_true rfl⟩ (Nat.le_of_ble_eq_true rfl) dL_route_179 rfl (fun v179 u179 hp179 => ?_)
                              obtain ⟨hk179, rfl, rfl⟩ | ⟨k179, hk179, rfl, rfl⟩ := hp179
                              · refine KSt (st2 := [.int (iI 0)]) rfl ?_
                                have hIn := hU.no hn6 hmono ha hk179
                                refine KIstore (lv' := [(7, .int (iI 0)), (0, .int (iI (m : Int))), (1, .ref (q 81)), (2, .ref (q 87)), (3, .ref (q 88)), (4, .ref (q 80)), (5, .int (iI (n : Int))), (6, .int (iI (cst d 9 a))), (8, .int (iI (cst d 9 a))), (9, .int (iI (k : Int)))]) C dL_route_182 (by decide) rfl ?_
                                refine KGoto (tgt := 70) C dL_route_184 (by decide) ?_
                                refine KLv (lv' := [(0, .int (iI (m : Int))), (1, .ref (q 81)), (2, .ref (q 87)), (3, .ref (q 88)), (4, .ref (q 80)), (5, .int (iI (n : Int))), (6, .int (iI (cst d 9 a))), (7, .int (iI 0))]) [1, 2, 3, 4, 5, 6, 7, 0] rfl ?_
                                exact ih70 (t + 1) a a (cst d 9 a) 0 h (by omega) hIn
                              · refine KSt (st2 := [.int (iI 1)]) rfl ?_
                                refine KRg (fun hR => ?_)
                                obtain ⟨b9, hIn⟩ := hU.yes hT hn6 hmono ha hk179
                                refine KIstore (lv' := [(7, .int (iI 1)), (0, .int (iI (m : Int))), (1, .ref (q 81)), (2, .ref (q 87)), (3, .ref (q 88)), (4, .ref (q 80)), (5, .int (iI (n : Int))), (6, .int (iI (cst d 9 a))), (8, .int (iI (cst d 9 a))), (9, .int (iI (k : Int)))]) C dL_route_182 (by decide) rfl ?_
                                refine KGoto (tgt := 70) C dL_route_184 (by decide) ?_
                                refine KLv (lv' := [(0, .int (iI (m : Int))), (1, .ref (q 81)), (2, .ref (q 87)), (3, .ref (q 88)), (4, .ref (q 80)), (5, .int (iI (n : Int))), (6, .int (iI (cst d 9 a))), (7, .int (iI 1))]) [1, 2, 3, 4, 5, 6, 7, 0] rfl ?_
                                exact ih70 (t + 1) b9 a (cst d 9 a) 1 (row1 h (q 88) (nxF (h (q 88)) (n : Int) (k179 : Int) ((jfL (ltF (h (q 88)) k179) (n - 1) : Nat) : Int))) (by omega) hIn
                            · refine KAload_n C dL_route_160 rfl 2 rfl ?_
                              refine KIconst C dL_route_161 ?_
                              refine KIload C dL_route_162 9 rfl ?_
                              refine KIadd C dL_route_164 ?_
                              refine KTop (congrArg iI (show 1 + (k : Int) = ((1 + k : Nat) : Int) from (by omega))) ?_
                              refine KAload_n C dL_route_165 rfl 3 rfl ?_
                              refine KIload C dL_route_166 9 rfl ?_
                              refine KIald (S := wI S h)  (v := pl (a.getD k 0)) C 9 (hT.at0 88 20) (hT.ln0 88 9) ⟨by omega, by omega⟩ (by omega) ((hW1 _ _ (hT.ne 88 87)).trans (hrow k (by omega))) dL_route_168 ?_
                              have rb2 := hR.b (q 88) (k : Int) (v := pl (a.getD k 0)) ((hW1 _ _ (hT.ne 88 87)).trans (hrow k (by omega)))
                              have hgc := getD_lt ax (show k < a.length by omega)
                              refine KIast (S := wI S h) C 10 (hT.at0 87 20) (hT.ln0 87 10) ⟨by omega, by omega⟩ (by omega) ⟨by omega, by omega⟩ dL_route_169 ?_
                              refine KIinc (v := ((k + 1 : Nat) : Int)) (lv' := [(9, .int (iI ((k + 1 : Nat) : Int))), (0, .int (iI (m : Int))), (1, .ref (q 81)), (2, .ref (q 87)), (3, .ref (q 88)), (4, .ref (q 80)), (5, .int (iI (n : Int))), (6, .int (iI (cst d 9 a))), (7, .int (iI gg)), (8, .int (iI (cst d 9 a)))]) C dL_route_170 9 rfl (by omega) (by decide) rfl ?_
                              refine KGoto (tgt := 153) C dL_route_173 (by decide) ?_
                              refine KLv (lv' := [(0, .int (iI (m : Int))), (1, .ref (q 81)), (2, .ref (q 87)), (3, .ref (q 88)), (4, .ref (q 80)), (5, .int (iI (n : Int))), (6, .int (iI (cst d 9 a))), (7, .int (iI gg)), (8, .int (iI (cst d 9 a))), (9, .int (iI ((k + 1 : Nat) : Int)))]) [1, 2, 3, 4, 5, 6, 7, 8, 9, 0] rfl ?_
                              exact ih153 (k + 1) (up2 h (q 87) ((1 + k : Nat) : Int) (pl (a.getD k 0))) (by omega) (by omega) (fun c j hc => (up2_ne _ _ _ _ hc).trans (hW1 c j hc)) (w_put hW2)
                        exact loop153 _ 0 f (Nat.lt_succ_self _) (by omega) (fun _ _ _ => rfl) (fun j hj => absurd hj (Nat.not_lt_zero _))
                  · refine KIload C dL_route_88 8 rfl ?_
                    refine KIload C dL_route_90 9 rfl ?_
                    refine KIf_ne (tgt := 99) C dL_route_92 (by decide) ⟨by omega, by omega⟩ (fun c92 => ?_) (fun c92 => ?_)
                    · refine KAload_n C dL_route_99 rfl 3 rfl ?_
                      refine KIload C dL_route_100 9 rfl ?_
                      refine KIconst C dL_route_102 ?_
                      refine KIsub C dL_route_103 ?_
                      refine KTop (congrArg iI (show (k : Int) - 1 = ((k - 1 : Nat) : Int) from (by omega))) ?_
                      refine KIald (S := wI S f)  (v := pl (a.getD (k - 1) 0)) C 9 (hT.at0 88 20) (hT.ln0 88 9) ⟨by omega, by omega⟩ (by omega) (hrow (k - 1) (by omega)) dL_route_104 ?_
                      have hga := getD_lt ax (show k - 1 < a.length by omega)
                      have hgb := hplb _ hga
                      refine KIload C dL_route_105 9 rfl ?_
                      refine KIload C dL_route_107 5 rfl ?_
                      refine KIcmp_ne (tgt := 116) C dL_route_109 (by decide) ⟨by omega, by omega⟩ ⟨by omega, by omega⟩ (fun c109 => ?_) (fun c109 => ?_)
                      · refine KAload_n C dL_route_116 rfl 3 rfl ?_
                        refine KIload C dL_route_117 9 rfl ?_
                        refine KIald (S := wI S f)  (v := pl (a.getD k 0)) C 9 (hT.at0 88 20) (hT.ln0 88 9) ⟨by omega, by omega⟩ (by omega) (hrow k (by omega)) dL_route_119 ?_
                        have hgc := getD_lt ax (show k < a.length by omega)
                        have hgd := hplb _ hgc
                        refine KAload C dL_route_120 4 rfl ?_
                        refine KCallS (As := [.int (iI (pl (a.getD (k - 1) 0))), .int (iI (pl (a.getD k 0))), .ref (q 80)]) (st := [.int (iI (smk d a n k))]) C (ct_L_way l g (wI S f) q (pl (a.getD (k - 1) 0)) (pl (a.getD k 0)) N G hT ((hKR _ _ (hT.ne 80 87) (hT.ne 80 88)).trans hNe) ((hKR _ _ (hT.ne 80 87) (hT.ne 80 88)).trans hGe) (by omega) (by omega) (by omega) (by omega)) u_ml_RL_52 u_st_yL_way u_in_RL u_co_yL_way hd_yL_way ⟨Nat.le_of_ble_eq_true rfl, Nat.le_of_ble_eq_true rfl⟩ ⟨Nat.le_of_ble_eq_true rfl, Nat.le_of_ble_eq_true rfl⟩ (Nat.le_of_ble_eq_true rfl) dL_route_122 rfl (fun v122 u122 hp122 => ?_)
                        obtain ⟨rfl, rfl⟩ := hp122
                        refine KSt (st2 := [.int (iI (dst N G (pl (a.getD (k - 1) 0)) (pl (a.getD k 0)))), .int (iI (smk d a n k))]) rfl ?_
                        refine KRg (fun hR => ?_)
                        refine KTop (congrArg iI (show dst N G (pl (a.getD (k - 1) 0)) (pl (a.getD k 0)) = stp d a n k from (stp_w hde (by unfold pq; (repeat' split) <;> first | rfl | omega) (by unfold pq; (repeat' split) <;> first | rfl | omega)))) ?_
                        have hstb := stp_b hdo al ax (show k ≤ n by omega)
                        refine KIadd C dL_route_125 ?_
                        refine KTop (congrArg iI (show (smk d a n k) + (stp d a n k) = smk d a n (k + 1) from rfl)) ?_
                        refine KIstore (lv' := [(8, .int (iI (smk d a n (k + 1)))), (0, .int (iI (m : Int))), (1, .ref (q 81)), (2, .ref (q 87)), (3, .ref (q 88)), (4, .ref (q 80)), (5, .int (iI (n : Int))), (6, .int (iI le)), (7, .int (iI gg)), (9, .int (iI (k : Int)))]) C dL_route_126 (by decide) rfl ?_
                        refine KIinc (v := ((k + 1 : Nat) : Int)) (lv' := [(9, .int (iI ((k + 1 : Nat) : Int))), (8, .int (iI (smk d a n (k + 1)))), (0, .int (iI (m : Int))), (1, .ref (q 81)), (2, .ref (q 87)), (3, .ref (q 88)), (4, .ref (q 80)), (5, .int (iI (n : Int))), (6, .int (iI le)), (7, .int (iI gg))]) C dL_route_128 9 rfl (by omega) (by decide) rfl ?_
                        refine KGoto (tgt := 81) C dL_route_131 (by decide) ?_
                        refine KLv (lv' := [(0, .int (iI (m : Int))), (1, .ref (q 81)), (2, .ref (q 87)), (3, .ref (q 88)), (4, .ref (q 80)), (5, .int (iI (n : Int))), (6, .int (iI le)), (7, .int (iI gg)), (8, .int (iI (smk d a n (k + 1)))), (9, .int (iI ((k + 1 : Nat) : Int)))]) [2, 3, 4, 5, 6, 7, 8, 9, 1, 0] rfl ?_
                        exact ih81 (k + 1) (by omega) (by omega)
                      · refine KIconst C dL_route_112 ?_
                        refine KGoto (tgt := 120) C dL_route_113 (by decide) ?_
                        refine KAload C dL_route_120 4 rfl ?_
                        refine KCallS (As := [.int (iI (pl (a.getD (k - 1) 0))), .int (iI 0), .ref (q 80)]) (st := [.int (iI (smk d a n k))]) C (ct_L_way l g (wI S f) q (pl (a.getD (k - 1) 0)) 0 N G hT ((hKR _ _ (hT.ne 80 87) (hT.ne 80 88)).trans hNe) ((hKR _ _ (hT.ne 80 87) (hT.ne 80 88)).trans hGe) (by omega) (by omega) (by omega) (by omega)) u_ml_RL_52 u_st_yL_way u_in_RL u_co_yL_way hd_yL_way ⟨Nat.le_of_ble_eq_true rfl, Nat.le_of_ble_eq_true rfl⟩ ⟨Nat.le_of_ble_eq_true rfl, Nat.le_of_ble_eq_true rfl⟩ (Nat.le_of_ble_eq_true rfl) dL_route_122 rfl (fun v122 u122 hp122 => ?_)
                        obtain ⟨rfl, rfl⟩ := hp122
                        refine KSt (st2 := [.int (iI (dst N G (pl (a.getD (k - 1) 0)) 0)), .int (iI (smk d a n k))]) rfl ?_
                        refine KRg (fun hR => ?_)
                        refine KTop (congrArg iI (show dst N G (pl (a.getD (k - 1) 0)) 0 = stp d a n k from (stp_w hde (by unfold pq; (repeat' split) <;> first | rfl | omega) (by unfold pq; (repeat' split) <;> first | rfl | omega)))) ?_
                        have hstb := stp_b hdo al ax (show k ≤ n by omega)
                        refine KIadd C dL_route_125 ?_
                        refine KTop (congrArg iI (show (smk d a n k) + (stp d a n k) = smk d a n (k + 1) from rfl)) ?_
                        refine KIstore (lv' := [(8, .int (iI (smk d a n (k + 1)))), (0, .int (iI (m : Int))), (1, .ref (q 81)), (2, .ref (q 87)), (3, .ref (q 88)), (4, .ref (q 80)), (5, .int (iI (n : Int))), (6, .int (iI le)), (7, .int (iI gg)), (9, .int (iI (k : Int)))]) C dL_route_126 (by decide) rfl ?_
                        refine KIinc (v := ((k + 1 : Nat) : Int)) (lv' := [(9, .int (iI ((k + 1 : Nat) : Int))), (8, .int (iI (smk d a n (k + 1)))), (0, .int (iI (m : Int))), (1, .ref (q 81)), (2, .ref (q 87)), (3, .ref (q 88)), (4, .ref (q 80)), (5, .int (iI (n : Int))), (6, .int (iI le)), (7, .int (iI gg))]) C dL_route_128 9 rfl (by omega) (by decide) rfl ?_
                        refine KGoto (tgt := 81) C dL_route_131 (by decide) ?_
                        refine KLv (lv' := [(0, .int (iI (m : Int))), (1, .ref (q 81)), (2, .ref (q 87)), (3, .ref (q 88)), (4, .ref (q 80)), (5, .int (iI (n : Int))), (6, .int (iI le)), (7, .int (iI gg)), (8, .int (iI (smk d a n (k + 1)))), (9, .int (iI ((k + 1 : Nat) : Int)))]) [2, 3, 4, 5, 6, 7, 8, 9, 1, 0] rfl ?_
                        exact ih81 (k + 1) (by omega) (by omega)
                    · refine KIconst C dL_route_95 ?_
                      refine KGoto (tgt := 105) C dL_route_96 (by decide) ?_
                      refine KIload C dL_route_105 9 rfl ?_
                      refine KIload C dL_route_107 5 rfl ?_
                      refine KIcmp_ne (tgt := 116) C dL_route_109 (by decide) ⟨by omega, by omega⟩ ⟨by omega, by omega⟩ (fun c109 => ?_) (fun c109 => ?_)
                      · refine KAload_n C dL_route_116 rfl 3 rfl ?_
                        refine KIload C dL_route_117 9 rfl ?_
                        refine KIald (S := wI S f)  (v := pl (a.getD k 0)) C 9 (hT.at0 88 20) (hT.ln0 88 9) ⟨by omega, by omega⟩ (by omega) (hrow k (by omega)) dL_route_119 ?_
                        have hgc := getD_lt ax (show k < a.length by omega)
                        have hgd := hplb _ hgc
                        refine KAload C dL_route_120 4 rfl ?_
                        refine KCallS (As := [.int (iI 0), .int (iI (pl (a.getD k 0))), .ref (q 80)]) (st := [.int (iI (smk d a n k))]) C (ct_L_way l g (wI S f) q 0 (pl (a.getD k 0)) N G hT ((hKR _ _ (hT.ne 80 87) (hT.ne 80 88)).trans hNe) ((hKR _ _ (hT.ne 80 87) (hT.ne 80 88)).trans hGe) (by omega) (by omega) (by omega) (by omega)) u_ml_RL_52 u_st_yL_way u_in_RL u_co_yL_way hd_yL_way ⟨Nat.le_of_ble_eq_true rfl, Nat.le_of_ble_eq_true rfl⟩ ⟨Nat.le_of_ble_eq_true rfl, Nat.le_of_ble_eq_true rfl⟩ (Nat.le_of_ble_eq_true rfl) dL_route_122 rfl (fun v122 u122 hp122 => ?_)
                        obtain ⟨rfl, rfl⟩ := hp122
                        refine KSt (st2 := [.int (iI (dst N G 0 (pl (a.getD k 0)))), .int (iI (smk d a n k))]) rfl ?_
                        refine KRg (fun hR => ?_)
                        refine KTop (congrArg iI (show dst N G 0 (pl (a.getD k 0)) = stp d a n k from (stp_w hde (by unfold pq; (repeat' split) <;> first | rfl | omega) (by unfold pq; (repeat' split) <;> first | rfl | omega)))) ?_
                        have hstb := stp_b hdo al ax (show k ≤ n by omega)
                        refine KIadd C dL_route_125 ?_
                        refine KTop (congrArg iI (show (smk d a n k) + (stp d a n k) = smk d a n (k + 1) from rfl)) ?_
                        refine KIstore (lv' := [(8, .int (iI (smk d a n (k + 1)))), (0, .int (iI (m : Int))), (1, .ref (q 81)), (2, .ref (q 87)), (3, .ref (q 88)), (4, .ref (q 80)), (5, .int (iI (n : Int))), (6, .int (iI le)), (7, .int (iI gg)), (9, .int (iI (k : Int)))]) C dL_route_126 (by decide) rfl ?_
                        refine KIinc (v := ((k + 1 : Nat) : Int)) (lv' := [(9, .int (iI ((k + 1 : Nat) : Int))), (8, .int (iI (smk d a n (k + 1)))), (0, .int (iI (m : Int))), (1, .ref (q 81)), (2, .ref (q 87)), (3, .ref (q 88)), (4, .ref (q 80)), (5, .int (iI (n : Int))), (6, .int (iI le)), (7, .int (iI gg))]) C dL_route_128 9 rfl (by omega) (by decide) rfl ?_
                        refine KGoto (tgt := 81) C dL_route_131 (by decide) ?_
                        refine KLv (lv' := [(0, .int (iI (m : Int))), (1, .ref (q 81)), (2, .ref (q 87)), (3, .ref (q 88)), (4, .ref (q 80)), (5, .int (iI (n : Int))), (6, .int (iI le)), (7, .int (iI gg)), (8, .int (iI (smk d a n (k + 1)))), (9, .int (iI ((k + 1 : Nat) : Int)))]) [2, 3, 4, 5, 6, 7, 8, 9, 1, 0] rfl ?_
                        exact ih81 (k + 1) (by omega) (by omega)
                      · refine KIconst C dL_route_112 ?_
                        refine KGoto (tgt := 120) C dL_route_113 (by decide) ?_
                        refine KAload C dL_route_120 4 rfl ?_
                        refine KCallS (As := [.int (iI 0), .int (iI 0), .ref (q 80)]) (st := [.int (iI (smk d a n k))]) C (ct_L_way l g (wI S f) q 0 0 N G hT ((hKR _ _ (hT.ne 80 87) (hT.ne 80 88)).trans hNe) ((hKR _ _ (hT.ne 80 87) (hT.ne 80 88)).trans hGe) (by omega) (by omega) (by omega) (by omega)) u_ml_RL_52 u_st_yL_way u_in_RL u_co_yL_way hd_yL_way ⟨Nat.le_of_ble_eq_true rfl, Nat.le_of_ble_eq_true rfl⟩ ⟨Nat.le_of_ble_eq_true rfl, Nat.le_of_ble_eq_true rfl⟩ (Nat.le_of_ble_eq_true rfl) dL_route_122 rfl (fun v122 u122 hp122 => ?_)
                        obtain ⟨rfl, rfl⟩ := hp122
                        refine KSt (st2 := [.int (iI (dst N G 0 0)), .int (iI (smk d a n k))]) rfl ?_
                        refine KRg (fun hR => ?_)
                        refine KTop (congrArg iI (show dst N G 0 0 = stp d a n k from (stp_w hde (by unfold pq; (repeat' split) <;> first | rfl | omega) (by unfold pq; (repeat' split) <;> first | rfl | omega)))) ?_
                        have hstb := stp_b hdo al ax (show k ≤ n by omega)
                        refine KIadd C dL_route_125 ?_
                        refine KTop (congrArg iI (show (smk d a n k) + (stp d a n k) = smk d a n (k + 1) from rfl)) ?_
                        refine KIstore (lv' := [(8, .int (iI (smk d a n (k + 1)))), (0, .int (iI (m : Int))), (1, .ref (q 81)), (2, .ref (q 87)), (3, .ref (q 88)), (4, .ref (q 80)), (5, .int (iI (n : Int))), (6, .int (iI le)), (7, .int (iI gg)), (9, .int (iI (k : Int)))]) C dL_route_126 (by decide) rfl ?_
                        refine KIinc (v := ((k + 1 : Nat) : Int)) (lv' := [(9, .int (iI ((k + 1 : Nat) : Int))), (8, .int (iI (smk d a n (k + 1)))), (0, .int (iI (m : Int))), (1, .ref (q 81)), (2, .ref (q 87)), (3, .ref (q 88)), (4, .ref (q 80)), (5, .int (iI (n : Int))), (6, .int (iI le)), (7, .int (iI gg))]) C dL_route_128 9 rfl (by omega) (by decide) rfl ?_
                        refine KGoto (tgt := 81) C dL_route_131 (by decide) ?_
                        refine KLv (lv' := [(0, .int (iI (m : Int))), (1, .ref (q 81)), (2, .ref (q 87)), (3, .ref (q 88)), (4, .ref (q 80)), (5, .int (iI (n : Int))), (6, .int (iI le)), (7, .int (iI gg)), (8, .int (iI (smk d a n (k + 1)))), (9, .int (iI ((k + 1 : Nat) : Int)))]) [2, 3, 4, 5, 6, 7, 8, 9, 1, 0] rfl ?_
                        exact ih81 (k + 1) (by omega) (by omega)
              exact loop81 _ 0 (Nat.lt_succ_self _) (by omega)
        exact loop70 _ 0 (List.range n) ([]) (-1) 1 f (Nat.lt_succ_self _) hI0
      · refine KIconst C dL_route_14 ?_
        refine KIstore (lv' := [(7, .int (iI 0)), (0, .int (iI (m : Int))), (1, .ref (q 81)), (2, .ref (q 87)), (3, .ref (q 88)), (4, .ref (q 80)), (5, .int (iI ((clP pl (sp : Int) n : Nat) : Int))), (6, .int (iI (sp : Int)))]) C dL_route_15 (by decide) rfl ?_
        refine KLvE (lv2 := [(7, .int (iI 0)), (0, .int (iI (m : Int))), (1, .ref (q 81)), (2, .ref (q 87)), (3, .ref (q 88)), (4, .ref (q 80)), (5, .int (iI ((clP pl (sp : Int) n + cIx P m (sp : Int) 0 : Nat) : Int))), (6, .int (iI (sp : Int)))]) (congrArg (fun zz : Int => ([(7, .int (iI 0)), (0, .int (iI (m : Int))), (1, .ref (q 81)), (2, .ref (q 87)), (3, .ref (q 88)), (4, .ref (q 80)), (5, .int (iI zz)), (6, .int (iI (sp : Int)))] : List (Nat × Value))) (show (((clP pl (sp : Int) n : Nat) : Int) : Int) = ((clP pl (sp : Int) n + cIx P m (sp : Int) 0 : Nat) : Int) from rfl)) ?_
        refine KLv (lv' := [(0, .int (iI (m : Int))), (1, .ref (q 81)), (2, .ref (q 87)), (3, .ref (q 88)), (4, .ref (q 80)), (5, .int (iI ((clP pl (sp : Int) n + cIx P m (sp : Int) 0 : Nat) : Int))), (6, .int (iI (sp : Int))), (7, .int (iI 0))]) [1, 2, 3, 4, 5, 6, 7, 0] rfl ?_
        have loop17 : ∀ (nX : Nat) (k : Nat) (h : Nat → Int → Int), 20 - k < nX → (k ≤ 20) → (VR S q pl h (clP pl (sp : Int) n + cIx P m (sp : Int) k)) → Wk pX l eX (rmK 2 0 0) sX mX argsX belowX methX cX (MQ belowX (QcG g (P_L_route S q m N G P)) argsX sX 0 0 (ge (gB g))) g 10 0 0 17 [(0, .int (iI (m : Int))), (1, .ref (q 81)), (2, .ref (q 87)), (3, .ref (q 88)), (4, .ref (q 80)), (5, .int (iI ((clP pl (sp : Int) n + cIx P m (sp : Int) k : Nat) : Int))), (6, .int (iI (sp : Int))), (7, .int (iI (k : Int)))] [] (wI S h) := by
          intro nX
          induction nX with
          | zero => intro k h hm; exact absurd hm (Nat.not_lt_zero _)
          | succ nX ih17 =>
            intro k h hm17 hk hV2
            refine KRg (fun hR => ?_)
            refine KIload C dL_route_17 7 rfl ?_
            refine KBipush C dL_route_19 (by decide) ?_
            refine KIcmp_ge (tgt := 58) C dL_route_21 (by decide) ⟨by omega, by omega⟩ ⟨by omega, by omega⟩ (fun c21 => ?_) (fun c21 => ?_)
            · have hk20 : k = 20 := by omega
              have hce : clP pl ((sp + 1 : Nat) : Int) n = clP pl (sp : Int) n + cIx P m (sp : Int) k := by rw [hk20]; exact hRte.next (sp : Int)
              refine KLvE (lv2 := [(0, .int (iI (m : Int))), (1, .ref (q 81)), (2, .ref (q 87)), (3, .ref (q 88)), (4, .ref (q 80)), (5, .int (iI ((clP pl ((sp + 1 : Nat) : Int) n : Nat) : Int))), (6, .int (iI (sp : Int))), (7, .int (iI (k : Int)))]) (congrArg (fun zz : Int => ([(0, .int (iI (m : Int))), (1, .ref (q 81)), (2, .ref (q 87)), (3, .ref (q 88)), (4, .ref (q 80)), (5, .int (iI zz)), (6, .int (iI (sp : Int))), (7, .int (iI (k : Int)))] : List (Nat × Value))) (show (((clP pl (sp : Int) n + cIx P m (sp : Int) k : Nat) : Int) : Int) = ((clP pl ((sp + 1 : Nat) : Int) n : Nat) : Int) from (by rw [hce]))) ?_
              refine KIinc (v := ((sp + 1 : Nat) : Int)) (lv' := [(6, .int (iI ((sp + 1 : Nat) : Int))), (0, .int (iI (m : Int))), (1, .ref (q 81)), (2, .ref (q 87)), (3, .ref (q 88)), (4, .ref (q 80)), (5, .int (iI ((clP pl ((sp + 1 : Nat) : Int) n : Nat) : Int))), (7, .int (iI (k : Int)))]) C dL_route_58 6 rfl (by omega) (by decide) rfl ?_
              refine KGoto (tgt := 6) C dL_route_61 (by decide) ?_
              refine KLv (lv' := [(0, .int (iI (m : Int))), (1, .ref (q 81)), (2, .ref (q 87)), (3, .ref (q 88)), (4, .ref (q 80)), (5, .int (iI ((clP pl ((sp + 1 : Nat) : Int) n : Nat) : Int))), (6, .int (iI ((sp + 1 : Nat) : Int)))]) [1, 2, 3, 4, 5, 6, 0] rfl ?_
              exact ih6 (sp + 1) h (by omega) (by omega) (by omega) (by rw [hce]; exact hV2)
            · have hcI := cIx_le P m (sp : Int) k
              refine KIload_n C dL_route_24 rfl 0 rfl ?_
              refine KIload C dL_route_25 7 rfl ?_
              refine KIshr (v := iI ((m / 2 ^ k : Nat) : Int)) C dL_route_27 (ib_shr hm31 (by omega)) ?_
              refine KIconst C dL_route_28 ?_
              refine KIand (v := iI ((m / 2 ^ k % 2 : Nat) : Int)) C dL_route_29 (ib_bit hm31 (by omega)) ?_
              refine KIconst C dL_route_30 ?_
              refine KIcmp_ne (tgt := 52) C dL_route_31 (by decide) ⟨by omega, by omega⟩ ⟨by omega, by omega⟩ (fun c31 => ?_) (fun c31 => ?_)
              · have hbt : ¬ m.testBit k = true := by rw [tb_0 (by omega)]; exact Bool.false_ne_true
                have hcf : cIx P m (sp : Int) (k + 1) = cIx P m (sp : Int) k := cIx_f (fun h9 => hbt h9.1)
                have hVn : VR S q pl h (clP pl (sp : Int) n + cIx P m (sp : Int) (k + 1)) := by rw [hcf]; exact hV2
                refine KLvE (lv2 := [(0, .int (iI (m : Int))), (1, .ref (q 81)), (2, .ref (q 87)), (3, .ref (q 88)), (4, .ref (q 80)), (5, .int (iI ((clP pl (sp : Int) n + cIx P m (sp : Int) (k + 1) : Nat) : Int))), (6, .int (iI (sp : Int))), (7, .int (iI (k : Int)))]) (congrArg (fun zz : Int => ([(0, .int (iI (m : Int))), (1, .ref (q 81)), (2, .ref (q 87)), (3, .ref (q 88)), (4, .ref (q 80)), (5, .int (iI zz)), (6, .int (iI (sp : Int))), (7, .int (iI (k : Int)))] : List (Nat × Value))) (show (((clP pl (sp : Int) n + cIx P m (sp : Int) k : Nat) : Int) : Int) = ((clP pl (sp : Int) n + cIx P m (sp : Int) (k + 1) : Nat) : Int) from (by rw [hcf]))) ?_
                refine KIinc (v := ((k + 1 : Nat) : Int)) (lv' := [(7, .int (iI ((k + 1 : Nat) : Int))), (0, .int (iI (m : Int))), (1, .ref (q 81)), (2, .ref (q 87)), (3, .ref (q 88)), (4, .ref (q 80)), (5, .int (iI ((clP pl (sp : Int) n + cIx P m (sp : Int) (k + 1) : Nat) : Int))), (6, .int (iI (sp : Int)))]) C dL_route_52 7 rfl (by omega) (by decide) rfl ?_
                refine KGoto (tgt := 17) C dL_route_55 (by decide) ?_
                refine KLv (lv' := [(0, .int (iI (m : Int))), (1, .ref (q 81)), (2, .ref (q 87)), (3, .ref (q 88)), (4, .ref (q 80)), (5, .int (iI ((clP pl (sp : Int) n + cIx P m (sp : Int) (k + 1) : Nat) : Int))), (6, .int (iI (sp : Int))), (7, .int (iI ((k + 1 : Nat) : Int)))]) [1, 2, 3, 4, 5, 6, 7, 0] rfl ?_
                exact ih17 (k + 1) h (by omega) (by omega) hVn
              · have hbt : m.testBit k = true := tb_1 (by omega)
                refine KAload_n C dL_route_34 rfl 1 rfl ?_
                refine KIload C dL_route_35 7 rfl ?_
                refine KIald (S := wI S h)  (v := P (k : Int)) C 20 (hT.at0 81 20) (hT.ln0 81 20) ⟨by omega, by omega⟩ (by omega) ((hV2.1 _ _ (hT.ne 81 88)).trans (congrFun hPe _)) dL_route_37 ?_
                have rb3 := hR.b (q 81) (k : Int) (v := P (k : Int)) ((hV2.1 _ _ (hT.ne 81 88)).trans (congrFun hPe _))
                refine KIload C dL_route_38 6 rfl ?_
                refine KIcmp_ne (tgt := 52) C dL_route_40 (by decide) ⟨by omega, by omega⟩ ⟨by omega, by omega⟩ (fun c40 => ?_) (fun c40 => ?_)
                · have hcf : cIx P m (sp : Int) (k + 1) = cIx P m (sp : Int) k := cIx_f (fun h9 => absurd h9.2 (by omega))
                  have hVn : VR S q pl h (clP pl (sp : Int) n + cIx P m (sp : Int) (k + 1)) := by rw [hcf]; exact hV2
                  refine KLvE (lv2 := [(0, .int (iI (m : Int))), (1, .ref (q 81)), (2, .ref (q 87)), (3, .ref (q 88)), (4, .ref (q 80)), (5, .int (iI ((clP pl (sp : Int) n + cIx P m (sp : Int) (k + 1) : Nat) : Int))), (6, .int (iI (sp : Int))), (7, .int (iI (k : Int)))]) (congrArg (fun zz : Int => ([(0, .int (iI (m : Int))), (1, .ref (q 81)), (2, .ref (q 87)), (3, .ref (q 88)), (4, .ref (q 80)), (5, .int (iI zz)), (6, .int (iI (sp : Int))), (7, .int (iI (k : Int)))] : List (Nat × Value))) (show (((clP pl (sp : Int) n + cIx P m (sp : Int) k : Nat) : Int) : Int) = ((clP pl (sp : Int) n + cIx P m (sp : Int) (k + 1) : Nat) : Int) from (by rw [hcf]))) ?_
                  refine KIinc (v := ((k + 1 : Nat) : Int)) (lv' := [(7, .int (iI ((k + 1 : Nat) : Int))), (0, .int (iI (m : Int))), (1, .ref (q 81)), (2, .ref (q 87)), (3, .ref (q 88)), (4, .ref (q 80)), (5, .int (iI ((clP pl (sp : Int) n + cIx P m (sp : Int) (k + 1) : Nat) : Int))), (6, .int (iI (sp : Int)))]) C dL_route_52 7 rfl (by omega) (by decide) rfl ?_
                  refine KGoto (tgt := 17) C dL_route_55 (by decide) ?_
                  refine KLv (lv' := [(0, .int (iI (m : Int))), (1, .ref (q 81)), (2, .ref (q 87)), (3, .ref (q 88)), (4, .ref (q 80)), (5, .int (iI ((clP pl (sp : Int) n + cIx P m (sp : Int) (k + 1) : Nat) : Int))), (6, .int (iI (sp : Int))), (7, .int (iI ((k + 1 : Nat) : Int)))]) [1, 2, 3, 4, 5, 6, 7, 0] rfl ?_
                  exact ih17 (k + 1) h (by omega) (by omega) hVn
                · have hpk : P (k : Int) = (sp : Int) := by omega
                  obtain ⟨hc0, hc1, hc2⟩ := hRte.put (show k < 20 by omega) hbt hpk
                  have hc3 : cIx P m (sp : Int) (k + 1) = 1 := cIx_t ⟨hbt, hpk⟩
                  have hVn : VR S q pl (up2 h (q 88) ((clP pl (sp : Int) n + cIx P m (sp : Int) k : Nat) : Int) (sp : Int)) (clP pl (sp : Int) n + cIx P m (sp : Int) (k + 1)) := by have h9 := hV2.put (v := (sp : Int)) (by rw [hc0]; exact hc2); rw [hc3]; rw [hc0] at h9 ⊢; exact h9
                  refine KAload_n C dL_route_43 rfl 3 rfl ?_
                  refine KIload C dL_route_44 5 rfl ?_
                  refine KIload C dL_route_46 6 rfl ?_
                  refine KIast (S := wI S h) C 9 (hT.at0 88 20) (hT.ln0 88 9) ⟨by omega, by omega⟩ (by omega) ⟨by omega, by omega⟩ dL_route_48 ?_
                  refine KIinc (v := ((clP pl (sp : Int) n + cIx P m (sp : Int) (k + 1) : Nat) : Int)) (lv' := [(5, .int (iI ((clP pl (sp : Int) n + cIx P m (sp : Int) (k + 1) : Nat) : Int))), (0, .int (iI (m : Int))), (1, .ref (q 81)), (2, .ref (q 87)), (3, .ref (q 88)), (4, .ref (q 80)), (6, .int (iI (sp : Int))), (7, .int (iI (k : Int)))]) C dL_route_49 5 rfl (by omega) (by decide) rfl ?_
                  refine KIinc (v := ((k + 1 : Nat) : Int)) (lv' := [(7, .int (iI ((k + 1 : Nat) : Int))), (5, .int (iI ((clP pl (sp : Int) n + cIx P m (sp : Int) (k + 1) : Nat) : Int))), (0, .int (iI (m : Int))), (1, .ref (q 81)), (2, .ref (q 87)), (3, .ref (q 88)), (4, .ref (q 80)), (6, .int (iI (sp : Int)))]) C dL_route_52 7 rfl (by omega) (by decide) rfl ?_
                  refine KGoto (tgt := 17) C dL_route_55 (by decide) ?_
                  refine KLv (lv' := [(0, .int (iI (m : Int))), (1, .ref (q 81)), (2, .ref (q 87)), (3, .ref (q 88)), (4, .ref (q 80)), (5, .int (iI ((clP pl (sp : Int) n + cIx P m (sp : Int) (k + 1) : Nat) : Int))), (6, .int (iI (sp : Int))), (7, .int (iI ((k + 1 : Nat) : Int)))]) [2, 3, 4, 5, 6, 1, 7, 0] rfl ?_
                  exact ih17 (k + 1) (up2 h (q 88) ((clP pl (sp : Int) n + cIx P m (sp : Int) k : Nat) : Int) (sp : Int)) (by omega) (by omega) hVn
        exact loop17 _ 0 f (Nat.lt_succ_self _) (by omega) hV
  exact loop6 _ 1 (sI S) (Nat.lt_succ_self _) (by omega) (by omega) ⟨fun _ _ _ => rfl, fun j hj => absurd hj (by rw [show ((1 : Nat) : Int) = 1 from rfl, hRte.none]; exact Nat.not_lt_zero _)⟩
