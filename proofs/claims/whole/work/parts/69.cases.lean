/-! ===== the law's cases ===== -/
abbrev LV (b0 : Nat) (q : Nat → Nat) (i : Nat) : List (Nat × Value) := [(0, .ref b0), (1, .ref (q 0)), (2, .ref (q 80)), (3, .ref (q 93)), (4, .int (iI (i : Int)))]
/-- what comes behind a case -/
def Nxt (p : Program) (l : Launch) (e : Env) (s : State) (m : MethodId) (args : Array Value) (below : List Frame) (meth : Method) (c : Code) (Q : State → Prop) (g : GG) (q : Nat → Nat) (b0 i cells slots : Nat) : Prop := ∀ (u : Sto) (z : Sig), Bth u q (gT g) z → Wk p l e room_1 s m args below meth c Q g 9 (cells + 161) (slots + 3006) 1440 (LV b0 q i) [] u
theorem KDstore {p : Program} {l : Launch} {e : Env} {R : Room} {s : State} {m : MethodId} {args : Array Value} {below : List Frame} {meth : Method} {c : Code} {Q : State → Prop} {cc : ByteArray} {nL : Nat} {own : String} {ret : Option FieldType} {g : GG} {cells slots pc : Nat} {lv lv' : List (Nat × Value)} {st : List Value} {S : Sto} (C : Cx p l s m args meth c cc nL own ret g) {i : Nat} {x : UInt64} (hdg : decode cc pc = .ok (.dstore i, 2)) (hn : i + 1 < nL) (h : (i, Value.double x) :: lv.filter (fun q => !(q.1 == i) && (!(q.1 == i + 1) && !(q.1 + 1 == i && q.2.category == 2))) = lv') (kk : Wk p l e R s m args below meth c Q g nL cells slots (pc + 2) lv' st S) : Wk p l e R s m args below meth c Q g nL cells slots pc lv (.double x :: st) S := fun H locs ls hP hD hS hR hl => lv_dstore C.1 C.2.1 hdg hl hn h (fun ls hl => kk H locs ls hP hD hS hR hl)
theorem Wf.rgs {z : Sig} (h : Wf z) : inR (zo z : Int) ∧ inR (zb z : Int) ∧ inR (zw z) ∧ inR (za z) := by
  obtain ⟨-, h2, -, -, -, -, -, h8, h9⟩ := h
  have h1 := dn_le (zst z) (zo z)
  refine ⟨⟨by omega, by omega⟩, ⟨by omega, by omega⟩, ⟨by omega, by omega⟩, ⟨by omega, by omega⟩⟩
section
variable {p : Program} {l : Launch} {e : Env} {s : State} {m : MethodId} {args : Array Value} {below : List Frame} {meth : Method} {c : Code} {Q : State → Prop} {g : GG} {cells slots b0 L i : Nat} {xs : Nat → Int32} {S : Sto} {q : Nat → Nat} {z : Sig}
theorem cs_put (hnt : l.stackTraces = false) (C : Cx p l s m args meth c cL_law 9 RL ret g) (hnc : Ncs s) (hX : va_X b0 L xs s s.heap) (hb : b0 < gB g) (hL : L ≤ 2051) (hi : i + 3 < L) (hc : cells + 161 ≤ 601024 ∧ slots + 3006 ≤ 7293000) (h : Bth S q (gT g) z) (kk : Nxt p l e s m args below meth c Q g q b0 i cells slots) : Wk p l e room_1 s m args below meth c Q g 9 cells slots 180 (LV b0 q i) [] S := by
  obtain ⟨hT, hCR, hsg, hCn, hW⟩ := id h
  obtain ⟨⟨k9, r9, z9⟩, hA⟩ : ∃ A : Ans, A = oPut z (xs (i + 1)).toInt (xs (i + 2)).toInt (xs (i + 3)).toInt := ⟨_, rfl⟩
  have hW9 : Wf z9 := by have h9 := wf_oPut hW (xs (i + 1)).toInt (xs (i + 2)).toInt (xs (i + 3)).toInt; rw [← hA] at h9; exact h9
  refine KAload_n C dL_law_180 rfl 1 rfl ?_
  refine KAload_n C dL_law_181 rfl 0 rfl ?_
  refine KIload C dL_law_182 4 rfl ?_
  refine KIconst C dL_law_184 ?_
  refine KIadd C dL_law_185 ?_
  refine KSld C hX hb hL (i + 1) (by omega) (by omega) dL_law_186 ?_
  refine KAload_n C dL_law_187 rfl 0 rfl ?_
  refine KIload C dL_law_188 4 rfl ?_
  refine KIconst C dL_law_190 ?_
  refine KIadd C dL_law_191 ?_
  refine KSld C hX hb hL (i + 2) (by omega) (by omega) dL_law_192 ?_
  refine KAload_n C dL_law_193 rfl 0 rfl ?_
  refine KIload C dL_law_194 4 rfl ?_
  refine KIconst C dL_law_196 ?_
  refine KIadd C dL_law_197 ?_
  refine KSld C hX hb hL (i + 3) (by omega) (by omega) dL_law_198 ?_
  refine KAload_n C dL_law_199 rfl 3 rfl ?_
  refine KCallSH (As := [.ref (q 0), .int (iI (xs (i + 1)).toInt), .int (iI (xs (i + 2)).toInt), .int (iI (xs (i + 3)).toInt), .ref (q 93)]) (st := []) C hnc (ct_L_put l g hnt S q (xs (i + 1)).toInt (xs (i + 2)).toInt (xs (i + 3)).toInt z hT hW hCR (inR_of _) (inR_of _) (inR_of _) (gT g) rfl) u_ml_RL_91 u_st_yL_put u_in_RL u_cw_put hd_yL_put ⟨Nat.le_of_ble_eq_true rfl, Nat.le_of_ble_eq_true rfl⟩ ⟨by show cells + 3 ≤ 601024; omega, by show slots + 18 ≤ 7293000; omega⟩ (Nat.le_of_ble_eq_true rfl) dL_law_200 rfl (fun v1 u1 hp1 => ?_)
  rw [← hA] at hp1
  obtain ⟨rfl, hin, hcq, hj⟩ := hp1
  have hmid := h.mid hcq
  refine KSt (st2 := [.int (iI k9)]) rfl ?_
  refine KIstore (lv' := [(5, .int (iI k9)), (0, .ref b0), (1, .ref (q 0)), (2, .ref (q 80)), (3, .ref (q 93)), (4, .int (iI (i : Int)))]) C dL_law_203 (by decide) rfl ?_
  refine KAload_n C dL_law_205 rfl 3 rfl ?_
  refine KAload_n C dL_law_206 rfl 1 rfl ?_
  refine KIload C dL_law_207 5 rfl ?_
  refine KIconst C dL_law_209 ?_
  refine KIadd C dL_law_210 ?_
  refine KSld C hX hb hL (i + 1) (by omega) (by omega) dL_law_211 ?_
  refine KAload_n C dL_law_212 rfl 1 rfl ?_
  refine KIload C dL_law_213 5 rfl ?_
  refine KIconst C dL_law_215 ?_
  refine KIadd C dL_law_216 ?_
  refine KSld C hX hb hL (i + 2) (by omega) (by omega) dL_law_217 ?_
  refine KAload_n C dL_law_218 rfl 1 rfl ?_
  refine KIload C dL_law_219 5 rfl ?_
  refine KIconst C dL_law_221 ?_
  refine KIadd C dL_law_222 ?_
  refine KSld C hX hb hL (i + 3) (by omega) (by omega) dL_law_223 ?_
  refine KCallV (As := [.int (iI (xs (i + 1)).toInt), .int (iI (xs (i + 2)).toInt), .int (iI (xs (i + 3)).toInt)]) (b := q 80) (st := []) C (ct_X6_put l g u1 q (xs (i + 1)).toInt (xs (i + 2)).toInt (xs (i + 3)).toInt hmid.1 (by rw [hmid.2.2.1]; exact hW) hmid.2.2.2.1 (inR_of _) (inR_of _) (inR_of _)) u_ml_RL_94 u_im_yX6_put u_se_yX6_put u_in_RX6 u_co_yX6_put hd_yX6_put (hmid.1.at0 80 7) (by decide) rfl rfl ⟨Nat.le_of_ble_eq_true rfl, Nat.le_of_ble_eq_true rfl⟩ ⟨by show cells + 3 + 0 ≤ 601024; omega, by show slots + 18 + 0 ≤ 7293000; omega⟩ (Nat.le_of_ble_eq_true rfl) dL_law_224 rfl (fun v2 u2 hp2 => ?_)
  obtain ⟨c2, r2, z2, e2, rfl, hmp⟩ := hp2
  rw [hmid.2.2.1, ← hA] at e2
  cases e2
  refine KSt (st2 := [.int (iI r9)]) rfl ?_
  refine KIstore (lv' := [(6, .int (iI r9)), (5, .int (iI k9)), (0, .ref b0), (1, .ref (q 0)), (2, .ref (q 80)), (3, .ref (q 93)), (4, .int (iI (i : Int)))]) C dL_law_227 (by decide) rfl ?_
  refine KAload_n C dL_law_229 rfl 4 rfl ?_
  refine KCallV (As := []) (b := q 80) (st := []) C (ct_X6_thrown l g u2 q (hmp.top hmid.1)) u_ml_RL_95 u_im_yX6_thrown u_se_yX6_thrown u_in_RX6 u_co_yX6_thrown hd_yX6_thrown ((hmp.top hmid.1).at0 80 7) (by decide) rfl rfl ⟨Nat.le_of_ble_eq_true rfl, Nat.le_of_ble_eq_true rfl⟩ ⟨by show cells + 3 + 0 + 0 ≤ 601024; omega, by show slots + 18 + 0 + 0 ≤ 7293000; omega⟩ (Nat.le_of_ble_eq_true rfl) dL_law_230 rfl (fun v3 u3 hp3 => ?_)
  obtain ⟨rfl, rfl⟩ := hp3
  refine KSt (st2 := [.int (iI k9)]) (by rw [hmp.2.2.2.2.2.2.1]; rfl) ?_
  refine KIload C dL_law_233 1 rfl ?_
  refine KIcmp_eq C dL_law_235 rfl hin hin (fun _ => ?_) (fun h9 => absurd rfl h9)
  refine KIload C dL_law_240 1 rfl ?_
  have hB := hmid.both hmp hW9
  refine KIf_ne C dL_law_242 rfl hin (fun _ => ?_) (fun h0 => ?_)
  · refine KGoto C dL_law_257 rfl ?_
    refine KLv [2, 3, 4, 5, 6] rfl ?_
    exact KWiden (by omega) (by omega) (kk u2 z9 hB)
  · refine KAload_n C dL_law_245 rfl 5 rfl ?_
    refine KIconst C dL_law_246 ?_
    refine KLald C 1 (hB.1.at0 93 23) (hB.1.ln0 93 1) ⟨by decide, by decide⟩ (by decide) ((hmid.out hmp).trans (hj h0)) dL_law_247 ?_
    refine KIload C dL_law_248 0 rfl ?_
    refine KTop (iI_of (iI r9)).symm ?_
    refine KI2l C dL_law_250 (inR_of _) ?_
    refine KLcmp C dL_law_251 ?_
    refine KTop (lg_cmp_rfl _) ?_
    refine KIf_eq C dL_law_252 rfl inR_0 (fun _ => ?_) (fun h9 => absurd rfl h9)
    refine KGoto C dL_law_257 rfl ?_
    refine KLv [2, 3, 4, 5, 6] rfl ?_
    exact KWiden (by omega) (by omega) (kk u2 z9 hB)
theorem cs_layOut (hnt : l.stackTraces = false) (C : Cx p l s m args meth c cL_law 9 RL ret g) (hnc : Ncs s) (hX : va_X b0 L xs s s.heap) (hb : b0 < gB g) (hL : L ≤ 2051) (hi : i + 3 < L) (hc : cells + 161 ≤ 601024 ∧ slots + 3006 ≤ 7293000) (h : Bth S q (gT g) z) (kk : Nxt p l e s m args below meth c Q g q b0 i cells slots) : Wk p l e room_1 s m args below meth c Q g 9 cells slots 260 (LV b0 q i) [] S := by
  obtain ⟨hT, hCR, hsg, hCn, hW⟩ := id h
  obtain ⟨⟨k9, r9, z9⟩, hA⟩ : ∃ A : Ans, A = oLay z := ⟨_, rfl⟩
  have hW9 : Wf z9 := by have h9 := wf_oLay hW; rw [← hA] at h9; exact h9
  refine KAload_n C dL_law_260 rfl 1 rfl ?_
  refine KAload_n C dL_law_261 rfl 3 rfl ?_
  refine KCallSH (As := [.ref (q 0), .ref (q 93)]) (st := []) C hnc (ct_L_layOut l g hnt S q z hT hW hCR (gT g) rfl) u_ml_RL_98 u_st_yL_layOut u_in_RL u_cw_layOut hd_yL_layOut ⟨Nat.le_of_ble_eq_true rfl, Nat.le_of_ble_eq_true rfl⟩ ⟨by show cells + 1 ≤ 601024; omega, by show slots + 6 ≤ 7293000; omega⟩ (Nat.le_of_ble_eq_true rfl) dL_law_262 rfl (fun v1 u1 hp1 => ?_)
  rw [← hA] at hp1
  obtain ⟨rfl, hin, hcq, hj⟩ := hp1
  have hmid := h.mid hcq
  refine KSt (st2 := [.int (iI k9)]) rfl ?_
  refine KIstore (lv' := [(5, .int (iI k9)), (0, .ref b0), (1, .ref (q 0)), (2, .ref (q 80)), (3, .ref (q 93)), (4, .int (iI (i : Int)))]) C dL_law_265 (by decide) rfl ?_
  refine KAload_n C dL_law_267 rfl 3 rfl ?_
  refine KCallV (As := []) (b := q 80) (st := []) C (ct_X6_layOut l g u1 q hmid.1 (by rw [hmid.2.2.1]; exact hW) hmid.2.2.2.1) u_ml_RL_101 u_im_yX6_layOut u_se_yX6_layOut u_in_RX6 u_co_yX6_layOut hd_yX6_layOut (hmid.1.at0 80 7) (by decide) rfl rfl ⟨Nat.le_of_ble_eq_true rfl, Nat.le_of_ble_eq_true rfl⟩ ⟨by show cells + 1 + 0 ≤ 601024; omega, by show slots + 6 + 0 ≤ 7293000; omega⟩ (Nat.le_of_ble_eq_true rfl) dL_law_268 rfl (fun v2 u2 hp2 => ?_)
  obtain ⟨c2, r2, z2, e2, rfl, hmp⟩ := hp2
  rw [hmid.2.2.1, ← hA] at e2
  cases e2
  refine KSt (st2 := [.int (iI r9)]) rfl ?_
  refine KIstore (lv' := [(6, .int (iI r9)), (5, .int (iI k9)), (0, .ref b0), (1, .ref (q 0)), (2, .ref (q 80)), (3, .ref (q 93)), (4, .int (iI (i : Int)))]) C dL_law_271 (by decide) rfl ?_
  refine KAload_n C dL_law_273 rfl 4 rfl ?_
  refine KCallV (As := []) (b := q 80) (st := []) C (ct_X6_thrown l g u2 q (hmp.top hmid.1)) u_ml_RL_95 u_im_yX6_thrown u_se_yX6_thrown u_in_RX6 u_co_yX6_thrown hd_yX6_thrown ((hmp.top hmid.1).at0 80 7) (by decide) rfl rfl ⟨Nat.le_of_ble_eq_true rfl, Nat.le_of_ble_eq_true rfl⟩ ⟨by show cells + 1 + 0 + 0 ≤ 601024; omega, by show slots + 6 + 0 + 0 ≤ 7293000; omega⟩ (Nat.le_of_ble_eq_true rfl) dL_law_274 rfl (fun v3 u3 hp3 => ?_)
  obtain ⟨rfl, rfl⟩ := hp3
  refine KSt (st2 := [.int (iI k9)]) (by rw [hmp.2.2.2.2.2.2.1]; rfl) ?_
  refine KIload C dL_law_277 1 rfl ?_
  refine KIcmp_eq C dL_law_279 rfl hin hin (fun _ => ?_) (fun h9 => absurd rfl h9)
  refine KIload C dL_law_284 1 rfl ?_
  have hB := hmid.both hmp hW9
  refine KIf_ne C dL_law_286 rfl hin (fun _ => ?_) (fun h0 => ?_)
  · refine KGoto C dL_law_301 rfl ?_
    refine KLv [2, 3, 4, 5, 6] rfl ?_
    exact KWiden (by omega) (by omega) (kk u2 z9 hB)
  · refine KAload_n C dL_law_289 rfl 5 rfl ?_
    refine KIconst C dL_law_290 ?_
    refine KLald C 1 (hB.1.at0 93 23) (hB.1.ln0 93 1) ⟨by decide, by decide⟩ (by decide) ((hmid.out hmp).trans (hj h0)) dL_law_291 ?_
    refine KIload C dL_law_292 0 rfl ?_
    refine KTop (iI_of (iI r9)).symm ?_
    refine KI2l C dL_law_294 (inR_of _) ?_
    refine KLcmp C dL_law_295 ?_
    refine KTop (lg_cmp_rfl _) ?_
    refine KIf_eq C dL_law_296 rfl inR_0 (fun _ => ?_) (fun h9 => absurd rfl h9)
    refine KGoto C dL_law_301 rfl ?_
    refine KLv [2, 3, 4, 5, 6] rfl ?_
    exact KWiden (by omega) (by omega) (kk u2 z9 hB)
theorem cs_placeOf (hnt : l.stackTraces = false) (C : Cx p l s m args meth c cL_law 9 RL ret g) (hnc : Ncs s) (hX : va_X b0 L xs s s.heap) (hb : b0 < gB g) (hL : L ≤ 2051) (hi : i + 3 < L) (hc : cells + 161 ≤ 601024 ∧ slots + 3006 ≤ 7293000) (h : Bth S q (gT g) z) (kk : Nxt p l e s m args below meth c Q g q b0 i cells slots) : Wk p l e room_1 s m args below meth c Q g 9 cells slots 304 (LV b0 q i) [] S := by
  obtain ⟨hT, hCR, hsg, hCn, hW⟩ := id h
  obtain ⟨⟨k9, r9, z9⟩, hA⟩ : ∃ A : Ans, A = oPl z (xs (i + 1)).toInt := ⟨_, rfl⟩
  have hW9 : Wf z9 := by have h9 := wf_oPl hW (xs (i + 1)).toInt; rw [← hA] at h9; exact h9
  refine KAload_n C dL_law_304 rfl 1 rfl ?_
  refine KAload_n C dL_law_305 rfl 0 rfl ?_
  refine KIload C dL_law_306 4 rfl ?_
  refine KIconst C dL_law_308 ?_
  refine KIadd C dL_law_309 ?_
  refine KSld C hX hb hL (i + 1) (by omega) (by omega) dL_law_310 ?_
  refine KAload_n C dL_law_311 rfl 3 rfl ?_
  refine KCallSH (As := [.ref (q 0), .int (iI (xs (i + 1)).toInt), .ref (q 93)]) (st := []) C hnc (ct_L_placeOf l g hnt S q (xs (i + 1)).toInt z hT hW hCR (inR_of _) (gT g) rfl) u_ml_RL_102 u_st_yL_placeOf u_in_RL u_cw_placeOf hd_yL_placeOf ⟨Nat.le_of_ble_eq_true rfl, Nat.le_of_ble_eq_true rfl⟩ ⟨by show cells + 1 ≤ 601024; omega, by show slots + 6 ≤ 7293000; omega⟩ (Nat.le_of_ble_eq_true rfl) dL_law_312 rfl (fun v1 u1 hp1 => ?_)
  rw [← hA] at hp1
  obtain ⟨rfl, hin, hcq, hj⟩ := hp1
  have hmid := h.mid hcq
  refine KSt (st2 := [.int (iI k9)]) rfl ?_
  refine KIstore (lv' := [(5, .int (iI k9)), (0, .ref b0), (1, .ref (q 0)), (2, .ref (q 80)), (3, .ref (q 93)), (4, .int (iI (i : Int)))]) C dL_law_315 (by decide) rfl ?_
  refine KAload_n C dL_law_317 rfl 3 rfl ?_
  refine KAload_n C dL_law_318 rfl 1 rfl ?_
  refine KIload C dL_law_319 5 rfl ?_
  refine KIconst C dL_law_321 ?_
  refine KIadd C dL_law_322 ?_
  refine KSld C hX hb hL (i + 1) (by omega) (by omega) dL_law_323 ?_
  refine KCallV (As := [.int (iI (xs (i + 1)).toInt)]) (b := q 80) (st := []) C (ct_X6_placeOf l g u1 q (xs (i + 1)).toInt hmid.1 (by rw [hmid.2.2.1]; exact hW) hmid.2.2.2.1 (inR_of _)) u_ml_RL_105 u_im_yX6_placeOf u_se_yX6_placeOf u_in_RX6 u_co_yX6_placeOf hd_yX6_placeOf (hmid.1.at0 80 7) (by decide) rfl rfl ⟨Nat.le_of_ble_eq_true rfl, Nat.le_of_ble_eq_true rfl⟩ ⟨by show cells + 1 + 0 ≤ 601024; omega, by show slots + 6 + 0 ≤ 7293000; omega⟩ (Nat.le_of_ble_eq_true rfl) dL_law_324 rfl (fun v2 u2 hp2 => ?_)
  obtain ⟨c2, r2, z2, e2, rfl, hmp⟩ := hp2
  rw [hmid.2.2.1, ← hA] at e2
  cases e2
  refine KSt (st2 := [.int (iI r9)]) rfl ?_
  refine KIstore (lv' := [(6, .int (iI r9)), (5, .int (iI k9)), (0, .ref b0), (1, .ref (q 0)), (2, .ref (q 80)), (3, .ref (q 93)), (4, .int (iI (i : Int)))]) C dL_law_327 (by decide) rfl ?_
  refine KAload_n C dL_law_329 rfl 4 rfl ?_
  refine KCallV (As := []) (b := q 80) (st := []) C (ct_X6_thrown l g u2 q (hmp.top hmid.1)) u_ml_RL_95 u_im_yX6_thrown u_se_yX6_thrown u_in_RX6 u_co_yX6_thrown hd_yX6_thrown ((hmp.top hmid.1).at0 80 7) (by decide) rfl rfl ⟨Nat.le_of_ble_eq_true rfl, Nat.le_of_ble_eq_true rfl⟩ ⟨by show cells + 1 + 0 + 0 ≤ 601024; omega, by show slots + 6 + 0 + 0 ≤ 7293000; omega⟩ (Nat.le_of_ble_eq_true rfl) dL_law_330 rfl (fun v3 u3 hp3 => ?_)
  obtain ⟨rfl, rfl⟩ := hp3
  refine KSt (st2 := [.int (iI k9)]) (by rw [hmp.2.2.2.2.2.2.1]; rfl) ?_
  refine KIload C dL_law_333 1 rfl ?_
  refine KIcmp_eq C dL_law_335 rfl hin hin (fun _ => ?_) (fun h9 => absurd rfl h9)
  refine KIload C dL_law_340 1 rfl ?_
  have hB := hmid.both hmp hW9
  refine KIf_ne C dL_law_342 rfl hin (fun _ => ?_) (fun h0 => ?_)
  · refine KGoto C dL_law_357 rfl ?_
    refine KLv [2, 3, 4, 5, 6] rfl ?_
    exact KWiden (by omega) (by omega) (kk u2 z9 hB)
  · refine KAload_n C dL_law_345 rfl 5 rfl ?_
    refine KIconst C dL_law_346 ?_
    refine KLald C 1 (hB.1.at0 93 23) (hB.1.ln0 93 1) ⟨by decide, by decide⟩ (by decide) ((hmid.out hmp).trans (hj h0)) dL_law_347 ?_
    refine KIload C dL_law_348 0 rfl ?_
    refine KTop (iI_of (iI r9)).symm ?_
    refine KI2l C dL_law_350 (inR_of _) ?_
    refine KLcmp C dL_law_351 ?_
    refine KTop (lg_cmp_rfl _) ?_
    refine KIf_eq C dL_law_352 rfl inR_0 (fun _ => ?_) (fun h9 => absurd rfl h9)
    refine KGoto C dL_law_357 rfl ?_
    refine KLv [2, 3, 4, 5, 6] rfl ?_
    exact KWiden (by omega) (by omega) (kk u2 z9 hB)
theorem cs_turnover (hnt : l.stackTraces = false) (C : Cx p l s m args meth c cL_law 9 RL ret g) (hnc : Ncs s) (hX : va_X b0 L xs s s.heap) (hb : b0 < gB g) (hL : L ≤ 2051) (hi : i + 3 < L) (hc : cells + 161 ≤ 601024 ∧ slots + 3006 ≤ 7293000) (h : Bth S q (gT g) z) (kk : Nxt p l e s m args below meth c Q g q b0 i cells slots) : Wk p l e room_1 s m args below meth c Q g 9 cells slots 360 (LV b0 q i) [] S := by
  obtain ⟨hT, hCR, hsg, hCn, hW⟩ := id h
  obtain ⟨⟨k9, r9, z9⟩, hA⟩ : ∃ A : Ans, A = oTv z (xs (i + 1)).toInt := ⟨_, rfl⟩
  have hW9 : Wf z9 := by have h9 := wf_oTv hW (xs (i + 1)).toInt; rw [← hA] at h9; exact h9
  refine KAload_n C dL_law_360 rfl 1 rfl ?_
  refine KAload_n C dL_law_361 rfl 0 rfl ?_
  refine KIload C dL_law_362 4 rfl ?_
  refine KIconst C dL_law_364 ?_
  refine KIadd C dL_law_365 ?_
  refine KSld C hX hb hL (i + 1) (by omega) (by omega) dL_law_366 ?_
  refine KAload_n C dL_law_367 rfl 3 rfl ?_
  refine KCallSH (As := [.ref (q 0), .int (iI (xs (i + 1)).toInt), .ref (q 93)]) (st := []) C hnc (ct_L_turnover l g hnt S q (xs (i + 1)).toInt z hT hW hCR (inR_of _) (gT g) rfl) u_ml_RL_106 u_st_yL_turnover u_in_RL u_cw_turnover hd_yL_turnover ⟨Nat.le_of_ble_eq_true rfl, Nat.le_of_ble_eq_true rfl⟩ ⟨by show cells + 1 ≤ 601024; omega, by show slots + 6 ≤ 7293000; omega⟩ (Nat.le_of_ble_eq_true rfl) dL_law_368 rfl (fun v1 u1 hp1 => ?_)
  rw [← hA] at hp1
  obtain ⟨rfl, hin, hcq, hj⟩ := hp1
  have hmid := h.mid hcq
  refine KSt (st2 := [.int (iI k9)]) rfl ?_
  refine KIstore (lv' := [(5, .int (iI k9)), (0, .ref b0), (1, .ref (q 0)), (2, .ref (q 80)), (3, .ref (q 93)), (4, .int (iI (i : Int)))]) C dL_law_371 (by decide) rfl ?_
  refine KAload_n C dL_law_373 rfl 3 rfl ?_
  refine KAload_n C dL_law_374 rfl 1 rfl ?_
  refine KIload C dL_law_375 5 rfl ?_
  refine KIconst C dL_law_377 ?_
  refine KIadd C dL_law_378 ?_
  refine KSld C hX hb hL (i + 1) (by omega) (by omega) dL_law_379 ?_
  refine KCallV (As := [.int (iI (xs (i + 1)).toInt)]) (b := q 80) (st := []) C (ct_X6_turnover l g u1 q (xs (i + 1)).toInt hmid.1 (by rw [hmid.2.2.1]; exact hW) hmid.2.2.2.1 (inR_of _)) u_ml_RL_108 u_im_yX6_turnover u_se_yX6_turnover u_in_RX6 u_co_yX6_turnover hd_yX6_turnover (hmid.1.at0 80 7) (by decide) rfl rfl ⟨Nat.le_of_ble_eq_true rfl, Nat.le_of_ble_eq_true rfl⟩ ⟨by show cells + 1 + 0 ≤ 601024; omega, by show slots + 6 + 0 ≤ 7293000; omega⟩ (Nat.le_of_ble_eq_true rfl) dL_law_380 rfl (fun v2 u2 hp2 => ?_)
  obtain ⟨c2, r2, z2, e2, rfl, hmp⟩ := hp2
  rw [hmid.2.2.1, ← hA] at e2
  cases e2
  refine KSt (st2 := [.int (iI r9)]) rfl ?_
  refine KIstore (lv' := [(6, .int (iI r9)), (5, .int (iI k9)), (0, .ref b0), (1, .ref (q 0)), (2, .ref (q 80)), (3, .ref (q 93)), (4, .int (iI (i : Int)))]) C dL_law_383 (by decide) rfl ?_
  refine KAload_n C dL_law_385 rfl 4 rfl ?_
  refine KCallV (As := []) (b := q 80) (st := []) C (ct_X6_thrown l g u2 q (hmp.top hmid.1)) u_ml_RL_95 u_im_yX6_thrown u_se_yX6_thrown u_in_RX6 u_co_yX6_thrown hd_yX6_thrown ((hmp.top hmid.1).at0 80 7) (by decide) rfl rfl ⟨Nat.le_of_ble_eq_true rfl, Nat.le_of_ble_eq_true rfl⟩ ⟨by show cells + 1 + 0 + 0 ≤ 601024; omega, by show slots + 6 + 0 + 0 ≤ 7293000; omega⟩ (Nat.le_of_ble_eq_true rfl) dL_law_386 rfl (fun v3 u3 hp3 => ?_)
  obtain ⟨rfl, rfl⟩ := hp3
  refine KSt (st2 := [.int (iI k9)]) (by rw [hmp.2.2.2.2.2.2.1]; rfl) ?_
  refine KIload C dL_law_389 1 rfl ?_
  refine KIcmp_eq C dL_law_391 rfl hin hin (fun _ => ?_) (fun h9 => absurd rfl h9)
  refine KIload C dL_law_396 1 rfl ?_
  have hB := hmid.both hmp hW9
  refine KIf_ne C dL_law_398 rfl hin (fun _ => ?_) (fun h0 => ?_)
  · refine KGoto C dL_law_413 rfl ?_
    refine KLv [2, 3, 4, 5, 6] rfl ?_
    exact KWiden (by omega) (by omega) (kk u2 z9 hB)
  · refine KAload_n C dL_law_401 rfl 5 rfl ?_
    refine KIconst C dL_law_402 ?_
    refine KLald C 1 (hB.1.at0 93 23) (hB.1.ln0 93 1) ⟨by decide, by decide⟩ (by decide) ((hmid.out hmp).trans (hj h0)) dL_law_403 ?_
    refine KIload C dL_law_404 0 rfl ?_
    refine KTop (iI_of (iI r9)).symm ?_
    refine KI2l C dL_law_406 (inR_of _) ?_
    refine KLcmp C dL_law_407 ?_
    refine KTop (lg_cmp_rfl _) ?_
    refine KIf_eq C dL_law_408 rfl inR_0 (fun _ => ?_) (fun h9 => absurd rfl h9)
    refine KGoto C dL_law_413 rfl ?_
    refine KLv [2, 3, 4, 5, 6] rfl ?_
    exact KWiden (by omega) (by omega) (kk u2 z9 hB)
theorem cs_distance (hnt : l.stackTraces = false) (C : Cx p l s m args meth c cL_law 9 RL ret g) (hnc : Ncs s) (hX : va_X b0 L xs s s.heap) (hb : b0 < gB g) (hL : L ≤ 2051) (hi : i + 3 < L) (hc : cells + 161 ≤ 601024 ∧ slots + 3006 ≤ 7293000) (h : Bth S q (gT g) z) (kk : Nxt p l e s m args below meth c Q g q b0 i cells slots) : Wk p l e room_1 s m args below meth c Q g 9 cells slots 416 (LV b0 q i) [] S := by
  obtain ⟨hT, hCR, hsg, hCn, hW⟩ := id h
  obtain ⟨⟨k9, r9, z9⟩, hA⟩ : ∃ A : Ans, A = oDi z (xs (i + 1)).toInt (xs (i + 2)).toInt := ⟨_, rfl⟩
  have hW9 : Wf z9 := by have h9 := wf_oDi hW (xs (i + 1)).toInt (xs (i + 2)).toInt; rw [← hA] at h9; exact h9
  refine KAload_n C dL_law_416 rfl 1 rfl ?_
  refine KAload_n C dL_law_417 rfl 0 rfl ?_
  refine KIload C dL_law_418 4 rfl ?_
  refine KIconst C dL_law_420 ?_
  refine KIadd C dL_law_421 ?_
  refine KSld C hX hb hL (i + 1) (by omega) (by omega) dL_law_422 ?_
  refine KAload_n C dL_law_423 rfl 0 rfl ?_
  refine KIload C dL_law_424 4 rfl ?_
  refine KIconst C dL_law_426 ?_
  refine KIadd C dL_law_427 ?_
  refine KSld C hX hb hL (i + 2) (by omega) (by omega) dL_law_428 ?_
  refine KAload_n C dL_law_429 rfl 3 rfl ?_
  refine KCallSH (As := [.ref (q 0), .int (iI (xs (i + 1)).toInt), .int (iI (xs (i + 2)).toInt), .ref (q 93)]) (st := []) C hnc (ct_L_distance l g hnt S q (xs (i + 1)).toInt (xs (i + 2)).toInt z hT hW hCR (inR_of _) (inR_of _) (gT g) rfl) u_ml_RL_109 u_st_yL_distance u_in_RL u_cw_distance hd_yL_distance ⟨Nat.le_of_ble_eq_true rfl, Nat.le_of_ble_eq_true rfl⟩ ⟨by show cells + 3 ≤ 601024; omega, by show slots + 18 ≤ 7293000; omega⟩ (Nat.le_of_ble_eq_true rfl) dL_law_430 rfl (fun v1 u1 hp1 => ?_)
  rw [← hA] at hp1
  obtain ⟨rfl, hin, hcq, hj⟩ := hp1
  have hmid := h.mid hcq
  refine KSt (st2 := [.int (iI k9)]) rfl ?_
  refine KIstore (lv' := [(5, .int (iI k9)), (0, .ref b0), (1, .ref (q 0)), (2, .ref (q 80)), (3, .ref (q 93)), (4, .int (iI (i : Int)))]) C dL_law_433 (by decide) rfl ?_
  refine KAload_n C dL_law_435 rfl 3 rfl ?_
  refine KAload_n C dL_law_436 rfl 1 rfl ?_
  refine KIload C dL_law_437 5 rfl ?_
  refine KIconst C dL_law_439 ?_
  refine KIadd C dL_law_440 ?_
  refine KSld C hX hb hL (i + 1) (by omega) (by omega) dL_law_441 ?_
  refine KAload_n C dL_law_442 rfl 1 rfl ?_
  refine KIload C dL_law_443 5 rfl ?_
  refine KIconst C dL_law_445 ?_
  refine KIadd C dL_law_446 ?_
  refine KSld C hX hb hL (i + 2) (by omega) (by omega) dL_law_447 ?_
  refine KCallV (As := [.int (iI (xs (i + 1)).toInt), .int (iI (xs (i + 2)).toInt)]) (b := q 80) (st := []) C (ct_X6_distance l g u1 q (xs (i + 1)).toInt (xs (i + 2)).toInt hmid.1 (by rw [hmid.2.2.1]; exact hW) hmid.2.2.2.1 (inR_of _) (inR_of _)) u_ml_RL_112 u_im_yX6_distance u_se_yX6_distance u_in_RX6 u_co_yX6_distance hd_yX6_distance (hmid.1.at0 80 7) (by decide) rfl rfl ⟨Nat.le_of_ble_eq_true rfl, Nat.le_of_ble_eq_true rfl⟩ ⟨by show cells + 3 + 0 ≤ 601024; omega, by show slots + 18 + 0 ≤ 7293000; omega⟩ (Nat.le_of_ble_eq_true rfl) dL_law_448 rfl (fun v2 u2 hp2 => ?_)
  obtain ⟨c2, r2, z2, e2, rfl, hmp⟩ := hp2
  rw [hmid.2.2.1, ← hA] at e2
  cases e2
  refine KSt (st2 := [.int (iI r9)]) rfl ?_
  refine KIstore (lv' := [(6, .int (iI r9)), (5, .int (iI k9)), (0, .ref b0), (1, .ref (q 0)), (2, .ref (q 80)), (3, .ref (q 93)), (4, .int (iI (i : Int)))]) C dL_law_451 (by decide) rfl ?_
  refine KAload_n C dL_law_453 rfl 4 rfl ?_
  refine KCallV (As := []) (b := q 80) (st := []) C (ct_X6_thrown l g u2 q (hmp.top hmid.1)) u_ml_RL_95 u_im_yX6_thrown u_se_yX6_thrown u_in_RX6 u_co_yX6_thrown hd_yX6_thrown ((hmp.top hmid.1).at0 80 7) (by decide) rfl rfl ⟨Nat.le_of_ble_eq_true rfl, Nat.le_of_ble_eq_true rfl⟩ ⟨by show cells + 3 + 0 + 0 ≤ 601024; omega, by show slots + 18 + 0 + 0 ≤ 7293000; omega⟩ (Nat.le_of_ble_eq_true rfl) dL_law_454 rfl (fun v3 u3 hp3 => ?_)
  obtain ⟨rfl, rfl⟩ := hp3
  refine KSt (st2 := [.int (iI k9)]) (by rw [hmp.2.2.2.2.2.2.1]; rfl) ?_
  refine KIload C dL_law_457 1 rfl ?_
  refine KIcmp_eq C dL_law_459 rfl hin hin (fun _ => ?_) (fun h9 => absurd rfl h9)
  refine KIload C dL_law_464 1 rfl ?_
  have hB := hmid.both hmp hW9
  refine KIf_ne C dL_law_466 rfl hin (fun _ => ?_) (fun h0 => ?_)
  · refine KGoto C dL_law_481 rfl ?_
    refine KLv [2, 3, 4, 5, 6] rfl ?_
    exact KWiden (by omega) (by omega) (kk u2 z9 hB)
  · refine KAload_n C dL_law_469 rfl 5 rfl ?_
    refine KIconst C dL_law_470 ?_
    refine KLald C 1 (hB.1.at0 93 23) (hB.1.ln0 93 1) ⟨by decide, by decide⟩ (by decide) ((hmid.out hmp).trans (hj h0)) dL_law_471 ?_
    refine KIload C dL_law_472 0 rfl ?_
    refine KTop (iI_of (iI r9)).symm ?_
    refine KI2l C dL_law_474 (inR_of _) ?_
    refine KLcmp C dL_law_475 ?_
    refine KTop (lg_cmp_rfl _) ?_
    refine KIf_eq C dL_law_476 rfl inR_0 (fun _ => ?_) (fun h9 => absurd rfl h9)
    refine KGoto C dL_law_481 rfl ?_
    refine KLv [2, 3, 4, 5, 6] rfl ?_
    exact KWiden (by omega) (by omega) (kk u2 z9 hB)
theorem cs_order (hnt : l.stackTraces = false) (C : Cx p l s m args meth c cL_law 9 RL ret g) (hnc : Ncs s) (hX : va_X b0 L xs s s.heap) (hb : b0 < gB g) (hL : L ≤ 2051) (hi : i + 3 < L) (hc : cells + 161 ≤ 601024 ∧ slots + 3006 ≤ 7293000) (h : Bth S q (gT g) z) (kk : Nxt p l e s m args below meth c Q g q b0 i cells slots) : Wk p l e room_1 s m args below meth c Q g 9 cells slots 484 (LV b0 q i) [] S := by
  obtain ⟨hT, hCR, hsg, hCn, hW⟩ := id h
  obtain ⟨⟨k9, r9, z9⟩, hA⟩ : ∃ A : Ans, A = oOrd z (xs (i + 1)).toInt := ⟨_, rfl⟩
  have hW9 : Wf z9 := by have h9 := wf_oOrd hW (xs (i + 1)).toInt; rw [← hA] at h9; exact h9
  refine KAload_n C dL_law_484 rfl 1 rfl ?_
  refine KAload_n C dL_law_485 rfl 0 rfl ?_
  refine KIload C dL_law_486 4 rfl ?_
  refine KIconst C dL_law_488 ?_
  refine KIadd C dL_law_489 ?_
  refine KSld C hX hb hL (i + 1) (by omega) (by omega) dL_law_490 ?_
  refine KAload_n C dL_law_491 rfl 3 rfl ?_
  refine KCallSH (As := [.ref (q 0), .int (iI (xs (i + 1)).toInt), .ref (q 93)]) (st := []) C hnc (ct_L_order l g hnt S q (xs (i + 1)).toInt z hT hW hCR (inR_of _) (gT g) rfl) u_ml_RL_113 u_st_yL_order u_in_RL u_cw_order hd_yL_order ⟨Nat.le_of_ble_eq_true rfl, Nat.le_of_ble_eq_true rfl⟩ ⟨by show cells + 4 ≤ 601024; omega, by show slots + 90 ≤ 7293000; omega⟩ (Nat.le_of_ble_eq_true rfl) dL_law_492 rfl (fun v1 u1 hp1 => ?_)
  rw [← hA] at hp1
  obtain ⟨rfl, hin, hcq, hj⟩ := hp1
  have hmid := h.mid hcq
  refine KSt (st2 := [.int (iI k9)]) rfl ?_
  refine KIstore (lv' := [(5, .int (iI k9)), (0, .ref b0), (1, .ref (q 0)), (2, .ref (q 80)), (3, .ref (q 93)), (4, .int (iI (i : Int)))]) C dL_law_495 (by decide) rfl ?_
  refine KAload_n C dL_law_497 rfl 3 rfl ?_
  refine KAload_n C dL_law_498 rfl 1 rfl ?_
  refine KIload C dL_law_499 5 rfl ?_
  refine KIconst C dL_law_501 ?_
  refine KIadd C dL_law_502 ?_
  refine KSld C hX hb hL (i + 1) (by omega) (by omega) dL_law_503 ?_
  refine KCallV (As := [.int (iI (xs (i + 1)).toInt)]) (b := q 80) (st := []) C (ct_X6_order l g u1 q (xs (i + 1)).toInt hmid.1 (by rw [hmid.2.2.1]; exact hW) hmid.2.2.2.1 (inR_of _)) u_ml_RL_115 u_im_yX6_order u_se_yX6_order u_in_RX6 u_co_yX6_order hd_yX6_order (hmid.1.at0 80 7) (by decide) rfl rfl ⟨Nat.le_of_ble_eq_true rfl, Nat.le_of_ble_eq_true rfl⟩ ⟨by show cells + 4 + 0 ≤ 601024; omega, by show slots + 90 + 0 ≤ 7293000; omega⟩ (Nat.le_of_ble_eq_true rfl) dL_law_504 rfl (fun v2 u2 hp2 => ?_)
  obtain ⟨c2, r2, z2, e2, rfl, hmp⟩ := hp2
  rw [hmid.2.2.1, ← hA] at e2
  cases e2
  refine KSt (st2 := [.int (iI r9)]) rfl ?_
  refine KIstore (lv' := [(6, .int (iI r9)), (5, .int (iI k9)), (0, .ref b0), (1, .ref (q 0)), (2, .ref (q 80)), (3, .ref (q 93)), (4, .int (iI (i : Int)))]) C dL_law_507 (by decide) rfl ?_
  refine KAload_n C dL_law_509 rfl 4 rfl ?_
  refine KCallV (As := []) (b := q 80) (st := []) C (ct_X6_thrown l g u2 q (hmp.top hmid.1)) u_ml_RL_95 u_im_yX6_thrown u_se_yX6_thrown u_in_RX6 u_co_yX6_thrown hd_yX6_thrown ((hmp.top hmid.1).at0 80 7) (by decide) rfl rfl ⟨Nat.le_of_ble_eq_true rfl, Nat.le_of_ble_eq_true rfl⟩ ⟨by show cells + 4 + 0 + 0 ≤ 601024; omega, by show slots + 90 + 0 + 0 ≤ 7293000; omega⟩ (Nat.le_of_ble_eq_true rfl) dL_law_510 rfl (fun v3 u3 hp3 => ?_)
  obtain ⟨rfl, rfl⟩ := hp3
  refine KSt (st2 := [.int (iI k9)]) (by rw [hmp.2.2.2.2.2.2.1]; rfl) ?_
  refine KIload C dL_law_513 1 rfl ?_
  refine KIcmp_eq C dL_law_515 rfl hin hin (fun _ => ?_) (fun h9 => absurd rfl h9)
  refine KIload C dL_law_520 1 rfl ?_
  have hB := hmid.both hmp hW9
  refine KIf_ne C dL_law_522 rfl hin (fun _ => ?_) (fun h0 => ?_)
  · refine KGoto C dL_law_537 rfl ?_
    refine KLv [2, 3, 4, 5, 6] rfl ?_
    exact KWiden (by omega) (by omega) (kk u2 z9 hB)
  · refine KAload_n C dL_law_525 rfl 5 rfl ?_
    refine KIconst C dL_law_526 ?_
    refine KLald C 1 (hB.1.at0 93 23) (hB.1.ln0 93 1) ⟨by decide, by decide⟩ (by decide) ((hmid.out hmp).trans (hj h0)) dL_law_527 ?_
    refine KIload C dL_law_528 0 rfl ?_
    refine KTop (iI_of (iI r9)).symm ?_
    refine KI2l C dL_law_530 (inR_of _) ?_
    refine KLcmp C dL_law_531 ?_
    refine KTop (lg_cmp_rfl _) ?_
    refine KIf_eq C dL_law_532 rfl inR_0 (fun _ => ?_) (fun h9 => absurd rfl h9)
    refine KGoto C dL_law_537 rfl ?_
    refine KLv [2, 3, 4, 5, 6] rfl ?_
    exact KWiden (by omega) (by omega) (kk u2 z9 hB)
theorem cs_line (hnt : l.stackTraces = false) (C : Cx p l s m args meth c cL_law 9 RL ret g) (hnc : Ncs s) (hX : va_X b0 L xs s s.heap) (hb : b0 < gB g) (hL : L ≤ 2051) (hi : i + 3 < L) (hc : cells + 161 ≤ 601024 ∧ slots + 3006 ≤ 7293000) (h : Bth S q (gT g) z) (kk : Nxt p l e s m args below meth c Q g q b0 i cells slots) : Wk p l e room_1 s m args below meth c Q g 9 cells slots 540 (LV b0 q i) [] S := by
  obtain ⟨hT, hCR, hsg, hCn, hW⟩ := id h
  obtain ⟨⟨k9, r9, z9⟩, hA⟩ : ∃ A : Ans, A = oLin z (xs (i + 1)).toInt (xs (i + 2)).toInt (xs (i + 3)).toInt := ⟨_, rfl⟩
  have hW9 : Wf z9 := by have h9 := wf_oLin hW (xs (i + 1)).toInt (xs (i + 2)).toInt (xs (i + 3)).toInt; rw [← hA] at h9; exact h9
  refine KAload_n C dL_law_540 rfl 1 rfl ?_
  refine KAload_n C dL_law_541 rfl 0 rfl ?_
  refine KIload C dL_law_542 4 rfl ?_
  refine KIconst C dL_law_544 ?_
  refine KIadd C dL_law_545 ?_
  refine KSld C hX hb hL (i + 1) (by omega) (by omega) dL_law_546 ?_
  refine KAload_n C dL_law_547 rfl 0 rfl ?_
  refine KIload C dL_law_548 4 rfl ?_
  refine KIconst C dL_law_550 ?_
  refine KIadd C dL_law_551 ?_
  refine KSld C hX hb hL (i + 2) (by omega) (by omega) dL_law_552 ?_
  refine KAload_n C dL_law_553 rfl 0 rfl ?_
  refine KIload C dL_law_554 4 rfl ?_
  refine KIconst C dL_law_556 ?_
  refine KIadd C dL_law_557 ?_
  refine KSld C hX hb hL (i + 3) (by omega) (by omega) dL_law_558 ?_
  refine KAload_n C dL_law_559 rfl 3 rfl ?_
  refine KCallSH (As := [.ref (q 0), .int (iI (xs (i + 1)).toInt), .int (iI (xs (i + 2)).toInt), .int (iI (xs (i + 3)).toInt), .ref (q 93)]) (st := []) C hnc (ct_L_line l g hnt S q (xs (i + 1)).toInt (xs (i + 2)).toInt (xs (i + 3)).toInt z hT hW hCR (inR_of _) (inR_of _) (inR_of _) (gT g) rfl) u_ml_RL_116 u_st_yL_line u_in_RL u_cw_line hd_yL_line ⟨Nat.le_of_ble_eq_true rfl, Nat.le_of_ble_eq_true rfl⟩ ⟨by show cells + 4 ≤ 601024; omega, by show slots + 24 ≤ 7293000; omega⟩ (Nat.le_of_ble_eq_true rfl) dL_law_560 rfl (fun v1 u1 hp1 => ?_)
  rw [← hA] at hp1
  obtain ⟨rfl, hin, hcq, hj⟩ := hp1
  have hmid := h.mid hcq
  refine KSt (st2 := [.int (iI k9)]) rfl ?_
  refine KIstore (lv' := [(5, .int (iI k9)), (0, .ref b0), (1, .ref (q 0)), (2, .ref (q 80)), (3, .ref (q 93)), (4, .int (iI (i : Int)))]) C dL_law_563 (by decide) rfl ?_
  refine KAload_n C dL_law_565 rfl 3 rfl ?_
  refine KAload_n C dL_law_566 rfl 1 rfl ?_
  refine KIload C dL_law_567 5 rfl ?_
  refine KIconst C dL_law_569 ?_
  refine KIadd C dL_law_570 ?_
  refine KSld C hX hb hL (i + 1) (by omega) (by omega) dL_law_571 ?_
  refine KAload_n C dL_law_572 rfl 1 rfl ?_
  refine KIload C dL_law_573 5 rfl ?_
  refine KIconst C dL_law_575 ?_
  refine KIadd C dL_law_576 ?_
  refine KSld C hX hb hL (i + 2) (by omega) (by omega) dL_law_577 ?_
  refine KAload_n C dL_law_578 rfl 1 rfl ?_
  refine KIload C dL_law_579 5 rfl ?_
  refine KIconst C dL_law_581 ?_
  refine KIadd C dL_law_582 ?_
  refine KSld C hX hb hL (i + 3) (by omega) (by omega) dL_law_583 ?_
  refine KCallV (As := [.int (iI (xs (i + 1)).toInt), .int (iI (xs (i + 2)).toInt), .int (iI (xs (i + 3)).toInt)]) (b := q 80) (st := []) C (ct_X6_line l g u1 q (xs (i + 1)).toInt (xs (i + 2)).toInt (xs (i + 3)).toInt hmid.1 (by rw [hmid.2.2.1]; exact hW) hmid.2.2.2.1 (inR_of _) (inR_of _) (inR_of _)) u_ml_RL_118 u_im_yX6_line u_se_yX6_line u_in_RX6 u_co_yX6_line hd_yX6_line (hmid.1.at0 80 7) (by decide) rfl rfl ⟨Nat.le_of_ble_eq_true rfl, Nat.le_of_ble_eq_true rfl⟩ ⟨by show cells + 4 + 0 ≤ 601024; omega, by show slots + 24 + 0 ≤ 7293000; omega⟩ (Nat.le_of_ble_eq_true rfl) dL_law_584 rfl (fun v2 u2 hp2 => ?_)
  obtain ⟨c2, r2, z2, e2, rfl, hmp⟩ := hp2
  rw [hmid.2.2.1, ← hA] at e2
  cases e2
  refine KSt (st2 := [.int (iI r9)]) rfl ?_
  refine KIstore (lv' := [(6, .int (iI r9)), (5, .int (iI k9)), (0, .ref b0), (1, .ref (q 0)), (2, .ref (q 80)), (3, .ref (q 93)), (4, .int (iI (i : Int)))]) C dL_law_587 (by decide) rfl ?_
  refine KAload_n C dL_law_589 rfl 4 rfl ?_
  refine KCallV (As := []) (b := q 80) (st := []) C (ct_X6_thrown l g u2 q (hmp.top hmid.1)) u_ml_RL_95 u_im_yX6_thrown u_se_yX6_thrown u_in_RX6 u_co_yX6_thrown hd_yX6_thrown ((hmp.top hmid.1).at0 80 7) (by decide) rfl rfl ⟨Nat.le_of_ble_eq_true rfl, Nat.le_of_ble_eq_true rfl⟩ ⟨by show cells + 4 + 0 + 0 ≤ 601024; omega, by show slots + 24 + 0 + 0 ≤ 7293000; omega⟩ (Nat.le_of_ble_eq_true rfl) dL_law_590 rfl (fun v3 u3 hp3 => ?_)
  obtain ⟨rfl, rfl⟩ := hp3
  refine KSt (st2 := [.int (iI k9)]) (by rw [hmp.2.2.2.2.2.2.1]; rfl) ?_
  refine KIload C dL_law_593 1 rfl ?_
  refine KIcmp_eq C dL_law_595 rfl hin hin (fun _ => ?_) (fun h9 => absurd rfl h9)
  refine KIload C dL_law_600 1 rfl ?_
  have hB := hmid.both hmp hW9
  refine KIf_ne C dL_law_602 rfl hin (fun _ => ?_) (fun h0 => ?_)
  · refine KGoto C dL_law_617 rfl ?_
    refine KLv [2, 3, 4, 5, 6] rfl ?_
    exact KWiden (by omega) (by omega) (kk u2 z9 hB)
  · refine KAload_n C dL_law_605 rfl 5 rfl ?_
    refine KIconst C dL_law_606 ?_
    refine KLald C 1 (hB.1.at0 93 23) (hB.1.ln0 93 1) ⟨by decide, by decide⟩ (by decide) ((hmid.out hmp).trans (hj h0)) dL_law_607 ?_
    refine KIload C dL_law_608 0 rfl ?_
    refine KTop (iI_of (iI r9)).symm ?_
    refine KI2l C dL_law_610 (inR_of _) ?_
    refine KLcmp C dL_law_611 ?_
    refine KTop (lg_cmp_rfl _) ?_
    refine KIf_eq C dL_law_612 rfl inR_0 (fun _ => ?_) (fun h9 => absurd rfl h9)
    refine KGoto C dL_law_617 rfl ?_
    refine KLv [2, 3, 4, 5, 6] rfl ?_
    exact KWiden (by omega) (by omega) (kk u2 z9 hB)
theorem cs_orders (hnt : l.stackTraces = false) (C : Cx p l s m args meth c cL_law 9 RL ret g) (hnc : Ncs s) (hX : va_X b0 L xs s s.heap) (hb : b0 < gB g) (hL : L ≤ 2051) (hi : i + 3 < L) (hc : cells + 161 ≤ 601024 ∧ slots + 3006 ≤ 7293000) (h : Bth S q (gT g) z) (kk : Nxt p l e s m args below meth c Q g q b0 i cells slots) : Wk p l e room_1 s m args below meth c Q g 9 cells slots 620 (LV b0 q i) [] S := by
  obtain ⟨hT, ⟨w, hCw⟩, hsg, hCn, hW⟩ := id h
  have hmid : Mid S q (gT g) z z := h
  have hr : inR ((zo z : Int)) := by
    exact hW.rgs.1
  refine KAload_n C dL_law_620 rfl 1 rfl ?_
  refine KCallV (As := []) (b := q 0) (st := []) C (ct_X5_orders l g S q w z hT hCw) u_ml_RL_119 u_im_yX5_orders u_se_yX5_orders u_in_RX5 u_co_yX5_orders hd_yX5_orders (hT.at0 0 6) (by decide) rfl rfl ⟨Nat.le_of_ble_eq_true rfl, Nat.le_of_ble_eq_true rfl⟩ ⟨by show cells + 0 ≤ 601024; omega, by show slots + 0 ≤ 7293000; omega⟩ (Nat.le_of_ble_eq_true rfl) dL_law_621 rfl (fun v1 u1 hp1 => ?_)
  obtain ⟨rfl, rfl⟩ := hp1
  refine KSt (st2 := [.int (iI ((zo z : Int)))]) rfl ?_
  refine KAload_n C dL_law_624 rfl 2 rfl ?_
  refine KCallV (As := []) (b := q 80) (st := [.int (iI ((zo z : Int)))]) C (ct_X6_orders l g S q hT (by rw [hsg]; exact hW) hCn) u_ml_RL_122 u_im_yX6_orders u_se_yX6_orders u_in_RX6 u_co_yX6_orders hd_yX6_orders (hT.at0 80 7) (by decide) rfl rfl ⟨Nat.le_of_ble_eq_true rfl, Nat.le_of_ble_eq_true rfl⟩ ⟨by show cells + 0 + 0 ≤ 601024; omega, by show slots + 0 + 0 ≤ 7293000; omega⟩ (Nat.le_of_ble_eq_true rfl) dL_law_625 rfl (fun v2 u2 hp2 => ?_)
  obtain ⟨c2, r2, z2, e2, rfl, hmp⟩ := hp2
  rw [hsg] at e2
  unfold oOs at e2
  cases e2
  refine KSt (st2 := [.int (iI ((zo z : Int))), .int (iI ((zo z : Int)))]) rfl ?_
  refine KIcmp_eq C dL_law_628 rfl hr hr (fun _ => ?_) (fun h9 => absurd rfl h9)
  exact KWiden (by omega) (by omega) (kk u2 z (hmid.both hmp hW))
end
