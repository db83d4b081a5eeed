/-! ===== the law's cases ===== -/
section
variable {p : Program} {l : Launch} {e : Env} {s : State} {m : MethodId} {args : Array Value} {below : List Frame} {meth : Method} {c : Code} {Q : State → Prop} {g : GG} {cells slots b0 L i : Nat} {xs : Nat → Int32} {S : Sto} {q : Nat → Nat} {z : Sig}
theorem cs_lengthOf (hnt : l.stackTraces = false) (C : Cx p l s m args meth c cL_law 9 RL ret g) (hnc : Ncs s) (hX : va_X b0 L xs s s.heap) (hb : b0 < gB g) (hL : L ≤ 2051) (hi : i + 3 < L) (hc : cells + 161 ≤ 601024 ∧ slots + 3006 ≤ 7293000) (h : Bth S q (gT g) z) (kk : Nxt p l e s m args below meth c Q g q b0 i cells slots) : Wk p l e room_1 s m args below meth c Q g 9 cells slots 1038 (LV b0 q i) [] S := by
  obtain ⟨hT, hCR, hsg, hCn, hW⟩ := id h
  obtain ⟨⟨k9, r9, z9⟩, hA⟩ : ∃ A : Ans, A = oLo z (xs (i + 1)).toInt := ⟨_, rfl⟩
  have hW9 : Wf z9 := by have h9 := wf_oLo hW (xs (i + 1)).toInt; rw [← hA] at h9; exact h9
  refine KAload_n C dL_law_1038 rfl 1 rfl ?_
  refine KAload_n C dL_law_1039 rfl 0 rfl ?_
  refine KIload C dL_law_1040 4 rfl ?_
  refine KIconst C dL_law_1042 ?_
  refine KIadd C dL_law_1043 ?_
  refine KSld C hX hb hL (i + 1) (by omega) (by omega) dL_law_1044 ?_
  refine KAload_n C dL_law_1045 rfl 3 rfl ?_
  refine KCallSH (As := [.ref (q 0), .int (iI (xs (i + 1)).toInt), .ref (q 93)]) (st := []) C hnc (ct_L_lengthOf l g hnt S q (xs (i + 1)).toInt z hT hW hCR (inR_of _) (gT g) rfl) u_ml_RL_148 u_st_yL_lengthOf u_in_RL u_cw_lengthOf hd_yL_lengthOf ⟨Nat.le_of_ble_eq_true rfl, Nat.le_of_ble_eq_true rfl⟩ ⟨by show cells + 1 ≤ 601024; omega, by show slots + 6 ≤ 7293000; omega⟩ (Nat.le_of_ble_eq_true rfl) dL_law_1046 rfl (fun v1 u1 hp1 => ?_)
  rw [← hA] at hp1
  obtain ⟨rfl, hin, hcq, hj⟩ := hp1
  have hmid := h.mid hcq
  refine KSt (st2 := [.int (iI k9)]) rfl ?_
  refine KIstore (lv' := [(5, .int (iI k9)), (0, .ref b0), (1, .ref (q 0)), (2, .ref (q 80)), (3, .ref (q 93)), (4, .int (iI (i : Int)))]) C dL_law_1049 (by decide) rfl ?_
  refine KAload_n C dL_law_1051 rfl 3 rfl ?_
  refine KAload_n C dL_law_1052 rfl 1 rfl ?_
  refine KIload C dL_law_1053 5 rfl ?_
  refine KIconst C dL_law_1055 ?_
  refine KIadd C dL_law_1056 ?_
  refine KSld C hX hb hL (i + 1) (by omega) (by omega) dL_law_1057 ?_
  refine KCallV (As := [.int (iI (xs (i + 1)).toInt)]) (b := q 80) (st := []) C (ct_X6_lengthOf l g u1 q (xs (i + 1)).toInt hmid.1 (by rw [hmid.2.2.1]; exact hW) hmid.2.2.2.1 (inR_of _)) u_ml_RL_150 u_im_yX6_lengthOf u_se_yX6_lengthOf u_in_RX6 u_co_yX6_lengthOf hd_yX6_lengthOf (hmid.1.at0 80 7) (by decide) rfl rfl ⟨Nat.le_of_ble_eq_true rfl, Nat.le_of_ble_eq_true rfl⟩ ⟨by show cells + 1 + 0 ≤ 601024; omega, by show slots + 6 + 0 ≤ 7293000; omega⟩ (Nat.le_of_ble_eq_true rfl) dL_law_1058 rfl (fun v2 u2 hp2 => ?_)
  obtain ⟨c2, r2, z2, e2, rfl, hmp⟩ := hp2
  rw [hmid.2.2.1, ← hA] at e2
  cases e2
  refine KSt (st2 := [.int (iI r9)]) rfl ?_
  refine KIstore (lv' := [(6, .int (iI r9)), (5, .int (iI k9)), (0, .ref b0), (1, .ref (q 0)), (2, .ref (q 80)), (3, .ref (q 93)), (4, .int (iI (i : Int)))]) C dL_law_1061 (by decide) rfl ?_
  refine KAload_n C dL_law_1063 rfl 4 rfl ?_
  refine KCallV (As := []) (b := q 80) (st := []) C (ct_X6_thrown l g u2 q (hmp.top hmid.1)) u_ml_RL_95 u_im_yX6_thrown u_se_yX6_thrown u_in_RX6 u_co_yX6_thrown hd_yX6_thrown ((hmp.top hmid.1).at0 80 7) (by decide) rfl rfl ⟨Nat.le_of_ble_eq_true rfl, Nat.le_of_ble_eq_true rfl⟩ ⟨by show cells + 1 + 0 + 0 ≤ 601024; omega, by show slots + 6 + 0 + 0 ≤ 7293000; omega⟩ (Nat.le_of_ble_eq_true rfl) dL_law_1064 rfl (fun v3 u3 hp3 => ?_)
  obtain ⟨rfl, rfl⟩ := hp3
  refine KSt (st2 := [.int (iI k9)]) (by rw [hmp.2.2.2.2.2.2.1]; rfl) ?_
  refine KIload C dL_law_1067 1 rfl ?_
  refine KIcmp_eq C dL_law_1069 rfl hin hin (fun _ => ?_) (fun h9 => absurd rfl h9)
  refine KIload C dL_law_1074 1 rfl ?_
  have hB := hmid.both hmp hW9
  refine KIf_ne C dL_law_1076 rfl hin (fun _ => ?_) (fun h0 => ?_)
  · refine KGoto C dL_law_1091 rfl ?_
    refine KLv [2, 3, 4, 5, 6] rfl ?_
    exact KWiden (by omega) (by omega) (kk u2 z9 hB)
  · refine KAload_n C dL_law_1079 rfl 5 rfl ?_
    refine KIconst C dL_law_1080 ?_
    refine KLald C 1 (hB.1.at0 93 23) (hB.1.ln0 93 1) ⟨by decide, by decide⟩ (by decide) ((hmid.out hmp).trans (hj h0)) dL_law_1081 ?_
    refine KIload C dL_law_1082 0 rfl ?_
    refine KTop (iI_of (iI r9)).symm ?_
    refine KI2l C dL_law_1084 (inR_of _) ?_
    refine KLcmp C dL_law_1085 ?_
    refine KTop (lg_cmp_rfl _) ?_
    refine KIf_eq C dL_law_1086 rfl inR_0 (fun _ => ?_) (fun h9 => absurd rfl h9)
    refine KGoto C dL_law_1091 rfl ?_
    refine KLv [2, 3, 4, 5, 6] rfl ?_
    exact KWiden (by omega) (by omega) (kk u2 z9 hB)
theorem cs_lengthByTrying (hnt : l.stackTraces = false) (C : Cx p l s m args meth c cL_law 9 RL ret g) (hnc : Ncs s) (hX : va_X b0 L xs s s.heap) (hb : b0 < gB g) (hL : L ≤ 2051) (hi : i + 3 < L) (hc : cells + 161 ≤ 601024 ∧ slots + 3006 ≤ 7293000) (h : Bth S q (gT g) z) (kk : Nxt p l e s m args below meth c Q g q b0 i cells slots) : Wk p l e room_1 s m args below meth c Q g 9 cells slots 1094 (LV b0 q i) [] S := by
  obtain ⟨hT, hCR, hsg, hCn, hW⟩ := id h
  obtain ⟨⟨k9, r9, z9⟩, hA⟩ : ∃ A : Ans, A = oLt z (xs (i + 1)).toInt := ⟨_, rfl⟩
  have hW9 : Wf z9 := by have h9 := wf_oLt hW (xs (i + 1)).toInt; rw [← hA] at h9; exact h9
  refine KAload_n C dL_law_1094 rfl 1 rfl ?_
  refine KAload_n C dL_law_1095 rfl 0 rfl ?_
  refine KIload C dL_law_1096 4 rfl ?_
  refine KIconst C dL_law_1098 ?_
  refine KIadd C dL_law_1099 ?_
  refine KSld C hX hb hL (i + 1) (by omega) (by omega) dL_law_1100 ?_
  refine KAload_n C dL_law_1101 rfl 3 rfl ?_
  refine KCallSH (As := [.ref (q 0), .int (iI (xs (i + 1)).toInt), .ref (q 93)]) (st := []) C hnc (ct_L_lengthByTrying l g hnt S q (xs (i + 1)).toInt z hT hW hCR (inR_of _) (gT g) rfl) u_ml_RL_151 u_st_yL_lengthByTrying u_in_RL u_cw_lengthByTrying hd_yL_lengthByTrying ⟨Nat.le_of_ble_eq_true rfl, Nat.le_of_ble_eq_true rfl⟩ ⟨by show cells + 2 ≤ 601024; omega, by show slots + 12 ≤ 7293000; omega⟩ (Nat.le_of_ble_eq_true rfl) dL_law_1102 rfl (fun v1 u1 hp1 => ?_)
  rw [← hA] at hp1
  obtain ⟨rfl, hin, hcq, hj⟩ := hp1
  have hmid := h.mid hcq
  refine KSt (st2 := [.int (iI k9)]) rfl ?_
  refine KIstore (lv' := [(5, .int (iI k9)), (0, .ref b0), (1, .ref (q 0)), (2, .ref (q 80)), (3, .ref (q 93)), (4, .int (iI (i : Int)))]) C dL_law_1105 (by decide) rfl ?_
  refine KAload_n C dL_law_1107 rfl 3 rfl ?_
  refine KAload_n C dL_law_1108 rfl 1 rfl ?_
  refine KIload C dL_law_1109 5 rfl ?_
  refine KIconst C dL_law_1111 ?_
  refine KIadd C dL_law_1112 ?_
  refine KSld C hX hb hL (i + 1) (by omega) (by omega) dL_law_1113 ?_
  refine KCallV (As := [.int (iI (xs (i + 1)).toInt)]) (b := q 80) (st := []) C (ct_X6_lengthByTrying l g u1 q (xs (i + 1)).toInt hmid.1 (by rw [hmid.2.2.1]; exact hW) hmid.2.2.2.1 (inR_of _)) u_ml_RL_153 u_im_yX6_lengthByTrying u_se_yX6_lengthByTrying u_in_RX6 u_co_yX6_lengthByTrying hd_yX6_lengthByTrying (hmid.1.at0 80 7) (by decide) rfl rfl ⟨Nat.le_of_ble_eq_true rfl, Nat.le_of_ble_eq_true rfl⟩ ⟨by show cells + 2 + 0 ≤ 601024; omega, by show slots + 12 + 0 ≤ 7293000; omega⟩ (Nat.le_of_ble_eq_true rfl) dL_law_1114 rfl (fun v2 u2 hp2 => ?_)
  obtain ⟨c2, r2, z2, e2, rfl, hmp⟩ := hp2
  rw [hmid.2.2.1, ← hA] at e2
  cases e2
  refine KSt (st2 := [.int (iI r9)]) rfl ?_
  refine KIstore (lv' := [(6, .int (iI r9)), (5, .int (iI k9)), (0, .ref b0), (1, .ref (q 0)), (2, .ref (q 80)), (3, .ref (q 93)), (4, .int (iI (i : Int)))]) C dL_law_1117 (by decide) rfl ?_
  refine KAload_n C dL_law_1119 rfl 4 rfl ?_
  refine KCallV (As := []) (b := q 80) (st := []) C (ct_X6_thrown l g u2 q (hmp.top hmid.1)) u_ml_RL_95 u_im_yX6_thrown u_se_yX6_thrown u_in_RX6 u_co_yX6_thrown hd_yX6_thrown ((hmp.top hmid.1).at0 80 7) (by decide) rfl rfl ⟨Nat.le_of_ble_eq_true rfl, Nat.le_of_ble_eq_true rfl⟩ ⟨by show cells + 2 + 0 + 0 ≤ 601024; omega, by show slots + 12 + 0 + 0 ≤ 7293000; omega⟩ (Nat.le_of_ble_eq_true rfl) dL_law_1120 rfl (fun v3 u3 hp3 => ?_)
  obtain ⟨rfl, rfl⟩ := hp3
  refine KSt (st2 := [.int (iI k9)]) (by rw [hmp.2.2.2.2.2.2.1]; rfl) ?_
  refine KIload C dL_law_1123 1 rfl ?_
  refine KIcmp_eq C dL_law_1125 rfl hin hin (fun _ => ?_) (fun h9 => absurd rfl h9)
  refine KIload C dL_law_1130 1 rfl ?_
  have hB := hmid.both hmp hW9
  refine KIf_ne C dL_law_1132 rfl hin (fun _ => ?_) (fun h0 => ?_)
  · refine KGoto C dL_law_1147 rfl ?_
    refine KLv [2, 3, 4, 5, 6] rfl ?_
    exact KWiden (by omega) (by omega) (kk u2 z9 hB)
  · refine KAload_n C dL_law_1135 rfl 5 rfl ?_
    refine KIconst C dL_law_1136 ?_
    refine KLald C 1 (hB.1.at0 93 23) (hB.1.ln0 93 1) ⟨by decide, by decide⟩ (by decide) ((hmid.out hmp).trans (hj h0)) dL_law_1137 ?_
    refine KIload C dL_law_1138 0 rfl ?_
    refine KTop (iI_of (iI r9)).symm ?_
    refine KI2l C dL_law_1140 (inR_of _) ?_
    refine KLcmp C dL_law_1141 ?_
    refine KTop (lg_cmp_rfl _) ?_
    refine KIf_eq C dL_law_1142 rfl inR_0 (fun _ => ?_) (fun h9 => absurd rfl h9)
    refine KGoto C dL_law_1147 rfl ?_
    refine KLv [2, 3, 4, 5, 6] rfl ?_
    exact KWiden (by omega) (by omega) (kk u2 z9 hB)
theorem cs_lengthThrough (hnt : l.stackTraces = false) (C : Cx p l s m args meth c cL_law 9 RL ret g) (hnc : Ncs s) (hX : va_X b0 L xs s s.heap) (hb : b0 < gB g) (hL : L ≤ 2051) (hi : i + 3 < L) (hc : cells + 161 ≤ 601024 ∧ slots + 3006 ≤ 7293000) (h : Bth S q (gT g) z) (kk : Nxt p l e s m args below meth c Q g q b0 i cells slots) : Wk p l e room_1 s m args below meth c Q g 9 cells slots 1150 (LV b0 q i) [] S := by
  obtain ⟨hT, hCR, hsg, hCn, hW⟩ := id h
  obtain ⟨⟨k9, r9, z9⟩, hA⟩ : ∃ A : Ans, A = oTh z (xs (i + 1)).toInt := ⟨_, rfl⟩
  have hW9 : Wf z9 := by have h9 := wf_oTh hW (xs (i + 1)).toInt; rw [← hA] at h9; exact h9
  refine KAload_n C dL_law_1150 rfl 1 rfl ?_
  refine KAload_n C dL_law_1151 rfl 0 rfl ?_
  refine KIload C dL_law_1152 4 rfl ?_
  refine KIconst C dL_law_1154 ?_
  refine KIadd C dL_law_1155 ?_
  refine KSld C hX hb hL (i + 1) (by omega) (by omega) dL_law_1156 ?_
  refine KAload_n C dL_law_1157 rfl 3 rfl ?_
  refine KCallSH (As := [.ref (q 0), .int (iI (xs (i + 1)).toInt), .ref (q 93)]) (st := []) C hnc (ct_L_lengthThrough l g hnt S q (xs (i + 1)).toInt z hT hW hCR (inR_of _) (gT g) rfl) u_ml_RL_154 u_st_yL_lengthThrough u_in_RL u_cw_lengthThrough hd_yL_lengthThrough ⟨Nat.le_of_ble_eq_true rfl, Nat.le_of_ble_eq_true rfl⟩ ⟨by show cells + 1 ≤ 601024; omega, by show slots + 6 ≤ 7293000; omega⟩ (Nat.le_of_ble_eq_true rfl) dL_law_1158 rfl (fun v1 u1 hp1 => ?_)
  rw [← hA] at hp1
  obtain ⟨rfl, hin, hcq, hj⟩ := hp1
  have hmid := h.mid hcq
  refine KSt (st2 := [.int (iI k9)]) rfl ?_
  refine KIstore (lv' := [(5, .int (iI k9)), (0, .ref b0), (1, .ref (q 0)), (2, .ref (q 80)), (3, .ref (q 93)), (4, .int (iI (i : Int)))]) C dL_law_1161 (by decide) rfl ?_
  refine KAload_n C dL_law_1163 rfl 3 rfl ?_
  refine KAload_n C dL_law_1164 rfl 1 rfl ?_
  refine KIload C dL_law_1165 5 rfl ?_
  refine KIconst C dL_law_1167 ?_
  refine KIadd C dL_law_1168 ?_
  refine KSld C hX hb hL (i + 1) (by omega) (by omega) dL_law_1169 ?_
  refine KCallV (As := [.int (iI (xs (i + 1)).toInt)]) (b := q 80) (st := []) C (ct_X6_lengthThrough l g u1 q (xs (i + 1)).toInt hmid.1 (by rw [hmid.2.2.1]; exact hW) hmid.2.2.2.1 (inR_of _)) u_ml_RL_156 u_im_yX6_lengthThrough u_se_yX6_lengthThrough u_in_RX6 u_co_yX6_lengthThrough hd_yX6_lengthThrough (hmid.1.at0 80 7) (by decide) rfl rfl ⟨Nat.le_of_ble_eq_true rfl, Nat.le_of_ble_eq_true rfl⟩ ⟨by show cells + 1 + 0 ≤ 601024; omega, by show slots + 6 + 0 ≤ 7293000; omega⟩ (Nat.le_of_ble_eq_true rfl) dL_law_1170 rfl (fun v2 u2 hp2 => ?_)
  obtain ⟨c2, r2, z2, e2, rfl, hmp⟩ := hp2
  rw [hmid.2.2.1, ← hA] at e2
  cases e2
  refine KSt (st2 := [.int (iI r9)]) rfl ?_
  refine KIstore (lv' := [(6, .int (iI r9)), (5, .int (iI k9)), (0, .ref b0), (1, .ref (q 0)), (2, .ref (q 80)), (3, .ref (q 93)), (4, .int (iI (i : Int)))]) C dL_law_1173 (by decide) rfl ?_
  refine KAload_n C dL_law_1175 rfl 4 rfl ?_
  refine KCallV (As := []) (b := q 80) (st := []) C (ct_X6_thrown l g u2 q (hmp.top hmid.1)) u_ml_RL_95 u_im_yX6_thrown u_se_yX6_thrown u_in_RX6 u_co_yX6_thrown hd_yX6_thrown ((hmp.top hmid.1).at0 80 7) (by decide) rfl rfl ⟨Nat.le_of_ble_eq_true rfl, Nat.le_of_ble_eq_true rfl⟩ ⟨by show cells + 1 + 0 + 0 ≤ 601024; omega, by show slots + 6 + 0 + 0 ≤ 7293000; omega⟩ (Nat.le_of_ble_eq_true rfl) dL_law_1176 rfl (fun v3 u3 hp3 => ?_)
  obtain ⟨rfl, rfl⟩ := hp3
  refine KSt (st2 := [.int (iI k9)]) (by rw [hmp.2.2.2.2.2.2.1]; rfl) ?_
  refine KIload C dL_law_1179 1 rfl ?_
  refine KIcmp_eq C dL_law_1181 rfl hin hin (fun _ => ?_) (fun h9 => absurd rfl h9)
  refine KIload C dL_law_1186 1 rfl ?_
  have hB := hmid.both hmp hW9
  refine KIf_ne C dL_law_1188 rfl hin (fun _ => ?_) (fun h0 => ?_)
  · refine KGoto C dL_law_1203 rfl ?_
    refine KLv [2, 3, 4, 5, 6] rfl ?_
    exact KWiden (by omega) (by omega) (kk u2 z9 hB)
  · refine KAload_n C dL_law_1191 rfl 5 rfl ?_
    refine KIconst C dL_law_1192 ?_
    refine KLald C 1 (hB.1.at0 93 23) (hB.1.ln0 93 1) ⟨by decide, by decide⟩ (by decide) ((hmid.out hmp).trans (hj h0)) dL_law_1193 ?_
    refine KIload C dL_law_1194 0 rfl ?_
    refine KTop (iI_of (iI r9)).symm ?_
    refine KI2l C dL_law_1196 (inR_of _) ?_
    refine KLcmp C dL_law_1197 ?_
    refine KTop (lg_cmp_rfl _) ?_
    refine KIf_eq C dL_law_1198 rfl inR_0 (fun _ => ?_) (fun h9 => absurd rfl h9)
    refine KGoto C dL_law_1203 rfl ?_
    refine KLv [2, 3, 4, 5, 6] rfl ?_
    exact KWiden (by omega) (by omega) (kk u2 z9 hB)
theorem cs_stops (hnt : l.stackTraces = false) (C : Cx p l s m args meth c cL_law 9 RL ret g) (hnc : Ncs s) (hX : va_X b0 L xs s s.heap) (hb : b0 < gB g) (hL : L ≤ 2051) (hi : i + 3 < L) (hc : cells + 161 ≤ 601024 ∧ slots + 3006 ≤ 7293000) (h : Bth S q (gT g) z) (kk : Nxt p l e s m args below meth c Q g q b0 i cells slots) : Wk p l e room_1 s m args below meth c Q g 9 cells slots 1206 (LV b0 q i) [] S := by
  obtain ⟨hT, hCR, hsg, hCn, hW⟩ := id h
  obtain ⟨⟨k9, r9, z9⟩, hA⟩ : ∃ A : Ans, A = oSs z (xs (i + 1)).toInt := ⟨_, rfl⟩
  have hW9 : Wf z9 := by have h9 := wf_oSs hW (xs (i + 1)).toInt; rw [← hA] at h9; exact h9
  refine KAload_n C dL_law_1206 rfl 1 rfl ?_
  refine KAload_n C dL_law_1207 rfl 0 rfl ?_
  refine KIload C dL_law_1208 4 rfl ?_
  refine KIconst C dL_law_1210 ?_
  refine KIadd C dL_law_1211 ?_
  refine KSld C hX hb hL (i + 1) (by omega) (by omega) dL_law_1212 ?_
  refine KAload_n C dL_law_1213 rfl 3 rfl ?_
  refine KCallSH (As := [.ref (q 0), .int (iI (xs (i + 1)).toInt), .ref (q 93)]) (st := []) C hnc (ct_L_stops l g hnt S q (xs (i + 1)).toInt z hT hW hCR (inR_of _) (gT g) rfl) u_ml_RL_157 u_st_yL_stops u_in_RL u_cw_stops hd_yL_stops ⟨Nat.le_of_ble_eq_true rfl, Nat.le_of_ble_eq_true rfl⟩ ⟨by show cells + 1 ≤ 601024; omega, by show slots + 6 ≤ 7293000; omega⟩ (Nat.le_of_ble_eq_true rfl) dL_law_1214 rfl (fun v1 u1 hp1 => ?_)
  rw [← hA] at hp1
  obtain ⟨rfl, hin, hcq, hj⟩ := hp1
  have hmid := h.mid hcq
  refine KSt (st2 := [.int (iI k9)]) rfl ?_
  refine KIstore (lv' := [(5, .int (iI k9)), (0, .ref b0), (1, .ref (q 0)), (2, .ref (q 80)), (3, .ref (q 93)), (4, .int (iI (i : Int)))]) C dL_law_1217 (by decide) rfl ?_
  refine KAload_n C dL_law_1219 rfl 3 rfl ?_
  refine KAload_n C dL_law_1220 rfl 1 rfl ?_
  refine KIload C dL_law_1221 5 rfl ?_
  refine KIconst C dL_law_1223 ?_
  refine KIadd C dL_law_1224 ?_
  refine KSld C hX hb hL (i + 1) (by omega) (by omega) dL_law_1225 ?_
  refine KCallV (As := [.int (iI (xs (i + 1)).toInt)]) (b := q 80) (st := []) C (ct_X6_stops l g u1 q (xs (i + 1)).toInt hmid.1 (by rw [hmid.2.2.1]; exact hW) hmid.2.2.2.1 (inR_of _)) u_ml_RL_159 u_im_yX6_stops u_se_yX6_stops u_in_RX6 u_co_yX6_stops hd_yX6_stops (hmid.1.at0 80 7) (by decide) rfl rfl ⟨Nat.le_of_ble_eq_true rfl, Nat.le_of_ble_eq_true rfl⟩ ⟨by show cells + 1 + 0 ≤ 601024; omega, by show slots + 6 + 0 ≤ 7293000; omega⟩ (Nat.le_of_ble_eq_true rfl) dL_law_1226 rfl (fun v2 u2 hp2 => ?_)
  obtain ⟨c2, r2, z2, e2, rfl, hmp⟩ := hp2
  rw [hmid.2.2.1, ← hA] at e2
  cases e2
  refine KSt (st2 := [.int (iI r9)]) rfl ?_
  refine KIstore (lv' := [(6, .int (iI r9)), (5, .int (iI k9)), (0, .ref b0), (1, .ref (q 0)), (2, .ref (q 80)), (3, .ref (q 93)), (4, .int (iI (i : Int)))]) C dL_law_1229 (by decide) rfl ?_
  refine KAload_n C dL_law_1231 rfl 4 rfl ?_
  refine KCallV (As := []) (b := q 80) (st := []) C (ct_X6_thrown l g u2 q (hmp.top hmid.1)) u_ml_RL_95 u_im_yX6_thrown u_se_yX6_thrown u_in_RX6 u_co_yX6_thrown hd_yX6_thrown ((hmp.top hmid.1).at0 80 7) (by decide) rfl rfl ⟨Nat.le_of_ble_eq_true rfl, Nat.le_of_ble_eq_true rfl⟩ ⟨by show cells + 1 + 0 + 0 ≤ 601024; omega, by show slots + 6 + 0 + 0 ≤ 7293000; omega⟩ (Nat.le_of_ble_eq_true rfl) dL_law_1232 rfl (fun v3 u3 hp3 => ?_)
  obtain ⟨rfl, rfl⟩ := hp3
  refine KSt (st2 := [.int (iI k9)]) (by rw [hmp.2.2.2.2.2.2.1]; rfl) ?_
  refine KIload C dL_law_1235 1 rfl ?_
  refine KIcmp_eq C dL_law_1237 rfl hin hin (fun _ => ?_) (fun h9 => absurd rfl h9)
  refine KIload C dL_law_1242 1 rfl ?_
  have hB := hmid.both hmp hW9
  refine KIf_ne C dL_law_1244 rfl hin (fun _ => ?_) (fun h0 => ?_)
  · refine KGoto C dL_law_1259 rfl ?_
    refine KLv [2, 3, 4, 5, 6] rfl ?_
    exact KWiden (by omega) (by omega) (kk u2 z9 hB)
  · refine KAload_n C dL_law_1247 rfl 5 rfl ?_
    refine KIconst C dL_law_1248 ?_
    refine KLald C 1 (hB.1.at0 93 23) (hB.1.ln0 93 1) ⟨by decide, by decide⟩ (by decide) ((hmid.out hmp).trans (hj h0)) dL_law_1249 ?_
    refine KIload C dL_law_1250 0 rfl ?_
    refine KTop (iI_of (iI r9)).symm ?_
    refine KI2l C dL_law_1252 (inR_of _) ?_
    refine KLcmp C dL_law_1253 ?_
    refine KTop (lg_cmp_rfl _) ?_
    refine KIf_eq C dL_law_1254 rfl inR_0 (fun _ => ?_) (fun h9 => absurd rfl h9)
    refine KGoto C dL_law_1259 rfl ?_
    refine KLv [2, 3, 4, 5, 6] rfl ?_
    exact KWiden (by omega) (by omega) (kk u2 z9 hB)
theorem cs_stopAt (hnt : l.stackTraces = false) (C : Cx p l s m args meth c cL_law 9 RL ret g) (hnc : Ncs s) (hX : va_X b0 L xs s s.heap) (hb : b0 < gB g) (hL : L ≤ 2051) (hi : i + 3 < L) (hc : cells + 161 ≤ 601024 ∧ slots + 3006 ≤ 7293000) (h : Bth S q (gT g) z) (kk : Nxt p l e s m args below meth c Q g q b0 i cells slots) : Wk p l e room_1 s m args below meth c Q g 9 cells slots 1262 (LV b0 q i) [] S := by
  obtain ⟨hT, hCR, hsg, hCn, hW⟩ := id h
  obtain ⟨⟨k9, r9, z9⟩, hA⟩ : ∃ A : Ans, A = oSa z (xs (i + 1)).toInt (xs (i + 2)).toInt := ⟨_, rfl⟩
  have hW9 : Wf z9 := by have h9 := wf_oSa hW (xs (i + 1)).toInt (xs (i + 2)).toInt; rw [← hA] at h9; exact h9
  refine KAload_n C dL_law_1262 rfl 1 rfl ?_
  refine KAload_n C dL_law_1263 rfl 0 rfl ?_
  refine KIload C dL_law_1264 4 rfl ?_
  refine KIconst C dL_law_1266 ?_
  refine KIadd C dL_law_1267 ?_
  refine KSld C hX hb hL (i + 1) (by omega) (by omega) dL_law_1268 ?_
  refine KAload_n C dL_law_1269 rfl 0 rfl ?_
  refine KIload C dL_law_1270 4 rfl ?_
  refine KIconst C dL_law_1272 ?_
  refine KIadd C dL_law_1273 ?_
  refine KSld C hX hb hL (i + 2) (by omega) (by omega) dL_law_1274 ?_
  refine KAload_n C dL_law_1275 rfl 3 rfl ?_
  refine KCallSH (As := [.ref (q 0), .int (iI (xs (i + 1)).toInt), .int (iI (xs (i + 2)).toInt), .ref (q 93)]) (st := []) C hnc (ct_L_stopAt l g hnt S q (xs (i + 1)).toInt (xs (i + 2)).toInt z hT hW hCR (inR_of _) (inR_of _) (gT g) rfl) u_ml_RL_160 u_st_yL_stopAt u_in_RL u_cw_stopAt hd_yL_stopAt ⟨Nat.le_of_ble_eq_true rfl, Nat.le_of_ble_eq_true rfl⟩ ⟨by show cells + 2 ≤ 601024; omega, by show slots + 12 ≤ 7293000; omega⟩ (Nat.le_of_ble_eq_true rfl) dL_law_1276 rfl (fun v1 u1 hp1 => ?_)
  rw [← hA] at hp1
  obtain ⟨rfl, hin, hcq, hj⟩ := hp1
  have hmid := h.mid hcq
  refine KSt (st2 := [.int (iI k9)]) rfl ?_
  refine KIstore (lv' := [(5, .int (iI k9)), (0, .ref b0), (1, .ref (q 0)), (2, .ref (q 80)), (3, .ref (q 93)), (4, .int (iI (i : Int)))]) C dL_law_1279 (by decide) rfl ?_
  refine KAload_n C dL_law_1281 rfl 3 rfl ?_
  refine KAload_n C dL_law_1282 rfl 1 rfl ?_
  refine KIload C dL_law_1283 5 rfl ?_
  refine KIconst C dL_law_1285 ?_
  refine KIadd C dL_law_1286 ?_
  refine KSld C hX hb hL (i + 1) (by omega) (by omega) dL_law_1287 ?_
  refine KAload_n C dL_law_1288 rfl 1 rfl ?_
  refine KIload C dL_law_1289 5 rfl ?_
  refine KIconst C dL_law_1291 ?_
  refine KIadd C dL_law_1292 ?_
  refine KSld C hX hb hL (i + 2) (by omega) (by omega) dL_law_1293 ?_
  refine KCallV (As := [.int (iI (xs (i + 1)).toInt), .int (iI (xs (i + 2)).toInt)]) (b := q 80) (st := []) C (ct_X6_stopAt l g u1 q (xs (i + 1)).toInt (xs (i + 2)).toInt hmid.1 (by rw [hmid.2.2.1]; exact hW) hmid.2.2.2.1 (inR_of _) (inR_of _)) u_ml_RL_162 u_im_yX6_stopAt u_se_yX6_stopAt u_in_RX6 u_co_yX6_stopAt hd_yX6_stopAt (hmid.1.at0 80 7) (by decide) rfl rfl ⟨Nat.le_of_ble_eq_true rfl, Nat.le_of_ble_eq_true rfl⟩ ⟨by show cells + 2 + 0 ≤ 601024; omega, by show slots + 12 + 0 ≤ 7293000; omega⟩ (Nat.le_of_ble_eq_true rfl) dL_law_1294 rfl (fun v2 u2 hp2 => ?_)
  obtain ⟨c2, r2, z2, e2, rfl, hmp⟩ := hp2
  rw [hmid.2.2.1, ← hA] at e2
  cases e2
  refine KSt (st2 := [.int (iI r9)]) rfl ?_
  refine KIstore (lv' := [(6, .int (iI r9)), (5, .int (iI k9)), (0, .ref b0), (1, .ref (q 0)), (2, .ref (q 80)), (3, .ref (q 93)), (4, .int (iI (i : Int)))]) C dL_law_1297 (by decide) rfl ?_
  refine KAload_n C dL_law_1299 rfl 4 rfl ?_
  refine KCallV (As := []) (b := q 80) (st := []) C (ct_X6_thrown l g u2 q (hmp.top hmid.1)) u_ml_RL_95 u_im_yX6_thrown u_se_yX6_thrown u_in_RX6 u_co_yX6_thrown hd_yX6_thrown ((hmp.top hmid.1).at0 80 7) (by decide) rfl rfl ⟨Nat.le_of_ble_eq_true rfl, Nat.le_of_ble_eq_true rfl⟩ ⟨by show cells + 2 + 0 + 0 ≤ 601024; omega, by show slots + 12 + 0 + 0 ≤ 7293000; omega⟩ (Nat.le_of_ble_eq_true rfl) dL_law_1300 rfl (fun v3 u3 hp3 => ?_)
  obtain ⟨rfl, rfl⟩ := hp3
  refine KSt (st2 := [.int (iI k9)]) (by rw [hmp.2.2.2.2.2.2.1]; rfl) ?_
  refine KIload C dL_law_1303 1 rfl ?_
  refine KIcmp_eq C dL_law_1305 rfl hin hin (fun _ => ?_) (fun h9 => absurd rfl h9)
  refine KIload C dL_law_1310 1 rfl ?_
  have hB := hmid.both hmp hW9
  refine KIf_ne C dL_law_1312 rfl hin (fun _ => ?_) (fun h0 => ?_)
  · refine KGoto C dL_law_1327 rfl ?_
    refine KLv [2, 3, 4, 5, 6] rfl ?_
    exact KWiden (by omega) (by omega) (kk u2 z9 hB)
  · refine KAload_n C dL_law_1315 rfl 5 rfl ?_
    refine KIconst C dL_law_1316 ?_
    refine KLald C 1 (hB.1.at0 93 23) (hB.1.ln0 93 1) ⟨by decide, by decide⟩ (by decide) ((hmid.out hmp).trans (hj h0)) dL_law_1317 ?_
    refine KIload C dL_law_1318 0 rfl ?_
    refine KTop (iI_of (iI r9)).symm ?_
    refine KI2l C dL_law_1320 (inR_of _) ?_
    refine KLcmp C dL_law_1321 ?_
    refine KTop (lg_cmp_rfl _) ?_
    refine KIf_eq C dL_law_1322 rfl inR_0 (fun _ => ?_) (fun h9 => absurd rfl h9)
    refine KGoto C dL_law_1327 rfl ?_
    refine KLv [2, 3, 4, 5, 6] rfl ?_
    exact KWiden (by omega) (by omega) (kk u2 z9 hB)
theorem cs_inAisle (hnt : l.stackTraces = false) (C : Cx p l s m args meth c cL_law 9 RL ret g) (hnc : Ncs s) (hX : va_X b0 L xs s s.heap) (hb : b0 < gB g) (hL : L ≤ 2051) (hi : i + 3 < L) (hc : cells + 161 ≤ 601024 ∧ slots + 3006 ≤ 7293000) (h : Bth S q (gT g) z) (kk : Nxt p l e s m args below meth c Q g q b0 i cells slots) : Wk p l e room_1 s m args below meth c Q g 9 cells slots 1330 (LV b0 q i) [] S := by
  obtain ⟨hT, hCR, hsg, hCn, hW⟩ := id h
  obtain ⟨⟨k9, r9, z9⟩, hA⟩ : ∃ A : Ans, A = oIa z (xs (i + 1)).toInt := ⟨_, rfl⟩
  have hW9 : Wf z9 := by have h9 := wf_oIa hW (xs (i + 1)).toInt; rw [← hA] at h9; exact h9
  refine KAload_n C dL_law_1330 rfl 1 rfl ?_
  refine KAload_n C dL_law_1331 rfl 0 rfl ?_
  refine KIload C dL_law_1332 4 rfl ?_
  refine KIconst C dL_law_1334 ?_
  refine KIadd C dL_law_1335 ?_
  refine KSld C hX hb hL (i + 1) (by omega) (by omega) dL_law_1336 ?_
  refine KAload_n C dL_law_1337 rfl 3 rfl ?_
  refine KCallSH (As := [.ref (q 0), .int (iI (xs (i + 1)).toInt), .ref (q 93)]) (st := []) C hnc (ct_L_inAisle l g hnt S q (xs (i + 1)).toInt z hT hW hCR (inR_of _) (gT g) rfl) u_ml_RL_163 u_st_yL_inAisle u_in_RL u_cw_inAisle hd_yL_inAisle ⟨Nat.le_of_ble_eq_true rfl, Nat.le_of_ble_eq_true rfl⟩ ⟨by show cells + 1 ≤ 601024; omega, by show slots + 6 ≤ 7293000; omega⟩ (Nat.le_of_ble_eq_true rfl) dL_law_1338 rfl (fun v1 u1 hp1 => ?_)
  rw [← hA] at hp1
  obtain ⟨rfl, hin, hcq, hj⟩ := hp1
  have hmid := h.mid hcq
  refine KSt (st2 := [.int (iI k9)]) rfl ?_
  refine KIstore (lv' := [(5, .int (iI k9)), (0, .ref b0), (1, .ref (q 0)), (2, .ref (q 80)), (3, .ref (q 93)), (4, .int (iI (i : Int)))]) C dL_law_1341 (by decide) rfl ?_
  refine KAload_n C dL_law_1343 rfl 3 rfl ?_
  refine KAload_n C dL_law_1344 rfl 1 rfl ?_
  refine KIload C dL_law_1345 5 rfl ?_
  refine KIconst C dL_law_1347 ?_
  refine KIadd C dL_law_1348 ?_
  refine KSld C hX hb hL (i + 1) (by omega) (by omega) dL_law_1349 ?_
  refine KCallV (As := [.int (iI (xs (i + 1)).toInt)]) (b := q 80) (st := []) C (ct_X6_inAisle l g u1 q (xs (i + 1)).toInt hmid.1 (by rw [hmid.2.2.1]; exact hW) hmid.2.2.2.1 (inR_of _)) u_ml_RL_165 u_im_yX6_inAisle u_se_yX6_inAisle u_in_RX6 u_co_yX6_inAisle hd_yX6_inAisle (hmid.1.at0 80 7) (by decide) rfl rfl ⟨Nat.le_of_ble_eq_true rfl, Nat.le_of_ble_eq_true rfl⟩ ⟨by show cells + 1 + 0 ≤ 601024; omega, by show slots + 6 + 0 ≤ 7293000; omega⟩ (Nat.le_of_ble_eq_true rfl) dL_law_1350 rfl (fun v2 u2 hp2 => ?_)
  obtain ⟨c2, r2, z2, e2, rfl, hmp⟩ := hp2
  rw [hmid.2.2.1, ← hA] at e2
  cases e2
  refine KSt (st2 := [.int (iI r9)]) rfl ?_
  refine KIstore (lv' := [(6, .int (iI r9)), (5, .int (iI k9)), (0, .ref b0), (1, .ref (q 0)), (2, .ref (q 80)), (3, .ref (q 93)), (4, .int (iI (i : Int)))]) C dL_law_1353 (by decide) rfl ?_
  refine KAload_n C dL_law_1355 rfl 4 rfl ?_
  refine KCallV (As := []) (b := q 80) (st := []) C (ct_X6_thrown l g u2 q (hmp.top hmid.1)) u_ml_RL_95 u_im_yX6_thrown u_se_yX6_thrown u_in_RX6 u_co_yX6_thrown hd_yX6_thrown ((hmp.top hmid.1).at0 80 7) (by decide) rfl rfl ⟨Nat.le_of_ble_eq_true rfl, Nat.le_of_ble_eq_true rfl⟩ ⟨by show cells + 1 + 0 + 0 ≤ 601024; omega, by show slots + 6 + 0 + 0 ≤ 7293000; omega⟩ (Nat.le_of_ble_eq_true rfl) dL_law_1356 rfl (fun v3 u3 hp3 => ?_)
  obtain ⟨rfl, rfl⟩ := hp3
  refine KSt (st2 := [.int (iI k9)]) (by rw [hmp.2.2.2.2.2.2.1]; rfl) ?_
  refine KIload C dL_law_1359 1 rfl ?_
  refine KIcmp_eq C dL_law_1361 rfl hin hin (fun _ => ?_) (fun h9 => absurd rfl h9)
  refine KIload C dL_law_1366 1 rfl ?_
  have hB := hmid.both hmp hW9
  refine KIf_ne C dL_law_1368 rfl hin (fun _ => ?_) (fun h0 => ?_)
  · refine KGoto C dL_law_1383 rfl ?_
    refine KLv [2, 3, 4, 5, 6] rfl ?_
    exact KWiden (by omega) (by omega) (kk u2 z9 hB)
  · refine KAload_n C dL_law_1371 rfl 5 rfl ?_
    refine KIconst C dL_law_1372 ?_
    refine KLald C 1 (hB.1.at0 93 23) (hB.1.ln0 93 1) ⟨by decide, by decide⟩ (by decide) ((hmid.out hmp).trans (hj h0)) dL_law_1373 ?_
    refine KIload C dL_law_1374 0 rfl ?_
    refine KTop (iI_of (iI r9)).symm ?_
    refine KI2l C dL_law_1376 (inR_of _) ?_
    refine KLcmp C dL_law_1377 ?_
    refine KTop (lg_cmp_rfl _) ?_
    refine KIf_eq C dL_law_1378 rfl inR_0 (fun _ => ?_) (fun h9 => absurd rfl h9)
    refine KGoto C dL_law_1383 rfl ?_
    refine KLv [2, 3, 4, 5, 6] rfl ?_
    exact KWiden (by omega) (by omega) (kk u2 z9 hB)
theorem cs_walked (hnt : l.stackTraces = false) (C : Cx p l s m args meth c cL_law 9 RL ret g) (hnc : Ncs s) (hX : va_X b0 L xs s s.heap) (hb : b0 < gB g) (hL : L ≤ 2051) (hi : i + 3 < L) (hc : cells + 161 ≤ 601024 ∧ slots + 3006 ≤ 7293000) (h : Bth S q (gT g) z) (kk : Nxt p l e s m args below meth c Q g q b0 i cells slots) : Wk p l e room_1 s m args below meth c Q g 9 cells slots 1386 (LV b0 q i) [] S := by
  obtain ⟨hT, ⟨w, hCw⟩, hsg, hCn, hW⟩ := id h
  have hmid : Mid S q (gT g) z z := h
  have hr : inR (zw z) := by
    exact hW.rgs.2.2.1
  refine KAload_n C dL_law_1386 rfl 1 rfl ?_
  refine KCallV (As := []) (b := q 0) (st := []) C (ct_X5_walked l g S q w z hT hCw) u_ml_RL_166 u_im_yX5_walked u_se_yX5_walked u_in_RX5 u_co_yX5_walked hd_yX5_walked (hT.at0 0 6) (by decide) rfl rfl ⟨Nat.le_of_ble_eq_true rfl, Nat.le_of_ble_eq_true rfl⟩ ⟨by show cells + 0 ≤ 601024; omega, by show slots + 0 ≤ 7293000; omega⟩ (Nat.le_of_ble_eq_true rfl) dL_law_1387 rfl (fun v1 u1 hp1 => ?_)
  obtain ⟨rfl, rfl⟩ := hp1
  refine KSt (st2 := [.int (iI (zw z))]) rfl ?_
  refine KAload_n C dL_law_1390 rfl 2 rfl ?_
  refine KCallV (As := []) (b := q 80) (st := [.int (iI (zw z))]) C (ct_X6_walked l g S q hT (by rw [hsg]; exact hW) hCn) u_ml_RL_169 u_im_yX6_walked u_se_yX6_walked u_in_RX6 u_co_yX6_walked hd_yX6_walked (hT.at0 80 7) (by decide) rfl rfl ⟨Nat.le_of_ble_eq_true rfl, Nat.le_of_ble_eq_true rfl⟩ ⟨by show cells + 0 + 0 ≤ 601024; omega, by show slots + 0 + 0 ≤ 7293000; omega⟩ (Nat.le_of_ble_eq_true rfl) dL_law_1391 rfl (fun v2 u2 hp2 => ?_)
  obtain ⟨c2, r2, z2, e2, rfl, hmp⟩ := hp2
  rw [hsg] at e2
  unfold oWk at e2
  cases e2
  refine KSt (st2 := [.int (iI (zw z)), .int (iI (zw z))]) rfl ?_
  refine KIcmp_eq C dL_law_1394 rfl hr hr (fun _ => ?_) (fun h9 => absurd rfl h9)
  exact KWiden (by omega) (by omega) (kk u2 z (hmid.both hmp hW))
theorem cs_share (hnt : l.stackTraces = false) (C : Cx p l s m args meth c cL_law 9 RL ret g) (hnc : Ncs s) (hX : va_X b0 L xs s s.heap) (hb : b0 < gB g) (hL : L ≤ 2051) (hi : i + 3 < L) (hc : cells + 161 ≤ 601024 ∧ slots + 3006 ≤ 7293000) (h : Bth S q (gT g) z) (kk : Nxt p l e s m args below meth c Q g q b0 i cells slots) : Wk p l e room_1 s m args below meth c Q g 9 cells slots 1399 (LV b0 q i) [] S := by
  obtain ⟨hT, ⟨w, hCw⟩, hsg, hCn, hW⟩ := id h
  have hmid : Mid S q (gT g) z z := h
  refine KAload_n C dL_law_1399 rfl 1 rfl ?_
  refine KCallV (As := []) (b := q 0) (st := []) C (ct_X5_share l g S q w z hT hW hCw) u_ml_RL_170 u_im_yX5_share u_se_yX5_share u_in_RX5 u_co_yX5_share hd_yX5_share (hT.at0 0 6) (by decide) rfl rfl ⟨Nat.le_of_ble_eq_true rfl, Nat.le_of_ble_eq_true rfl⟩ ⟨by show cells + 0 ≤ 601024; omega, by show slots + 0 ≤ 7293000; omega⟩ (Nat.le_of_ble_eq_true rfl) dL_law_1400 rfl (fun v1 u1 hp1 => ?_)
  obtain ⟨rfl, rfl⟩ := hp1
  refine KSt (st2 := [.double (shr (zw z) (za z))]) rfl ?_
  refine KDstore (lv' := [(5, .double (shr (zw z) (za z))), (0, .ref b0), (1, .ref (q 0)), (2, .ref (q 80)), (3, .ref (q 93)), (4, .int (iI (i : Int)))]) C dL_law_1403 (by decide) rfl ?_
  refine KAload_n C dL_law_1405 rfl 3 rfl ?_
  refine KCallV (As := []) (b := q 80) (st := []) C (ct_X6_share l g S q hT (by rw [hsg]; exact hW) hCn) u_ml_RL_174 u_im_yX6_share u_se_yX6_share u_in_RX6 u_co_yX6_share hd_yX6_share (hT.at0 80 7) (by decide) rfl rfl ⟨Nat.le_of_ble_eq_true rfl, Nat.le_of_ble_eq_true rfl⟩ ⟨by show cells + 0 + 0 ≤ 601024; omega, by show slots + 0 + 0 ≤ 7293000; omega⟩ (Nat.le_of_ble_eq_true rfl) dL_law_1406 rfl (fun v2 u2 hp2 => ?_)
  obtain ⟨rfl, hmp⟩ := hp2
  rw [hsg] at hmp
  refine KSt (st2 := [.double (shr (zw z) (za z))]) (by rw [hsg]; rfl) ?_
  refine KDstore (lv' := [(7, .double (shr (zw z) (za z))), (5, .double (shr (zw z) (za z))), (0, .ref b0), (1, .ref (q 0)), (2, .ref (q 80)), (3, .ref (q 93)), (4, .int (iI (i : Int)))]) C dL_law_1409 (by decide) rfl ?_
  refine KDload C dL_law_1411 1 rfl ?_
  refine KDload C dL_law_1413 0 rfl ?_
  refine KDcmp C dL_law_1415 ?_
  refine KTop (shr_cmp hW.rgs.2.2.2 _) ?_
  refine KIf_eq C dL_law_1416 rfl inR_0 (fun _ => ?_) (fun h9 => absurd rfl h9)
  refine KGoto C dL_law_1437 rfl ?_
  refine KLv [2, 3, 4, 5, 6] rfl ?_
  exact KWiden (by omega) (by omega) (kk u2 z (hmid.both hmp hW))
end
