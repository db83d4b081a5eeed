def P_X3_init (S : Sto) (a : Nat) (x : Int) (y : Int) (z9 : Int) : Option Value → Sto → Prop := fun v u => v = none ∧ ∃ e : Nat → Nat, WH u a e x y z9 ∧ ExA S u a ∧ Frs S u (rls 4 e)
set_option maxRecDepth 100000 in
set_option maxHeartbeats 4000000 in
theorem ct_X3_init (l : Launch) (g : GG) (S : Sto) (a : Nat) (x : Int) (y : Int) (z9 : Int) (ha : At0 S a 4) (hx : inR x ∧ inR y ∧ inR z9) : MetS l g yX3_init cX3_init 5 (none) 2 4 80 [.ref a, .int (iI x), .int (iI y), .int (iI z9)] S (P_X3_init S a x y z9) := by
  refine MetS.of (own := RX3) (lv := [(0, .ref a), (1, .int (iI x)), (2, .int (iI y)), (3, .int (iI z9))]) (by decide) rfl (Nat.le_of_ble_eq_true rfl) rfl ?_
  intro pX eX sX mX argsX belowX methX cX C hin
  refine KRg (fun hR => ?_)
  obtain ⟨⟨hx1, hx2⟩, ⟨hy1, hy2⟩, hw1, hw2⟩ := hx
  have ha0 := ha
  have hA0 := Arr.nil (S := S) (a := a) (fun _ => 0)
  have hF0 : sI S a = sI S a := rfl
  refine KAload_n C dX3_init_0 rfl 0 rfl ?_
  refine KObjInit C u_ml_RX3_3 dX3_init_1 ⟨Nat.le_of_ble_eq_true rfl, Nat.le_of_ble_eq_true rfl⟩ ?_
  refine KAload_n C dX3_init_4 rfl 0 rfl ?_
  refine KBipush C dX3_init_5 (by decide) ?_
  refine KNewaI C 20 (by omega) (by omega) u_ac_97 ⟨by show _ + 1 ≤ 4; omega, by show _ + _ ≤ 80; omega⟩ dX3_init_7 (fun e0 he0 => ?_)
  have ha9 := ha
  have ha : At0 (nw S e0 20 20) a 4 := (Ext.nw he0 20 20).gro.at ha9
  refine KPutRF (S := nw S e0 20 20) (ty := (.array .int)) C ul_X3 rfl (by decide) 3 3 rfl (by decide) rfl u_fl_RX3_9 tyX3 tyX3_ok nmX3 ha (by decide +kernel) rfl rfl rfl hin rfl dX3_init_9 (fun _ h => h) ?_
  have hAp0 := Arr.put (k := 3) (n := 20) ha0 hA0 he0 (by decide)
  obtain ⟨T1, hT1⟩ : ∃ Tz, Tz = (uP (nw S e0 20 20) a 3 (some e0)) := ⟨_, rfl⟩
  obtain ⟨hA1, hF1⟩ : Arr S T1 a [(3, 20)] (fun j => if j = 0 then e0 else ((fun _ => 0)) j) ∧ sI T1 a = sI S a := by rw [hT1]; exact ⟨hAp0.1, hAp0.2.trans hF0⟩
  have ha := hA1.1.1.at ha0
  refine KSto (S2 := T1) hT1.symm ?_
  refine KAload_n C dX3_init_12 rfl 0 rfl ?_
  refine KBipush C dX3_init_13 (by decide) ?_
  refine KNewaI C 20 (by omega) (by omega) u_ac_97 ⟨by show _ + 1 ≤ 4; omega, by show _ + _ ≤ 80; omega⟩ dX3_init_15 (fun e1 he1 => ?_)
  have ha9 := ha
  have ha : At0 (nw T1 e1 20 20) a 4 := (Ext.nw he1 20 20).gro.at ha9
  refine KPutRF (S := nw T1 e1 20 20) (ty := (.array .int)) C ul_X3 rfl (by decide) 4 4 rfl (by decide) rfl u_fl_RX3_15 tyX3 tyX3_ok nmX3 ha (by decide +kernel) rfl rfl rfl hin rfl dX3_init_17 (fun _ h => h) ?_
  have hAp1 := Arr.put (k := 4) (n := 20) ha0 hA1 he1 (by decide)
  obtain ⟨T2, hT2⟩ : ∃ Tz, Tz = (uP (nw T1 e1 20 20) a 4 (some e1)) := ⟨_, rfl⟩
  obtain ⟨hA2, hF2⟩ : Arr S T2 a [(3, 20), (4, 20)] (fun j => if j = 1 then e1 else (fun j => if j = 0 then e0 else ((fun _ => 0)) j) j) ∧ sI T2 a = sI S a := by rw [hT2]; exact ⟨hAp1.1, hAp1.2.trans hF1⟩
  have ha := hA2.1.1.at ha0
  refine KSto (S2 := T2) hT2.symm ?_
  refine KAload_n C dX3_init_20 rfl 0 rfl ?_
  refine KBipush C dX3_init_21 (by decide) ?_
  refine KNewaI C 20 (by omega) (by omega) u_ac_97 ⟨by show _ + 1 ≤ 4; omega, by show _ + _ ≤ 80; omega⟩ dX3_init_23 (fun e2 he2 => ?_)
  have ha9 := ha
  have ha : At0 (nw T2 e2 20 20) a 4 := (Ext.nw he2 20 20).gro.at ha9
  refine KPutRF (S := nw T2 e2 20 20) (ty := (.array .int)) C ul_X3 rfl (by decide) 5 5 rfl (by decide) rfl u_fl_RX3_18 tyX3 tyX3_ok nmX3 ha (by decide +kernel) rfl rfl rfl hin rfl dX3_init_25 (fun _ h => h) ?_
  have hAp2 := Arr.put (k := 5) (n := 20) ha0 hA2 he2 (by decide)
  obtain ⟨T3, hT3⟩ : ∃ Tz, Tz = (uP (nw T2 e2 20 20) a 5 (some e2)) := ⟨_, rfl⟩
  obtain ⟨hA3, hF3⟩ : Arr S T3 a [(3, 20), (4, 20), (5, 20)] (fun j => if j = 2 then e2 else (fun j => if j = 1 then e1 else (fun j => if j = 0 then e0 else ((fun _ => 0)) j) j) j) ∧ sI T3 a = sI S a := by rw [hT3]; exact ⟨hAp2.1, hAp2.2.trans hF2⟩
  have ha := hA3.1.1.at ha0
  refine KSto (S2 := T3) hT3.symm ?_
  refine KAload_n C dX3_init_28 rfl 0 rfl ?_
  refine KBipush C dX3_init_29 (by decide) ?_
  refine KNewaI C 20 (by omega) (by omega) u_ac_97 ⟨by show _ + 1 ≤ 4; omega, by show _ + _ ≤ 80; omega⟩ dX3_init_31 (fun e3 he3 => ?_)
  have ha9 := ha
  have ha : At0 (nw T3 e3 20 20) a 4 := (Ext.nw he3 20 20).gro.at ha9
  refine KPutRF (S := nw T3 e3 20 20) (ty := (.array .int)) C ul_X3 rfl (by decide) 6 6 rfl (by decide) rfl u_fl_RX3_21 tyX3 tyX3_ok nmX3 ha (by decide +kernel) rfl rfl rfl hin rfl dX3_init_33 (fun _ h => h) ?_
  have hAp3 := Arr.put (k := 6) (n := 20) ha0 hA3 he3 (by decide)
  obtain ⟨T4, hT4⟩ : ∃ Tz, Tz = (uP (nw T3 e3 20 20) a 6 (some e3)) := ⟨_, rfl⟩
  obtain ⟨hA4, hF4⟩ : Arr S T4 a [(3, 20), (4, 20), (5, 20), (6, 20)] (fun j => if j = 3 then e3 else (fun j => if j = 2 then e2 else (fun j => if j = 1 then e1 else (fun j => if j = 0 then e0 else ((fun _ => 0)) j) j) j) j) ∧ sI T4 a = sI S a := by rw [hT4]; exact ⟨hAp3.1, hAp3.2.trans hF3⟩
  have ha := hA4.1.1.at ha0
  refine KSto (S2 := T4) hT4.symm ?_
  refine KAload_n C dX3_init_36 rfl 0 rfl ?_
  refine KIload_n C dX3_init_37 rfl 1 rfl ?_
  refine KPutIF (S := T4) (ty := .int) (v := x) C ul_X3 rfl (by decide) 0 0 rfl (by decide) rfl u_fl_RX3_24 tyX3 tyX3_ok nmX3 ha ⟨by omega, by omega⟩ (by decide +kernel) rfl rfl rfl hin rfl dX3_init_38 (fun _ h => h) ?_
  have hAp4 := Arr.int ha0 hA4 0 (x)
  obtain ⟨T5, hT5⟩ : ∃ Tz, Tz = (uI T4 a 0 x) := ⟨_, rfl⟩
  obtain ⟨hA5, hF5⟩ : Arr S T5 a _ _ ∧ sI T5 a = upd1 (sI S a) 0 (x) := by rw [hT5]; exact ⟨hAp4.1, hAp4.2.trans (congrArg (fun F9 => upd1 F9 0 (x)) hF4)⟩
  have ha := hA5.1.1.at ha0
  refine KSto (S2 := T5) hT5.symm ?_
  refine KAload_n C dX3_init_41 rfl 0 rfl ?_
  refine KIload_n C dX3_init_42 rfl 2 rfl ?_
  refine KPutIF (S := T5) (ty := .int) (v := y) C ul_X3 rfl (by decide) 1 1 rfl (by decide) rfl u_fl_RX3_28 tyX3 tyX3_ok nmX3 ha ⟨by omega, by omega⟩ (by decide +kernel) rfl rfl rfl hin rfl dX3_init_43 (fun _ h => h) ?_
  have hAp5 := Arr.int ha0 hA5 1 (y)
  obtain ⟨T6, hT6⟩ : ∃ Tz, Tz = (uI T5 a 1 y) := ⟨_, rfl⟩
  obtain ⟨hA6, hF6⟩ : Arr S T6 a _ _ ∧ sI T6 a = upd1 (upd1 (sI S a) 0 (x)) 1 (y) := by rw [hT6]; exact ⟨hAp5.1, hAp5.2.trans (congrArg (fun F9 => upd1 F9 1 (y)) hF5)⟩
  have ha := hA6.1.1.at ha0
  refine KSto (S2 := T6) hT6.symm ?_
  refine KAload_n C dX3_init_46 rfl 0 rfl ?_
  refine KIload_n C dX3_init_47 rfl 3 rfl ?_
  refine KPutIF (S := T6) (ty := .int) (v := z9) C ul_X3 rfl (by decide) 2 2 rfl (by decide) rfl u_fl_RX3_31 tyX3 tyX3_ok nmX3 ha ⟨by omega, by omega⟩ (by decide +kernel) rfl rfl rfl hin rfl dX3_init_48 (fun _ h => h) ?_
  have hAp6 := Arr.int ha0 hA6 2 (z9)
  obtain ⟨T7, hT7⟩ : ∃ Tz, Tz = (uI T6 a 2 z9) := ⟨_, rfl⟩
  obtain ⟨hA7, hF7⟩ : Arr S T7 a _ _ ∧ sI T7 a = upd1 (upd1 (upd1 (sI S a) 0 (x)) 1 (y)) 2 (z9) := by rw [hT7]; exact ⟨hAp6.1, hAp6.2.trans (congrArg (fun F9 => upd1 F9 2 (z9)) hF6)⟩
  have ha := hA7.1.1.at ha0
  refine KSto (S2 := T7) hT7.symm ?_
  refine KIconst C dX3_init_51 ?_
  refine KIstore (lv' := [(4, .int (iI 0)), (0, .ref a), (1, .int (iI x)), (2, .int (iI y)), (3, .int (iI z9))]) C dX3_init_52 (by decide) rfl ?_
  have hz0 : sI T7 e0 = fil 0 := by rw [fil_0]; exact funext (hA7.2.1 0 (by decide)).2.2.2.2
  refine KSto (S2 := wI T7 (row1 (sI T7) e0 (fil 0))) (by rw [← hz0, row1_self]) ?_
  refine KLv (lv' := [(0, .ref a), (1, .int (iI x)), (2, .int (iI y)), (3, .int (iI z9)), (4, .int (iI 0))]) [1, 2, 3, 4, 0] rfl ?_
  have loop54 : ∀ (nX : Nat) (k : Nat), 20 - k < nX → (k ≤ 20) → Wk pX l eX (rmK 2 4 80) sX mX argsX belowX methX cX (MQ belowX (QcG g (P_X3_init S a x y z9)) argsX sX 4 80 (ge (gB g))) g 5 4 80 54 [(0, .ref a), (1, .int (iI x)), (2, .int (iI y)), (3, .int (iI z9)), (4, .int (iI (k : Int)))] [] (wI T7 (row1 (sI T7) e0 (fil k))) := by
    intro nX
    induction nX with
    | zero => intro k hm; exact absurd hm (Nat.not_lt_zero _)
    | succ nX ih54 =>
      intro k hm54 hk
      refine KRg (fun hR => ?_)
      refine KIload C dX3_init_54 4 rfl ?_
      refine KBipush C dX3_init_56 (by decide) ?_
      refine KIcmp_ge (tgt := 75) C dX3_init_58 (by decide) ⟨by omega, by omega⟩ ⟨by omega, by omega⟩ (fun c58 => ?_) (fun c58 => ?_)
      · refine KVret C rfl (by
          refine ⟨rfl, fun j => if j = 3 then e3 else (fun j => if j = 2 then e2 else (fun j => if j = 1 then e1 else (fun j => if j = 0 then e0 else ((fun _ => 0)) j) j) j) j, ?_⟩
          rw [show k = 20 by omega]
          exact wh_of ha0 hA7 (by rw [hF7]; rfl) (by rw [hF7]; rfl) (by rw [hF7]; rfl)) (by decide) (by decide) dX3_init_75
      · refine KAload_n C dX3_init_61 rfl 0 rfl ?_
        refine KGetR (S := wI T7 (row1 (sI T7) e0 (fil k))) C ul_X3 rfl (by decide) 3 3 rfl (by decide) rfl u_fl_RX3_9 ha (b := e0) (hA7.2.1 0 (by decide)).2.2.2.1 dX3_init_62 (fun _ h => h) ?_
        refine KIload C dX3_init_65 4 rfl ?_
        refine KIconst C dX3_init_67 ?_
        refine KIast (S := wI T7 (row1 (sI T7) e0 (fil k))) C 20 (hA7.2.1 0 (by decide)).2.1 (hA7.2.1 0 (by decide)).2.2.1 ⟨by omega, by omega⟩ (by omega) ⟨by omega, by omega⟩ dX3_init_68 ?_
        refine KSto (S2 := wI T7 (row1 (sI T7) e0 (fil (k + 1)))) (congrArg (wI T7) ((up2_row1 _ _ _ _ _).trans (congrArg _ (fil_step k)))) ?_
        refine KIinc (v := ((k + 1 : Nat) : Int)) (lv' := [(4, .int (iI ((k + 1 : Nat) : Int))), (0, .ref a), (1, .int (iI x)), (2, .int (iI y)), (3, .int (iI z9))]) C dX3_init_69 4 rfl (by omega) (by decide) rfl ?_
        refine KGoto (tgt := 54) C dX3_init_72 (by decide) ?_
        refine KLv (lv' := [(0, .ref a), (1, .int (iI x)), (2, .int (iI y)), (3, .int (iI z9)), (4, .int (iI ((k + 1 : Nat) : Int)))]) [1, 2, 3, 4, 0] rfl ?_
        exact ih54 (k + 1) (by omega) (by omega)
  exact loop54 _ 0 (Nat.lt_succ_self _) (by omega)
def P_X2_init (S : Sto) (a : Nat) (b : Nat) : Option Value → Sto → Prop := fun v u => v = none ∧ ∃ (p wy o : Nat) (r : Nat → Nat), RO u a b p wy o r ∧ ExA S u a ∧ Frs S u ([p] ++ (wy :: rls 10 r) ++ [o])
set_option maxRecDepth 100000 in
set_option maxHeartbeats 4000000 in
theorem ct_X2_init (l : Launch) (g : GG) (S : Sto) (a : Nat) (b : Nat) (ha : At0 S a 3) : MetS l g yX2_init cX2_init 2 (none) 2 13 4727 [.ref a, .ref b] S (P_X2_init S a b) := by
  refine MetS.of (own := RX2) (lv := [(0, .ref a), (1, .ref b)]) (by decide) rfl (Nat.le_of_ble_eq_true rfl) rfl ?_
  intro pX eX sX mX argsX belowX methX cX C hin
  refine KRg (fun hR => ?_)
  have ha0 := ha
  refine KAload_n C dX2_init_0 rfl 0 rfl ?_
  refine KObjInit C u_ml_RX2_3 dX2_init_1 ⟨Nat.le_of_ble_eq_true rfl, Nat.le_of_ble_eq_true rfl⟩ ?_
  refine KAload_n C dX2_init_4 rfl 0 rfl ?_
  refine KBipush C dX2_init_5 (by decide) ?_
  refine KNewaI C 9 (by omega) (by omega) u_ac_97 ⟨by show _ + 1 ≤ 13; omega, by show _ + _ ≤ 4727; omega⟩ dX2_init_7 (fun a7 ha7 => ?_)
  have ha : At0 (nw S a7 20 9) a 3 := (Ext.nw ha7 20 9).gro.at ha0
  refine KPutRF (S := nw S a7 20 9) (ty := (.array .int)) C ul_X2 rfl (by decide) 1 1 rfl (by decide) rfl u_fl_RX2_9 tyX2 tyX2_ok nmX2 ha (by decide +kernel) rfl rfl rfl hin rfl dX2_init_9 (fun _ h => h) ?_
  refine KAload_n C dX2_init_12 rfl 0 rfl ?_
  refine KBipush C dX2_init_13 (by decide) ?_
  refine KBipush C dX2_init_15 (by decide) ?_
  refine KMna C 10 10 (by omega) (by omega) (by omega) (by omega) u_cl_RX2_15 u_ac_97 ⟨by show _ + _ ≤ 13; omega, by show _ + _ ≤ 4727; omega⟩ dX2_init_17 (fun a17 r17 ha17 hr17 hi17 hn17 => ?_)
  have ha1 := ha
  have ha : At0 (mna (uP (nw S a7 20 9) a 1 (some a7)) a17 10 r17 10) a 3 := (Ext.mna (k := 10) ha17 hr17).gro.at (show At0 (uP (nw S a7 20 9) a 1 (some a7)) a 3 from ha1)
  refine KPutRF (S := mna (uP (nw S a7 20 9) a 1 (some a7)) a17 10 r17 10) (ty := (.array (.array .int))) C ul_X2 rfl (by decide) 3 3 rfl (by decide) rfl u_fl_RX2_17 tyX2 tyX2_ok nmX2 ha (by decide +kernel) rfl rfl rfl hin rfl dX2_init_21 (fun _ h => h) ?_
  refine KAload_n C dX2_init_24 rfl 0 rfl ?_
  refine KSipush C dX2_init_25 (by decide) ?_
  refine KNewaI C 4608 (by omega) (by omega) u_ac_97 ⟨by show _ + 1 ≤ 13; omega, by show _ + _ ≤ 4727; omega⟩ dX2_init_28 (fun a28 ha28 => ?_)
  have ha2 := ha
  have ha : At0 (nw (uP (mna (uP (nw S a7 20 9) a 1 (some a7)) a17 10 r17 10) a 3 (some a17)) a28 20 4608) a 3 := (Ext.nw ha28 20 4608).gro.at (show At0 (uP (mna (uP (nw S a7 20 9) a 1 (some a7)) a17 10 r17 10) a 3 (some a17)) a 3 from ha2)
  refine KPutRF (S := nw (uP (mna (uP (nw S a7 20 9) a 1 (some a7)) a17 10 r17 10) a 3 (some a17)) a28 20 4608) (ty := (.array .int)) C ul_X2 rfl (by decide) 4 4 rfl (by decide) rfl u_fl_RX2_20 tyX2 tyX2_ok nmX2 ha (by decide +kernel) rfl rfl rfl hin rfl dX2_init_30 (fun _ h => h) ?_
  refine KAload_n C dX2_init_33 rfl 0 rfl ?_
  refine KAload_n C dX2_init_34 rfl 1 rfl ?_
  refine KPutRF (S := uP (nw (uP (mna (uP (nw S a7 20 9) a 1 (some a7)) a17 10 r17 10) a 3 (some a17)) a28 20 4608) a 4 (some a28)) (ty := (.object "Aislewright$Warehouse")) C ul_X2 rfl (by decide) 0 0 rfl (by decide) rfl u_fl_RX2_23 tyX2 tyX2_ok nmX2 ha (by decide +kernel) rfl rfl rfl hin rfl dX2_init_35 (fun _ h => h) ?_
  refine KVret C rfl (by
    exact ⟨rfl, a7, a17, a28, r17, ro_of ha0 ha7 ha17 hr17 hi17 hn17 ha28⟩) (by decide) (by decide) dX2_init_38
def P_X4_init (S : Sto) (a : Nat) (b : Nat) (tt : Nat) : Option Value → Sto → Prop := fun v u => v = none ∧ ∃ (lb sv : Nat) (s : Nat → Nat), WV u tt a b lb sv s ∧ ExA S u a ∧ Frs S u ([lb] ++ (sv :: rls 40 s))
set_option maxRecDepth 100000 in
set_option maxHeartbeats 4000000 in
theorem ct_X4_init (l : Launch) (g : GG) (S : Sto) (a : Nat) (b : Nat) (ha : At0 S a 5) (tt : Nat) (htt : tt = gT g) : MetS l g yX4_init cX4_init 2 (none) 4 42 1643 [.ref a, .ref b] S (P_X4_init S a b tt) := by
  refine MetS.of (own := RX4) (lv := [(0, .ref a), (1, .ref b)]) (by decide) rfl (Nat.le_of_ble_eq_true rfl) rfl ?_
  intro pX eX sX mX argsX belowX methX cX C hin
  refine KRg (fun hR => ?_)
  have ha0 := ha
  refine KAload_n C dX4_init_0 rfl 0 rfl ?_
  refine KObjInit C u_ml_RX4_3 dX4_init_1 ⟨Nat.le_of_ble_eq_true rfl, Nat.le_of_ble_eq_true rfl⟩ ?_
  refine KAload_n C dX4_init_4 rfl 0 rfl ?_
  refine KNew C ul_Jx4a65c rfl (by decide) tyJx4a65c tyJx4a65c_ok u_cl_RX4_9 u_is_RJx4a65c u_in_RJx4a65c nf_Jx4a65c ⟨by show _ + 1 ≤ 42; omega, by show _ + 3 ≤ 1643; omega⟩ dX4_init_5 (fun a5 ha5 => ?_)
  have ha : At0 (nw S a5 0 0) a 5 := (Ext.nw ha5 0 0).gro.at ha0
  refine KDup C dX4_init_8 rfl ?_
  refine KCallI (As := []) (b := a5) (st := [.ref a5, .ref a]) C (ct_Jx4a65c_init_da8c8 l g (nw S a5 0 0) a5 (nw_at (kd := 0) (n := 0)) (gT g) rfl) u_ml_RX4_11 u_im_yJx4a65c_init_da8c8 u_in_RJx4a65c u_co_yJx4a65c_init_da8c8 rfl hd_yJx4a65c_init_da8c8.2 ⟨Nat.le_of_ble_eq_true rfl, Nat.le_of_ble_eq_true rfl⟩ ⟨Nat.le_of_ble_eq_true rfl, Nat.le_of_ble_eq_true rfl⟩ (Nat.le_of_ble_eq_true rfl) dX4_init_9 rfl (fun v9 u9 hp9 => ?_)
  obtain ⟨rfl, rfl⟩ := hp9
  refine KSt (st2 := [.ref a5, .ref a]) rfl ?_
  refine KRg (fun hR => ?_)
  refine KPutRF (S := uP (uI (nw S a5 0 0) a5 0 0) a5 1 (some (gT g))) (ty := (.object "java/util/ArrayList")) C ul_X4 rfl (by decide) 1 1 rfl (by decide) rfl u_fl_RX4_12 tyX4 tyX4_ok nmX4 ha (by decide +kernel) rfl rfl rfl hin rfl dX4_init_12 (fun _ h => h) ?_
  refine KAload_n C dX4_init_15 rfl 0 rfl ?_
  refine KBipush C dX4_init_16 (by decide) ?_
  refine KBipush C dX4_init_18 (by decide) ?_
  refine KMna C 40 40 (by omega) (by omega) (by omega) (by omega) u_cl_RX4_18 u_ac_97 ⟨by show _ + _ ≤ 42; omega, by show _ + _ ≤ 1643; omega⟩ dX4_init_20 (fun a20 r20 ha20 hr20 hi20 hn20 => ?_)
  have ha1 := ha
  have ha : At0 (mna (uP (uP (uI (nw S a5 0 0) a5 0 0) a5 1 (some (gT g))) a 1 (some a5)) a20 40 r20 40) a 5 := (Ext.mna (k := 40) ha20 hr20).gro.at (show At0 (uP (uP (uI (nw S a5 0 0) a5 0 0) a5 1 (some (gT g))) a 1 (some a5)) a 5 from ha1)
  refine KPutRF (S := mna (uP (uP (uI (nw S a5 0 0) a5 0 0) a5 1 (some (gT g))) a 1 (some a5)) a20 40 r20 40) (ty := (.array (.array .int))) C ul_X4 rfl (by decide) 2 2 rfl (by decide) rfl u_fl_RX4_20 tyX4 tyX4_ok nmX4 ha (by decide +kernel) rfl rfl rfl hin rfl dX4_init_24 (fun _ h => h) ?_
  refine KAload_n C dX4_init_27 rfl 0 rfl ?_
  refine KAload_n C dX4_init_28 rfl 1 rfl ?_
  refine KPutRF (S := uP (mna (uP (uP (uI (nw S a5 0 0) a5 0 0) a5 1 (some (gT g))) a 1 (some a5)) a20 40 r20 40) a 2 (some a20)) (ty := (.object "Aislewright$Router")) C ul_X4 rfl (by decide) 0 0 rfl (by decide) rfl u_fl_RX4_23 tyX4 tyX4_ok nmX4 ha (by decide +kernel) rfl rfl rfl hin rfl dX4_init_29 (fun _ h => h) ?_
  refine KVret C rfl (by
    exact ⟨rfl, a5, a20, r20, (by rw [htt]; exact wv_of ha0 ha5 ha20 hr20 hi20 hn20)⟩) (by decide) (by decide) dX4_init_32
