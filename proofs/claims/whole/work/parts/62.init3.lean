def P_X6_init (S : Sto) (a : Nat) (x : Int) (y : Int) (z9 : Int) : Option Value → Sto → Prop := fun v u => v = none ∧ ∃ m : Nat → Nat, MO u a m (wth x 6) (wth y 20) (wth z9 9) ∧ ExA S u a ∧ Frs S u (rls 12 m)
set_option maxRecDepth 100000 in
set_option maxHeartbeats 4000000 in
theorem ct_X6_init (l : Launch) (g : GG) (S : Sto) (a : Nat) (x : Int) (y : Int) (z9 : Int) (ha : At0 S a 7) (hz : ∀ k, sI S a k = 0) (hzj : ∀ k, sJ S a k = 0) (hx : inR x ∧ inR y ∧ inR z9) : MetS l g yX6_init cX6_init 5 (none) 2 12 5758 [.ref a, .int (iI x), .int (iI y), .int (iI z9)] S (P_X6_init S a x y z9) := by
  refine MetS.of (own := RX6) (lv := [(0, .ref a), (1, .int (iI x)), (2, .int (iI y)), (3, .int (iI z9))]) (by decide) rfl (Nat.le_of_ble_eq_true rfl) rfl ?_
  intro pX eX sX mX argsX belowX methX cX C hin
  refine KRg (fun hR => ?_)
  obtain ⟨⟨hx1, hx2⟩, ⟨hy1, hy2⟩, hw1, hw2⟩ := hx
  have ha0 := ha
  have hA0 := Arr.nil (S := S) (a := a) (fun _ => 0)
  have hF0 : sI S a = sI S a := rfl
  refine KAload_n C dX6_init_0 rfl 0 rfl ?_
  refine KObjInit C u_ml_RX6_1 dX6_init_1 ⟨Nat.le_of_ble_eq_true rfl, Nat.le_of_ble_eq_true rfl⟩ ?_
  refine KAload_n C dX6_init_4 rfl 0 rfl ?_
  refine KBipush C dX6_init_5 (by decide) ?_
  refine KPutI (ty := .int) (v := 6) C ul_X6 rfl (by decide) 4 4 rfl (by decide) rfl u_fl_RX6_7 tyX6 tyX6_ok nmX6 ha ⟨by omega, by omega⟩ (by decide +kernel) rfl rfl rfl dX6_init_7 (fun _ h => h) ?_
  have hAp0 := Arr.int ha0 hA0 4 (6)
  obtain ⟨T1, hT1⟩ : ∃ Tz, Tz = (uI S a 4 6) := ⟨_, rfl⟩
  obtain ⟨hA1, hF1⟩ : Arr S T1 a _ _ ∧ sI T1 a = upd1 (sI S a) 4 (6) := by rw [hT1]; exact ⟨hAp0.1, hAp0.2.trans (congrArg (fun F9 => upd1 F9 4 (6)) hF0)⟩
  have ha := hA1.1.1.at ha0
  refine KSto (S2 := T1) hT1.symm ?_
  refine KAload_n C dX6_init_10 rfl 0 rfl ?_
  refine KBipush C dX6_init_11 (by decide) ?_
  refine KNewaI C 20 (by omega) (by omega) u_ac_116 ⟨by show _ + 1 ≤ 12; omega, by show _ + _ ≤ 5758; omega⟩ dX6_init_13 (fun e0 he0 => ?_)
  have ha9 := ha
  have ha : At0 (nw T1 e0 20 20) a 7 := (Ext.nw he0 20 20).gro.at ha9
  refine KPutRF (S := nw T1 e0 20 20) (ty := (.array .int)) C ul_X6 rfl (by decide) 5 5 rfl (by decide) rfl u_fl_RX6_13 tyX6 tyX6_ok nmX6 ha (by decide +kernel) rfl rfl rfl hin rfl dX6_init_15 (fun _ h => h) ?_
  have hAp1 := Arr.put (k := 5) (n := 20) ha0 hA1 he0 (by decide)
  obtain ⟨T2, hT2⟩ : ∃ Tz, Tz = (uP (nw T1 e0 20 20) a 5 (some e0)) := ⟨_, rfl⟩
  obtain ⟨hA2, hF2⟩ : Arr S T2 a [(5, 20)] (fun j => if j = 0 then e0 else ((fun _ => 0)) j) ∧ sI T2 a = upd1 (sI S a) 4 (6) := by rw [hT2]; exact ⟨hAp1.1, hAp1.2.trans hF1⟩
  have ha := hA2.1.1.at ha0
  refine KSto (S2 := T2) hT2.symm ?_
  refine KAload_n C dX6_init_18 rfl 0 rfl ?_
  refine KBipush C dX6_init_19 (by decide) ?_
  refine KNewaI C 40 (by omega) (by omega) u_ac_116 ⟨by show _ + 1 ≤ 12; omega, by show _ + _ ≤ 5758; omega⟩ dX6_init_21 (fun e1 he1 => ?_)
  have ha9 := ha
  have ha : At0 (nw T2 e1 20 40) a 7 := (Ext.nw he1 20 40).gro.at ha9
  refine KPutRF (S := nw T2 e1 20 40) (ty := (.array .int)) C ul_X6 rfl (by decide) 7 7 rfl (by decide) rfl u_fl_RX6_17 tyX6 tyX6_ok nmX6 ha (by decide +kernel) rfl rfl rfl hin rfl dX6_init_23 (fun _ h => h) ?_
  have hAp2 := Arr.put (k := 7) (n := 40) ha0 hA2 he1 (by decide)
  obtain ⟨T3, hT3⟩ : ∃ Tz, Tz = (uP (nw T2 e1 20 40) a 7 (some e1)) := ⟨_, rfl⟩
  obtain ⟨hA3, hF3⟩ : Arr S T3 a [(5, 20), (7, 40)] (fun j => if j = 1 then e1 else (fun j => if j = 0 then e0 else ((fun _ => 0)) j) j) ∧ sI T3 a = upd1 (sI S a) 4 (6) := by rw [hT3]; exact ⟨hAp2.1, hAp2.2.trans hF2⟩
  have ha := hA3.1.1.at ha0
  refine KSto (S2 := T3) hT3.symm ?_
  refine KAload_n C dX6_init_26 rfl 0 rfl ?_
  refine KBipush C dX6_init_27 (by decide) ?_
  refine KNewaI C 40 (by omega) (by omega) u_ac_116 ⟨by show _ + 1 ≤ 12; omega, by show _ + _ ≤ 5758; omega⟩ dX6_init_29 (fun e2 he2 => ?_)
  have ha9 := ha
  have ha : At0 (nw T3 e2 20 40) a 7 := (Ext.nw he2 20 40).gro.at ha9
  refine KPutRF (S := nw T3 e2 20 40) (ty := (.array .int)) C ul_X6 rfl (by decide) 8 8 rfl (by decide) rfl u_fl_RX6_20 tyX6 tyX6_ok nmX6 ha (by decide +kernel) rfl rfl rfl hin rfl dX6_init_31 (fun _ h => h) ?_
  have hAp3 := Arr.put (k := 8) (n := 40) ha0 hA3 he2 (by decide)
  obtain ⟨T4, hT4⟩ : ∃ Tz, Tz = (uP (nw T3 e2 20 40) a 8 (some e2)) := ⟨_, rfl⟩
  obtain ⟨hA4, hF4⟩ : Arr S T4 a [(5, 20), (7, 40), (8, 40)] (fun j => if j = 2 then e2 else (fun j => if j = 1 then e1 else (fun j => if j = 0 then e0 else ((fun _ => 0)) j) j) j) ∧ sI T4 a = upd1 (sI S a) 4 (6) := by rw [hT4]; exact ⟨hAp3.1, hAp3.2.trans hF3⟩
  have ha := hA4.1.1.at ha0
  refine KSto (S2 := T4) hT4.symm ?_
  refine KAload_n C dX6_init_34 rfl 0 rfl ?_
  refine KBipush C dX6_init_35 (by decide) ?_
  refine KNewaI C 40 (by omega) (by omega) u_ac_116 ⟨by show _ + 1 ≤ 12; omega, by show _ + _ ≤ 5758; omega⟩ dX6_init_37 (fun e3 he3 => ?_)
  have ha9 := ha
  have ha : At0 (nw T4 e3 20 40) a 7 := (Ext.nw he3 20 40).gro.at ha9
  refine KPutRF (S := nw T4 e3 20 40) (ty := (.array .int)) C ul_X6 rfl (by decide) 9 9 rfl (by decide) rfl u_fl_RX6_23 tyX6 tyX6_ok nmX6 ha (by decide +kernel) rfl rfl rfl hin rfl dX6_init_39 (fun _ h => h) ?_
  have hAp4 := Arr.put (k := 9) (n := 40) ha0 hA4 he3 (by decide)
  obtain ⟨T5, hT5⟩ : ∃ Tz, Tz = (uP (nw T4 e3 20 40) a 9 (some e3)) := ⟨_, rfl⟩
  obtain ⟨hA5, hF5⟩ : Arr S T5 a [(5, 20), (7, 40), (8, 40), (9, 40)] (fun j => if j = 3 then e3 else (fun j => if j = 2 then e2 else (fun j => if j = 1 then e1 else (fun j => if j = 0 then e0 else ((fun _ => 0)) j) j) j) j) ∧ sI T5 a = upd1 (sI S a) 4 (6) := by rw [hT5]; exact ⟨hAp4.1, hAp4.2.trans hF4⟩
  have ha := hA5.1.1.at ha0
  refine KSto (S2 := T5) hT5.symm ?_
  refine KAload_n C dX6_init_42 rfl 0 rfl ?_
  refine KBipush C dX6_init_43 (by decide) ?_
  refine KNewaI C 40 (by omega) (by omega) u_ac_116 ⟨by show _ + 1 ≤ 12; omega, by show _ + _ ≤ 5758; omega⟩ dX6_init_45 (fun e4 he4 => ?_)
  have ha9 := ha
  have ha : At0 (nw T5 e4 20 40) a 7 := (Ext.nw he4 20 40).gro.at ha9
  refine KPutRF (S := nw T5 e4 20 40) (ty := (.array .int)) C ul_X6 rfl (by decide) 10 10 rfl (by decide) rfl u_fl_RX6_26 tyX6 tyX6_ok nmX6 ha (by decide +kernel) rfl rfl rfl hin rfl dX6_init_47 (fun _ h => h) ?_
  have hAp5 := Arr.put (k := 10) (n := 40) ha0 hA5 he4 (by decide)
  obtain ⟨T6, hT6⟩ : ∃ Tz, Tz = (uP (nw T5 e4 20 40) a 10 (some e4)) := ⟨_, rfl⟩
  obtain ⟨hA6, hF6⟩ : Arr S T6 a [(5, 20), (7, 40), (8, 40), (9, 40), (10, 40)] (fun j => if j = 4 then e4 else (fun j => if j = 3 then e3 else (fun j => if j = 2 then e2 else (fun j => if j = 1 then e1 else (fun j => if j = 0 then e0 else ((fun _ => 0)) j) j) j) j) j) ∧ sI T6 a = upd1 (sI S a) 4 (6) := by rw [hT6]; exact ⟨hAp5.1, hAp5.2.trans hF5⟩
  have ha := hA6.1.1.at ha0
  refine KSto (S2 := T6) hT6.symm ?_
  refine KAload_n C dX6_init_50 rfl 0 rfl ?_
  refine KSipush C dX6_init_51 (by decide) ?_
  refine KNewaI C 200 (by omega) (by omega) u_ac_116 ⟨by show _ + 1 ≤ 12; omega, by show _ + _ ≤ 5758; omega⟩ dX6_init_54 (fun e5 he5 => ?_)
  have ha9 := ha
  have ha : At0 (nw T6 e5 20 200) a 7 := (Ext.nw he5 20 200).gro.at ha9
  refine KPutRF (S := nw T6 e5 20 200) (ty := (.array .int)) C ul_X6 rfl (by decide) 11 11 rfl (by decide) rfl u_fl_RX6_29 tyX6 tyX6_ok nmX6 ha (by decide +kernel) rfl rfl rfl hin rfl dX6_init_56 (fun _ h => h) ?_
  have hAp6 := Arr.put (k := 11) (n := 200) ha0 hA6 he5 (by decide)
  obtain ⟨T7, hT7⟩ : ∃ Tz, Tz = (uP (nw T6 e5 20 200) a 11 (some e5)) := ⟨_, rfl⟩
  obtain ⟨hA7, hF7⟩ : Arr S T7 a [(5, 20), (7, 40), (8, 40), (9, 40), (10, 40), (11, 200)] (fun j => if j = 5 then e5 else (fun j => if j = 4 then e4 else (fun j => if j = 3 then e3 else (fun j => if j = 2 then e2 else (fun j => if j = 1 then e1 else (fun j => if j = 0 then e0 else ((fun _ => 0)) j) j) j) j) j) j) ∧ sI T7 a = upd1 (sI S a) 4 (6) := by rw [hT7]; exact ⟨hAp6.1, hAp6.2.trans hF6⟩
  have ha := hA7.1.1.at ha0
  refine KSto (S2 := T7) hT7.symm ?_
  refine KAload_n C dX6_init_59 rfl 0 rfl ?_
  refine KSipush C dX6_init_60 (by decide) ?_
  refine KNewaI C 200 (by omega) (by omega) u_ac_116 ⟨by show _ + 1 ≤ 12; omega, by show _ + _ ≤ 5758; omega⟩ dX6_init_63 (fun e6 he6 => ?_)
  have ha9 := ha
  have ha : At0 (nw T7 e6 20 200) a 7 := (Ext.nw he6 20 200).gro.at ha9
  refine KPutRF (S := nw T7 e6 20 200) (ty := (.array .int)) C ul_X6 rfl (by decide) 12 12 rfl (by decide) rfl u_fl_RX6_32 tyX6 tyX6_ok nmX6 ha (by decide +kernel) rfl rfl rfl hin rfl dX6_init_65 (fun _ h => h) ?_
  have hAp7 := Arr.put (k := 12) (n := 200) ha0 hA7 he6 (by decide)
  obtain ⟨T8, hT8⟩ : ∃ Tz, Tz = (uP (nw T7 e6 20 200) a 12 (some e6)) := ⟨_, rfl⟩
  obtain ⟨hA8, hF8⟩ : Arr S T8 a [(5, 20), (7, 40), (8, 40), (9, 40), (10, 40), (11, 200), (12, 200)] (fun j => if j = 6 then e6 else (fun j => if j = 5 then e5 else (fun j => if j = 4 then e4 else (fun j => if j = 3 then e3 else (fun j => if j = 2 then e2 else (fun j => if j = 1 then e1 else (fun j => if j = 0 then e0 else ((fun _ => 0)) j) j) j) j) j) j) j) ∧ sI T8 a = upd1 (sI S a) 4 (6) := by rw [hT8]; exact ⟨hAp7.1, hAp7.2.trans hF7⟩
  have ha := hA8.1.1.at ha0
  refine KSto (S2 := T8) hT8.symm ?_
  refine KAload_n C dX6_init_68 rfl 0 rfl ?_
  refine KBipush C dX6_init_69 (by decide) ?_
  refine KNewaI C 9 (by omega) (by omega) u_ac_116 ⟨by show _ + 1 ≤ 12; omega, by show _ + _ ≤ 5758; omega⟩ dX6_init_71 (fun e7 he7 => ?_)
  have ha9 := ha
  have ha : At0 (nw T8 e7 20 9) a 7 := (Ext.nw he7 20 9).gro.at ha9
  refine KPutRF (S := nw T8 e7 20 9) (ty := (.array .int)) C ul_X6 rfl (by decide) 17 17 rfl (by decide) rfl u_fl_RX6_35 tyX6 tyX6_ok nmX6 ha (by decide +kernel) rfl rfl rfl hin rfl dX6_init_73 (fun _ h => h) ?_
  have hAp8 := Arr.put (k := 17) (n := 9) ha0 hA8 he7 (by decide)
  obtain ⟨T9, hT9⟩ : ∃ Tz, Tz = (uP (nw T8 e7 20 9) a 17 (some e7)) := ⟨_, rfl⟩
  obtain ⟨hA9, hF9⟩ : Arr S T9 a [(5, 20), (7, 40), (8, 40), (9, 40), (10, 40), (11, 200), (12, 200), (17, 9)] (fun j => if j = 7 then e7 else (fun j => if j = 6 then e6 else (fun j => if j = 5 then e5 else (fun j => if j = 4 then e4 else (fun j => if j = 3 then e3 else (fun j => if j = 2 then e2 else (fun j => if j = 1 then e1 else (fun j => if j = 0 then e0 else ((fun _ => 0)) j) j) j) j) j) j) j) j) ∧ sI T9 a = upd1 (sI S a) 4 (6) := by rw [hT9]; exact ⟨hAp8.1, hAp8.2.trans hF8⟩
  have ha := hA9.1.1.at ha0
  refine KSto (S2 := T9) hT9.symm ?_
  refine KAload_n C dX6_init_76 rfl 0 rfl ?_
  refine KSipush C dX6_init_77 (by decide) ?_
  refine KNewaI C 5120 (by omega) (by omega) u_ac_116 ⟨by show _ + 1 ≤ 12; omega, by show _ + _ ≤ 5758; omega⟩ dX6_init_80 (fun e8 he8 => ?_)
  have ha9 := ha
  have ha : At0 (nw T9 e8 20 5120) a 7 := (Ext.nw he8 20 5120).gro.at ha9
  refine KPutRF (S := nw T9 e8 20 5120) (ty := (.array .int)) C ul_X6 rfl (by decide) 18 18 rfl (by decide) rfl u_fl_RX6_38 tyX6 tyX6_ok nmX6 ha (by decide +kernel) rfl rfl rfl hin rfl dX6_init_82 (fun _ h => h) ?_
  have hAp9 := Arr.put (k := 18) (n := 5120) ha0 hA9 he8 (by decide)
  obtain ⟨T10, hT10⟩ : ∃ Tz, Tz = (uP (nw T9 e8 20 5120) a 18 (some e8)) := ⟨_, rfl⟩
  obtain ⟨hA10, hF10⟩ : Arr S T10 a [(5, 20), (7, 40), (8, 40), (9, 40), (10, 40), (11, 200), (12, 200), (17, 9), (18, 5120)] (fun j => if j = 8 then e8 else (fun j => if j = 7 then e7 else (fun j => if j = 6 then e6 else (fun j => if j = 5 then e5 else (fun j => if j = 4 then e4 else (fun j => if j = 3 then e3 else (fun j => if j = 2 then e2 else (fun j => if j = 1 then e1 else (fun j => if j = 0 then e0 else ((fun _ => 0)) j) j) j) j) j) j) j) j) j) ∧ sI T10 a = upd1 (sI S a) 4 (6) := by rw [hT10]; exact ⟨hAp9.1, hAp9.2.trans hF9⟩
  have ha := hA10.1.1.at ha0
  refine KSto (S2 := T10) hT10.symm ?_
  refine KAload_n C dX6_init_85 rfl 0 rfl ?_
  refine KBipush C dX6_init_86 (by decide) ?_
  refine KNewaI C 9 (by omega) (by omega) u_ac_116 ⟨by show _ + 1 ≤ 12; omega, by show _ + _ ≤ 5758; omega⟩ dX6_init_88 (fun e9 he9 => ?_)
  have ha9 := ha
  have ha : At0 (nw T10 e9 20 9) a 7 := (Ext.nw he9 20 9).gro.at ha9
  refine KPutRF (S := nw T10 e9 20 9) (ty := (.array .int)) C ul_X6 rfl (by decide) 19 19 rfl (by decide) rfl u_fl_RX6_41 tyX6 tyX6_ok nmX6 ha (by decide +kernel) rfl rfl rfl hin rfl dX6_init_90 (fun _ h => h) ?_
  have hAp10 := Arr.put (k := 19) (n := 9) ha0 hA10 he9 (by decide)
  obtain ⟨T11, hT11⟩ : ∃ Tz, Tz = (uP (nw T10 e9 20 9) a 19 (some e9)) := ⟨_, rfl⟩
  obtain ⟨hA11, hF11⟩ : Arr S T11 a [(5, 20), (7, 40), (8, 40), (9, 40), (10, 40), (11, 200), (12, 200), (17, 9), (18, 5120), (19, 9)] (fun j => if j = 9 then e9 else (fun j => if j = 8 then e8 else (fun j => if j = 7 then e7 else (fun j => if j = 6 then e6 else (fun j => if j = 5 then e5 else (fun j => if j = 4 then e4 else (fun j => if j = 3 then e3 else (fun j => if j = 2 then e2 else (fun j => if j = 1 then e1 else (fun j => if j = 0 then e0 else ((fun _ => 0)) j) j) j) j) j) j) j) j) j) j) ∧ sI T11 a = upd1 (sI S a) 4 (6) := by rw [hT11]; exact ⟨hAp10.1, hAp10.2.trans hF10⟩
  have ha := hA11.1.1.at ha0
  refine KSto (S2 := T11) hT11.symm ?_
  refine KAload_n C dX6_init_93 rfl 0 rfl ?_
  refine KBipush C dX6_init_94 (by decide) ?_
  refine KNewaI C 20 (by omega) (by omega) u_ac_116 ⟨by show _ + 1 ≤ 12; omega, by show _ + _ ≤ 5758; omega⟩ dX6_init_96 (fun e10 he10 => ?_)
  have ha9 := ha
  have ha : At0 (nw T11 e10 20 20) a 7 := (Ext.nw he10 20 20).gro.at ha9
  refine KPutRF (S := nw T11 e10 20 20) (ty := (.array .int)) C ul_X6 rfl (by decide) 20 20 rfl (by decide) rfl u_fl_RX6_44 tyX6 tyX6_ok nmX6 ha (by decide +kernel) rfl rfl rfl hin rfl dX6_init_98 (fun _ h => h) ?_
  have hAp11 := Arr.put (k := 20) (n := 20) ha0 hA11 he10 (by decide)
  obtain ⟨T12, hT12⟩ : ∃ Tz, Tz = (uP (nw T11 e10 20 20) a 20 (some e10)) := ⟨_, rfl⟩
  obtain ⟨hA12, hF12⟩ : Arr S T12 a [(5, 20), (7, 40), (8, 40), (9, 40), (10, 40), (11, 200), (12, 200), (17, 9), (18, 5120), (19, 9), (20, 20)] (fun j => if j = 10 then e10 else (fun j => if j = 9 then e9 else (fun j => if j = 8 then e8 else (fun j => if j = 7 then e7 else (fun j => if j = 6 then e6 else (fun j => if j = 5 then e5 else (fun j => if j = 4 then e4 else (fun j => if j = 3 then e3 else (fun j => if j = 2 then e2 else (fun j => if j = 1 then e1 else (fun j => if j = 0 then e0 else ((fun _ => 0)) j) j) j) j) j) j) j) j) j) j) j) ∧ sI T12 a = upd1 (sI S a) 4 (6) := by rw [hT12]; exact ⟨hAp11.1, hAp11.2.trans hF11⟩
  have ha := hA12.1.1.at ha0
  refine KSto (S2 := T12) hT12.symm ?_
  refine KAload_n C dX6_init_101 rfl 0 rfl ?_
  refine KBipush C dX6_init_102 (by decide) ?_
  refine KNewaI C 20 (by omega) (by omega) u_ac_116 ⟨by show _ + 1 ≤ 12; omega, by show _ + _ ≤ 5758; omega⟩ dX6_init_104 (fun e11 he11 => ?_)
  have ha9 := ha
  have ha : At0 (nw T12 e11 20 20) a 7 := (Ext.nw he11 20 20).gro.at ha9
  refine KPutRF (S := nw T12 e11 20 20) (ty := (.array .int)) C ul_X6 rfl (by decide) 21 21 rfl (by decide) rfl u_fl_RX6_47 tyX6 tyX6_ok nmX6 ha (by decide +kernel) rfl rfl rfl hin rfl dX6_init_106 (fun _ h => h) ?_
  have hAp12 := Arr.put (k := 21) (n := 20) ha0 hA12 he11 (by decide)
  obtain ⟨T13, hT13⟩ : ∃ Tz, Tz = (uP (nw T12 e11 20 20) a 21 (some e11)) := ⟨_, rfl⟩
  obtain ⟨hA13, hF13⟩ : Arr S T13 a [(5, 20), (7, 40), (8, 40), (9, 40), (10, 40), (11, 200), (12, 200), (17, 9), (18, 5120), (19, 9), (20, 20), (21, 20)] (fun j => if j = 11 then e11 else (fun j => if j = 10 then e10 else (fun j => if j = 9 then e9 else (fun j => if j = 8 then e8 else (fun j => if j = 7 then e7 else (fun j => if j = 6 then e6 else (fun j => if j = 5 then e5 else (fun j => if j = 4 then e4 else (fun j => if j = 3 then e3 else (fun j => if j = 2 then e2 else (fun j => if j = 1 then e1 else (fun j => if j = 0 then e0 else ((fun _ => 0)) j) j) j) j) j) j) j) j) j) j) j) j) ∧ sI T13 a = upd1 (sI S a) 4 (6) := by rw [hT13]; exact ⟨hAp12.1, hAp12.2.trans hF12⟩
  have ha := hA13.1.1.at ha0
  refine KSto (S2 := T13) hT13.symm ?_
  refine KAload_n C dX6_init_109 rfl 0 rfl ?_
  refine KIload_n C dX6_init_110 rfl 1 rfl ?_
  refine KIconst C dX6_init_111 ?_
  refine KIcmp_ge (tgt := 119) C dX6_init_112 (by decide) ⟨by omega, by omega⟩ ⟨by omega, by omega⟩ (fun c112 => ?_) (fun c112 => ?_)
  · refine KIload_n C dX6_init_119 rfl 1 rfl ?_
    refine KBipush C dX6_init_120 (by decide) ?_
    refine KIcmp_le (tgt := 130) C dX6_init_122 (by decide) ⟨by omega, by omega⟩ ⟨by omega, by omega⟩ (fun c122 => ?_) (fun c122 => ?_)
    · refine KIload_n C dX6_init_130 rfl 1 rfl ?_
      refine KTop (congrArg iI (show x = wth x 6 from (by unfold wth maxI minI; split <;> split <;> omega))) ?_
      have hwbx := wth_b (x := x) (m := 6) (by decide)
      refine KPutIF (S := T13) (ty := .int) (v := wth x 6) C ul_X6 rfl (by decide) 1 1 rfl (by decide) rfl u_fl_RX6_50 tyX6 tyX6_ok nmX6 ha ⟨by omega, by omega⟩ (by decide +kernel) rfl rfl rfl hin rfl dX6_init_131 (fun _ h => h) ?_
      have hAp13 := Arr.int ha0 hA13 1 (wth x 6)
      obtain ⟨T14, hT14⟩ : ∃ Tz, Tz = (uI T13 a 1 (wth x 6)) := ⟨_, rfl⟩
      obtain ⟨hA14, hF14⟩ : Arr S T14 a _ _ ∧ sI T14 a = upd1 (upd1 (sI S a) 4 (6)) 1 (wth x 6) := by rw [hT14]; exact ⟨hAp13.1, hAp13.2.trans (congrArg (fun F9 => upd1 F9 1 (wth x 6)) hF13)⟩
      have ha := hA14.1.1.at ha0
      refine KSto (S2 := T14) hT14.symm ?_
      refine KAload_n C dX6_init_134 rfl 0 rfl ?_
      refine KIload_n C dX6_init_135 rfl 2 rfl ?_
      refine KIconst C dX6_init_136 ?_
      refine KIcmp_ge (tgt := 144) C dX6_init_137 (by decide) ⟨by omega, by omega⟩ ⟨by omega, by omega⟩ (fun c137 => ?_) (fun c137 => ?_)
      · refine KIload_n C dX6_init_144 rfl 2 rfl ?_
        refine KBipush C dX6_init_145 (by decide) ?_
        refine KIcmp_le (tgt := 155) C dX6_init_147 (by decide) ⟨by omega, by omega⟩ ⟨by omega, by omega⟩ (fun c147 => ?_) (fun c147 => ?_)
        · refine KIload_n C dX6_init_155 rfl 2 rfl ?_
          refine KTop (congrArg iI (show y = wth y 20 from (by unfold wth maxI minI; split <;> split <;> omega))) ?_
          have hwby := wth_b (x := y) (m := 20) (by decide)
          refine KPutIF (S := T14) (ty := .int) (v := wth y 20) C ul_X6 rfl (by decide) 2 2 rfl (by decide) rfl u_fl_RX6_53 tyX6 tyX6_ok nmX6 ha ⟨by omega, by omega⟩ (by decide +kernel) rfl rfl rfl hin rfl dX6_init_156 (fun _ h => h) ?_
          have hAp14 := Arr.int ha0 hA14 2 (wth y 20)
          obtain ⟨T15, hT15⟩ : ∃ Tz, Tz = (uI T14 a 2 (wth y 20)) := ⟨_, rfl⟩
          obtain ⟨hA15, hF15⟩ : Arr S T15 a _ _ ∧ sI T15 a = upd1 (upd1 (upd1 (sI S a) 4 (6)) 1 (wth x 6)) 2 (wth y 20) := by rw [hT15]; exact ⟨hAp14.1, hAp14.2.trans (congrArg (fun F9 => upd1 F9 2 (wth y 20)) hF14)⟩
          have ha := hA15.1.1.at ha0
          refine KSto (S2 := T15) hT15.symm ?_
          refine KAload_n C dX6_init_159 rfl 0 rfl ?_
          refine KIload_n C dX6_init_160 rfl 3 rfl ?_
          refine KIconst C dX6_init_161 ?_
          refine KIcmp_ge (tgt := 169) C dX6_init_162 (by decide) ⟨by omega, by omega⟩ ⟨by omega, by omega⟩ (fun c162 => ?_) (fun c162 => ?_)
          · refine KIload_n C dX6_init_169 rfl 3 rfl ?_
            refine KBipush C dX6_init_170 (by decide) ?_
            refine KIcmp_le (tgt := 180) C dX6_init_172 (by decide) ⟨by omega, by omega⟩ ⟨by omega, by omega⟩ (fun c172 => ?_) (fun c172 => ?_)
            · refine KIload_n C dX6_init_180 rfl 3 rfl ?_
              refine KTop (congrArg iI (show z9 = wth z9 9 from (by unfold wth maxI minI; split <;> split <;> omega))) ?_
              have hwbz9 := wth_b (x := z9) (m := 9) (by decide)
              refine KPutIF (S := T15) (ty := .int) (v := wth z9 9) C ul_X6 rfl (by decide) 3 3 rfl (by decide) rfl u_fl_RX6_56 tyX6 tyX6_ok nmX6 ha ⟨by omega, by omega⟩ (by decide +kernel) rfl rfl rfl hin rfl dX6_init_181 (fun _ h => h) ?_
              have hAp15 := Arr.int ha0 hA15 3 (wth z9 9)
              obtain ⟨T16, hT16⟩ : ∃ Tz, Tz = (uI T15 a 3 (wth z9 9)) := ⟨_, rfl⟩
              obtain ⟨hA16, hF16⟩ : Arr S T16 a _ _ ∧ sI T16 a = upd1 (upd1 (upd1 (upd1 (sI S a) 4 (6)) 1 (wth x 6)) 2 (wth y 20)) 3 (wth z9 9) := by rw [hT16]; exact ⟨hAp15.1, hAp15.2.trans (congrArg (fun F9 => upd1 F9 3 (wth z9 9)) hF15)⟩
              have ha := hA16.1.1.at ha0
              refine KSto (S2 := T16) hT16.symm ?_
              refine KIconst C dX6_init_184 ?_
              refine KIstore (lv' := [(4, .int (iI 0)), (0, .ref a), (1, .int (iI x)), (2, .int (iI y)), (3, .int (iI z9))]) C dX6_init_185 (by decide) rfl ?_
              have hz0 : sI T16 e0 = fil 0 := by rw [fil_0]; exact funext (hA16.2.1 0 (by decide)).2.2.2.2
              refine KSto (S2 := wI T16 (row1 (sI T16) e0 (fil 0))) (by rw [← hz0, row1_self]) ?_
              refine KLv (lv' := [(0, .ref a), (1, .int (iI x)), (2, .int (iI y)), (3, .int (iI z9)), (4, .int (iI 0))]) [1, 2, 3, 4, 0] rfl ?_
              have loop187 : ∀ (nX : Nat) (k : Nat), 20 - k < nX → (k ≤ 20) → Wk pX l eX (rmK 2 12 5758) sX mX argsX belowX methX cX (MQ belowX (QcG g (P_X6_init S a x y z9)) argsX sX 12 5758 (ge (gB g))) g 5 12 5758 187 [(0, .ref a), (1, .int (iI x)), (2, .int (iI y)), (3, .int (iI z9)), (4, .int (iI (k : Int)))] [] (wI T16 (row1 (sI T16) e0 (fil k))) := by
                intro nX
                induction nX with
                | zero => intro k hm; exact absurd hm (Nat.not_lt_zero _)
                | succ nX ih187 =>
                  intro k hm187 hk
                  refine KRg (fun hR => ?_)
                  refine KIload C dX6_init_187 4 rfl ?_
                  refine KBipush C dX6_init_189 (by decide) ?_
                  refine KIcmp_ge (tgt := 208) C dX6_init_191 (by decide) ⟨by omega, by omega⟩ ⟨by omega, by omega⟩ (fun c191 => ?_) (fun c191 => ?_)
                  · refine KVret C rfl (by
                      refine ⟨rfl, fun j => if j = 11 then e11 else (fun j => if j = 10 then e10 else (fun j => if j = 9 then e9 else (fun j => if j = 8 then e8 else (fun j => if j = 7 then e7 else (fun j => if j = 6 then e6 else (fun j => if j = 5 then e5 else (fun j => if j = 4 then e4 else (fun j => if j = 3 then e3 else (fun j => if j = 2 then e2 else (fun j => if j = 1 then e1 else (fun j => if j = 0 then e0 else ((fun _ => 0)) j) j) j) j) j) j) j) j) j) j) j) j, ?_⟩
                      rw [show k = 20 by omega]
                      exact mo_of ha0 hA16 hz hzj hF16) (by decide) (by decide) dX6_init_208
                  · refine KAload_n C dX6_init_194 rfl 0 rfl ?_
                    refine KGetR (S := wI T16 (row1 (sI T16) e0 (fil k))) C ul_X6 rfl (by decide) 5 5 rfl (by decide) rfl u_fl_RX6_13 ha (b := e0) (hA16.2.1 0 (by decide)).2.2.2.1 dX6_init_195 (fun _ h => h) ?_
                    refine KIload C dX6_init_198 4 rfl ?_
                    refine KIconst C dX6_init_200 ?_
                    refine KIast (S := wI T16 (row1 (sI T16) e0 (fil k))) C 20 (hA16.2.1 0 (by decide)).2.1 (hA16.2.1 0 (by decide)).2.2.1 ⟨by omega, by omega⟩ (by omega) ⟨by omega, by omega⟩ dX6_init_201 ?_
                    refine KSto (S2 := wI T16 (row1 (sI T16) e0 (fil (k + 1)))) (congrArg (wI T16) ((up2_row1 _ _ _ _ _).trans (congrArg _ (fil_step k)))) ?_
                    refine KIinc (v := ((k + 1 : Nat) : Int)) (lv' := [(4, .int (iI ((k + 1 : Nat) : Int))), (0, .ref a), (1, .int (iI x)), (2, .int (iI y)), (3, .int (iI z9))]) C dX6_init_202 4 rfl (by omega) (by decide) rfl ?_
                    refine KGoto (tgt := 187) C dX6_init_205 (by decide) ?_
                    refine KLv (lv' := [(0, .ref a), (1, .int (iI x)), (2, .int (iI y)), (3, .int (iI z9)), (4, .int (iI ((k + 1 : Nat) : Int)))]) [1, 2, 3, 4, 0] rfl ?_
                    exact ih187 (k + 1) (by omega) (by omega)
              exact loop187 _ 0 (Nat.lt_succ_self _) (by omega)
            · refine KBipush C dX6_init_175 (by decide) ?_
              refine KGoto (tgt := 181) C dX6_init_177 (by decide) ?_
              refine KTop (congrArg iI (show 9 = wth z9 9 from (by unfold wth maxI minI; split <;> split <;> omega))) ?_
              have hwbz9 := wth_b (x := z9) (m := 9) (by decide)
              refine KPutIF (S := T15) (ty := .int) (v := wth z9 9) C ul_X6 rfl (by decide) 3 3 rfl (by decide) rfl u_fl_RX6_56 tyX6 tyX6_ok nmX6 ha ⟨by omega, by omega⟩ (by decide +kernel) rfl rfl rfl hin rfl dX6_init_181 (fun _ h => h) ?_
              have hAp15 := Arr.int ha0 hA15 3 (wth z9 9)
              obtain ⟨T16, hT16⟩ : ∃ Tz, Tz = (uI T15 a 3 (wth z9 9)) := ⟨_, rfl⟩
              obtain ⟨hA16, hF16⟩ : Arr S T16 a _ _ ∧ sI T16 a = upd1 (upd1 (upd1 (upd1 (sI S a) 4 (6)) 1 (wth x 6)) 2 (wth y 20)) 3 (wth z9 9) := by rw [hT16]; exact ⟨hAp15.1, hAp15.2.trans (congrArg (fun F9 => upd1 F9 3 (wth z9 9)) hF15)⟩
              have ha := hA16.1.1.at ha0
              refine KSto (S2 := T16) hT16.symm ?_
              refine KIconst C dX6_init_184 ?_
              refine KIstore (lv' := [(4, .int (iI 0)), (0, .ref a), (1, .int (iI x)), (2, .int (iI y)), (3, .int (iI z9))]) C dX6_init_185 (by decide) rfl ?_
              have hz0 : sI T16 e0 = fil 0 := by rw [fil_0]; exact funext (hA16.2.1 0 (by decide)).2.2.2.2
              refine KSto (S2 := wI T16 (row1 (sI T16) e0 (fil 0))) (by rw [← hz0, row1_self]) ?_
              refine KLv (lv' := [(0, .ref a), (1, .int (iI x)), (2, .int (iI y)), (3, .int (iI z9)), (4, .int (iI 0))]) [1, 2, 3, 4, 0] rfl ?_
              have loop187 : ∀ (nX : Nat) (k : Nat), 20 - k < nX → (k ≤ 20) → Wk pX l eX (rmK 2 12 5758) sX mX argsX belowX methX cX (MQ belowX (QcG g (P_X6_init S a x y z9)) argsX sX 12 5758 (ge (gB g))) g 5 12 5758 187 [(0, .ref a), (1, .int (iI x)), (2, .int (iI y)), (3, .int (iI z9)), (4, .int (iI (k : Int)))] [] (wI T16 (row1 (sI T16) e0 (fil k))) := by
                intro nX
                induction nX with
                | zero => intro k hm; exact absurd hm (Nat.not_lt_zero _)
                | succ nX ih187 =>
                  intro k hm187 hk
                  refine KRg (fun hR => ?_)
                  refine KIload C dX6_init_187 4 rfl ?_
                  refine KBipush C dX6_init_189 (by decide) ?_
                  refine KIcmp_ge (tgt := 208) C dX6_init_191 (by decide) ⟨by omega, by omega⟩ ⟨by omega, by omega⟩ (fun c191 => ?_) (fun c191 => ?_)
                  · refine KVret C rfl (by
                      refine ⟨rfl, fun j => if j = 11 then e11 else (fun j => if j = 10 then e10 else (fun j => if j = 9 then e9 else (fun j => if j = 8 then e8 else (fun j => if j = 7 then e7 else (fun j => if j = 6 then e6 else (fun j => if j = 5 then e5 else (fun j => if j = 4 then e4 else (fun j => if j = 3 then e3 else (fun j => if j = 2 then e2 else (fun j => if j = 1 then e1 else (fun j => if j = 0 then e0 else ((fun _ => 0)) j) j) j) j) j) j) j) j) j) j) j) j, ?_⟩
                      rw [show k = 20 by omega]
                      exact mo_of ha0 hA16 hz hzj hF16) (by decide) (by decide) dX6_init_208
                  · refine KAload_n C dX6_init_194 rfl 0 rfl ?_
                    refine KGetR (S := wI T16 (row1 (sI T16) e0 (fil k))) C ul_X6 rfl (by decide) 5 5 rfl (by decide) rfl u_fl_RX6_13 ha (b := e0) (hA16.2.1 0 (by decide)).2.2.2.1 dX6_init_195 (fun _ h => h) ?_
                    refine KIload C dX6_init_198 4 rfl ?_
                    refine KIconst C dX6_init_200 ?_
                    refine KIast (S := wI T16 (row1 (sI T16) e0 (fil k))) C 20 (hA16.2.1 0 (by decide)).2.1 (hA16.2.1 0 (by decide)).2.2.1 ⟨by omega, by omega⟩ (by omega) ⟨by omega, by omega⟩ dX6_init_201 ?_
                    refine KSto (S2 := wI T16 (row1 (sI T16) e0 (fil (k + 1)))) (congrArg (wI T16) ((up2_row1 _ _ _ _ _).trans (congrArg _ (fil_step k)))) ?_
                    refine KIinc (v := ((k + 1 : Nat) : Int)) (lv' := [(4, .int (iI ((k + 1 : Nat) : Int))), (0, .ref a), (1, .int (iI x)), (2, .int (iI y)), (3, .int (iI z9))]) C dX6_init_202 4 rfl (by omega) (by decide) rfl ?_
                    refine KGoto (tgt := 187) C dX6_init_205 (by decide) ?_
                    refine KLv (lv' := [(0, .ref a), (1, .int (iI x)), (2, .int (iI y)), (3, .int (iI z9)), (4, .int (iI ((k + 1 : Nat) : Int)))]) [1, 2, 3, 4, 0] rfl ?_
                    exact ih187 (k + 1) (by omega) (by omega)
              exact loop187 _ 0 (Nat.lt_succ_self _) (by omega)
          · refine KIconst C dX6_init_165 ?_
            refine KGoto (tgt := 181) C dX6_init_166 (by decide) ?_
            refine KTop (congrArg iI (show 1 = wth z9 9 from (by unfold wth maxI minI; split <;> split <;> omega))) ?_
            have hwbz9 := wth_b (x := z9) (m := 9) (by decide)
            refine KPutIF (S := T15) (ty := .int) (v := wth z9 9) C ul_X6 rfl (by decide) 3 3 rfl (by decide) rfl u_fl_RX6_56 tyX6 tyX6_ok nmX6 ha ⟨by omega, by omega⟩ (by decide +kernel) rfl rfl rfl hin rfl dX6_init_181 (fun _ h => h) ?_
            have hAp15 := Arr.int ha0 hA15 3 (wth z9 9)
            obtain ⟨T16, hT16⟩ : ∃ Tz, Tz = (uI T15 a 3 (wth z9 9)) := ⟨_, rfl⟩
            obtain ⟨hA16, hF16⟩ : Arr S T16 a _ _ ∧ sI T16 a = upd1 (upd1 (upd1 (upd1 (sI S a) 4 (6)) 1 (wth x 6)) 2 (wth y 20)) 3 (wth z9 9) := by rw [hT16]; exact ⟨hAp15.1, hAp15.2.trans (congrArg (fun F9 => upd1 F9 3 (wth z9 9)) hF15)⟩
            have ha := hA16.1.1.at ha0
            refine KSto (S2 := T16) hT16.symm ?_
            refine KIconst C dX6_init_184 ?_
            refine KIstore (lv' := [(4, .int (iI 0)), (0, .ref a), (1, .int (iI x)), (2, .int (iI y)), (3, .int (iI z9))]) C dX6_init_185 (by decide) rfl ?_
            have hz0 : sI T16 e0 = fil 0 := by rw [fil_0]; exact funext (hA16.2.1 0 (by decide)).2.2.2.2
            refine KSto (S2 := wI T16 (row1 (sI T16) e0 (fil 0))) (by rw [← hz0, row1_self]) ?_
            refine KLv (lv' := [(0, .ref a), (1, .int (iI x)), (2, .int (iI y)), (3, .int (iI z9)), (4, .int (iI 0))]) [1, 2, 3, 4, 0] rfl ?_
            have loop187 : ∀ (nX : Nat) (k : Nat), 20 - k < nX → (k ≤ 20) → Wk pX l eX (rmK 2 12 5758) sX mX argsX belowX methX cX (MQ belowX (QcG g (P_X6_init S a x y z9)) argsX sX 12 5758 (ge (gB g))) g 5 12 5758 187 [(0, .ref a), (1, .int (iI x)), (2, .int (iI y)), (3, .int (iI z9)), (4, .int (iI (k : Int)))] [] (wI T16 (row1 (sI T16) e0 (fil k))) := by
              intro nX
              induction nX with
              | zero => intro k hm; exact absurd hm (Nat.not_lt_zero _)
              | succ nX ih187 =>
                intro k hm187 hk
                refine KRg (fun hR => ?_)
                refine KIload C dX6_init_187 4 rfl ?_
                refine KBipush C dX6_init_189 (by decide) ?_
                refine KIcmp_ge (tgt := 208) C dX6_init_191 (by decide) ⟨by omega, by omega⟩ ⟨by omega, by omega⟩ (fun c191 => ?_) (fun c191 => ?_)
                · refine KVret C rfl (by
                    refine ⟨rfl, fun j => if j = 11 then e11 else (fun j => if j = 10 then e10 else (fun j => if j = 9 then e9 else (fun j => if j = 8 then e8 else (fun j => if j = 7 then e7 else (fun j => if j = 6 then e6 else (fun j => if j = 5 then e5 else (fun j => if j = 4 then e4 else (fun j => if j = 3 then e3 else (fun j => if j = 2 then e2 else (fun j => if j = 1 then e1 else (fun j => if j = 0 then e0 else ((fun _ => 0)) j) j) j) j) j) j) j) j) j) j) j) j, ?_⟩
                    rw [show k = 20 by omega]
                    exact mo_of ha0 hA16 hz hzj hF16) (by decide) (by decide) dX6_init_208
                · refine KAload_n C dX6_init_194 rfl 0 rfl ?_
                  refine KGetR (S := wI T16 (row1 (sI T16) e0 (fil k))) C ul_X6 rfl (by decide) 5 5 rfl (by decide) rfl u_fl_RX6_13 ha (b := e0) (hA16.2.1 0 (by decide)).2.2.2.1 dX6_init_195 (fun _ h => h) ?_
                  refine KIload C dX6_init_198 4 rfl ?_
                  refine KIconst C dX6_init_200 ?_
                  refine KIast (S := wI T16 (row1 (sI T16) e0 (fil k))) C 20 (hA16.2.1 0 (by decide)).2.1 (hA16.2.1 0 (by decide)).2.2.1 ⟨by omega, by omega⟩ (by omega) ⟨by omega, by omega⟩ dX6_init_201 ?_
                  refine KSto (S2 := wI T16 (row1 (sI T16) e0 (fil (k + 1)))) (congrArg (wI T16) ((up2_row1 _ _ _ _ _).trans (congrArg _ (fil_step k)))) ?_
                  refine KIinc (v := ((k + 1 : Nat) : Int)) (lv' := [(4, .int (iI ((k + 1 : Nat) : Int))), (0, .ref a), (1, .int (iI x)), (2, .int (iI y)), (3, .int (iI z9))]) C dX6_init_202 4 rfl (by omega) (by decide) rfl ?_
                  refine KGoto (tgt := 187) C dX6_init_205 (by decide) ?_
                  refine KLv (lv' := [(0, .ref a), (1, .int (iI x)), (2, .int (iI y)), (3, .int (iI z9)), (4, .int (iI ((k + 1 : Nat) : Int)))]) [1, 2, 3, 4, 0] rfl ?_
                  exact ih187 (k + 1) (by omega) (by omega)
            exact loop187 _ 0 (Nat.lt_succ_self _) (by omega)
        · refine KBipush C dX6_init_150 (by decide) ?_
          refine KGoto (tgt := 156) C dX6_init_152 (by decide) ?_
          refine KTop (congrArg iI (show 20 = wth y 20 from (by unfold wth maxI minI; split <;> split <;> omega))) ?_
          have hwby := wth_b (x := y) (m := 20) (by decide)
          refine KPutIF (S := T14) (ty := .int) (v := wth y 20) C ul_X6 rfl (by decide) 2 2 rfl (by decide) rfl u_fl_RX6_53 tyX6 tyX6_ok nmX6 ha ⟨by omega, by omega⟩ (by decide +kernel) rfl rfl rfl hin rfl dX6_init_156 (fun _ h => h) ?_
          have hAp14 := Arr.int ha0 hA14 2 (wth y 20)
          obtain ⟨T15, hT15⟩ : ∃ Tz, Tz = (uI T14 a 2 (wth y 20)) := ⟨_, rfl⟩
          obtain ⟨hA15, hF15⟩ : Arr S T15 a _ _ ∧ sI T15 a = upd1 (upd1 (upd1 (sI S a) 4 (6)) 1 (wth x 6)) 2 (wth y 20) := by rw [hT15]; exact ⟨hAp14.1, hAp14.2.trans (congrArg (fun F9 => upd1 F9 2 (wth y 20)) hF14)⟩
          have ha := hA15.1.1.at ha0
          refine KSto (S2 := T15) hT15.symm ?_
          refine KAload_n C dX6_init_159 rfl 0 rfl ?_
          refine KIload_n C dX6_init_160 rfl 3 rfl ?_
          refine KIconst C dX6_init_161 ?_
          refine KIcmp_ge (tgt := 169) C dX6_init_162 (by decide) ⟨by omega, by omega⟩ ⟨by omega, by omega⟩ (fun c162 => ?_) (fun c162 => ?_)
          · refine KIload_n C dX6_init_169 rfl 3 rfl ?_
            refine KBipush C dX6_init_170 (by decide) ?_
            refine KIcmp_le (tgt := 180) C dX6_init_172 (by decide) ⟨by omega, by omega⟩ ⟨by omega, by omega⟩ (fun c172 => ?_) (fun c172 => ?_)
            · refine KIload_n C dX6_init_180 rfl 3 rfl ?_
              refine KTop (congrArg iI (show z9 = wth z9 9 from (by unfold wth maxI minI; split <;> split <;> omega))) ?_
              have hwbz9 := wth_b (x := z9) (m := 9) (by decide)
              refine KPutIF (S := T15) (ty := .int) (v := wth z9 9) C ul_X6 rfl (by decide) 3 3 rfl (by decide) rfl u_fl_RX6_56 tyX6 tyX6_ok nmX6 ha ⟨by omega, by omega⟩ (by decide +kernel) rfl rfl rfl hin rfl dX6_init_181 (fun _ h => h) ?_
              have hAp15 := Arr.int ha0 hA15 3 (wth z9 9)
              obtain ⟨T16, hT16⟩ : ∃ Tz, Tz = (uI T15 a 3 (wth z9 9)) := ⟨_, rfl⟩
              obtain ⟨hA16, hF16⟩ : Arr S T16 a _ _ ∧ sI T16 a = upd1 (upd1 (upd1 (upd1 (sI S a) 4 (6)) 1 (wth x 6)) 2 (wth y 20)) 3 (wth z9 9) := by rw [hT16]; exact ⟨hAp15.1, hAp15.2.trans (congrArg (fun F9 => upd1 F9 3 (wth z9 9)) hF15)⟩
              have ha := hA16.1.1.at ha0
              refine KSto (S2 := T16) hT16.symm ?_
              refine KIconst C dX6_init_184 ?_
              refine KIstore (lv' := [(4, .int (iI 0)), (0, .ref a), (1, .int (iI x)), (2, .int (iI y)), (3, .int (iI z9))]) C dX6_init_185 (by decide) rfl ?_
              have hz0 : sI T16 e0 = fil 0 := by rw [fil_0]; exact funext (hA16.2.1 0 (by decide)).2.2.2.2
              refine KSto (S2 := wI T16 (row1 (sI T16) e0 (fil 0))) (by rw [← hz0, row1_self]) ?_
              refine KLv (lv' := [(0, .ref a), (1, .int (iI x)), (2, .int (iI y)), (3, .int (iI z9)), (4, .int (iI 0))]) [1, 2, 3, 4, 0] rfl ?_
              have loop187 : ∀ (nX : Nat) (k : Nat), 20 - k < nX → (k ≤ 20) → Wk pX l eX (rmK 2 12 5758) sX mX argsX belowX methX cX (MQ belowX (QcG g (P_X6_init S a x y z9)) argsX sX 12 5758 (ge (gB g))) g 5 12 5758 187 [(0, .ref a), (1, .int (iI x)), (2, .int (iI y)), (3, .int (iI z9)), (4, .int (iI (k : Int)))] [] (wI T16 (row1 (sI T16) e0 (fil k))) := by
                intro nX
                induction nX with
                | zero => intro k hm; exact absurd hm (Nat.not_lt_zero _)
                | succ nX ih187 =>
                  intro k hm187 hk
                  refine KRg (fun hR => ?_)
                  refine KIload C dX6_init_187 4 rfl ?_
                  refine KBipush C dX6_init_189 (by decide) ?_
                  refine KIcmp_ge (tgt := 208) C dX6_init_191 (by decide) ⟨by omega, by omega⟩ ⟨by omega, by omega⟩ (fun c191 => ?_) (fun c191 => ?_)
                  · refine KVret C rfl (by
                      refine ⟨rfl, fun j => if j = 11 then e11 else (fun j => if j = 10 then e10 else (fun j => if j = 9 then e9 else (fun j => if j = 8 then e8 else (fun j => if j = 7 then e7 else (fun j => if j = 6 then e6 else (fun j => if j = 5 then e5 else (fun j => if j = 4 then e4 else (fun j => if j = 3 then e3 else (fun j => if j = 2 then e2 else (fun j => if j = 1 then e1 else (fun j => if j = 0 then e0 else ((fun _ => 0)) j) j) j) j) j) j) j) j) j) j) j) j, ?_⟩
                      rw [show k = 20 by omega]
                      exact mo_of ha0 hA16 hz hzj hF16) (by decide) (by decide) dX6_init_208
                  · refine KAload_n C dX6_init_194 rfl 0 rfl ?_
                    refine KGetR (S := wI T16 (row1 (sI T16) e0 (fil k))) C ul_X6 rfl (by decide) 5 5 rfl (by decide) rfl u_fl_RX6_13 ha (b := e0) (hA16.2.1 0 (by decide)).2.2.2.1 dX6_init_195 (fun _ h => h) ?_
                    refine KIload C dX6_init_198 4 rfl ?_
                    refine KIconst C dX6_init_200 ?_
                    refine KIast (S := wI T16 (row1 (sI T16) e0 (fil k))) C 20 (hA16.2.1 0 (by decide)).2.1 (hA16.2.1 0 (by decide)).2.2.1 ⟨by omega, by omega⟩ (by omega) ⟨by omega, by omega⟩ dX6_init_201 ?_
                    refine KSto (S2 := wI T16 (row1 (sI T16) e0 (fil (k + 1)))) (congrArg (wI T16) ((up2_row1 _ _ _ _ _).trans (congrArg _ (fil_step k)))) ?_
                    refine KIinc (v := ((k + 1 : Nat) : Int)) (lv' := [(4, .int (iI ((k + 1 : Nat) : Int))), (0, .ref a), (1, .int (iI x)), (2, .int (iI y)), (3, .int (iI z9))]) C dX6_init_202 4 rfl (by omega) (by decide) rfl ?_
                    refine KGoto (tgt := 187) C dX6_init_205 (by decide) ?_
                    refine KLv (lv' := [(0, .ref a), (1, .int (iI x)), (2, .int (iI y)), (3, .int (iI z9)), (4, .int (iI ((k + 1 : Nat) : Int)))]) [1, 2, 3, 4, 0] rfl ?_
                    exact ih187 (k + 1) (by omega) (by omega)
              exact loop187 _ 0 (Nat.lt_succ_self _) (by omega)
            · refine KBipush C dX6_init_175 (by decide) ?_
              refine KGoto (tgt := 181) C dX6_init_177 (by decide) ?_
              refine KTop (congrArg iI (show 9 = wth z9 9 from (by unfold wth maxI minI; split <;> split <;> omega))) ?_
              have hwbz9 := wth_b (x := z9) (m := 9) (by decide)
              refine KPutIF (S := T15) (ty := .int) (v := wth z9 9) C ul_X6 rfl (by decide) 3 3 rfl (by decide) rfl u_fl_RX6_56 tyX6 tyX6_ok nmX6 ha ⟨by omega, by omega⟩ (by decide +kernel) rfl rfl rfl hin rfl dX6_init_181 (fun _ h => h) ?_
              have hAp15 := Arr.int ha0 hA15 3 (wth z9 9)
              obtain ⟨T16, hT16⟩ : ∃ Tz, Tz = (uI T15 a 3 (wth z9 9)) := ⟨_, rfl⟩
              obtain ⟨hA16, hF16⟩ : Arr S T16 a _ _ ∧ sI T16 a = upd1 (upd1 (upd1 (upd1 (sI S a) 4 (6)) 1 (wth x 6)) 2 (wth y 20)) 3 (wth z9 9) := by rw [hT16]; exact ⟨hAp15.1, hAp15.2.trans (congrArg (fun F9 => upd1 F9 3 (wth z9 9)) hF15)⟩
              have ha := hA16.1.1.at ha0
              refine KSto (S2 := T16) hT16.symm ?_
              refine KIconst C dX6_init_184 ?_
              refine KIstore (lv' := [(4, .int (iI 0)), (0, .ref a), (1, .int (iI x)), (2, .int (iI y)), (3, .int (iI z9))]) C dX6_init_185 (by decide) rfl ?_
              have hz0 : sI T16 e0 = fil 0 := by rw [fil_0]; exact funext (hA16.2.1 0 (by decide)).2.2.2.2
              refine KSto (S2 := wI T16 (row1 (sI T16) e0 (fil 0))) (by rw [← hz0, row1_self]) ?_
              refine KLv (lv' := [(0, .ref a), (1, .int (iI x)), (2, .int (iI y)), (3, .int (iI z9)), (4, .int (iI 0))]) [1, 2, 3, 4, 0] rfl ?_
              have loop187 : ∀ (nX : Nat) (k : Nat), 20 - k < nX → (k ≤ 20) → Wk pX l eX (rmK 2 12 5758) sX mX argsX belowX methX cX (MQ belowX (QcG g (P_X6_init S a x y z9)) argsX sX 12 5758 (ge (gB g))) g 5 12 5758 187 [(0, .ref a), (1, .int (iI x)), (2, .int (iI y)), (3, .int (iI z9)), (4, .int (iI (k : Int)))] [] (wI T16 (row1 (sI T16) e0 (fil k))) := by
                intro nX
                induction nX with
                | zero => intro k hm; exact absurd hm (Nat.not_lt_zero _)
                | succ nX ih187 =>
                  intro k hm187 hk
                  refine KRg (fun hR => ?_)
                  refine KIload C dX6_init_187 4 rfl ?_
                  refine KBipush C dX6_init_189 (by decide) ?_
                  refine KIcmp_ge (tgt := 208) C dX6_init_191 (by decide) ⟨by omega, by omega⟩ ⟨by omega, by omega⟩ (fun c191 => ?_) (fun c191 => ?_)
                  · refine KVret C rfl (by
                      refine ⟨rfl, fun j => if j = 11 then e11 else (fun j => if j = 10 then e10 else (fun j => if j = 9 then e9 else (fun j => if j = 8 then e8 else (fun j => if j = 7 then e7 else (fun j => if j = 6 then e6 else (fun j => if j = 5 then e5 else (fun j => if j = 4 then e4 else (fun j => if j = 3 then e3 else (fun j => if j = 2 then e2 else (fun j => if j = 1 then e1 else (fun j => if j = 0 then e0 else ((fun _ => 0)) j) j) j) j) j) j) j) j) j) j) j) j, ?_⟩
                      rw [show k = 20 by omega]
                      exact mo_of ha0 hA16 hz hzj hF16) (by decide) (by decide) dX6_init_208
                  · refine KAload_n C dX6_init_194 rfl 0 rfl ?_
                    refine KGetR (S := wI T16 (row1 (sI T16) e0 (fil k))) C ul_X6 rfl (by decide) 5 5 rfl (by decide) rfl u_fl_RX6_13 ha (b := e0) (hA16.2.1 0 (by decide)).2.2.2.1 dX6_init_195 (fun _ h => h) ?_
                    refine KIload C dX6_init_198 4 rfl ?_
                    refine KIconst C dX6_init_200 ?_
                    refine KIast (S := wI T16 (row1 (sI T16) e0 (fil k))) C 20 (hA16.2.1 0 (by decide)).2.1 (hA16.2.1 0 (by decide)).2.2.1 ⟨by omega, by omega⟩ (by omega) ⟨by omega, by omega⟩ dX6_init_201 ?_
                    refine KSto (S2 := wI T16 (row1 (sI T16) e0 (fil (k + 1)))) (congrArg (wI T16) ((up2_row1 _ _ _ _ _).trans (congrArg _ (fil_step k)))) ?_
                    refine KIinc (v := ((k + 1 : Nat) : Int)) (lv' := [(4, .int (iI ((k + 1 : Nat) : Int))), (0, .ref a), (1, .int (iI x)), (2, .int (iI y)), (3, .int (iI z9))]) C dX6_init_202 4 rfl (by omega) (by decide) rfl ?_
                    refine KGoto (tgt := 187) C dX6_init_205 (by decide) ?_
                    refine KLv (lv' := [(0, .ref a), (1, .int (iI x)), (2, .int (iI y)), (3, .int (iI z9)), (4, .int (iI ((k + 1 : Nat) : Int)))]) [1, 2, 3, 4, 0] rfl ?_
                    exact ih187 (k + 1) (by omega) (by omega)
              exact loop187 _ 0 (Nat.lt_succ_self _) (by omega)
          · refine KIconst C dX6_init_165 ?_
            refine KGoto (tgt := 181) C dX6_init_166 (by decide) ?_
            refine KTop (congrArg iI (show 1 = wth z9 9 from (by unfold wth maxI minI; split <;> split <;> omega))) ?_
            have hwbz9 := wth_b (x := z9) (m := 9) (by decide)
            refine KPutIF (S := T15) (ty := .int) (v := wth z9 9) C ul_X6 rfl (by decide) 3 3 rfl (by decide) rfl u_fl_RX6_56 tyX6 tyX6_ok nmX6 ha ⟨by omega, by omega⟩ (by decide +kernel) rfl rfl rfl hin rfl dX6_init_181 (fun _ h => h) ?_
            have hAp15 := Arr.int ha0 hA15 3 (wth z9 9)
            obtain ⟨T16, hT16⟩ : ∃ Tz, Tz = (uI T15 a 3 (wth z9 9)) := ⟨_, rfl⟩
            obtain ⟨hA16, hF16⟩ : Arr S T16 a _ _ ∧ sI T16 a = upd1 (upd1 (upd1 (upd1 (sI S a) 4 (6)) 1 (wth x 6)) 2 (wth y 20)) 3 (wth z9 9) := by rw [hT16]; exact ⟨hAp15.1, hAp15.2.trans (congrArg (fun F9 => upd1 F9 3 (wth z9 9)) hF15)⟩
            have ha := hA16.1.1.at ha0
            refine KSto (S2 := T16) hT16.symm ?_
            refine KIconst C dX6_init_184 ?_
            refine KIstore (lv' := [(4, .int (iI 0)), (0, .ref a), (1, .int (iI x)), (2, .int (iI y)), (3, .int (iI z9))]) C dX6_init_185 (by decide) rfl ?_
            have hz0 : sI T16 e0 = fil 0 := by rw [fil_0]; exact funext (hA16.2.1 0 (by decide)).2.2.2.2
            refine KSto (S2 := wI T16 (row1 (sI T16) e0 (fil 0))) (by rw [← hz0, row1_self]) ?_
            refine KLv (lv' := [(0, .ref a), (1, .int (iI x)), (2, .int (iI y)), (3, .int (iI z9)), (4, .int (iI 0))]) [1, 2, 3, 4, 0] rfl ?_
            have loop187 : ∀ (nX : Nat) (k : Nat), 20 - k < nX → (k ≤ 20) → Wk pX l eX (rmK 2 12 5758) sX mX argsX belowX methX cX (MQ belowX (QcG g (P_X6_init S a x y z9)) argsX sX 12 5758 (ge (gB g))) g 5 12 5758 187 [(0, .ref a), (1, .int (iI x)), (2, .int (iI y)), (3, .int (iI z9)), (4, .int (iI (k : Int)))] [] (wI T16 (row1 (sI T16) e0 (fil k))) := by
              intro nX
              induction nX with
              | zero => intro k hm; exact absurd hm (Nat.not_lt_zero _)
              | succ nX ih187 =>
                intro k hm187 hk
                refine KRg (fun hR => ?_)
                refine KIload C dX6_init_187 4 rfl ?_
                refine KBipush C dX6_init_189 (by decide) ?_
                refine KIcmp_ge (tgt := 208) C dX6_init_191 (by decide) ⟨by omega, by omega⟩ ⟨by omega, by omega⟩ (fun c191 => ?_) (fun c191 => ?_)
                · refine KVret C rfl (by
                    refine ⟨rfl, fun j => if j = 11 then e11 else (fun j => if j = 10 then e10 else (fun j => if j = 9 then e9 else (fun j => if j = 8 then e8 else (fun j => if j = 7 then e7 else (fun j => if j = 6 then e6 else (fun j => if j = 5 then e5 else (fun j => if j = 4 then e4 else (fun j => if j = 3 then e3 else (fun j => if j = 2 then e2 else (fun j => if j = 1 then e1 else (fun j => if j = 0 then e0 else ((fun _ => 0)) j) j) j) j) j) j) j) j) j) j) j) j, ?_⟩
                    rw [show k = 20 by omega]
                    exact mo_of ha0 hA16 hz hzj hF16) (by decide) (by decide) dX6_init_208
                · refine KAload_n C dX6_init_194 rfl 0 rfl ?_
                  refine KGetR (S := wI T16 (row1 (sI T16) e0 (fil k))) C ul_X6 rfl (by decide) 5 5 rfl (by decide) rfl u_fl_RX6_13 ha (b := e0) (hA16.2.1 0 (by decide)).2.2.2.1 dX6_init_195 (fun _ h => h) ?_
                  refine KIload C dX6_init_198 4 rfl ?_
                  refine KIconst C dX6_init_200 ?_
                  refine KIast (S := wI T16 (row1 (sI T16) e0 (fil k))) C 20 (hA16.2.1 0 (by decide)).2.1 (hA16.2.1 0 (by decide)).2.2.1 ⟨by omega, by omega⟩ (by omega) ⟨by omega, by omega⟩ dX6_init_201 ?_
                  refine KSto (S2 := wI T16 (row1 (sI T16) e0 (fil (k + 1)))) (congrArg (wI T16) ((up2_row1 _ _ _ _ _).trans (congrArg _ (fil_step k)))) ?_
                  refine KIinc (v := ((k + 1 : Nat) : Int)) (lv' := [(4, .int (iI ((k + 1 : Nat) : Int))), (0, .ref a), (1, .int (iI x)), (2, .int (iI y)), (3, .int (iI z9))]) C dX6_init_202 4 rfl (by omega) (by decide) rfl ?_
                  refine KGoto (tgt := 187) C dX6_init_205 (by decide) ?_
                  refine KLv (lv' := [(0, .ref a), (1, .int (iI x)), (2, .int (iI y)), (3, .int (iI z9)), (4, .int (iI ((k + 1 : Nat) : Int)))]) [1, 2, 3, 4, 0] rfl ?_
                  exact ih187 (k + 1) (by omega) (by omega)
            exact loop187 _ 0 (Nat.lt_succ_self _) (by omega)
      · refine KIconst C dX6_init_140 ?_
        refine KGoto (tgt := 156) C dX6_init_141 (by decide) ?_
        refine KTop (congrArg iI (show 1 = wth y 20 from (by unfold wth maxI minI; split <;> split <;> omega))) ?_
        have hwby := wth_b (x := y) (m := 20) (by decide)
        refine KPutIF (S := T14) (ty := .int) (v := wth y 20) C ul_X6 rfl (by decide) 2 2 rfl (by decide) rfl u_fl_RX6_53 tyX6 tyX6_ok nmX6 ha ⟨by omega, by omega⟩ (by decide +kernel) rfl rfl rfl hin rfl dX6_init_156 (fun _ h => h) ?_
        have hAp14 := Arr.int ha0 hA14 2 (wth y 20)
        obtain ⟨T15, hT15⟩ : ∃ Tz, Tz = (uI T14 a 2 (wth y 20)) := ⟨_, rfl⟩
        obtain ⟨hA15, hF15⟩ : Arr S T15 a _ _ ∧ sI T15 a = upd1 (upd1 (upd1 (sI S a) 4 (6)) 1 (wth x 6)) 2 (wth y 20) := by rw [hT15]; exact ⟨hAp14.1, hAp14.2.trans (congrArg (fun F9 => upd1 F9 2 (wth y 20)) hF14)⟩
        have ha := hA15.1.1.at ha0
        refine KSto (S2 := T15) hT15.symm ?_
        refine KAload_n C dX6_init_159 rfl 0 rfl ?_
        refine KIload_n C dX6_init_160 rfl 3 rfl ?_
        refine KIconst C dX6_init_161 ?_
        refine KIcmp_ge (tgt := 169) C dX6_init_162 (by decide) ⟨by omega, by omega⟩ ⟨by omega, by omega⟩ (fun c162 => ?_) (fun c162 => ?_)
        · refine KIload_n C dX6_init_169 rfl 3 rfl ?_
          refine KBipush C dX6_init_170 (by decide) ?_
          refine KIcmp_le (tgt := 180) C dX6_init_172 (by decide) ⟨by omega, by omega⟩ ⟨by omega, by omega⟩ (fun c172 => ?_) (fun c172 => ?_)
          · refine KIload_n C dX6_init_180 rfl 3 rfl ?_
            refine KTop (congrArg iI (show z9 = wth z9 9 from (by unfold wth maxI minI; split <;> split <;> omega))) ?_
            have hwbz9 := wth_b (x := z9) (m := 9) (by decide)
            refine KPutIF (S := T15) (ty := .int) (v := wth z9 9) C ul_X6 rfl (by decide) 3 3 rfl (by decide) rfl u_fl_RX6_56 tyX6 tyX6_ok nmX6 ha ⟨by omega, by omega⟩ (by decide +kernel) rfl rfl rfl hin rfl dX6_init_181 (fun _ h => h) ?_
            have hAp15 := Arr.int ha0 hA15 3 (wth z9 9)
            obtain ⟨T16, hT16⟩ : ∃ Tz, Tz = (uI T15 a 3 (wth z9 9)) := ⟨_, rfl⟩
            obtain ⟨hA16, hF16⟩ : Arr S T16 a _ _ ∧ sI T16 a = upd1 (upd1 (upd1 (upd1 (sI S a) 4 (6)) 1 (wth x 6)) 2 (wth y 20)) 3 (wth z9 9) := by rw [hT16]; exact ⟨hAp15.1, hAp15.2.trans (congrArg (fun F9 => upd1 F9 3 (wth z9 9)) hF15)⟩
            have ha := hA16.1.1.at ha0
            refine KSto (S2 := T16) hT16.symm ?_
            refine KIconst C dX6_init_184 ?_
            refine KIstore (lv' := [(4, .int (iI 0)), (0, .ref a), (1, .int (iI x)), (2, .int (iI y)), (3, .int (iI z9))]) C dX6_init_185 (by decide) rfl ?_
            have hz0 : sI T16 e0 = fil 0 := by rw [fil_0]; exact funext (hA16.2.1 0 (by decide)).2.2.2.2
            refine KSto (S2 := wI T16 (row1 (sI T16) e0 (fil 0))) (by rw [← hz0, row1_self]) ?_
            refine KLv (lv' := [(0, .ref a), (1, .int (iI x)), (2, .int (iI y)), (3, .int (iI z9)), (4, .int (iI 0))]) [1, 2, 3, 4, 0] rfl ?_
            have loop187 : ∀ (nX : Nat) (k : Nat), 20 - k < nX → (k ≤ 20) → Wk pX l eX (rmK 2 12 5758) sX mX argsX belowX methX cX (MQ belowX (QcG g (P_X6_init S a x y z9)) argsX sX 12 5758 (ge (gB g))) g 5 12 5758 187 [(0, .ref a), (1, .int (iI x)), (2, .int (iI y)), (3, .int (iI z9)), (4, .int (iI (k : Int)))] [] (wI T16 (row1 (sI T16) e0 (fil k))) := by
              intro nX
              induction nX with
              | zero => intro k hm; exact absurd hm (Nat.not_lt_zero _)
              | succ nX ih187 =>
                intro k hm187 hk
                refine KRg (fun hR => ?_)
                refine KIload C dX6_init_187 4 rfl ?_
                refine KBipush C dX6_init_189 (by decide) ?_
                refine KIcmp_ge (tgt := 208) C dX6_init_191 (by decide) ⟨by omega, by omega⟩ ⟨by omega, by omega⟩ (fun c191 => ?_) (fun c191 => ?_)
                · refine KVret C rfl (by
                    refine ⟨rfl, fun j => if j = 11 then e11 else (fun j => if j = 10 then e10 else (fun j => if j = 9 then e9 else (fun j => if j = 8 then e8 else (fun j => if j = 7 then e7 else (fun j => if j = 6 then e6 else (fun j => if j = 5 then e5 else (fun j => if j = 4 then e4 else (fun j => if j = 3 then e3 else (fun j => if j = 2 then e2 else (fun j => if j = 1 then e1 else (fun j => if j = 0 then e0 else ((fun _ => 0)) j) j) j) j) j) j) j) j) j) j) j) j, ?_⟩
                    rw [show k = 20 by omega]
                    exact mo_of ha0 hA16 hz hzj hF16) (by decide) (by decide) dX6_init_208
                · refine KAload_n C dX6_init_194 rfl 0 rfl ?_
                  refine KGetR (S := wI T16 (row1 (sI T16) e0 (fil k))) C ul_X6 rfl (by decide) 5 5 rfl (by decide) rfl u_fl_RX6_13 ha (b := e0) (hA16.2.1 0 (by decide)).2.2.2.1 dX6_init_195 (fun _ h => h) ?_
                  refine KIload C dX6_init_198 4 rfl ?_
                  refine KIconst C dX6_init_200 ?_
                  refine KIast (S := wI T16 (row1 (sI T16) e0 (fil k))) C 20 (hA16.2.1 0 (by decide)).2.1 (hA16.2.1 0 (by decide)).2.2.1 ⟨by omega, by omega⟩ (by omega) ⟨by omega, by omega⟩ dX6_init_201 ?_
                  refine KSto (S2 := wI T16 (row1 (sI T16) e0 (fil (k + 1)))) (congrArg (wI T16) ((up2_row1 _ _ _ _ _).trans (congrArg _ (fil_step k)))) ?_
                  refine KIinc (v := ((k + 1 : Nat) : Int)) (lv' := [(4, .int (iI ((k + 1 : Nat) : Int))), (0, .ref a), (1, .int (iI x)), (2, .int (iI y)), (3, .int (iI z9))]) C dX6_init_202 4 rfl (by omega) (by decide) rfl ?_
                  refine KGoto (tgt := 187) C dX6_init_205 (by decide) ?_
                  refine KLv (lv' := [(0, .ref a), (1, .int (iI x)), (2, .int (iI y)), (3, .int (iI z9)), (4, .int (iI ((k + 1 : Nat) : Int)))]) [1, 2, 3, 4, 0] rfl ?_
                  exact ih187 (k + 1) (by omega) (by omega)
            exact loop187 _ 0 (Nat.lt_succ_self _) (by omega)
          · refine KBipush C dX6_init_175 (by decide) ?_
            refine KGoto (tgt := 181) C dX6_init_177 (by decide) ?_
            refine KTop (congrArg iI (show 9 = wth z9 9 from (by unfold wth maxI minI; split <;> split <;> omega))) ?_
            have hwbz9 := wth_b (x := z9) (m := 9) (by decide)
            refine KPutIF (S := T15) (ty := .int) (v := wth z9 9) C ul_X6 rfl (by decide) 3 3 rfl (by decide) rfl u_fl_RX6_56 tyX6 tyX6_ok nmX6 ha ⟨by omega, by omega⟩ (by decide +kernel) rfl rfl rfl hin rfl dX6_init_181 (fun _ h => h) ?_
            have hAp15 := Arr.int ha0 hA15 3 (wth z9 9)
            obtain ⟨T16, hT16⟩ : ∃ Tz, Tz = (uI T15 a 3 (wth z9 9)) := ⟨_, rfl⟩
            obtain ⟨hA16, hF16⟩ : Arr S T16 a _ _ ∧ sI T16 a = upd1 (upd1 (upd1 (upd1 (sI S a) 4 (6)) 1 (wth x 6)) 2 (wth y 20)) 3 (wth z9 9) := by rw [hT16]; exact ⟨hAp15.1, hAp15.2.trans (congrArg (fun F9 => upd1 F9 3 (wth z9 9)) hF15)⟩
            have ha := hA16.1.1.at ha0
            refine KSto (S2 := T16) hT16.symm ?_
            refine KIconst C dX6_init_184 ?_
            refine KIstore (lv' := [(4, .int (iI 0)), (0, .ref a), (1, .int (iI x)), (2, .int (iI y)), (3, .int (iI z9))]) C dX6_init_185 (by decide) rfl ?_
            have hz0 : sI T16 e0 = fil 0 := by rw [fil_0]; exact funext (hA16.2.1 0 (by decide)).2.2.2.2
            refine KSto (S2 := wI T16 (row1 (sI T16) e0 (fil 0))) (by rw [← hz0, row1_self]) ?_
            refine KLv (lv' := [(0, .ref a), (1, .int (iI x)), (2, .int (iI y)), (3, .int (iI z9)), (4, .int (iI 0))]) [1, 2, 3, 4, 0] rfl ?_
            have loop187 : ∀ (nX : Nat) (k : Nat), 20 - k < nX → (k ≤ 20) → Wk pX l eX (rmK 2 12 5758) sX mX argsX belowX methX cX (MQ belowX (QcG g (P_X6_init S a x y z9)) argsX sX 12 5758 (ge (gB g))) g 5 12 5758 187 [(0, .ref a), (1, .int (iI x)), (2, .int (iI y)), (3, .int (iI z9)), (4, .int (iI (k : Int)))] [] (wI T16 (row1 (sI T16) e0 (fil k))) := by
              intro nX
              induction nX with
              | zero => intro k hm; exact absurd hm (Nat.not_lt_zero _)
              | succ nX ih187 =>
                intro k hm187 hk
                refine KRg (fun hR => ?_)
                refine KIload C dX6_init_187 4 rfl ?_
                refine KBipush C dX6_init_189 (by decide) ?_
                refine KIcmp_ge (tgt := 208) C dX6_init_191 (by decide) ⟨by omega, by omega⟩ ⟨by omega, by omega⟩ (fun c191 => ?_) (fun c191 => ?_)
                · refine KVret C rfl (by
                    refine ⟨rfl, fun j => if j = 11 then e11 else (fun j => if j = 10 then e10 else (fun j => if j = 9 then e9 else (fun j => if j = 8 then e8 else (fun j => if j = 7 then e7 else (fun j => if j = 6 then e6 else (fun j => if j = 5 then e5 else (fun j => if j = 4 then e4 else (fun j => if j = 3 then e3 else (fun j => if j = 2 then e2 else (fun j => if j = 1 then e1 else (fun j => if j = 0 then e0 else ((fun _ => 0)) j) j) j) j) j) j) j) j) j) j) j) j, ?_⟩
                    rw [show k = 20 by omega]
                    exact mo_of ha0 hA16 hz hzj hF16) (by decide) (by decide) dX6_init_208
                · refine KAload_n C dX6_init_194 rfl 0 rfl ?_
                  refine KGetR (S := wI T16 (row1 (sI T16) e0 (fil k))) C ul_X6 rfl (by decide) 5 5 rfl (by decide) rfl u_fl_RX6_13 ha (b := e0) (hA16.2.1 0 (by decide)).2.2.2.1 dX6_init_195 (fun _ h => h) ?_
                  refine KIload C dX6_init_198 4 rfl ?_
                  refine KIconst C dX6_init_200 ?_
                  refine KIast (S := wI T16 (row1 (sI T16) e0 (fil k))) C 20 (hA16.2.1 0 (by decide)).2.1 (hA16.2.1 0 (by decide)).2.2.1 ⟨by omega, by omega⟩ (by omega) ⟨by omega, by omega⟩ dX6_init_201 ?_
                  refine KSto (S2 := wI T16 (row1 (sI T16) e0 (fil (k + 1)))) (congrArg (wI T16) ((up2_row1 _ _ _ _ _).trans (congrArg _ (fil_step k)))) ?_
                  refine KIinc (v := ((k + 1 : Nat) : Int)) (lv' := [(4, .int (iI ((k + 1 : Nat) : Int))), (0, .ref a), (1, .int (iI x)), (2, .int (iI y)), (3, .int (iI z9))]) C dX6_init_202 4 rfl (by omega) (by decide) rfl ?_
                  refine KGoto (tgt := 187) C dX6_init_205 (by decide) ?_
                  refine KLv (lv' := [(0, .ref a), (1, .int (iI x)), (2, .int (iI y)), (3, .int (iI z9)), (4, .int (iI ((k + 1 : Nat) : Int)))]) [1, 2, 3, 4, 0] rfl ?_
                  exact ih187 (k + 1) (by omega) (by omega)
            exact loop187 _ 0 (Nat.lt_succ_self _) (by omega)
        · refine KIconst C dX6_init_165 ?_
          refine KGoto (tgt := 181) C dX6_init_166 (by decide) ?_
          refine KTop (congrArg iI (show 1 = wth z9 9 from (by unfold wth maxI minI; split <;> split <;> omega))) ?_
          have hwbz9 := wth_b (x := z9) (m := 9) (by decide)
          refine KPutIF (S := T15) (ty := .int) (v := wth z9 9) C ul_X6 rfl (by decide) 3 3 rfl (by decide) rfl u_fl_RX6_56 tyX6 tyX6_ok nmX6 ha ⟨by omega, by omega⟩ (by decide +kernel) rfl rfl rfl hin rfl dX6_init_181 (fun _ h => h) ?_
          have hAp15 := Arr.int ha0 hA15 3 (wth z9 9)
          obtain ⟨T16, hT16⟩ : ∃ Tz, Tz = (uI T15 a 3 (wth z9 9)) := ⟨_, rfl⟩
          obtain ⟨hA16, hF16⟩ : Arr S T16 a _ _ ∧ sI T16 a = upd1 (upd1 (upd1 (upd1 (sI S a) 4 (6)) 1 (wth x 6)) 2 (wth y 20)) 3 (wth z9 9) := by rw [hT16]; exact ⟨hAp15.1, hAp15.2.trans (congrArg (fun F9 => upd1 F9 3 (wth z9 9)) hF15)⟩
          have ha := hA16.1.1.at ha0
          refine KSto (S2 := T16) hT16.symm ?_
          refine KIconst C dX6_init_184 ?_
          refine KIstore (lv' := [(4, .int (iI 0)), (0, .ref a), (1, .int (iI x)), (2, .int (iI y)), (3, .int (iI z9))]) C dX6_init_185 (by decide) rfl ?_
          have hz0 : sI T16 e0 = fil 0 := by rw [fil_0]; exact funext (hA16.2.1 0 (by decide)).2.2.2.2
          refine KSto (S2 := wI T16 (row1 (sI T16) e0 (fil 0))) (by rw [← hz0, row1_self]) ?_
          refine KLv (lv' := [(0, .ref a), (1, .int (iI x)), (2, .int (iI y)), (3, .int (iI z9)), (4, .int (iI 0))]) [1, 2, 3, 4, 0] rfl ?_
          have loop187 : ∀ (nX : Nat) (k : Nat), 20 - k < nX → (k ≤ 20) → Wk pX l eX (rmK 2 12 5758) sX mX argsX belowX methX cX (MQ belowX (QcG g (P_X6_init S a x y z9)) argsX sX 12 5758 (ge (gB g))) g 5 12 5758 187 [(0, .ref a), (1, .int (iI x)), (2, .int (iI y)), (3, .int (iI z9)), (4, .int (iI (k : Int)))] [] (wI T16 (row1 (sI T16) e0 (fil k))) := by
            intro nX
            induction nX with
            | zero => intro k hm; exact absurd hm (Nat.not_lt_zero _)
            | succ nX ih187 =>
              intro k hm187 hk
              refine KRg (fun hR => ?_)
              refine KIload C dX6_init_187 4 rfl ?_
              refine KBipush C dX6_init_189 (by decide) ?_
              refine KIcmp_ge (tgt := 208) C dX6_init_191 (by decide) ⟨by omega, by omega⟩ ⟨by omega, by omega⟩ (fun c191 => ?_) (fun c191 => ?_)
              · refine KVret C rfl (by
                  refine ⟨rfl, fun j => if j = 11 then e11 else (fun j => if j = 10 then e10 else (fun j => if j = 9 then e9 else (fun j => if j = 8 then e8 else (fun j => if j = 7 then e7 else (fun j => if j = 6 then e6 else (fun j => if j = 5 then e5 else (fun j => if j = 4 then e4 else (fun j => if j = 3 then e3 else (fun j => if j = 2 then e2 else (fun j => if j = 1 then e1 else (fun j => if j = 0 then e0 else ((fun _ => 0)) j) j) j) j) j) j) j) j) j) j) j) j, ?_⟩
                  rw [show k = 20 by omega]
                  exact mo_of ha0 hA16 hz hzj hF16) (by decide) (by decide) dX6_init_208
              · refine KAload_n C dX6_init_194 rfl 0 rfl ?_
                refine KGetR (S := wI T16 (row1 (sI T16) e0 (fil k))) C ul_X6 rfl (by decide) 5 5 rfl (by decide) rfl u_fl_RX6_13 ha (b := e0) (hA16.2.1 0 (by decide)).2.2.2.1 dX6_init_195 (fun _ h => h) ?_
                refine KIload C dX6_init_198 4 rfl ?_
                refine KIconst C dX6_init_200 ?_
                refine KIast (S := wI T16 (row1 (sI T16) e0 (fil k))) C 20 (hA16.2.1 0 (by decide)).2.1 (hA16.2.1 0 (by decide)).2.2.1 ⟨by omega, by omega⟩ (by omega) ⟨by omega, by omega⟩ dX6_init_201 ?_
                refine KSto (S2 := wI T16 (row1 (sI T16) e0 (fil (k + 1)))) (congrArg (wI T16) ((up2_row1 _ _ _ _ _).trans (congrArg _ (fil_step k)))) ?_
                refine KIinc (v := ((k + 1 : Nat) : Int)) (lv' := [(4, .int (iI ((k + 1 : Nat) : Int))), (0, .ref a), (1, .int (iI x)), (2, .int (iI y)), (3, .int (iI z9))]) C dX6_init_202 4 rfl (by omega) (by decide) rfl ?_
                refine KGoto (tgt := 187) C dX6_init_205 (by decide) ?_
                refine KLv (lv' := [(0, .ref a), (1, .int (iI x)), (2, .int (iI y)), (3, .int (iI z9)), (4, .int (iI ((k + 1 : Nat) : Int)))]) [1, 2, 3, 4, 0] rfl ?_
                exact ih187 (k + 1) (by omega) (by omega)
          exact loop187 _ 0 (Nat.lt_succ_self _) (by omega)
    · refine KBipush C dX6_init_125 (by decide) ?_
      refine KGoto (tgt := 131) C dX6_init_127 (by decide) ?_
      refine KTop (congrArg iI (show 6 = wth x 6 from (by unfold wth maxI minI; split <;> split <;> omega))) ?_
      have hwbx := wth_b (x := x) (m := 6) (by decide)
      refine KPutIF (S := T13) (ty := .int) (v := wth x 6) C ul_X6 rfl (by decide) 1 1 rfl (by decide) rfl u_fl_RX6_50 tyX6 tyX6_ok nmX6 ha ⟨by omega, by omega⟩ (by decide +kernel) rfl rfl rfl hin rfl dX6_init_131 (fun _ h => h) ?_
      have hAp13 := Arr.int ha0 hA13 1 (wth x 6)
      obtain ⟨T14, hT14⟩ : ∃ Tz, Tz = (uI T13 a 1 (wth x 6)) := ⟨_, rfl⟩
      obtain ⟨hA14, hF14⟩ : Arr S T14 a _ _ ∧ sI T14 a = upd1 (upd1 (sI S a) 4 (6)) 1 (wth x 6) := by rw [hT14]; exact ⟨hAp13.1, hAp13.2.trans (congrArg (fun F9 => upd1 F9 1 (wth x 6)) hF13)⟩
      have ha := hA14.1.1.at ha0
      refine KSto (S2 := T14) hT14.symm ?_
      refine KAload_n C dX6_init_134 rfl 0 rfl ?_
      refine KIload_n C dX6_init_135 rfl 2 rfl ?_
      refine KIconst C dX6_init_136 ?_
      refine KIcmp_ge (tgt := 144) C dX6_init_137 (by decide) ⟨by omega, by omega⟩ ⟨by omega, by omega⟩ (fun c137 => ?_) (fun c137 => ?_)
      · refine KIload_n C dX6_init_144 rfl 2 rfl ?_
        refine KBipush C dX6_init_145 (by decide) ?_
        refine KIcmp_le (tgt := 155) C dX6_init_147 (by decide) ⟨by omega, by omega⟩ ⟨by omega, by omega⟩ (fun c147 => ?_) (fun c147 => ?_)
        · refine KIload_n C dX6_init_155 rfl 2 rfl ?_
          refine KTop (congrArg iI (show y = wth y 20 from (by unfold wth maxI minI; split <;> split <;> omega))) ?_
          have hwby := wth_b (x := y) (m := 20) (by decide)
          refine KPutIF (S := T14) (ty := .int) (v := wth y 20) C ul_X6 rfl (by decide) 2 2 rfl (by decide) rfl u_fl_RX6_53 tyX6 tyX6_ok nmX6 ha ⟨by omega, by omega⟩ (by decide +kernel) rfl rfl rfl hin rfl dX6_init_156 (fun _ h => h) ?_
          have hAp14 := Arr.int ha0 hA14 2 (wth y 20)
          obtain ⟨T15, hT15⟩ : ∃ Tz, Tz = (uI T14 a 2 (wth y 20)) := ⟨_, rfl⟩
          obtain ⟨hA15, hF15⟩ : Arr S T15 a _ _ ∧ sI T15 a = upd1 (upd1 (upd1 (sI S a) 4 (6)) 1 (wth x 6)) 2 (wth y 20) := by rw [hT15]; exact ⟨hAp14.1, hAp14.2.trans (congrArg (fun F9 => upd1 F9 2 (wth y 20)) hF14)⟩
          have ha := hA15.1.1.at ha0
          refine KSto (S2 := T15) hT15.symm ?_
          refine KAload_n C dX6_init_159 rfl 0 rfl ?_
          refine KIload_n C dX6_init_160 rfl 3 rfl ?_
          refine KIconst C dX6_init_161 ?_
          refine KIcmp_ge (tgt := 169) C dX6_init_162 (by decide) ⟨by omega, by omega⟩ ⟨by omega, by omega⟩ (fun c162 => ?_) (fun c162 => ?_)
          · refine KIload_n C dX6_init_169 rfl 3 rfl ?_
            refine KBipush C dX6_init_170 (by decide) ?_
            refine KIcmp_le (tgt := 180) C dX6_init_172 (by decide) ⟨by omega, by omega⟩ ⟨by omega, by omega⟩ (fun c172 => ?_) (fun c172 => ?_)
            · refine KIload_n C dX6_init_180 rfl 3 rfl ?_
              refine KTop (congrArg iI (show z9 = wth z9 9 from (by unfold wth maxI minI; split <;> split <;> omega))) ?_
              have hwbz9 := wth_b (x := z9) (m := 9) (by decide)
              refine KPutIF (S := T15) (ty := .int) (v := wth z9 9) C ul_X6 rfl (by decide) 3 3 rfl (by decide) rfl u_fl_RX6_56 tyX6 tyX6_ok nmX6 ha ⟨by omega, by omega⟩ (by decide +kernel) rfl rfl rfl hin rfl dX6_init_181 (fun _ h => h) ?_
              have hAp15 := Arr.int ha0 hA15 3 (wth z9 9)
              obtain ⟨T16, hT16⟩ : ∃ Tz, Tz = (uI T15 a 3 (wth z9 9)) := ⟨_, rfl⟩
              obtain ⟨hA16, hF16⟩ : Arr S T16 a _ _ ∧ sI T16 a = upd1 (upd1 (upd1 (upd1 (sI S a) 4 (6)) 1 (wth x 6)) 2 (wth y 20)) 3 (wth z9 9) := by rw [hT16]; exact ⟨hAp15.1, hAp15.2.trans (congrArg (fun F9 => upd1 F9 3 (wth z9 9)) hF15)⟩
              have ha := hA16.1.1.at ha0
              refine KSto (S2 := T16) hT16.symm ?_
              refine KIconst C dX6_init_184 ?_
              refine KIstore (lv' := [(4, .int (iI 0)), (0, .ref a), (1, .int (iI x)), (2, .int (iI y)), (3, .int (iI z9))]) C dX6_init_185 (by decide) rfl ?_
              have hz0 : sI T16 e0 = fil 0 := by rw [fil_0]; exact funext (hA16.2.1 0 (by decide)).2.2.2.2
              refine KSto (S2 := wI T16 (row1 (sI T16) e0 (fil 0))) (by rw [← hz0, row1_self]) ?_
              refine KLv (lv' := [(0, .ref a), (1, .int (iI x)), (2, .int (iI y)), (3, .int (iI z9)), (4, .int (iI 0))]) [1, 2, 3, 4, 0] rfl ?_
              have loop187 : ∀ (nX : Nat) (k : Nat), 20 - k < nX → (k ≤ 20) → Wk pX l eX (rmK 2 12 5758) sX mX argsX belowX methX cX (MQ belowX (QcG g (P_X6_init S a x y z9)) argsX sX 12 5758 (ge (gB g))) g 5 12 5758 187 [(0, .ref a), (1, .int (iI x)), (2, .int (iI y)), (3, .int (iI z9)), (4, .int (iI (k : Int)))] [] (wI T16 (row1 (sI T16) e0 (fil k))) := by
                intro nX
                induction nX with
                | zero => intro k hm; exact absurd hm (Nat.not_lt_zero _)
                | succ nX ih187 =>
                  intro k hm187 hk
                  refine KRg (fun hR => ?_)
                  refine KIload C dX6_init_187 4 rfl ?_
                  refine KBipush C dX6_init_189 (by decide) ?_
                  refine KIcmp_ge (tgt := 208) C dX6_init_191 (by decide) ⟨by omega, by omega⟩ ⟨by omega, by omega⟩ (fun c191 => ?_) (fun c191 => ?_)
                  · refine KVret C rfl (by
                      refine ⟨rfl, fun j => if j = 11 then e11 else (fun j => if j = 10 then e10 else (fun j => if j = 9 then e9 else (fun j => if j = 8 then e8 else (fun j => if j = 7 then e7 else (fun j => if j = 6 then e6 else (fun j => if j = 5 then e5 else (fun j => if j = 4 then e4 else (fun j => if j = 3 then e3 else (fun j => if j = 2 then e2 else (fun j => if j = 1 then e1 else (fun j => if j = 0 then e0 else ((fun _ => 0)) j) j) j) j) j) j) j) j) j) j) j) j, ?_⟩
                      rw [show k = 20 by omega]
                      exact mo_of ha0 hA16 hz hzj hF16) (by decide) (by decide) dX6_init_208
                  · refine KAload_n C dX6_init_194 rfl 0 rfl ?_
                    refine KGetR (S := wI T16 (row1 (sI T16) e0 (fil k))) C ul_X6 rfl (by decide) 5 5 rfl (by decide) rfl u_fl_RX6_13 ha (b := e0) (hA16.2.1 0 (by decide)).2.2.2.1 dX6_init_195 (fun _ h => h) ?_
                    refine KIload C dX6_init_198 4 rfl ?_
                    refine KIconst C dX6_init_200 ?_
                    refine KIast (S := wI T16 (row1 (sI T16) e0 (fil k))) C 20 (hA16.2.1 0 (by decide)).2.1 (hA16.2.1 0 (by decide)).2.2.1 ⟨by omega, by omega⟩ (by omega) ⟨by omega, by omega⟩ dX6_init_201 ?_
                    refine KSto (S2 := wI T16 (row1 (sI T16) e0 (fil (k + 1)))) (congrArg (wI T16) ((up2_row1 _ _ _ _ _).trans (congrArg _ (fil_step k)))) ?_
                    refine KIinc (v := ((k + 1 : Nat) : Int)) (lv' := [(4, .int (iI ((k + 1 : Nat) : Int))), (0, .ref a), (1, .int (iI x)), (2, .int (iI y)), (3, .int (iI z9))]) C dX6_init_202 4 rfl (by omega) (by decide) rfl ?_
                    refine KGoto (tgt := 187) C dX6_init_205 (by decide) ?_
                    refine KLv (lv' := [(0, .ref a), (1, .int (iI x)), (2, .int (iI y)), (3, .int (iI z9)), (4, .int (iI ((k + 1 : Nat) : Int)))]) [1, 2, 3, 4, 0] rfl ?_
                    exact ih187 (k + 1) (by omega) (by omega)
              exact loop187 _ 0 (Nat.lt_succ_self _) (by omega)
            · refine KBipush C dX6_init_175 (by decide) ?_
              refine KGoto (tgt := 181) C dX6_init_177 (by decide) ?_
              refine KTop (congrArg iI (show 9 = wth z9 9 from (by unfold wth maxI minI; split <;> split <;> omega))) ?_
              have hwbz9 := wth_b (x := z9) (m := 9) (by decide)
              refine KPutIF (S := T15) (ty := .int) (v := wth z9 9) C ul_X6 rfl (by decide) 3 3 rfl (by decide) rfl u_fl_RX6_56 tyX6 tyX6_ok nmX6 ha ⟨by omega, by omega⟩ (by decide +kernel) rfl rfl rfl hin rfl dX6_init_181 (fun _ h => h) ?_
              have hAp15 := Arr.int ha0 hA15 3 (wth z9 9)
              obtain ⟨T16, hT16⟩ : ∃ Tz, Tz = (uI T15 a 3 (wth z9 9)) := ⟨_, rfl⟩
              obtain ⟨hA16, hF16⟩ : Arr S T16 a _ _ ∧ sI T16 a = upd1 (upd1 (upd1 (upd1 (sI S a) 4 (6)) 1 (wth x 6)) 2 (wth y 20)) 3 (wth z9 9) := by rw [hT16]; exact ⟨hAp15.1, hAp15.2.trans (congrArg (fun F9 => upd1 F9 3 (wth z9 9)) hF15)⟩
              have ha := hA16.1.1.at ha0
              refine KSto (S2 := T16) hT16.symm ?_
              refine KIconst C dX6_init_184 ?_
              refine KIstore (lv' := [(4, .int (iI 0)), (0, .ref a), (1, .int (iI x)), (2, .int (iI y)), (3, .int (iI z9))]) C dX6_init_185 (by decide) rfl ?_
              have hz0 : sI T16 e0 = fil 0 := by rw [fil_0]; exact funext (hA16.2.1 0 (by decide)).2.2.2.2
              refine KSto (S2 := wI T16 (row1 (sI T16) e0 (fil 0))) (by rw [← hz0, row1_self]) ?_
              refine KLv (lv' := [(0, .ref a), (1, .int (iI x)), (2, .int (iI y)), (3, .int (iI z9)), (4, .int (iI 0))]) [1, 2, 3, 4, 0] rfl ?_
              have loop187 : ∀ (nX : Nat) (k : Nat), 20 - k < nX → (k ≤ 20) → Wk pX l eX (rmK 2 12 5758) sX mX argsX belowX methX cX (MQ belowX (QcG g (P_X6_init S a x y z9)) argsX sX 12 5758 (ge (gB g))) g 5 12 5758 187 [(0, .ref a), (1, .int (iI x)), (2, .int (iI y)), (3, .int (iI z9)), (4, .int (iI (k : Int)))] [] (wI T16 (row1 (sI T16) e0 (fil k))) := by
                intro nX
                induction nX with
                | zero => intro k hm; exact absurd hm (Nat.not_lt_zero _)
                | succ nX ih187 =>
                  intro k hm187 hk
                  refine KRg (fun hR => ?_)
                  refine KIload C dX6_init_187 4 rfl ?_
                  refine KBipush C dX6_init_189 (by decide) ?_
                  refine KIcmp_ge (tgt := 208) C dX6_init_191 (by decide) ⟨by omega, by omega⟩ ⟨by omega, by omega⟩ (fun c191 => ?_) (fun c191 => ?_)
                  · refine KVret C rfl (by
                      refine ⟨rfl, fun j => if j = 11 then e11 else (fun j => if j = 10 then e10 else (fun j => if j = 9 then e9 else (fun j => if j = 8 then e8 else (fun j => if j = 7 then e7 else (fun j => if j = 6 then e6 else (fun j => if j = 5 then e5 else (fun j => if j = 4 then e4 else (fun j => if j = 3 then e3 else (fun j => if j = 2 then e2 else (fun j => if j = 1 then e1 else (fun j => if j = 0 then e0 else ((fun _ => 0)) j) j) j) j) j) j) j) j) j) j) j) j, ?_⟩
                      rw [show k = 20 by omega]
                      exact mo_of ha0 hA16 hz hzj hF16) (by decide) (by decide) dX6_init_208
                  · refine KAload_n C dX6_init_194 rfl 0 rfl ?_
                    refine KGetR (S := wI T16 (row1 (sI T16) e0 (fil k))) C ul_X6 rfl (by decide) 5 5 rfl (by decide) rfl u_fl_RX6_13 ha (b := e0) (hA16.2.1 0 (by decide)).2.2.2.1 dX6_init_195 (fun _ h => h) ?_
                    refine KIload C dX6_init_198 4 rfl ?_
                    refine KIconst C dX6_init_200 ?_
                    refine KIast (S := wI T16 (row1 (sI T16) e0 (fil k))) C 20 (hA16.2.1 0 (by decide)).2.1 (hA16.2.1 0 (by decide)).2.2.1 ⟨by omega, by omega⟩ (by omega) ⟨by omega, by omega⟩ dX6_init_201 ?_
                    refine KSto (S2 := wI T16 (row1 (sI T16) e0 (fil (k + 1)))) (congrArg (wI T16) ((up2_row1 _ _ _ _ _).trans (congrArg _ (fil_step k)))) ?_
                    refine KIinc (v := ((k + 1 : Nat) : Int)) (lv' := [(4, .int (iI ((k + 1 : Nat) : Int))), (0, .ref a), (1, .int (iI x)), (2, .int (iI y)), (3, .int (iI z9))]) C dX6_init_202 4 rfl (by omega) (by decide) rfl ?_
                    refine KGoto (tgt := 187) C dX6_init_205 (by decide) ?_
                    refine KLv (lv' := [(0, .ref a), (1, .int (iI x)), (2, .int (iI y)), (3, .int (iI z9)), (4, .int (iI ((k + 1 : Nat) : Int)))]) [1, 2, 3, 4, 0] rfl ?_
                    exact ih187 (k + 1) (by omega) (by omega)
              exact loop187 _ 0 (Nat.lt_succ_self _) (by omega)
          · refine KIconst C dX6_init_165 ?_
            refine KGoto (tgt := 181) C dX6_init_166 (by decide) ?_
            refine KTop (congrArg iI (show 1 = wth z9 9 from (by unfold wth maxI minI; split <;> split <;> omega))) ?_
            have hwbz9 := wth_b (x := z9) (m := 9) (by decide)
            refine KPutIF (S := T15) (ty := .int) (v := wth z9 9) C ul_X6 rfl (by decide) 3 3 rfl (by decide) rfl u_fl_RX6_56 tyX6 tyX6_ok nmX6 ha ⟨by omega, by omega⟩ (by decide +kernel) rfl rfl rfl hin rfl dX6_init_181 (fun _ h => h) ?_
            have hAp15 := Arr.int ha0 hA15 3 (wth z9 9)
            obtain ⟨T16, hT16⟩ : ∃ Tz, Tz = (uI T15 a 3 (wth z9 9)) := ⟨_, rfl⟩
            obtain ⟨hA16, hF16⟩ : Arr S T16 a _ _ ∧ sI T16 a = upd1 (upd1 (upd1 (upd1 (sI S a) 4 (6)) 1 (wth x 6)) 2 (wth y 20)) 3 (wth z9 9) := by rw [hT16]; exact ⟨hAp15.1, hAp15.2.trans (congrArg (fun F9 => upd1 F9 3 (wth z9 9)) hF15)⟩
            have ha := hA16.1.1.at ha0
            refine KSto (S2 := T16) hT16.symm ?_
            refine KIconst C dX6_init_184 ?_
            refine KIstore (lv' := [(4, .int (iI 0)), (0, .ref a), (1, .int (iI x)), (2, .int (iI y)), (3, .int (iI z9))]) C dX6_init_185 (by decide) rfl ?_
            have hz0 : sI T16 e0 = fil 0 := by rw [fil_0]; exact funext (hA16.2.1 0 (by decide)).2.2.2.2
            refine KSto (S2 := wI T16 (row1 (sI T16) e0 (fil 0))) (by rw [← hz0, row1_self]) ?_
            refine KLv (lv' := [(0, .ref a), (1, .int (iI x)), (2, .int (iI y)), (3, .int (iI z9)), (4, .int (iI 0))]) [1, 2, 3, 4, 0] rfl ?_
            have loop187 : ∀ (nX : Nat) (k : Nat), 20 - k < nX → (k ≤ 20) → Wk pX l eX (rmK 2 12 5758) sX mX argsX belowX methX cX (MQ belowX (QcG g (P_X6_init S a x y z9)) argsX sX 12 5758 (ge (gB g))) g 5 12 5758 187 [(0, .ref a), (1, .int (iI x)), (2, .int (iI y)), (3, .int (iI z9)), (4, .int (iI (k : Int)))] [] (wI T16 (row1 (sI T16) e0 (fil k))) := by
              intro nX
              induction nX with
              | zero => intro k hm; exact absurd hm (Nat.not_lt_zero _)
              | succ nX ih187 =>
                intro k hm187 hk
                refine KRg (fun hR => ?_)
                refine KIload C dX6_init_187 4 rfl ?_
                refine KBipush C dX6_init_189 (by decide) ?_
                refine KIcmp_ge (tgt := 208) C dX6_init_191 (by decide) ⟨by omega, by omega⟩ ⟨by omega, by omega⟩ (fun c191 => ?_) (fun c191 => ?_)
                · refine KVret C rfl (by
                    refine ⟨rfl, fun j => if j = 11 then e11 else (fun j => if j = 10 then e10 else (fun j => if j = 9 then e9 else (fun j => if j = 8 then e8 else (fun j => if j = 7 then e7 else (fun j => if j = 6 then e6 else (fun j => if j = 5 then e5 else (fun j => if j = 4 then e4 else (fun j => if j = 3 then e3 else (fun j => if j = 2 then e2 else (fun j => if j = 1 then e1 else (fun j => if j = 0 then e0 else ((fun _ => 0)) j) j) j) j) j) j) j) j) j) j) j) j, ?_⟩
                    rw [show k = 20 by omega]
                    exact mo_of ha0 hA16 hz hzj hF16) (by decide) (by decide) dX6_init_208
                · refine KAload_n C dX6_init_194 rfl 0 rfl ?_
                  refine KGetR (S := wI T16 (row1 (sI T16) e0 (fil k))) C ul_X6 rfl (by decide) 5 5 rfl (by decide) rfl u_fl_RX6_13 ha (b := e0) (hA16.2.1 0 (by decide)).2.2.2.1 dX6_init_195 (fun _ h => h) ?_
                  refine KIload C dX6_init_198 4 rfl ?_
                  refine KIconst C dX6_init_200 ?_
                  refine KIast (S := wI T16 (row1 (sI T16) e0 (fil k))) C 20 (hA16.2.1 0 (by decide)).2.1 (hA16.2.1 0 (by decide)).2.2.1 ⟨by omega, by omega⟩ (by omega) ⟨by omega, by omega⟩ dX6_init_201 ?_
                  refine KSto (S2 := wI T16 (row1 (sI T16) e0 (fil (k + 1)))) (congrArg (wI T16) ((up2_row1 _ _ _ _ _).trans (congrArg _ (fil_step k)))) ?_
                  refine KIinc (v := ((k + 1 : Nat) : Int)) (lv' := [(4, .int (iI ((k + 1 : Nat) : Int))), (0, .ref a), (1, .int (iI x)), (2, .int (iI y)), (3, .int (iI z9))]) C dX6_init_202 4 rfl (by omega) (by decide) rfl ?_
                  refine KGoto (tgt := 187) C dX6_init_205 (by decide) ?_
                  refine KLv (lv' := [(0, .ref a), (1, .int (iI x)), (2, .int (iI y)), (3, .int (iI z9)), (4, .int (iI ((k + 1 : Nat) : Int)))]) [1, 2, 3, 4, 0] rfl ?_
                  exact ih187 (k + 1) (by omega) (by omega)
            exact loop187 _ 0 (Nat.lt_succ_self _) (by omega)
        · refine KBipush C dX6_init_150 (by decide) ?_
          refine KGoto (tgt := 156) C dX6_init_152 (by decide) ?_
          refine KTop (congrArg iI (show 20 = wth y 20 from (by unfold wth maxI minI; split <;> split <;> omega))) ?_
          have hwby := wth_b (x := y) (m := 20) (by decide)
          refine KPutIF (S := T14) (ty := .int) (v := wth y 20) C ul_X6 rfl (by decide) 2 2 rfl (by decide) rfl u_fl_RX6_53 tyX6 tyX6_ok nmX6 ha ⟨by omega, by omega⟩ (by decide +kernel) rfl rfl rfl hin rfl dX6_init_156 (fun _ h => h) ?_
          have hAp14 := Arr.int ha0 hA14 2 (wth y 20)
          obtain ⟨T15, hT15⟩ : ∃ Tz, Tz = (uI T14 a 2 (wth y 20)) := ⟨_, rfl⟩
          obtain ⟨hA15, hF15⟩ : Arr S T15 a _ _ ∧ sI T15 a = upd1 (upd1 (upd1 (sI S a) 4 (6)) 1 (wth x 6)) 2 (wth y 20) := by rw [hT15]; exact ⟨hAp14.1, hAp14.2.trans (congrArg (fun F9 => upd1 F9 2 (wth y 20)) hF14)⟩
          have ha := hA15.1.1.at ha0
          refine KSto (S2 := T15) hT15.symm ?_
          refine KAload_n C dX6_init_159 rfl 0 rfl ?_
          refine KIload_n C dX6_init_160 rfl 3 rfl ?_
          refine KIconst C dX6_init_161 ?_
          refine KIcmp_ge (tgt := 169) C dX6_init_162 (by decide) ⟨by omega, by omega⟩ ⟨by omega, by omega⟩ (fun c162 => ?_) (fun c162 => ?_)
          · refine KIload_n C dX6_init_169 rfl 3 rfl ?_
            refine KBipush C dX6_init_170 (by decide) ?_
            refine KIcmp_le (tgt := 180) C dX6_init_172 (by decide) ⟨by omega, by omega⟩ ⟨by omega, by omega⟩ (fun c172 => ?_) (fun c172 => ?_)
            · refine KIload_n C dX6_init_180 rfl 3 rfl ?_
              refine KTop (congrArg iI (show z9 = wth z9 9 from (by unfold wth maxI minI; split <;> split <;> omega))) ?_
              have hwbz9 := wth_b (x := z9) (m := 9) (by decide)
              refine KPutIF (S := T15) (ty := .int) (v := wth z9 9) C ul_X6 rfl (by decide) 3 3 rfl (by decide) rfl u_fl_RX6_56 tyX6 tyX6_ok nmX6 ha ⟨by omega, by omega⟩ (by decide +kernel) rfl rfl rfl hin rfl dX6_init_181 (fun _ h => h) ?_
              have hAp15 := Arr.int ha0 hA15 3 (wth z9 9)
              obtain ⟨T16, hT16⟩ : ∃ Tz, Tz = (uI T15 a 3 (wth z9 9)) := ⟨_, rfl⟩
              obtain ⟨hA16, hF16⟩ : Arr S T16 a _ _ ∧ sI T16 a = upd1 (upd1 (upd1 (upd1 (sI S a) 4 (6)) 1 (wth x 6)) 2 (wth y 20)) 3 (wth z9 9) := by rw [hT16]; exact ⟨hAp15.1, hAp15.2.trans (congrArg (fun F9 => upd1 F9 3 (wth z9 9)) hF15)⟩
              have ha := hA16.1.1.at ha0
              refine KSto (S2 := T16) hT16.symm ?_
              refine KIconst C dX6_init_184 ?_
              refine KIstore (lv' := [(4, .int (iI 0)), (0, .ref a), (1, .int (iI x)), (2, .int (iI y)), (3, .int (iI z9))]) C dX6_init_185 (by decide) rfl ?_
              have hz0 : sI T16 e0 = fil 0 := by rw [fil_0]; exact funext (hA16.2.1 0 (by decide)).2.2.2.2
              refine KSto (S2 := wI T16 (row1 (sI T16) e0 (fil 0))) (by rw [← hz0, row1_self]) ?_
              refine KLv (lv' := [(0, .ref a), (1, .int (iI x)), (2, .int (iI y)), (3, .int (iI z9)), (4, .int (iI 0))]) [1, 2, 3, 4, 0] rfl ?_
              have loop187 : ∀ (nX : Nat) (k : Nat), 20 - k < nX → (k ≤ 20) → Wk pX l eX (rmK 2 12 5758) sX mX argsX belowX methX cX (MQ belowX (QcG g (P_X6_init S a x y z9)) argsX sX 12 5758 (ge (gB g))) g 5 12 5758 187 [(0, .ref a), (1, .int (iI x)), (2, .int (iI y)), (3, .int (iI z9)), (4, .int (iI (k : Int)))] [] (wI T16 (row1 (sI T16) e0 (fil k))) := by
                intro nX
                induction nX with
                | zero => intro k hm; exact absurd hm (Nat.not_lt_zero _)
                | succ nX ih187 =>
                  intro k hm187 hk
                  refine KRg (fun hR => ?_)
                  refine KIload C dX6_init_187 4 rfl ?_
                  refine KBipush C dX6_init_189 (by decide) ?_
                  refine KIcmp_ge (tgt := 208) C dX6_init_191 (by decide) ⟨by omega, by omega⟩ ⟨by omega, by omega⟩ (fun c191 => ?_) (fun c191 => ?_)
                  · refine KVret C rfl (by
                      refine ⟨rfl, fun j => if j = 11 then e11 else (fun j => if j = 10 then e10 else (fun j => if j = 9 then e9 else (fun j => if j = 8 then e8 else (fun j => if j = 7 then e7 else (fun j => if j = 6 then e6 else (fun j => if j = 5 then e5 else (fun j => if j = 4 then e4 else (fun j => if j = 3 then e3 else (fun j => if j = 2 then e2 else (fun j => if j = 1 then e1 else (fun j => if j = 0 then e0 else ((fun _ => 0)) j) j) j) j) j) j) j) j) j) j) j) j, ?_⟩
                      rw [show k = 20 by omega]
                      exact mo_of ha0 hA16 hz hzj hF16) (by decide) (by decide) dX6_init_208
                  · refine KAload_n C dX6_init_194 rfl 0 rfl ?_
                    refine KGetR (S := wI T16 (row1 (sI T16) e0 (fil k))) C ul_X6 rfl (by decide) 5 5 rfl (by decide) rfl u_fl_RX6_13 ha (b := e0) (hA16.2.1 0 (by decide)).2.2.2.1 dX6_init_195 (fun _ h => h) ?_
                    refine KIload C dX6_init_198 4 rfl ?_
                    refine KIconst C dX6_init_200 ?_
                    refine KIast (S := wI T16 (row1 (sI T16) e0 (fil k))) C 20 (hA16.2.1 0 (by decide)).2.1 (hA16.2.1 0 (by decide)).2.2.1 ⟨by omega, by omega⟩ (by omega) ⟨by omega, by omega⟩ dX6_init_201 ?_
                    refine KSto (S2 := wI T16 (row1 (sI T16) e0 (fil (k + 1)))) (congrArg (wI T16) ((up2_row1 _ _ _ _ _).trans (congrArg _ (fil_step k)))) ?_
                    refine KIinc (v := ((k + 1 : Nat) : Int)) (lv' := [(4, .int (iI ((k + 1 : Nat) : Int))), (0, .ref a), (1, .int (iI x)), (2, .int (iI y)), (3, .int (iI z9))]) C dX6_init_202 4 rfl (by omega) (by decide) rfl ?_
                    refine KGoto (tgt := 187) C dX6_init_205 (by decide) ?_
                    refine KLv (lv' := [(0, .ref a), (1, .int (iI x)), (2, .int (iI y)), (3, .int (iI z9)), (4, .int (iI ((k + 1 : Nat) : Int)))]) [1, 2, 3, 4, 0] rfl ?_
                    exact ih187 (k + 1) (by omega) (by omega)
              exact loop187 _ 0 (Nat.lt_succ_self _) (by omega)
            · refine KBipush C dX6_init_175 (by decide) ?_
              refine KGoto (tgt := 181) C dX6_init_177 (by decide) ?_
              refine KTop (congrArg iI (show 9 = wth z9 9 from (by unfold wth maxI minI; split <;> split <;> omega))) ?_
              have hwbz9 := wth_b (x := z9) (m := 9) (by decide)
              refine KPutIF (S := T15) (ty := .int) (v := wth z9 9) C ul_X6 rfl (by decide) 3 3 rfl (by decide) rfl u_fl_RX6_56 tyX6 tyX6_ok nmX6 ha ⟨by omega, by omega⟩ (by decide +kernel) rfl rfl rfl hin rfl dX6_init_181 (fun _ h => h) ?_
              have hAp15 := Arr.int ha0 hA15 3 (wth z9 9)
              obtain ⟨T16, hT16⟩ : ∃ Tz, Tz = (uI T15 a 3 (wth z9 9)) := ⟨_, rfl⟩
              obtain ⟨hA16, hF16⟩ : Arr S T16 a _ _ ∧ sI T16 a = upd1 (upd1 (upd1 (upd1 (sI S a) 4 (6)) 1 (wth x 6)) 2 (wth y 20)) 3 (wth z9 9) := by rw [hT16]; exact ⟨hAp15.1, hAp15.2.trans (congrArg (fun F9 => upd1 F9 3 (wth z9 9)) hF15)⟩
              have ha := hA16.1.1.at ha0
              refine KSto (S2 := T16) hT16.symm ?_
              refine KIconst C dX6_init_184 ?_
              refine KIstore (lv' := [(4, .int (iI 0)), (0, .ref a), (1, .int (iI x)), (2, .int (iI y)), (3, .int (iI z9))]) C dX6_init_185 (by decide) rfl ?_
              have hz0 : sI T16 e0 = fil 0 := by rw [fil_0]; exact funext (hA16.2.1 0 (by decide)).2.2.2.2
              refine KSto (S2 := wI T16 (row1 (sI T16) e0 (fil 0))) (by rw [← hz0, row1_self]) ?_
              refine KLv (lv' := [(0, .ref a), (1, .int (iI x)), (2, .int (iI y)), (3, .int (iI z9)), (4, .int (iI 0))]) [1, 2, 3, 4, 0] rfl ?_
              have loop187 : ∀ (nX : Nat) (k : Nat), 20 - k < nX → (k ≤ 20) → Wk pX l eX (rmK 2 12 5758) sX mX argsX belowX methX cX (MQ belowX (QcG g (P_X6_init S a x y z9)) argsX sX 12 5758 (ge (gB g))) g 5 12 5758 187 [(0, .ref a), (1, .int (iI x)), (2, .int (iI y)), (3, .int (iI z9)), (4, .int (iI (k : Int)))] [] (wI T16 (row1 (sI T16) e0 (fil k))) := by
                intro nX
                induction nX with
                | zero => intro k hm; exact absurd hm (Nat.not_lt_zero _)
                | succ nX ih187 =>
                  intro k hm187 hk
                  refine KRg (fun hR => ?_)
                  refine KIload C dX6_init_187 4 rfl ?_
                  refine KBipush C dX6_init_189 (by decide) ?_
                  refine KIcmp_ge (tgt := 208) C dX6_init_191 (by decide) ⟨by omega, by omega⟩ ⟨by omega, by omega⟩ (fun c191 => ?_) (fun c191 => ?_)
                  · refine KVret C rfl (by
                      refine ⟨rfl, fun j => if j = 11 then e11 else (fun j => if j = 10 then e10 else (fun j => if j = 9 then e9 else (fun j => if j = 8 then e8 else (fun j => if j = 7 then e7 else (fun j => if j = 6 then e6 else (fun j => if j = 5 then e5 else (fun j => if j = 4 then e4 else (fun j => if j = 3 then e3 else (fun j => if j = 2 then e2 else (fun j => if j = 1 then e1 else (fun j => if j = 0 then e0 else ((fun _ => 0)) j) j) j) j) j) j) j) j) j) j) j) j, ?_⟩
                      rw [show k = 20 by omega]
                      exact mo_of ha0 hA16 hz hzj hF16) (by decide) (by decide) dX6_init_208
                  · refine KAload_n C dX6_init_194 rfl 0 rfl ?_
                    refine KGetR (S := wI T16 (row1 (sI T16) e0 (fil k))) C ul_X6 rfl (by decide) 5 5 rfl (by decide) rfl u_fl_RX6_13 ha (b := e0) (hA16.2.1 0 (by decide)).2.2.2.1 dX6_init_195 (fun _ h => h) ?_
                    refine KIload C dX6_init_198 4 rfl ?_
                    refine KIconst C dX6_init_200 ?_
                    refine KIast (S := wI T16 (row1 (sI T16) e0 (fil k))) C 20 (hA16.2.1 0 (by decide)).2.1 (hA16.2.1 0 (by decide)).2.2.1 ⟨by omega, by omega⟩ (by omega) ⟨by omega, by omega⟩ dX6_init_201 ?_
                    refine KSto (S2 := wI T16 (row1 (sI T16) e0 (fil (k + 1)))) (congrArg (wI T16) ((up2_row1 _ _ _ _ _).trans (congrArg _ (fil_step k)))) ?_
                    refine KIinc (v := ((k + 1 : Nat) : Int)) (lv' := [(4, .int (iI ((k + 1 : Nat) : Int))), (0, .ref a), (1, .int (iI x)), (2, .int (iI y)), (3, .int (iI z9))]) C dX6_init_202 4 rfl (by omega) (by decide) rfl ?_
                    refine KGoto (tgt := 187) C dX6_init_205 (by decide) ?_
                    refine KLv (lv' := [(0, .ref a), (1, .int (iI x)), (2, .int (iI y)), (3, .int (iI z9)), (4, .int (iI ((k + 1 : Nat) : Int)))]) [1, 2, 3, 4, 0] rfl ?_
                    exact ih187 (k + 1) (by omega) (by omega)
              exact loop187 _ 0 (Nat.lt_succ_self _) (by omega)
          · refine KIconst C dX6_init_165 ?_
            refine KGoto (tgt := 181) C dX6_init_166 (by decide) ?_
            refine KTop (congrArg iI (show 1 = wth z9 9 from (by unfold wth maxI minI; split <;> split <;> omega))) ?_
            have hwbz9 := wth_b (x := z9) (m := 9) (by decide)
            refine KPutIF (S := T15) (ty := .int) (v := wth z9 9) C ul_X6 rfl (by decide) 3 3 rfl (by decide) rfl u_fl_RX6_56 tyX6 tyX6_ok nmX6 ha ⟨by omega, by omega⟩ (by decide +kernel) rfl rfl rfl hin rfl dX6_init_181 (fun _ h => h) ?_
            have hAp15 := Arr.int ha0 hA15 3 (wth z9 9)
            obtain ⟨T16, hT16⟩ : ∃ Tz, Tz = (uI T15 a 3 (wth z9 9)) := ⟨_, rfl⟩
            obtain ⟨hA16, hF16⟩ : Arr S T16 a _ _ ∧ sI T16 a = upd1 (upd1 (upd1 (upd1 (sI S a) 4 (6)) 1 (wth x 6)) 2 (wth y 20)) 3 (wth z9 9) := by rw [hT16]; exact ⟨hAp15.1, hAp15.2.trans (congrArg (fun F9 => upd1 F9 3 (wth z9 9)) hF15)⟩
            have ha := hA16.1.1.at ha0
            refine KSto (S2 := T16) hT16.symm ?_
            refine KIconst C dX6_init_184 ?_
            refine KIstore (lv' := [(4, .int (iI 0)), (0, .ref a), (1, .int (iI x)), (2, .int (iI y)), (3, .int (iI z9))]) C dX6_init_185 (by decide) rfl ?_
            have hz0 : sI T16 e0 = fil 0 := by rw [fil_0]; exact funext (hA16.2.1 0 (by decide)).2.2.2.2
            refine KSto (S2 := wI T16 (row1 (sI T16) e0 (fil 0))) (by rw [← hz0, row1_self]) ?_
            refine KLv (lv' := [(0, .ref a), (1, .int (iI x)), (2, .int (iI y)), (3, .int (iI z9)), (4, .int (iI 0))]) [1, 2, 3, 4, 0] rfl ?_
            have loop187 : ∀ (nX : Nat) (k : Nat), 20 - k < nX → (k ≤ 20) → Wk pX l eX (rmK 2 12 5758) sX mX argsX belowX methX cX (MQ belowX (QcG g (P_X6_init S a x y z9)) argsX sX 12 5758 (ge (gB g))) g 5 12 5758 187 [(0, .ref a), (1, .int (iI x)), (2, .int (iI y)), (3, .int (iI z9)), (4, .int (iI (k : Int)))] [] (wI T16 (row1 (sI T16) e0 (fil k))) := by
              intro nX
              induction nX with
              | zero => intro k hm; exact absurd hm (Nat.not_lt_zero _)
              | succ nX ih187 =>
                intro k hm187 hk
                refine KRg (fun hR => ?_)
                refine KIload C dX6_init_187 4 rfl ?_
                refine KBipush C dX6_init_189 (by decide) ?_
                refine KIcmp_ge (tgt := 208) C dX6_init_191 (by decide) ⟨by omega, by omega⟩ ⟨by omega, by omega⟩ (fun c191 => ?_) (fun c191 => ?_)
                · refine KVret C rfl (by
                    refine ⟨rfl, fun j => if j = 11 then e11 else (fun j => if j = 10 then e10 else (fun j => if j = 9 then e9 else (fun j => if j = 8 then e8 else (fun j => if j = 7 then e7 else (fun j => if j = 6 then e6 else (fun j => if j = 5 then e5 else (fun j => if j = 4 then e4 else (fun j => if j = 3 then e3 else (fun j => if j = 2 then e2 else (fun j => if j = 1 then e1 else (fun j => if j = 0 then e0 else ((fun _ => 0)) j) j) j) j) j) j) j) j) j) j) j) j, ?_⟩
                    rw [show k = 20 by omega]
                    exact mo_of ha0 hA16 hz hzj hF16) (by decide) (by decide) dX6_init_208
                · refine KAload_n C dX6_init_194 rfl 0 rfl ?_
                  refine KGetR (S := wI T16 (row1 (sI T16) e0 (fil k))) C ul_X6 rfl (by decide) 5 5 rfl (by decide) rfl u_fl_RX6_13 ha (b := e0) (hA16.2.1 0 (by decide)).2.2.2.1 dX6_init_195 (fun _ h => h) ?_
                  refine KIload C dX6_init_198 4 rfl ?_
                  refine KIconst C dX6_init_200 ?_
                  refine KIast (S := wI T16 (row1 (sI T16) e0 (fil k))) C 20 (hA16.2.1 0 (by decide)).2.1 (hA16.2.1 0 (by decide)).2.2.1 ⟨by omega, by omega⟩ (by omega) ⟨by omega, by omega⟩ dX6_init_201 ?_
                  refine KSto (S2 := wI T16 (row1 (sI T16) e0 (fil (k + 1)))) (congrArg (wI T16) ((up2_row1 _ _ _ _ _).trans (congrArg _ (fil_step k)))) ?_
                  refine KIinc (v := ((k + 1 : Nat) : Int)) (lv' := [(4, .int (iI ((k + 1 : Nat) : Int))), (0, .ref a), (1, .int (iI x)), (2, .int (iI y)), (3, .int (iI z9))]) C dX6_init_202 4 rfl (by omega) (by decide) rfl ?_
                  refine KGoto (tgt := 187) C dX6_init_205 (by decide) ?_
                  refine KLv (lv' := [(0, .ref a), (1, .int (iI x)), (2, .int (iI y)), (3, .int (iI z9)), (4, .int (iI ((k + 1 : Nat) : Int)))]) [1, 2, 3, 4, 0] rfl ?_
                  exact ih187 (k + 1) (by omega) (by omega)
            exact loop187 _ 0 (Nat.lt_succ_self _) (by omega)
      · refine KIconst C dX6_init_140 ?_
        refine KGoto (tgt := 156) C dX6_init_141 (by decide) ?_
        refine KTop (congrArg iI (show 1 = wth y 20 from (by unfold wth maxI minI; split <;> split <;> omega))) ?_
        have hwby := wth_b (x := y) (m := 20) (by decide)
        refine KPutIF (S := T14) (ty := .int) (v := wth y 20) C ul_X6 rfl (by decide) 2 2 rfl (by decide) rfl u_fl_RX6_53 tyX6 tyX6_ok nmX6 ha ⟨by omega, by omega⟩ (by decide +kernel) rfl rfl rfl hin rfl dX6_init_156 (fun _ h => h) ?_
        have hAp14 := Arr.int ha0 hA14 2 (wth y 20)
        obtain ⟨T15, hT15⟩ : ∃ Tz, Tz = (uI T14 a 2 (wth y 20)) := ⟨_, rfl⟩
        obtain ⟨hA15, hF15⟩ : Arr S T15 a _ _ ∧ sI T15 a = upd1 (upd1 (upd1 (sI S a) 4 (6)) 1 (wth x 6)) 2 (wth y 20) := by rw [hT15]; exact ⟨hAp14.1, hAp14.2.trans (congrArg (fun F9 => upd1 F9 2 (wth y 20)) hF14)⟩
        have ha := hA15.1.1.at ha0
        refine KSto (S2 := T15) hT15.symm ?_
        refine KAload_n C dX6_init_159 rfl 0 rfl ?_
        refine KIload_n C dX6_init_160 rfl 3 rfl ?_
        refine KIconst C dX6_init_161 ?_
        refine KIcmp_ge (tgt := 169) C dX6_init_162 (by decide) ⟨by omega, by omega⟩ ⟨by omega, by omega⟩ (fun c162 => ?_) (fun c162 => ?_)
        · refine KIload_n C dX6_init_169 rfl 3 rfl ?_
          refine KBipush C dX6_init_170 (by decide) ?_
          refine KIcmp_le (tgt := 180) C dX6_init_172 (by decide) ⟨by omega, by omega⟩ ⟨by omega, by omega⟩ (fun c172 => ?_) (fun c172 => ?_)
          · refine KIload_n C dX6_init_180 rfl 3 rfl ?_
            refine KTop (congrArg iI (show z9 = wth z9 9 from (by unfold wth maxI minI; split <;> split <;> omega))) ?_
            have hwbz9 := wth_b (x := z9) (m := 9) (by decide)
            refine KPutIF (S := T15) (ty := .int) (v := wth z9 9) C ul_X6 rfl (by decide) 3 3 rfl (by decide) rfl u_fl_RX6_56 tyX6 tyX6_ok nmX6 ha ⟨by omega, by omega⟩ (by decide +kernel) rfl rfl rfl hin rfl dX6_init_181 (fun _ h => h) ?_
            have hAp15 := Arr.int ha0 hA15 3 (wth z9 9)
            obtain ⟨T16, hT16⟩ : ∃ Tz, Tz = (uI T15 a 3 (wth z9 9)) := ⟨_, rfl⟩
            obtain ⟨hA16, hF16⟩ : Arr S T16 a _ _ ∧ sI T16 a = upd1 (upd1 (upd1 (upd1 (sI S a) 4 (6)) 1 (wth x 6)) 2 (wth y 20)) 3 (wth z9 9) := by rw [hT16]; exact ⟨hAp15.1, hAp15.2.trans (congrArg (fun F9 => upd1 F9 3 (wth z9 9)) hF15)⟩
            have ha := hA16.1.1.at ha0
            refine KSto (S2 := T16) hT16.symm ?_
            refine KIconst C dX6_init_184 ?_
            refine KIstore (lv' := [(4, .int (iI 0)), (0, .ref a), (1, .int (iI x)), (2, .int (iI y)), (3, .int (iI z9))]) C dX6_init_185 (by decide) rfl ?_
            have hz0 : sI T16 e0 = fil 0 := by rw [fil_0]; exact funext (hA16.2.1 0 (by decide)).2.2.2.2
            refine KSto (S2 := wI T16 (row1 (sI T16) e0 (fil 0))) (by rw [← hz0, row1_self]) ?_
            refine KLv (lv' := [(0, .ref a), (1, .int (iI x)), (2, .int (iI y)), (3, .int (iI z9)), (4, .int (iI 0))]) [1, 2, 3, 4, 0] rfl ?_
            have loop187 : ∀ (nX : Nat) (k : Nat), 20 - k < nX → (k ≤ 20) → Wk pX l eX (rmK 2 12 5758) sX mX argsX belowX methX cX (MQ belowX (QcG g (P_X6_init S a x y z9)) argsX sX 12 5758 (ge (gB g))) g 5 12 5758 187 [(0, .ref a), (1, .int (iI x)), (2, .int (iI y)), (3, .int (iI z9)), (4, .int (iI (k : Int)))] [] (wI T16 (row1 (sI T16) e0 (fil k))) := by
              intro nX
              induction nX with
              | zero => intro k hm; exact absurd hm (Nat.not_lt_zero _)
              | succ nX ih187 =>
                intro k hm187 hk
                refine KRg (fun hR => ?_)
                refine KIload C dX6_init_187 4 rfl ?_
                refine KBipush C dX6_init_189 (by decide) ?_
                refine KIcmp_ge (tgt := 208) C dX6_init_191 (by decide) ⟨by omega, by omega⟩ ⟨by omega, by omega⟩ (fun c191 => ?_) (fun c191 => ?_)
                · refine KVret C rfl (by
                    refine ⟨rfl, fun j => if j = 11 then e11 else (fun j => if j = 10 then e10 else (fun j => if j = 9 then e9 else (fun j => if j = 8 then e8 else (fun j => if j = 7 then e7 else (fun j => if j = 6 then e6 else (fun j => if j = 5 then e5 else (fun j => if j = 4 then e4 else (fun j => if j = 3 then e3 else (fun j => if j = 2 then e2 else (fun j => if j = 1 then e1 else (fun j => if j = 0 then e0 else ((fun _ => 0)) j) j) j) j) j) j) j) j) j) j) j) j, ?_⟩
                    rw [show k = 20 by omega]
                    exact mo_of ha0 hA16 hz hzj hF16) (by decide) (by decide) dX6_init_208
                · refine KAload_n C dX6_init_194 rfl 0 rfl ?_
                  refine KGetR (S := wI T16 (row1 (sI T16) e0 (fil k))) C ul_X6 rfl (by decide) 5 5 rfl (by decide) rfl u_fl_RX6_13 ha (b := e0) (hA16.2.1 0 (by decide)).2.2.2.1 dX6_init_195 (fun _ h => h) ?_
                  refine KIload C dX6_init_198 4 rfl ?_
                  refine KIconst C dX6_init_200 ?_
                  refine KIast (S := wI T16 (row1 (sI T16) e0 (fil k))) C 20 (hA16.2.1 0 (by decide)).2.1 (hA16.2.1 0 (by decide)).2.2.1 ⟨by omega, by omega⟩ (by omega) ⟨by omega, by omega⟩ dX6_init_201 ?_
                  refine KSto (S2 := wI T16 (row1 (sI T16) e0 (fil (k + 1)))) (congrArg (wI T16) ((up2_row1 _ _ _ _ _).trans (congrArg _ (fil_step k)))) ?_
                  refine KIinc (v := ((k + 1 : Nat) : Int)) (lv' := [(4, .int (iI ((k + 1 : Nat) : Int))), (0, .ref a), (1, .int (iI x)), (2, .int (iI y)), (3, .int (iI z9))]) C dX6_init_202 4 rfl (by omega) (by decide) rfl ?_
                  refine KGoto (tgt := 187) C dX6_init_205 (by decide) ?_
                  refine KLv (lv' := [(0, .ref a), (1, .int (iI x)), (2, .int (iI y)), (3, .int (iI z9)), (4, .int (iI ((k + 1 : Nat) : Int)))]) [1, 2, 3, 4, 0] rfl ?_
                  exact ih187 (k + 1) (by omega) (by omega)
            exact loop187 _ 0 (Nat.lt_succ_self _) (by omega)
          · refine KBipush C dX6_init_175 (by decide) ?_
            refine KGoto (tgt := 181) C dX6_init_177 (by decide) ?_
            refine KTop (congrArg iI (show 9 = wth z9 9 from (by unfold wth maxI minI; split <;> split <;> omega))) ?_
            have hwbz9 := wth_b (x := z9) (m := 9) (by decide)
            refine KPutIF (S := T15) (ty := .int) (v := wth z9 9) C ul_X6 rfl (by decide) 3 3 rfl (by decide) rfl u_fl_RX6_56 tyX6 tyX6_ok nmX6 ha ⟨by omega, by omega⟩ (by decide +kernel) rfl rfl rfl hin rfl dX6_init_181 (fun _ h => h) ?_
            have hAp15 := Arr.int ha0 hA15 3 (wth z9 9)
            obtain ⟨T16, hT16⟩ : ∃ Tz, Tz = (uI T15 a 3 (wth z9 9)) := ⟨_, rfl⟩
            obtain ⟨hA16, hF16⟩ : Arr S T16 a _ _ ∧ sI T16 a = upd1 (upd1 (upd1 (upd1 (sI S a) 4 (6)) 1 (wth x 6)) 2 (wth y 20)) 3 (wth z9 9) := by rw [hT16]; exact ⟨hAp15.1, hAp15.2.trans (congrArg (fun F9 => upd1 F9 3 (wth z9 9)) hF15)⟩
            have ha := hA16.1.1.at ha0
            refine KSto (S2 := T16) hT16.symm ?_
            refine KIconst C dX6_init_184 ?_
            refine KIstore (lv' := [(4, .int (iI 0)), (0, .ref a), (1, .int (iI x)), (2, .int (iI y)), (3, .int (iI z9))]) C dX6_init_185 (by decide) rfl ?_
            have hz0 : sI T16 e0 = fil 0 := by rw [fil_0]; exact funext (hA16.2.1 0 (by decide)).2.2.2.2
            refine KSto (S2 := wI T16 (row1 (sI T16) e0 (fil 0))) (by rw [← hz0, row1_self]) ?_
            refine KLv (lv' := [(0, .ref a), (1, .int (iI x)), (2, .int (iI y)), (3, .int (iI z9)), (4, .int (iI 0))]) [1, 2, 3, 4, 0] rfl ?_
            have loop187 : ∀ (nX : Nat) (k : Nat), 20 - k < nX → (k ≤ 20) → Wk pX l eX (rmK 2 12 5758) sX mX argsX belowX methX cX (MQ belowX (QcG g (P_X6_init S a x y z9)) argsX sX 12 5758 (ge (gB g))) g 5 12 5758 187 [(0, .ref a), (1, .int (iI x)), (2, .int (iI y)), (3, .int (iI z9)), (4, .int (iI (k : Int)))] [] (wI T16 (row1 (sI T16) e0 (fil k))) := by
              intro nX
              induction nX with
              | zero => intro k hm; exact absurd hm (Nat.not_lt_zero _)
              | succ nX ih187 =>
                intro k hm187 hk
                refine KRg (fun hR => ?_)
                refine KIload C dX6_init_187 4 rfl ?_
                refine KBipush C dX6_init_189 (by decide) ?_
                refine KIcmp_ge (tgt := 208) C dX6_init_191 (by decide) ⟨by omega, by omega⟩ ⟨by omega, by omega⟩ (fun c191 => ?_) (fun c191 => ?_)
                · refine KVret C rfl (by
                    refine ⟨rfl, fun j => if j = 11 then e11 else (fun j => if j = 10 then e10 else (fun j => if j = 9 then e9 else (fun j => if j = 8 then e8 else (fun j => if j = 7 then e7 else (fun j => if j = 6 then e6 else (fun j => if j = 5 then e5 else (fun j => if j = 4 then e4 else (fun j => if j = 3 then e3 else (fun j => if j = 2 then e2 else (fun j => if j = 1 then e1 else (fun j => if j = 0 then e0 else ((fun _ => 0)) j) j) j) j) j) j) j) j) j) j) j) j, ?_⟩
                    rw [show k = 20 by omega]
                    exact mo_of ha0 hA16 hz hzj hF16) (by decide) (by decide) dX6_init_208
                · refine KAload_n C dX6_init_194 rfl 0 rfl ?_
                  refine KGetR (S := wI T16 (row1 (sI T16) e0 (fil k))) C ul_X6 rfl (by decide) 5 5 rfl (by decide) rfl u_fl_RX6_13 ha (b := e0) (hA16.2.1 0 (by decide)).2.2.2.1 dX6_init_195 (fun _ h => h) ?_
                  refine KIload C dX6_init_198 4 rfl ?_
                  refine KIconst C dX6_init_200 ?_
                  refine KIast (S := wI T16 (row1 (sI T16) e0 (fil k))) C 20 (hA16.2.1 0 (by decide)).2.1 (hA16.2.1 0 (by decide)).2.2.1 ⟨by omega, by omega⟩ (by omega) ⟨by omega, by omega⟩ dX6_init_201 ?_
                  refine KSto (S2 := wI T16 (row1 (sI T16) e0 (fil (k + 1)))) (congrArg (wI T16) ((up2_row1 _ _ _ _ _).trans (congrArg _ (fil_step k)))) ?_
                  refine KIinc (v := ((k + 1 : Nat) : Int)) (lv' := [(4, .int (iI ((k + 1 : Nat) : Int))), (0, .ref a), (1, .int (iI x)), (2, .int (iI y)), (3, .int (iI z9))]) C dX6_init_202 4 rfl (by omega) (by decide) rfl ?_
                  refine KGoto (tgt := 187) C dX6_init_205 (by decide) ?_
                  refine KLv (lv' := [(0, .ref a), (1, .int (iI x)), (2, .int (iI y)), (3, .int (iI z9)), (4, .int (iI ((k + 1 : Nat) : Int)))]) [1, 2, 3, 4, 0] rfl ?_
                  exact ih187 (k + 1) (by omega) (by omega)
            exact loop187 _ 0 (Nat.lt_succ_self _) (by omega)
        · refine KIconst C dX6_init_165 ?_
          refine KGoto (tgt := 181) C dX6_init_166 (by decide) ?_
          refine KTop (congrArg iI (show 1 = wth z9 9 from (by unfold wth maxI minI; split <;> split <;> omega))) ?_
          have hwbz9 := wth_b (x := z9) (m := 9) (by decide)
          refine KPutIF (S := T15) (ty := .int) (v := wth z9 9) C ul_X6 rfl (by decide) 3 3 rfl (by decide) rfl u_fl_RX6_56 tyX6 tyX6_ok nmX6 ha ⟨by omega, by omega⟩ (by decide +kernel) rfl rfl rfl hin rfl dX6_init_181 (fun _ h => h) ?_
          have hAp15 := Arr.int ha0 hA15 3 (wth z9 9)
          obtain ⟨T16, hT16⟩ : ∃ Tz, Tz = (uI T15 a 3 (wth z9 9)) := ⟨_, rfl⟩
          obtain ⟨hA16, hF16⟩ : Arr S T16 a _ _ ∧ sI T16 a = upd1 (upd1 (upd1 (upd1 (sI S a) 4 (6)) 1 (wth x 6)) 2 (wth y 20)) 3 (wth z9 9) := by rw [hT16]; exact ⟨hAp15.1, hAp15.2.trans (congrArg (fun F9 => upd1 F9 3 (wth z9 9)) hF15)⟩
          have ha := hA16.1.1.at ha0
          refine KSto (S2 := T16) hT16.symm ?_
          refine KIconst C dX6_init_184 ?_
          refine KIstore (lv' := [(4, .int (iI 0)), (0, .ref a), (1, .int (iI x)), (2, .int (iI y)), (3, .int (iI z9))]) C dX6_init_185 (by decide) rfl ?_
          have hz0 : sI T16 e0 = fil 0 := by rw [fil_0]; exact funext (hA16.2.1 0 (by decide)).2.2.2.2
          refine KSto (S2 := wI T16 (row1 (sI T16) e0 (fil 0))) (by rw [← hz0, row1_self]) ?_
          refine KLv (lv' := [(0, .ref a), (1, .int (iI x)), (2, .int (iI y)), (3, .int (iI z9)), (4, .int (iI 0))]) [1, 2, 3, 4, 0] rfl ?_
          have loop187 : ∀ (nX : Nat) (k : Nat), 20 - k < nX → (k ≤ 20) → Wk pX l eX (rmK 2 12 5758) sX mX argsX belowX methX cX (MQ belowX (QcG g (P_X6_init S a x y z9)) argsX sX 12 5758 (ge (gB g))) g 5 12 5758 187 [(0, .ref a), (1, .int (iI x)), (2, .int (iI y)), (3, .int (iI z9)), (4, .int (iI (k : Int)))] [] (wI T16 (row1 (sI T16) e0 (fil k))) := by
            intro nX
            induction nX with
            | zero => intro k hm; exact absurd hm (Nat.not_lt_zero _)
            | succ nX ih187 =>
              intro k hm187 hk
              refine KRg (fun hR => ?_)
              refine KIload C dX6_init_187 4 rfl ?_
              refine KBipush C dX6_init_189 (by decide) ?_
              refine KIcmp_ge (tgt := 208) C dX6_init_191 (by decide) ⟨by omega, by omega⟩ ⟨by omega, by omega⟩ (fun c191 => ?_) (fun c191 => ?_)
              · refine KVret C rfl (by
                  refine ⟨rfl, fun j => if j = 11 then e11 else (fun j => if j = 10 then e10 else (fun j => if j = 9 then e9 else (fun j => if j = 8 then e8 else (fun j => if j = 7 then e7 else (fun j => if j = 6 then e6 else (fun j => if j = 5 then e5 else (fun j => if j = 4 then e4 else (fun j => if j = 3 then e3 else (fun j => if j = 2 then e2 else (fun j => if j = 1 then e1 else (fun j => if j = 0 then e0 else ((fun _ => 0)) j) j) j) j) j) j) j) j) j) j) j) j, ?_⟩
                  rw [show k = 20 by omega]
                  exact mo_of ha0 hA16 hz hzj hF16) (by decide) (by decide) dX6_init_208
              · refine KAload_n C dX6_init_194 rfl 0 rfl ?_
                refine KGetR (S := wI T16 (row1 (sI T16) e0 (fil k))) C ul_X6 rfl (by decide) 5 5 rfl (by decide) rfl u_fl_RX6_13 ha (b := e0) (hA16.2.1 0 (by decide)).2.2.2.1 dX6_init_195 (fun _ h => h) ?_
                refine KIload C dX6_init_198 4 rfl ?_
                refine KIconst C dX6_init_200 ?_
                refine KIast (S := wI T16 (row1 (sI T16) e0 (fil k))) C 20 (hA16.2.1 0 (by decide)).2.1 (hA16.2.1 0 (by decide)).2.2.1 ⟨by omega, by omega⟩ (by omega) ⟨by omega, by omega⟩ dX6_init_201 ?_
                refine KSto (S2 := wI T16 (row1 (sI T16) e0 (fil (k + 1)))) (congrArg (wI T16) ((up2_row1 _ _ _ _ _).trans (congrArg _ (fil_step k)))) ?_
                refine KIinc (v := ((k + 1 : Nat) : Int)) (lv' := [(4, .int (iI ((k + 1 : Nat) : Int))), (0, .ref a), (1, .int (iI x)), (2, .int (iI y)), (3, .int (iI z9))]) C dX6_init_202 4 rfl (by omega) (by decide) rfl ?_
                refine KGoto (tgt := 187) C dX6_init_205 (by decide) ?_
                refine KLv (lv' := [(0, .ref a), (1, .int (iI x)), (2, .int (iI y)), (3, .int (iI z9)), (4, .int (iI ((k + 1 : Nat) : Int)))]) [1, 2, 3, 4, 0] rfl ?_
                exact ih187 (k + 1) (by omega) (by omega)
          exact loop187 _ 0 (Nat.lt_succ_self _) (by omega)
  · refine KIconst C dX6_init_115 ?_
    refine KGoto (tgt := 131) C dX6_init_116 (by decide) ?_
    refine KTop (congrArg iI (show 1 = wth x 6 from (by unfold wth maxI minI; split <;> split <;> omega))) ?_
    have hwbx := wth_b (x := x) (m := 6) (by decide)
    refine KPutIF (S := T13) (ty := .int) (v := wth x 6) C ul_X6 rfl (by decide) 1 1 rfl (by decide) rfl u_fl_RX6_50 tyX6 tyX6_ok nmX6 ha ⟨by omega, by omega⟩ (by decide +kernel) rfl rfl rfl hin rfl dX6_init_131 (fun _ h => h) ?_
    have hAp13 := Arr.int ha0 hA13 1 (wth x 6)
    obtain ⟨T14, hT14⟩ : ∃ Tz, Tz = (uI T13 a 1 (wth x 6)) := ⟨_, rfl⟩
    obtain ⟨hA14, hF14⟩ : Arr S T14 a _ _ ∧ sI T14 a = upd1 (upd1 (sI S a) 4 (6)) 1 (wth x 6) := by rw [hT14]; exact ⟨hAp13.1, hAp13.2.trans (congrArg (fun F9 => upd1 F9 1 (wth x 6)) hF13)⟩
    have ha := hA14.1.1.at ha0
    refine KSto (S2 := T14) hT14.symm ?_
    refine KAload_n C dX6_init_134 rfl 0 rfl ?_
    refine KIload_n C dX6_init_135 rfl 2 rfl ?_
    refine KIconst C dX6_init_136 ?_
    refine KIcmp_ge (tgt := 144) C dX6_init_137 (by decide) ⟨by omega, by omega⟩ ⟨by omega, by omega⟩ (fun c137 => ?_) (fun c137 => ?_)
    · refine KIload_n C dX6_init_144 rfl 2 rfl ?_
      refine KBipush C dX6_init_145 (by decide) ?_
      refine KIcmp_le (tgt := 155) C dX6_init_147 (by decide) ⟨by omega, by omega⟩ ⟨by omega, by omega⟩ (fun c147 => ?_) (fun c147 => ?_)
      · refine KIload_n C dX6_init_155 rfl 2 rfl ?_
        refine KTop (congrArg iI (show y = wth y 20 from (by unfold wth maxI minI; split <;> split <;> omega))) ?_
        have hwby := wth_b (x := y) (m := 20) (by decide)
        refine KPutIF (S := T14) (ty := .int) (v := wth y 20) C ul_X6 rfl (by decide) 2 2 rfl (by decide) rfl u_fl_RX6_53 tyX6 tyX6_ok nmX6 ha ⟨by omega, by omega⟩ (by decide +kernel) rfl rfl rfl hin rfl dX6_init_156 (fun _ h => h) ?_
        have hAp14 := Arr.int ha0 hA14 2 (wth y 20)
        obtain ⟨T15, hT15⟩ : ∃ Tz, Tz = (uI T14 a 2 (wth y 20)) := ⟨_, rfl⟩
        obtain ⟨hA15, hF15⟩ : Arr S T15 a _ _ ∧ sI T15 a = upd1 (upd1 (upd1 (sI S a) 4 (6)) 1 (wth x 6)) 2 (wth y 20) := by rw [hT15]; exact ⟨hAp14.1, hAp14.2.trans (congrArg (fun F9 => upd1 F9 2 (wth y 20)) hF14)⟩
        have ha := hA15.1.1.at ha0
        refine KSto (S2 := T15) hT15.symm ?_
        refine KAload_n C dX6_init_159 rfl 0 rfl ?_
        refine KIload_n C dX6_init_160 rfl 3 rfl ?_
        refine KIconst C dX6_init_161 ?_
        refine KIcmp_ge (tgt := 169) C dX6_init_162 (by decide) ⟨by omega, by omega⟩ ⟨by omega, by omega⟩ (fun c162 => ?_) (fun c162 => ?_)
        · refine KIload_n C dX6_init_169 rfl 3 rfl ?_
          refine KBipush C dX6_init_170 (by decide) ?_
          refine KIcmp_le (tgt := 180) C dX6_init_172 (by decide) ⟨by omega, by omega⟩ ⟨by omega, by omega⟩ (fun c172 => ?_) (fun c172 => ?_)
          · refine KIload_n C dX6_init_180 rfl 3 rfl ?_
            refine KTop (congrArg iI (show z9 = wth z9 9 from (by unfold wth maxI minI; split <;> split <;> omega))) ?_
            have hwbz9 := wth_b (x := z9) (m := 9) (by decide)
            refine KPutIF (S := T15) (ty := .int) (v := wth z9 9) C ul_X6 rfl (by decide) 3 3 rfl (by decide) rfl u_fl_RX6_56 tyX6 tyX6_ok nmX6 ha ⟨by omega, by omega⟩ (by decide +kernel) rfl rfl rfl hin rfl dX6_init_181 (fun _ h => h) ?_
            have hAp15 := Arr.int ha0 hA15 3 (wth z9 9)
            obtain ⟨T16, hT16⟩ : ∃ Tz, Tz = (uI T15 a 3 (wth z9 9)) := ⟨_, rfl⟩
            obtain ⟨hA16, hF16⟩ : Arr S T16 a _ _ ∧ sI T16 a = upd1 (upd1 (upd1 (upd1 (sI S a) 4 (6)) 1 (wth x 6)) 2 (wth y 20)) 3 (wth z9 9) := by rw [hT16]; exact ⟨hAp15.1, hAp15.2.trans (congrArg (fun F9 => upd1 F9 3 (wth z9 9)) hF15)⟩
            have ha := hA16.1.1.at ha0
            refine KSto (S2 := T16) hT16.symm ?_
            refine KIconst C dX6_init_184 ?_
            refine KIstore (lv' := [(4, .int (iI 0)), (0, .ref a), (1, .int (iI x)), (2, .int (iI y)), (3, .int (iI z9))]) C dX6_init_185 (by decide) rfl ?_
            have hz0 : sI T16 e0 = fil 0 := by rw [fil_0]; exact funext (hA16.2.1 0 (by decide)).2.2.2.2
            refine KSto (S2 := wI T16 (row1 (sI T16) e0 (fil 0))) (by rw [← hz0, row1_self]) ?_
            refine KLv (lv' := [(0, .ref a), (1, .int (iI x)), (2, .int (iI y)), (3, .int (iI z9)), (4, .int (iI 0))]) [1, 2, 3, 4, 0] rfl ?_
            have loop187 : ∀ (nX : Nat) (k : Nat), 20 - k < nX → (k ≤ 20) → Wk pX l eX (rmK 2 12 5758) sX mX argsX belowX methX cX (MQ belowX (QcG g (P_X6_init S a x y z9)) argsX sX 12 5758 (ge (gB g))) g 5 12 5758 187 [(0, .ref a), (1, .int (iI x)), (2, .int (iI y)), (3, .int (iI z9)), (4, .int (iI (k : Int)))] [] (wI T16 (row1 (sI T16) e0 (fil k))) := by
              intro nX
              induction nX with
              | zero => intro k hm; exact absurd hm (Nat.not_lt_zero _)
              | succ nX ih187 =>
                intro k hm187 hk
                refine KRg (fun hR => ?_)
                refine KIload C dX6_init_187 4 rfl ?_
                refine KBipush C dX6_init_189 (by decide) ?_
                refine KIcmp_ge (tgt := 208) C dX6_init_191 (by decide) ⟨by omega, by omega⟩ ⟨by omega, by omega⟩ (fun c191 => ?_) (fun c191 => ?_)
                · refine KVret C rfl (by
                    refine ⟨rfl, fun j => if j = 11 then e11 else (fun j => if j = 10 then e10 else (fun j => if j = 9 then e9 else (fun j => if j = 8 then e8 else (fun j => if j = 7 then e7 else (fun j => if j = 6 then e6 else (fun j => if j = 5 then e5 else (fun j => if j = 4 then e4 else (fun j => if j = 3 then e3 else (fun j => if j = 2 then e2 else (fun j => if j = 1 then e1 else (fun j => if j = 0 then e0 else ((fun _ => 0)) j) j) j) j) j) j) j) j) j) j) j) j, ?_⟩
                    rw [show k = 20 by omega]
                    exact mo_of ha0 hA16 hz hzj hF16) (by decide) (by decide) dX6_init_208
                · refine KAload_n C dX6_init_194 rfl 0 rfl ?_
                  refine KGetR (S := wI T16 (row1 (sI T16) e0 (fil k))) C ul_X6 rfl (by decide) 5 5 rfl (by decide) rfl u_fl_RX6_13 ha (b := e0) (hA16.2.1 0 (by decide)).2.2.2.1 dX6_init_195 (fun _ h => h) ?_
                  refine KIload C dX6_init_198 4 rfl ?_
                  refine KIconst C dX6_init_200 ?_
                  refine KIast (S := wI T16 (row1 (sI T16) e0 (fil k))) C 20 (hA16.2.1 0 (by decide)).2.1 (hA16.2.1 0 (by decide)).2.2.1 ⟨by omega, by omega⟩ (by omega) ⟨by omega, by omega⟩ dX6_init_201 ?_
                  refine KSto (S2 := wI T16 (row1 (sI T16) e0 (fil (k + 1)))) (congrArg (wI T16) ((up2_row1 _ _ _ _ _).trans (congrArg _ (fil_step k)))) ?_
                  refine KIinc (v := ((k + 1 : Nat) : Int)) (lv' := [(4, .int (iI ((k + 1 : Nat) : Int))), (0, .ref a), (1, .int (iI x)), (2, .int (iI y)), (3, .int (iI z9))]) C dX6_init_202 4 rfl (by omega) (by decide) rfl ?_
                  refine KGoto (tgt := 187) C dX6_init_205 (by decide) ?_
                  refine KLv (lv' := [(0, .ref a), (1, .int (iI x)), (2, .int (iI y)), (3, .int (iI z9)), (4, .int (iI ((k + 1 : Nat) : Int)))]) [1, 2, 3, 4, 0] rfl ?_
                  exact ih187 (k + 1) (by omega) (by omega)
            exact loop187 _ 0 (Nat.lt_succ_self _) (by omega)
          · refine KBipush C dX6_init_175 (by decide) ?_
            refine KGoto (tgt := 181) C dX6_init_177 (by decide) ?_
            refine KTop (congrArg iI (show 9 = wth z9 9 from (by unfold wth maxI minI; split <;> split <;> omega))) ?_
            have hwbz9 := wth_b (x := z9) (m := 9) (by decide)
            refine KPutIF (S := T15) (ty := .int) (v := wth z9 9) C ul_X6 rfl (by decide) 3 3 rfl (by decide) rfl u_fl_RX6_56 tyX6 tyX6_ok nmX6 ha ⟨by omega, by omega⟩ (by decide +kernel) rfl rfl rfl hin rfl dX6_init_181 (fun _ h => h) ?_
            have hAp15 := Arr.int ha0 hA15 3 (wth z9 9)
            obtain ⟨T16, hT16⟩ : ∃ Tz, Tz = (uI T15 a 3 (wth z9 9)) := ⟨_, rfl⟩
            obtain ⟨hA16, hF16⟩ : Arr S T16 a _ _ ∧ sI T16 a = upd1 (upd1 (upd1 (upd1 (sI S a) 4 (6)) 1 (wth x 6)) 2 (wth y 20)) 3 (wth z9 9) := by rw [hT16]; exact ⟨hAp15.1, hAp15.2.trans (congrArg (fun F9 => upd1 F9 3 (wth z9 9)) hF15)⟩
            have ha := hA16.1.1.at ha0
            refine KSto (S2 := T16) hT16.symm ?_
            refine KIconst C dX6_init_184 ?_
            refine KIstore (lv' := [(4, .int (iI 0)), (0, .ref a), (1, .int (iI x)), (2, .int (iI y)), (3, .int (iI z9))]) C dX6_init_185 (by decide) rfl ?_
            have hz0 : sI T16 e0 = fil 0 := by rw [fil_0]; exact funext (hA16.2.1 0 (by decide)).2.2.2.2
            refine KSto (S2 := wI T16 (row1 (sI T16) e0 (fil 0))) (by rw [← hz0, row1_self]) ?_
            refine KLv (lv' := [(0, .ref a), (1, .int (iI x)), (2, .int (iI y)), (3, .int (iI z9)), (4, .int (iI 0))]) [1, 2, 3, 4, 0] rfl ?_
            have loop187 : ∀ (nX : Nat) (k : Nat), 20 - k < nX → (k ≤ 20) → Wk pX l eX (rmK 2 12 5758) sX mX argsX belowX methX cX (MQ belowX (QcG g (P_X6_init S a x y z9)) argsX sX 12 5758 (ge (gB g))) g 5 12 5758 187 [(0, .ref a), (1, .int (iI x)), (2, .int (iI y)), (3, .int (iI z9)), (4, .int (iI (k : Int)))] [] (wI T16 (row1 (sI T16) e0 (fil k))) := by
              intro nX
              induction nX with
              | zero => intro k hm; exact absurd hm (Nat.not_lt_zero _)
              | succ nX ih187 =>
                intro k hm187 hk
                refine KRg (fun hR => ?_)
                refine KIload C dX6_init_187 4 rfl ?_
                refine KBipush C dX6_init_189 (by decide) ?_
                refine KIcmp_ge (tgt := 208) C dX6_init_191 (by decide) ⟨by omega, by omega⟩ ⟨by omega, by omega⟩ (fun c191 => ?_) (fun c191 => ?_)
                · refine KVret C rfl (by
                    refine ⟨rfl, fun j => if j = 11 then e11 else (fun j => if j = 10 then e10 else (fun j => if j = 9 then e9 else (fun j => if j = 8 then e8 else (fun j => if j = 7 then e7 else (fun j => if j = 6 then e6 else (fun j => if j = 5 then e5 else (fun j => if j = 4 then e4 else (fun j => if j = 3 then e3 else (fun j => if j = 2 then e2 else (fun j => if j = 1 then e1 else (fun j => if j = 0 then e0 else ((fun _ => 0)) j) j) j) j) j) j) j) j) j) j) j) j, ?_⟩
                    rw [show k = 20 by omega]
                    exact mo_of ha0 hA16 hz hzj hF16) (by decide) (by decide) dX6_init_208
                · refine KAload_n C dX6_init_194 rfl 0 rfl ?_
                  refine KGetR (S := wI T16 (row1 (sI T16) e0 (fil k))) C ul_X6 rfl (by decide) 5 5 rfl (by decide) rfl u_fl_RX6_13 ha (b := e0) (hA16.2.1 0 (by decide)).2.2.2.1 dX6_init_195 (fun _ h => h) ?_
                  refine KIload C dX6_init_198 4 rfl ?_
                  refine KIconst C dX6_init_200 ?_
                  refine KIast (S := wI T16 (row1 (sI T16) e0 (fil k))) C 20 (hA16.2.1 0 (by decide)).2.1 (hA16.2.1 0 (by decide)).2.2.1 ⟨by omega, by omega⟩ (by omega) ⟨by omega, by omega⟩ dX6_init_201 ?_
                  refine KSto (S2 := wI T16 (row1 (sI T16) e0 (fil (k + 1)))) (congrArg (wI T16) ((up2_row1 _ _ _ _ _).trans (congrArg _ (fil_step k)))) ?_
                  refine KIinc (v := ((k + 1 : Nat) : Int)) (lv' := [(4, .int (iI ((k + 1 : Nat) : Int))), (0, .ref a), (1, .int (iI x)), (2, .int (iI y)), (3, .int (iI z9))]) C dX6_init_202 4 rfl (by omega) (by decide) rfl ?_
                  refine KGoto (tgt := 187) C dX6_init_205 (by decide) ?_
                  refine KLv (lv' := [(0, .ref a), (1, .int (iI x)), (2, .int (iI y)), (3, .int (iI z9)), (4, .int (iI ((k + 1 : Nat) : Int)))]) [1, 2, 3, 4, 0] rfl ?_
                  exact ih187 (k + 1) (by omega) (by omega)
            exact loop187 _ 0 (Nat.lt_succ_self _) (by omega)
        · refine KIconst C dX6_init_165 ?_
          refine KGoto (tgt := 181) C dX6_init_166 (by decide) ?_
          refine KTop (congrArg iI (show 1 = wth z9 9 from (by unfold wth maxI minI; split <;> split <;> omega))) ?_
          have hwbz9 := wth_b (x := z9) (m := 9) (by decide)
          refine KPutIF (S := T15) (ty := .int) (v := wth z9 9) C ul_X6 rfl (by decide) 3 3 rfl (by decide) rfl u_fl_RX6_56 tyX6 tyX6_ok nmX6 ha ⟨by omega, by omega⟩ (by decide +kernel) rfl rfl rfl hin rfl dX6_init_181 (fun _ h => h) ?_
          have hAp15 := Arr.int ha0 hA15 3 (wth z9 9)
          obtain ⟨T16, hT16⟩ : ∃ Tz, Tz = (uI T15 a 3 (wth z9 9)) := ⟨_, rfl⟩
          obtain ⟨hA16, hF16⟩ : Arr S T16 a _ _ ∧ sI T16 a = upd1 (upd1 (upd1 (upd1 (sI S a) 4 (6)) 1 (wth x 6)) 2 (wth y 20)) 3 (wth z9 9) := by rw [hT16]; exact ⟨hAp15.1, hAp15.2.trans (congrArg (fun F9 => upd1 F9 3 (wth z9 9)) hF15)⟩
          have ha := hA16.1.1.at ha0
          refine KSto (S2 := T16) hT16.symm ?_
          refine KIconst C dX6_init_184 ?_
          refine KIstore (lv' := [(4, .int (iI 0)), (0, .ref a), (1, .int (iI x)), (2, .int (iI y)), (3, .int (iI z9))]) C dX6_init_185 (by decide) rfl ?_
          have hz0 : sI T16 e0 = fil 0 := by rw [fil_0]; exact funext (hA16.2.1 0 (by decide)).2.2.2.2
          refine KSto (S2 := wI T16 (row1 (sI T16) e0 (fil 0))) (by rw [← hz0, row1_self]) ?_
          refine KLv (lv' := [(0, .ref a), (1, .int (iI x)), (2, .int (iI y)), (3, .int (iI z9)), (4, .int (iI 0))]) [1, 2, 3, 4, 0] rfl ?_
          have loop187 : ∀ (nX : Nat) (k : Nat), 20 - k < nX → (k ≤ 20) → Wk pX l eX (rmK 2 12 5758) sX mX argsX belowX methX cX (MQ belowX (QcG g (P_X6_init S a x y z9)) argsX sX 12 5758 (ge (gB g))) g 5 12 5758 187 [(0, .ref a), (1, .int (iI x)), (2, .int (iI y)), (3, .int (iI z9)), (4, .int (iI (k : Int)))] [] (wI T16 (row1 (sI T16) e0 (fil k))) := by
            intro nX
            induction nX with
            | zero => intro k hm; exact absurd hm (Nat.not_lt_zero _)
            | succ nX ih187 =>
              intro k hm187 hk
              refine KRg (fun hR => ?_)
              refine KIload C dX6_init_187 4 rfl ?_
              refine KBipush C dX6_init_189 (by decide) ?_
              refine KIcmp_ge (tgt := 208) C dX6_init_191 (by decide) ⟨by omega, by omega⟩ ⟨by omega, by omega⟩ (fun c191 => ?_) (fun c191 => ?_)
              · refine KVret C rfl (by
                  refine ⟨rfl, fun j => if j = 11 then e11 else (fun j => if j = 10 then e10 else (fun j => if j = 9 then e9 else (fun j => if j = 8 then e8 else (fun j => if j = 7 then e7 else (fun j => if j = 6 then e6 else (fun j => if j = 5 then e5 else (fun j => if j = 4 then e4 else (fun j => if j = 3 then e3 else (fun j => if j = 2 then e2 else (fun j => if j = 1 then e1 else (fun j => if j = 0 then e0 else ((fun _ => 0)) j) j) j) j) j) j) j) j) j) j) j) j, ?_⟩
                  rw [show k = 20 by omega]
                  exact mo_of ha0 hA16 hz hzj hF16) (by decide) (by decide) dX6_init_208
              · refine KAload_n C dX6_init_194 rfl 0 rfl ?_
                refine KGetR (S := wI T16 (row1 (sI T16) e0 (fil k))) C ul_X6 rfl (by decide) 5 5 rfl (by decide) rfl u_fl_RX6_13 ha (b := e0) (hA16.2.1 0 (by decide)).2.2.2.1 dX6_init_195 (fun _ h => h) ?_
                refine KIload C dX6_init_198 4 rfl ?_
                refine KIconst C dX6_init_200 ?_
                refine KIast (S := wI T16 (row1 (sI T16) e0 (fil k))) C 20 (hA16.2.1 0 (by decide)).2.1 (hA16.2.1 0 (by decide)).2.2.1 ⟨by omega, by omega⟩ (by omega) ⟨by omega, by omega⟩ dX6_init_201 ?_
                refine KSto (S2 := wI T16 (row1 (sI T16) e0 (fil (k + 1)))) (congrArg (wI T16) ((up2_row1 _ _ _ _ _).trans (congrArg _ (fil_step k)))) ?_
                refine KIinc (v := ((k + 1 : Nat) : Int)) (lv' := [(4, .int (iI ((k + 1 : Nat) : Int))), (0, .ref a), (1, .int (iI x)), (2, .int (iI y)), (3, .int (iI z9))]) C dX6_init_202 4 rfl (by omega) (by decide) rfl ?_
                refine KGoto (tgt := 187) C dX6_init_205 (by decide) ?_
                refine KLv (lv' := [(0, .ref a), (1, .int (iI x)), (2, .int (iI y)), (3, .int (iI z9)), (4, .int (iI ((k + 1 : Nat) : Int)))]) [1, 2, 3, 4, 0] rfl ?_
                exact ih187 (k + 1) (by omega) (by omega)
          exact loop187 _ 0 (Nat.lt_succ_self _) (by omega)
      · refine KBipush C dX6_init_150 (by decide) ?_
        refine KGoto (tgt := 156) C dX6_init_152 (by decide) ?_
        refine KTop (congrArg iI (show 20 = wth y 20 from (by unfold wth maxI minI; split <;> split <;> omega))) ?_
        have hwby := wth_b (x := y) (m := 20) (by decide)
        refine KPutIF (S := T14) (ty := .int) (v := wth y 20) C ul_X6 rfl (by decide) 2 2 rfl (by decide) rfl u_fl_RX6_53 tyX6 tyX6_ok nmX6 ha ⟨by omega, by omega⟩ (by decide +kernel) rfl rfl rfl hin rfl dX6_init_156 (fun _ h => h) ?_
        have hAp14 := Arr.int ha0 hA14 2 (wth y 20)
        obtain ⟨T15, hT15⟩ : ∃ Tz, Tz = (uI T14 a 2 (wth y 20)) := ⟨_, rfl⟩
        obtain ⟨hA15, hF15⟩ : Arr S T15 a _ _ ∧ sI T15 a = upd1 (upd1 (upd1 (sI S a) 4 (6)) 1 (wth x 6)) 2 (wth y 20) := by rw [hT15]; exact ⟨hAp14.1, hAp14.2.trans (congrArg (fun F9 => upd1 F9 2 (wth y 20)) hF14)⟩
        have ha := hA15.1.1.at ha0
        refine KSto (S2 := T15) hT15.symm ?_
        refine KAload_n C dX6_init_159 rfl 0 rfl ?_
        refine KIload_n C dX6_init_160 rfl 3 rfl ?_
        refine KIconst C dX6_init_161 ?_
        refine KIcmp_ge (tgt := 169) C dX6_init_162 (by decide) ⟨by omega, by omega⟩ ⟨by omega, by omega⟩ (fun c162 => ?_) (fun c162 => ?_)
        · refine KIload_n C dX6_init_169 rfl 3 rfl ?_
          refine KBipush C dX6_init_170 (by decide) ?_
          refine KIcmp_le (tgt := 180) C dX6_init_172 (by decide) ⟨by omega, by omega⟩ ⟨by omega, by omega⟩ (fun c172 => ?_) (fun c172 => ?_)
          · refine KIload_n C dX6_init_180 rfl 3 rfl ?_
            refine KTop (congrArg iI (show z9 = wth z9 9 from (by unfold wth maxI minI; split <;> split <;> omega))) ?_
            have hwbz9 := wth_b (x := z9) (m := 9) (by decide)
            refine KPutIF (S := T15) (ty := .int) (v := wth z9 9) C ul_X6 rfl (by decide) 3 3 rfl (by decide) rfl u_fl_RX6_56 tyX6 tyX6_ok nmX6 ha ⟨by omega, by omega⟩ (by decide +kernel) rfl rfl rfl hin rfl dX6_init_181 (fun _ h => h) ?_
            have hAp15 := Arr.int ha0 hA15 3 (wth z9 9)
            obtain ⟨T16, hT16⟩ : ∃ Tz, Tz = (uI T15 a 3 (wth z9 9)) := ⟨_, rfl⟩
            obtain ⟨hA16, hF16⟩ : Arr S T16 a _ _ ∧ sI T16 a = upd1 (upd1 (upd1 (upd1 (sI S a) 4 (6)) 1 (wth x 6)) 2 (wth y 20)) 3 (wth z9 9) := by rw [hT16]; exact ⟨hAp15.1, hAp15.2.trans (congrArg (fun F9 => upd1 F9 3 (wth z9 9)) hF15)⟩
            have ha := hA16.1.1.at ha0
            refine KSto (S2 := T16) hT16.symm ?_
            refine KIconst C dX6_init_184 ?_
            refine KIstore (lv' := [(4, .int (iI 0)), (0, .ref a), (1, .int (iI x)), (2, .int (iI y)), (3, .int (iI z9))]) C dX6_init_185 (by decide) rfl ?_
            have hz0 : sI T16 e0 = fil 0 := by rw [fil_0]; exact funext (hA16.2.1 0 (by decide)).2.2.2.2
            refine KSto (S2 := wI T16 (row1 (sI T16) e0 (fil 0))) (by rw [← hz0, row1_self]) ?_
            refine KLv (lv' := [(0, .ref a), (1, .int (iI x)), (2, .int (iI y)), (3, .int (iI z9)), (4, .int (iI 0))]) [1, 2, 3, 4, 0] rfl ?_
            have loop187 : ∀ (nX : Nat) (k : Nat), 20 - k < nX → (k ≤ 20) → Wk pX l eX (rmK 2 12 5758) sX mX argsX belowX methX cX (MQ belowX (QcG g (P_X6_init S a x y z9)) argsX sX 12 5758 (ge (gB g))) g 5 12 5758 187 [(0, .ref a), (1, .int (iI x)), (2, .int (iI y)), (3, .int (iI z9)), (4, .int (iI (k : Int)))] [] (wI T16 (row1 (sI T16) e0 (fil k))) := by
              intro nX
              induction nX with
              | zero => intro k hm; exact absurd hm (Nat.not_lt_zero _)
              | succ nX ih187 =>
                intro k hm187 hk
                refine KRg (fun hR => ?_)
                refine KIload C dX6_init_187 4 rfl ?_
                refine KBipush C dX6_init_189 (by decide) ?_
                refine KIcmp_ge (tgt := 208) C dX6_init_191 (by decide) ⟨by omega, by omega⟩ ⟨by omega, by omega⟩ (fun c191 => ?_) (fun c191 => ?_)
                · refine KVret C rfl (by
                    refine ⟨rfl, fun j => if j = 11 then e11 else (fun j => if j = 10 then e10 else (fun j => if j = 9 then e9 else (fun j => if j = 8 then e8 else (fun j => if j = 7 then e7 else (fun j => if j = 6 then e6 else (fun j => if j = 5 then e5 else (fun j => if j = 4 then e4 else (fun j => if j = 3 then e3 else (fun j => if j = 2 then e2 else (fun j => if j = 1 then e1 else (fun j => if j = 0 then e0 else ((fun _ => 0)) j) j) j) j) j) j) j) j) j) j) j) j, ?_⟩
                    rw [show k = 20 by omega]
                    exact mo_of ha0 hA16 hz hzj hF16) (by decide) (by decide) dX6_init_208
                · refine KAload_n C dX6_init_194 rfl 0 rfl ?_
                  refine KGetR (S := wI T16 (row1 (sI T16) e0 (fil k))) C ul_X6 rfl (by decide) 5 5 rfl (by decide) rfl u_fl_RX6_13 ha (b := e0) (hA16.2.1 0 (by decide)).2.2.2.1 dX6_init_195 (fun _ h => h) ?_
                  refine KIload C dX6_init_198 4 rfl ?_
                  refine KIconst C dX6_init_200 ?_
                  refine KIast (S := wI T16 (row1 (sI T16) e0 (fil k))) C 20 (hA16.2.1 0 (by decide)).2.1 (hA16.2.1 0 (by decide)).2.2.1 ⟨by omega, by omega⟩ (by omega) ⟨by omega, by omega⟩ dX6_init_201 ?_
                  refine KSto (S2 := wI T16 (row1 (sI T16) e0 (fil (k + 1)))) (congrArg (wI T16) ((up2_row1 _ _ _ _ _).trans (congrArg _ (fil_step k)))) ?_
                  refine KIinc (v := ((k + 1 : Nat) : Int)) (lv' := [(4, .int (iI ((k + 1 : Nat) : Int))), (0, .ref a), (1, .int (iI x)), (2, .int (iI y)), (3, .int (iI z9))]) C dX6_init_202 4 rfl (by omega) (by decide) rfl ?_
                  refine KGoto (tgt := 187) C dX6_init_205 (by decide) ?_
                  refine KLv (lv' := [(0, .ref a), (1, .int (iI x)), (2, .int (iI y)), (3, .int (iI z9)), (4, .int (iI ((k + 1 : Nat) : Int)))]) [1, 2, 3, 4, 0] rfl ?_
                  exact ih187 (k + 1) (by omega) (by omega)
            exact loop187 _ 0 (Nat.lt_succ_self _) (by omega)
          · refine KBipush C dX6_init_175 (by decide) ?_
            refine KGoto (tgt := 181) C dX6_init_177 (by decide) ?_
            refine KTop (congrArg iI (show 9 = wth z9 9 from (by unfold wth maxI minI; split <;> split <;> omega))) ?_
            have hwbz9 := wth_b (x := z9) (m := 9) (by decide)
            refine KPutIF (S := T15) (ty := .int) (v := wth z9 9) C ul_X6 rfl (by decide) 3 3 rfl (by decide) rfl u_fl_RX6_56 tyX6 tyX6_ok nmX6 ha ⟨by omega, by omega⟩ (by decide +kernel) rfl rfl rfl hin rfl dX6_init_181 (fun _ h => h) ?_
            have hAp15 := Arr.int ha0 hA15 3 (wth z9 9)
            obtain ⟨T16, hT16⟩ : ∃ Tz, Tz = (uI T15 a 3 (wth z9 9)) := ⟨_, rfl⟩
            obtain ⟨hA16, hF16⟩ : Arr S T16 a _ _ ∧ sI T16 a = upd1 (upd1 (upd1 (upd1 (sI S a) 4 (6)) 1 (wth x 6)) 2 (wth y 20)) 3 (wth z9 9) := by rw [hT16]; exact ⟨hAp15.1, hAp15.2.trans (congrArg (fun F9 => upd1 F9 3 (wth z9 9)) hF15)⟩
            have ha := hA16.1.1.at ha0
            refine KSto (S2 := T16) hT16.symm ?_
            refine KIconst C dX6_init_184 ?_
            refine KIstore (lv' := [(4, .int (iI 0)), (0, .ref a), (1, .int (iI x)), (2, .int (iI y)), (3, .int (iI z9))]) C dX6_init_185 (by decide) rfl ?_
            have hz0 : sI T16 e0 = fil 0 := by rw [fil_0]; exact funext (hA16.2.1 0 (by decide)).2.2.2.2
            refine KSto (S2 := wI T16 (row1 (sI T16) e0 (fil 0))) (by rw [← hz0, row1_self]) ?_
            refine KLv (lv' := [(0, .ref a), (1, .int (iI x)), (2, .int (iI y)), (3, .int (iI z9)), (4, .int (iI 0))]) [1, 2, 3, 4, 0] rfl ?_
            have loop187 : ∀ (nX : Nat) (k : Nat), 20 - k < nX → (k ≤ 20) → Wk pX l eX (rmK 2 12 5758) sX mX argsX belowX methX cX (MQ belowX (QcG g (P_X6_init S a x y z9)) argsX sX 12 5758 (ge (gB g))) g 5 12 5758 187 [(0, .ref a), (1, .int (iI x)), (2, .int (iI y)), (3, .int (iI z9)), (4, .int (iI (k : Int)))] [] (wI T16 (row1 (sI T16) e0 (fil k))) := by
              intro nX
              induction nX with
              | zero => intro k hm; exact absurd hm (Nat.not_lt_zero _)
              | succ nX ih187 =>
                intro k hm187 hk
                refine KRg (fun hR => ?_)
                refine KIload C dX6_init_187 4 rfl ?_
                refine KBipush C dX6_init_189 (by decide) ?_
                refine KIcmp_ge (tgt := 208) C dX6_init_191 (by decide) ⟨by omega, by omega⟩ ⟨by omega, by omega⟩ (fun c191 => ?_) (fun c191 => ?_)
                · refine KVret C rfl (by
                    refine ⟨rfl, fun j => if j = 11 then e11 else (fun j => if j = 10 then e10 else (fun j => if j = 9 then e9 else (fun j => if j = 8 then e8 else (fun j => if j = 7 then e7 else (fun j => if j = 6 then e6 else (fun j => if j = 5 then e5 else (fun j => if j = 4 then e4 else (fun j => if j = 3 then e3 else (fun j => if j = 2 then e2 else (fun j => if j = 1 then e1 else (fun j => if j = 0 then e0 else ((fun _ => 0)) j) j) j) j) j) j) j) j) j) j) j) j, ?_⟩
                    rw [show k = 20 by omega]
                    exact mo_of ha0 hA16 hz hzj hF16) (by decide) (by decide) dX6_init_208
                · refine KAload_n C dX6_init_194 rfl 0 rfl ?_
                  refine KGetR (S := wI T16 (row1 (sI T16) e0 (fil k))) C ul_X6 rfl (by decide) 5 5 rfl (by decide) rfl u_fl_RX6_13 ha (b := e0) (hA16.2.1 0 (by decide)).2.2.2.1 dX6_init_195 (fun _ h => h) ?_
                  refine KIload C dX6_init_198 4 rfl ?_
                  refine KIconst C dX6_init_200 ?_
                  refine KIast (S := wI T16 (row1 (sI T16) e0 (fil k))) C 20 (hA16.2.1 0 (by decide)).2.1 (hA16.2.1 0 (by decide)).2.2.1 ⟨by omega, by omega⟩ (by omega) ⟨by omega, by omega⟩ dX6_init_201 ?_
                  refine KSto (S2 := wI T16 (row1 (sI T16) e0 (fil (k + 1)))) (congrArg (wI T16) ((up2_row1 _ _ _ _ _).trans (congrArg _ (fil_step k)))) ?_
                  refine KIinc (v := ((k + 1 : Nat) : Int)) (lv' := [(4, .int (iI ((k + 1 : Nat) : Int))), (0, .ref a), (1, .int (iI x)), (2, .int (iI y)), (3, .int (iI z9))]) C dX6_init_202 4 rfl (by omega) (by decide) rfl ?_
                  refine KGoto (tgt := 187) C dX6_init_205 (by decide) ?_
                  refine KLv (lv' := [(0, .ref a), (1, .int (iI x)), (2, .int (iI y)), (3, .int (iI z9)), (4, .int (iI ((k + 1 : Nat) : Int)))]) [1, 2, 3, 4, 0] rfl ?_
                  exact ih187 (k + 1) (by omega) (by omega)
            exact loop187 _ 0 (Nat.lt_succ_self _) (by omega)
        · refine KIconst C dX6_init_165 ?_
          refine KGoto (tgt := 181) C dX6_init_166 (by decide) ?_
          refine KTop (congrArg iI (show 1 = wth z9 9 from (by unfold wth maxI minI; split <;> split <;> omega))) ?_
          have hwbz9 := wth_b (x := z9) (m := 9) (by decide)
          refine KPutIF (S := T15) (ty := .int) (v := wth z9 9) C ul_X6 rfl (by decide) 3 3 rfl (by decide) rfl u_fl_RX6_56 tyX6 tyX6_ok nmX6 ha ⟨by omega, by omega⟩ (by decide +kernel) rfl rfl rfl hin rfl dX6_init_181 (fun _ h => h) ?_
          have hAp15 := Arr.int ha0 hA15 3 (wth z9 9)
          obtain ⟨T16, hT16⟩ : ∃ Tz, Tz = (uI T15 a 3 (wth z9 9)) := ⟨_, rfl⟩
          obtain ⟨hA16, hF16⟩ : Arr S T16 a _ _ ∧ sI T16 a = upd1 (upd1 (upd1 (upd1 (sI S a) 4 (6)) 1 (wth x 6)) 2 (wth y 20)) 3 (wth z9 9) := by rw [hT16]; exact ⟨hAp15.1, hAp15.2.trans (congrArg (fun F9 => upd1 F9 3 (wth z9 9)) hF15)⟩
          have ha := hA16.1.1.at ha0
          refine KSto (S2 := T16) hT16.symm ?_
          refine KIconst C dX6_init_184 ?_
          refine KIstore (lv' := [(4, .int (iI 0)), (0, .ref a), (1, .int (iI x)), (2, .int (iI y)), (3, .int (iI z9))]) C dX6_init_185 (by decide) rfl ?_
          have hz0 : sI T16 e0 = fil 0 := by rw [fil_0]; exact funext (hA16.2.1 0 (by decide)).2.2.2.2
          refine KSto (S2 := wI T16 (row1 (sI T16) e0 (fil 0))) (by rw [← hz0, row1_self]) ?_
          refine KLv (lv' := [(0, .ref a), (1, .int (iI x)), (2, .int (iI y)), (3, .int (iI z9)), (4, .int (iI 0))]) [1, 2, 3, 4, 0] rfl ?_
          have loop187 : ∀ (nX : Nat) (k : Nat), 20 - k < nX → (k ≤ 20) → Wk pX l eX (rmK 2 12 5758) sX mX argsX belowX methX cX (MQ belowX (QcG g (P_X6_init S a x y z9)) argsX sX 12 5758 (ge (gB g))) g 5 12 5758 187 [(0, .ref a), (1, .int (iI x)), (2, .int (iI y)), (3, .int (iI z9)), (4, .int (iI (k : Int)))] [] (wI T16 (row1 (sI T16) e0 (fil k))) := by
            intro nX
            induction nX with
            | zero => intro k hm; exact absurd hm (Nat.not_lt_zero _)
            | succ nX ih187 =>
              intro k hm187 hk
              refine KRg (fun hR => ?_)
              refine KIload C dX6_init_187 4 rfl ?_
              refine KBipush C dX6_init_189 (by decide) ?_
              refine KIcmp_ge (tgt := 208) C dX6_init_191 (by decide) ⟨by omega, by omega⟩ ⟨by omega, by omega⟩ (fun c191 => ?_) (fun c191 => ?_)
              · refine KVret C rfl (by
                  refine ⟨rfl, fun j => if j = 11 then e11 else (fun j => if j = 10 then e10 else (fun j => if j = 9 then e9 else (fun j => if j = 8 then e8 else (fun j => if j = 7 then e7 else (fun j => if j = 6 then e6 else (fun j => if j = 5 then e5 else (fun j => if j = 4 then e4 else (fun j => if j = 3 then e3 else (fun j => if j = 2 then e2 else (fun j => if j = 1 then e1 else (fun j => if j = 0 then e0 else ((fun _ => 0)) j) j) j) j) j) j) j) j) j) j) j) j, ?_⟩
                  rw [show k = 20 by omega]
                  exact mo_of ha0 hA16 hz hzj hF16) (by decide) (by decide) dX6_init_208
              · refine KAload_n C dX6_init_194 rfl 0 rfl ?_
                refine KGetR (S := wI T16 (row1 (sI T16) e0 (fil k))) C ul_X6 rfl (by decide) 5 5 rfl (by decide) rfl u_fl_RX6_13 ha (b := e0) (hA16.2.1 0 (by decide)).2.2.2.1 dX6_init_195 (fun _ h => h) ?_
                refine KIload C dX6_init_198 4 rfl ?_
                refine KIconst C dX6_init_200 ?_
                refine KIast (S := wI T16 (row1 (sI T16) e0 (fil k))) C 20 (hA16.2.1 0 (by decide)).2.1 (hA16.2.1 0 (by decide)).2.2.1 ⟨by omega, by omega⟩ (by omega) ⟨by omega, by omega⟩ dX6_init_201 ?_
                refine KSto (S2 := wI T16 (row1 (sI T16) e0 (fil (k + 1)))) (congrArg (wI T16) ((up2_row1 _ _ _ _ _).trans (congrArg _ (fil_step k)))) ?_
                refine KIinc (v := ((k + 1 : Nat) : Int)) (lv' := [(4, .int (iI ((k + 1 : Nat) : Int))), (0, .ref a), (1, .int (iI x)), (2, .int (iI y)), (3, .int (iI z9))]) C dX6_init_202 4 rfl (by omega) (by decide) rfl ?_
                refine KGoto (tgt := 187) C dX6_init_205 (by decide) ?_
                refine KLv (lv' := [(0, .ref a), (1, .int (iI x)), (2, .int (iI y)), (3, .int (iI z9)), (4, .int (iI ((k + 1 : Nat) : Int)))]) [1, 2, 3, 4, 0] rfl ?_
                exact ih187 (k + 1) (by omega) (by omega)
          exact loop187 _ 0 (Nat.lt_succ_self _) (by omega)
    · refine KIconst C dX6_init_140 ?_
      refine KGoto (tgt := 156) C dX6_init_141 (by decide) ?_
      refine KTop (congrArg iI (show 1 = wth y 20 from (by unfold wth maxI minI; split <;> split <;> omega))) ?_
      have hwby := wth_b (x := y) (m := 20) (by decide)
      refine KPutIF (S := T14) (ty := .int) (v := wth y 20) C ul_X6 rfl (by decide) 2 2 rfl (by decide) rfl u_fl_RX6_53 tyX6 tyX6_ok nmX6 ha ⟨by omega, by omega⟩ (by decide +kernel) rfl rfl rfl hin rfl dX6_init_156 (fun _ h => h) ?_
      have hAp14 := Arr.int ha0 hA14 2 (wth y 20)
      obtain ⟨T15, hT15⟩ : ∃ Tz, Tz = (uI T14 a 2 (wth y 20)) := ⟨_, rfl⟩
      obtain ⟨hA15, hF15⟩ : Arr S T15 a _ _ ∧ sI T15 a = upd1 (upd1 (upd1 (sI S a) 4 (6)) 1 (wth x 6)) 2 (wth y 20) := by rw [hT15]; exact ⟨hAp14.1, hAp14.2.trans (congrArg (fun F9 => upd1 F9 2 (wth y 20)) hF14)⟩
      have ha := hA15.1.1.at ha0
      refine KSto (S2 := T15) hT15.symm ?_
      refine KAload_n C dX6_init_159 rfl 0 rfl ?_
      refine KIload_n C dX6_init_160 rfl 3 rfl ?_
      refine KIconst C dX6_init_161 ?_
      refine KIcmp_ge (tgt := 169) C dX6_init_162 (by decide) ⟨by omega, by omega⟩ ⟨by omega, by omega⟩ (fun c162 => ?_) (fun c162 => ?_)
      · refine KIload_n C dX6_init_169 rfl 3 rfl ?_
        refine KBipush C dX6_init_170 (by decide) ?_
        refine KIcmp_le (tgt := 180) C dX6_init_172 (by decide) ⟨by omega, by omega⟩ ⟨by omega, by omega⟩ (fun c172 => ?_) (fun c172 => ?_)
        · refine KIload_n C dX6_init_180 rfl 3 rfl ?_
          refine KTop (congrArg iI (show z9 = wth z9 9 from (by unfold wth maxI minI; split <;> split <;> omega))) ?_
          have hwbz9 := wth_b (x := z9) (m := 9) (by decide)
          refine KPutIF (S := T15) (ty := .int) (v := wth z9 9) C ul_X6 rfl (by decide) 3 3 rfl (by decide) rfl u_fl_RX6_56 tyX6 tyX6_ok nmX6 ha ⟨by omega, by omega⟩ (by decide +kernel) rfl rfl rfl hin rfl dX6_init_181 (fun _ h => h) ?_
          have hAp15 := Arr.int ha0 hA15 3 (wth z9 9)
          obtain ⟨T16, hT16⟩ : ∃ Tz, Tz = (uI T15 a 3 (wth z9 9)) := ⟨_, rfl⟩
          obtain ⟨hA16, hF16⟩ : Arr S T16 a _ _ ∧ sI T16 a = upd1 (upd1 (upd1 (upd1 (sI S a) 4 (6)) 1 (wth x 6)) 2 (wth y 20)) 3 (wth z9 9) := by rw [hT16]; exact ⟨hAp15.1, hAp15.2.trans (congrArg (fun F9 => upd1 F9 3 (wth z9 9)) hF15)⟩
          have ha := hA16.1.1.at ha0
          refine KSto (S2 := T16) hT16.symm ?_
          refine KIconst C dX6_init_184 ?_
          refine KIstore (lv' := [(4, .int (iI 0)), (0, .ref a), (1, .int (iI x)), (2, .int (iI y)), (3, .int (iI z9))]) C dX6_init_185 (by decide) rfl ?_
          have hz0 : sI T16 e0 = fil 0 := by rw [fil_0]; exact funext (hA16.2.1 0 (by decide)).2.2.2.2
          refine KSto (S2 := wI T16 (row1 (sI T16) e0 (fil 0))) (by rw [← hz0, row1_self]) ?_
          refine KLv (lv' := [(0, .ref a), (1, .int (iI x)), (2, .int (iI y)), (3, .int (iI z9)), (4, .int (iI 0))]) [1, 2, 3, 4, 0] rfl ?_
          have loop187 : ∀ (nX : Nat) (k : Nat), 20 - k < nX → (k ≤ 20) → Wk pX l eX (rmK 2 12 5758) sX mX argsX belowX methX cX (MQ belowX (QcG g (P_X6_init S a x y z9)) argsX sX 12 5758 (ge (gB g))) g 5 12 5758 187 [(0, .ref a), (1, .int (iI x)), (2, .int (iI y)), (3, .int (iI z9)), (4, .int (iI (k : Int)))] [] (wI T16 (row1 (sI T16) e0 (fil k))) := by
            intro nX
            induction nX with
            | zero => intro k hm; exact absurd hm (Nat.not_lt_zero _)
            | succ nX ih187 =>
              intro k hm187 hk
              refine KRg (fun hR => ?_)
              refine KIload C dX6_init_187 4 rfl ?_
              refine KBipush C dX6_init_189 (by decide) ?_
              refine KIcmp_ge (tgt := 208) C dX6_init_191 (by decide) ⟨by omega, by omega⟩ ⟨by omega, by omega⟩ (fun c191 => ?_) (fun c191 => ?_)
              · refine KVret C rfl (by
                  refine ⟨rfl, fun j => if j = 11 then e11 else (fun j => if j = 10 then e10 else (fun j => if j = 9 then e9 else (fun j => if j = 8 then e8 else (fun j => if j = 7 then e7 else (fun j => if j = 6 then e6 else (fun j => if j = 5 then e5 else (fun j => if j = 4 then e4 else (fun j => if j = 3 then e3 else (fun j => if j = 2 then e2 else (fun j => if j = 1 then e1 else (fun j => if j = 0 then e0 else ((fun _ => 0)) j) j) j) j) j) j) j) j) j) j) j) j, ?_⟩
                  rw [show k = 20 by omega]
                  exact mo_of ha0 hA16 hz hzj hF16) (by decide) (by decide) dX6_init_208
              · refine KAload_n C dX6_init_194 rfl 0 rfl ?_
                refine KGetR (S := wI T16 (row1 (sI T16) e0 (fil k))) C ul_X6 rfl (by decide) 5 5 rfl (by decide) rfl u_fl_RX6_13 ha (b := e0) (hA16.2.1 0 (by decide)).2.2.2.1 dX6_init_195 (fun _ h => h) ?_
                refine KIload C dX6_init_198 4 rfl ?_
                refine KIconst C dX6_init_200 ?_
                refine KIast (S := wI T16 (row1 (sI T16) e0 (fil k))) C 20 (hA16.2.1 0 (by decide)).2.1 (hA16.2.1 0 (by decide)).2.2.1 ⟨by omega, by omega⟩ (by omega) ⟨by omega, by omega⟩ dX6_init_201 ?_
                refine KSto (S2 := wI T16 (row1 (sI T16) e0 (fil (k + 1)))) (congrArg (wI T16) ((up2_row1 _ _ _ _ _).trans (congrArg _ (fil_step k)))) ?_
                refine KIinc (v := ((k + 1 : Nat) : Int)) (lv' := [(4, .int (iI ((k + 1 : Nat) : Int))), (0, .ref a), (1, .int (iI x)), (2, .int (iI y)), (3, .int (iI z9))]) C dX6_init_202 4 rfl (by omega) (by decide) rfl ?_
                refine KGoto (tgt := 187) C dX6_init_205 (by decide) ?_
                refine KLv (lv' := [(0, .ref a), (1, .int (iI x)), (2, .int (iI y)), (3, .int (iI z9)), (4, .int (iI ((k + 1 : Nat) : Int)))]) [1, 2, 3, 4, 0] rfl ?_
                exact ih187 (k + 1) (by omega) (by omega)
          exact loop187 _ 0 (Nat.lt_succ_self _) (by omega)
        · refine KBipush C dX6_init_175 (by decide) ?_
          refine KGoto (tgt := 181) C dX6_init_177 (by decide) ?_
          refine KTop (congrArg iI (show 9 = wth z9 9 from (by unfold wth maxI minI; split <;> split <;> omega))) ?_
          have hwbz9 := wth_b (x := z9) (m := 9) (by decide)
          refine KPutIF (S := T15) (ty := .int) (v := wth z9 9) C ul_X6 rfl (by decide) 3 3 rfl (by decide) rfl u_fl_RX6_56 tyX6 tyX6_ok nmX6 ha ⟨by omega, by omega⟩ (by decide +kernel) rfl rfl rfl hin rfl dX6_init_181 (fun _ h => h) ?_
          have hAp15 := Arr.int ha0 hA15 3 (wth z9 9)
          obtain ⟨T16, hT16⟩ : ∃ Tz, Tz = (uI T15 a 3 (wth z9 9)) := ⟨_, rfl⟩
          obtain ⟨hA16, hF16⟩ : Arr S T16 a _ _ ∧ sI T16 a = upd1 (upd1 (upd1 (upd1 (sI S a) 4 (6)) 1 (wth x 6)) 2 (wth y 20)) 3 (wth z9 9) := by rw [hT16]; exact ⟨hAp15.1, hAp15.2.trans (congrArg (fun F9 => upd1 F9 3 (wth z9 9)) hF15)⟩
          have ha := hA16.1.1.at ha0
          refine KSto (S2 := T16) hT16.symm ?_
          refine KIconst C dX6_init_184 ?_
          refine KIstore (lv' := [(4, .int (iI 0)), (0, .ref a), (1, .int (iI x)), (2, .int (iI y)), (3, .int (iI z9))]) C dX6_init_185 (by decide) rfl ?_
          have hz0 : sI T16 e0 = fil 0 := by rw [fil_0]; exact funext (hA16.2.1 0 (by decide)).2.2.2.2
          refine KSto (S2 := wI T16 (row1 (sI T16) e0 (fil 0))) (by rw [← hz0, row1_self]) ?_
          refine KLv (lv' := [(0, .ref a), (1, .int (iI x)), (2, .int (iI y)), (3, .int (iI z9)), (4, .int (iI 0))]) [1, 2, 3, 4, 0] rfl ?_
          have loop187 : ∀ (nX : Nat) (k : Nat), 20 - k < nX → (k ≤ 20) → Wk pX l eX (rmK 2 12 5758) sX mX argsX belowX methX cX (MQ belowX (QcG g (P_X6_init S a x y z9)) argsX sX 12 5758 (ge (gB g))) g 5 12 5758 187 [(0, .ref a), (1, .int (iI x)), (2, .int (iI y)), (3, .int (iI z9)), (4, .int (iI (k : Int)))] [] (wI T16 (row1 (sI T16) e0 (fil k))) := by
            intro nX
            induction nX with
            | zero => intro k hm; exact absurd hm (Nat.not_lt_zero _)
            | succ nX ih187 =>
              intro k hm187 hk
              refine KRg (fun hR => ?_)
              refine KIload C dX6_init_187 4 rfl ?_
              refine KBipush C dX6_init_189 (by decide) ?_
              refine KIcmp_ge (tgt := 208) C dX6_init_191 (by decide) ⟨by omega, by omega⟩ ⟨by omega, by omega⟩ (fun c191 => ?_) (fun c191 => ?_)
              · refine KVret C rfl (by
                  refine ⟨rfl, fun j => if j = 11 then e11 else (fun j => if j = 10 then e10 else (fun j => if j = 9 then e9 else (fun j => if j = 8 then e8 else (fun j => if j = 7 then e7 else (fun j => if j = 6 then e6 else (fun j => if j = 5 then e5 else (fun j => if j = 4 then e4 else (fun j => if j = 3 then e3 else (fun j => if j = 2 then e2 else (fun j => if j = 1 then e1 else (fun j => if j = 0 then e0 else ((fun _ => 0)) j) j) j) j) j) j) j) j) j) j) j) j, ?_⟩
                  rw [show k = 20 by omega]
                  exact mo_of ha0 hA16 hz hzj hF16) (by decide) (by decide) dX6_init_208
              · refine KAload_n C dX6_init_194 rfl 0 rfl ?_
                refine KGetR (S := wI T16 (row1 (sI T16) e0 (fil k))) C ul_X6 rfl (by decide) 5 5 rfl (by decide) rfl u_fl_RX6_13 ha (b := e0) (hA16.2.1 0 (by decide)).2.2.2.1 dX6_init_195 (fun _ h => h) ?_
                refine KIload C dX6_init_198 4 rfl ?_
                refine KIconst C dX6_init_200 ?_
                refine KIast (S := wI T16 (row1 (sI T16) e0 (fil k))) C 20 (hA16.2.1 0 (by decide)).2.1 (hA16.2.1 0 (by decide)).2.2.1 ⟨by omega, by omega⟩ (by omega) ⟨by omega, by omega⟩ dX6_init_201 ?_
                refine KSto (S2 := wI T16 (row1 (sI T16) e0 (fil (k + 1)))) (congrArg (wI T16) ((up2_row1 _ _ _ _ _).trans (congrArg _ (fil_step k)))) ?_
                refine KIinc (v := ((k + 1 : Nat) : Int)) (lv' := [(4, .int (iI ((k + 1 : Nat) : Int))), (0, .ref a), (1, .int (iI x)), (2, .int (iI y)), (3, .int (iI z9))]) C dX6_init_202 4 rfl (by omega) (by decide) rfl ?_
                refine KGoto (tgt := 187) C dX6_init_205 (by decide) ?_
                refine KLv (lv' := [(0, .ref a), (1, .int (iI x)), (2, .int (iI y)), (3, .int (iI z9)), (4, .int (iI ((k + 1 : Nat) : Int)))]) [1, 2, 3, 4, 0] rfl ?_
                exact ih187 (k + 1) (by omega) (by omega)
          exact loop187 _ 0 (Nat.lt_succ_self _) (by omega)
      · refine KIconst C dX6_init_165 ?_
        refine KGoto (tgt := 181) C dX6_init_166 (by decide) ?_
        refine KTop (congrArg iI (show 1 = wth z9 9 from (by unfold wth maxI minI; split <;> split <;> omega))) ?_
        have hwbz9 := wth_b (x := z9) (m := 9) (by decide)
        refine KPutIF (S := T15) (ty := .int) (v := wth z9 9) C ul_X6 rfl (by decide) 3 3 rfl (by decide) rfl u_fl_RX6_56 tyX6 tyX6_ok nmX6 ha ⟨by omega, by omega⟩ (by decide +kernel) rfl rfl rfl hin rfl dX6_init_181 (fun _ h => h) ?_
        have hAp15 := Arr.int ha0 hA15 3 (wth z9 9)
        obtain ⟨T16, hT16⟩ : ∃ Tz, Tz = (uI T15 a 3 (wth z9 9)) := ⟨_, rfl⟩
        obtain ⟨hA16, hF16⟩ : Arr S T16 a _ _ ∧ sI T16 a = upd1 (upd1 (upd1 (upd1 (sI S a) 4 (6)) 1 (wth x 6)) 2 (wth y 20)) 3 (wth z9 9) := by rw [hT16]; exact ⟨hAp15.1, hAp15.2.trans (congrArg (fun F9 => upd1 F9 3 (wth z9 9)) hF15)⟩
        have ha := hA16.1.1.at ha0
        refine KSto (S2 := T16) hT16.symm ?_
        refine KIconst C dX6_init_184 ?_
        refine KIstore (lv' := [(4, .int (iI 0)), (0, .ref a), (1, .int (iI x)), (2, .int (iI y)), (3, .int (iI z9))]) C dX6_init_185 (by decide) rfl ?_
        have hz0 : sI T16 e0 = fil 0 := by rw [fil_0]; exact funext (hA16.2.1 0 (by decide)).2.2.2.2
        refine KSto (S2 := wI T16 (row1 (sI T16) e0 (fil 0))) (by rw [← hz0, row1_self]) ?_
        refine KLv (lv' := [(0, .ref a), (1, .int (iI x)), (2, .int (iI y)), (3, .int (iI z9)), (4, .int (iI 0))]) [1, 2, 3, 4, 0] rfl ?_
        have loop187 : ∀ (nX : Nat) (k : Nat), 20 - k < nX → (k ≤ 20) → Wk pX l eX (rmK 2 12 5758) sX mX argsX belowX methX cX (MQ belowX (QcG g (P_X6_init S a x y z9)) argsX sX 12 5758 (ge (gB g))) g 5 12 5758 187 [(0, .ref a), (1, .int (iI x)), (2, .int (iI y)), (3, .int (iI z9)), (4, .int (iI (k : Int)))] [] (wI T16 (row1 (sI T16) e0 (fil k))) := by
          intro nX
          induction nX with
          | zero => intro k hm; exact absurd hm (Nat.not_lt_zero _)
          | succ nX ih187 =>
            intro k hm187 hk
            refine KRg (fun hR => ?_)
            refine KIload C dX6_init_187 4 rfl ?_
            refine KBipush C dX6_init_189 (by decide) ?_
            refine KIcmp_ge (tgt := 208) C dX6_init_191 (by decide) ⟨by omega, by omega⟩ ⟨by omega, by omega⟩ (fun c191 => ?_) (fun c191 => ?_)
            · refine KVret C rfl (by
                refine ⟨rfl, fun j => if j = 11 then e11 else (fun j => if j = 10 then e10 else (fun j => if j = 9 then e9 else (fun j => if j = 8 then e8 else (fun j => if j = 7 then e7 else (fun j => if j = 6 then e6 else (fun j => if j = 5 then e5 else (fun j => if j = 4 then e4 else (fun j => if j = 3 then e3 else (fun j => if j = 2 then e2 else (fun j => if j = 1 then e1 else (fun j => if j = 0 then e0 else ((fun _ => 0)) j) j) j) j) j) j) j) j) j) j) j) j, ?_⟩
                rw [show k = 20 by omega]
                exact mo_of ha0 hA16 hz hzj hF16) (by decide) (by decide) dX6_init_208
            · refine KAload_n C dX6_init_194 rfl 0 rfl ?_
              refine KGetR (S := wI T16 (row1 (sI T16) e0 (fil k))) C ul_X6 rfl (by decide) 5 5 rfl (by decide) rfl u_fl_RX6_13 ha (b := e0) (hA16.2.1 0 (by decide)).2.2.2.1 dX6_init_195 (fun _ h => h) ?_
              refine KIload C dX6_init_198 4 rfl ?_
              refine KIconst C dX6_init_200 ?_
              refine KIast (S := wI T16 (row1 (sI T16) e0 (fil k))) C 20 (hA16.2.1 0 (by decide)).2.1 (hA16.2.1 0 (by decide)).2.2.1 ⟨by omega, by omega⟩ (by omega) ⟨by omega, by omega⟩ dX6_init_201 ?_
              refine KSto (S2 := wI T16 (row1 (sI T16) e0 (fil (k + 1)))) (congrArg (wI T16) ((up2_row1 _ _ _ _ _).trans (congrArg _ (fil_step k)))) ?_
              refine KIinc (v := ((k + 1 : Nat) : Int)) (lv' := [(4, .int (iI ((k + 1 : Nat) : Int))), (0, .ref a), (1, .int (iI x)), (2, .int (iI y)), (3, .int (iI z9))]) C dX6_init_202 4 rfl (by omega) (by decide) rfl ?_
              refine KGoto (tgt := 187) C dX6_init_205 (by decide) ?_
              refine KLv (lv' := [(0, .ref a), (1, .int (iI x)), (2, .int (iI y)), (3, .int (iI z9)), (4, .int (iI ((k + 1 : Nat) : Int)))]) [1, 2, 3, 4, 0] rfl ?_
              exact ih187 (k + 1) (by omega) (by omega)
        exact loop187 _ 0 (Nat.lt_succ_self _) (by omega)
def P_X5_init (S : Sto) (a : Nat) (x : Int) (y : Int) (z9 : Int) (tt : Nat) : Option Value → Sto → Prop := fun v u => v = none ∧ MC S u tt a (wth x 6) (wth y 20) (wth z9 9)
set_option maxRecDepth 100000 in
set_option maxHeartbeats 4000000 in
theorem ct_X5_init (l : Launch) (g : GG) (S : Sto) (a : Nat) (x : Int) (y : Int) (z9 : Int) (ha : At0 S a 6) (hz : ∀ k, sI S a k = 0) (hx : inR x ∧ inR y ∧ inR z9) (tt : Nat) (htt : tt = gT g) : MetS l g yX5_init cX5_init 4 (none) 6 63 6468 [.ref a, .int (iI x), .int (iI y), .int (iI z9)] S (P_X5_init S a x y z9 tt) := by
  refine MetS.of (own := RX5) (lv := [(0, .ref a), (1, .int (iI x)), (2, .int (iI y)), (3, .int (iI z9))]) (by decide) rfl (Nat.le_of_ble_eq_true rfl) rfl ?_
  intro pX eX sX mX argsX belowX methX cX C hin
  refine KRg (fun hR => ?_)
  obtain ⟨⟨hx1, hx2⟩, ⟨hy1, hy2⟩, hv1, hv2⟩ := hx
  refine KAload_n C dX5_init_0 rfl 0 rfl ?_
  refine KObjInit C u_ml_RX5_1 dX5_init_1 ⟨Nat.le_of_ble_eq_true rfl, Nat.le_of_ble_eq_true rfl⟩ ?_
  refine KAload_n C dX5_init_4 rfl 0 rfl ?_
  refine KNew C ul_X3 rfl (by decide) tyX3 tyX3_ok u_cl_RX5_7 u_is_RX3 u_in_RX3 nf_X3 ⟨by show _ + 1 ≤ 63; omega, by show _ + 7 ≤ 6468; omega⟩ dX5_init_5 (fun a5 ha5 => ?_)
  have ha0 := ha
  have hx1 := Ext.nw ha5 4 0
  have hE1 := hx1.exA a
  have ha : At0 (nw S a5 4 0) a 6 := hE1.1.at ha0
  have hFr1 := Frs.nw ha5 4 0
  have hI1 : sI (nw S a5 4 0) a = sI S a := (hx1 a ha0.1).2.2.2.1
  have hw1 := wth_b (x := x) (m := 6) (by decide)
  have hw2 := wth_b (x := y) (m := 20) (by decide)
  have hw3 := wth_b (x := z9) (m := 9) (by decide)
  refine KDup C dX5_init_8 rfl ?_
  refine KIload_n C dX5_init_9 rfl 1 rfl ?_
  refine KBipush C dX5_init_10 (by decide) ?_
  refine KCallS (As := [.int (iI x), .int (iI 6)]) (st := [.ref a5, .ref a5, .ref a]) C (ct_X5_within l g (nw S a5 4 0) x 6 (⟨⟨by omega, by omega⟩, ⟨by omega, by omega⟩⟩)) u_ml_RX5_11 u_st_yX5_within u_in_RX5 u_co_yX5_within hd_yX5_within ⟨Nat.le_of_ble_eq_true rfl, Nat.le_of_ble_eq_true rfl⟩ ⟨Nat.le_of_ble_eq_true rfl, Nat.le_of_ble_eq_true rfl⟩ (Nat.le_of_ble_eq_true rfl) dX5_init_12 rfl (fun v12 u12 hp12 => ?_)
  obtain ⟨rfl, rfl⟩ := hp12
  refine KSt (st2 := [.int (iI (maxI 1 (minI x 6))), .ref a5, .ref a5, .ref a]) rfl ?_
  refine KRg (fun hR => ?_)
  refine KTop (congrArg iI (show maxI 1 (minI x 6) = wth x 6 from rfl)) ?_
  refine KIload_n C dX5_init_15 rfl 2 rfl ?_
  refine KBipush C dX5_init_16 (by decide) ?_
  refine KCallS (As := [.int (iI y), .int (iI 20)]) (st := [.int (iI (wth x 6)), .ref a5, .ref a5, .ref a]) C (ct_X5_within l g (nw S a5 4 0) y 20 (⟨⟨by omega, by omega⟩, ⟨by omega, by omega⟩⟩)) u_ml_RX5_11 u_st_yX5_within u_in_RX5 u_co_yX5_within hd_yX5_within ⟨Nat.le_of_ble_eq_true rfl, Nat.le_of_ble_eq_true rfl⟩ ⟨Nat.le_of_ble_eq_true rfl, Nat.le_of_ble_eq_true rfl⟩ (Nat.le_of_ble_eq_true rfl) dX5_init_18 rfl (fun v18 u18 hp18 => ?_)
  obtain ⟨rfl, rfl⟩ := hp18
  refine KSt (st2 := [.int (iI (maxI 1 (minI y 20))), .int (iI (wth x 6)), .ref a5, .ref a5, .ref a]) rfl ?_
  refine KRg (fun hR => ?_)
  refine KTop (congrArg iI (show maxI 1 (minI y 20) = wth y 20 from rfl)) ?_
  refine KIload_n C dX5_init_21 rfl 3 rfl ?_
  refine KBipush C dX5_init_22 (by decide) ?_
  refine KCallS (As := [.int (iI z9), .int (iI 9)]) (st := [.int (iI (wth y 20)), .int (iI (wth x 6)), .ref a5, .ref a5, .ref a]) C (ct_X5_within l g (nw S a5 4 0) z9 9 (⟨⟨by omega, by omega⟩, ⟨by omega, by omega⟩⟩)) u_ml_RX5_11 u_st_yX5_within u_in_RX5 u_co_yX5_within hd_yX5_within ⟨Nat.le_of_ble_eq_true rfl, Nat.le_of_ble_eq_true rfl⟩ ⟨Nat.le_of_ble_eq_true rfl, Nat.le_of_ble_eq_true rfl⟩ (Nat.le_of_ble_eq_true rfl) dX5_init_24 rfl (fun v24 u24 hp24 => ?_)
  obtain ⟨rfl, rfl⟩ := hp24
  refine KSt (st2 := [.int (iI (maxI 1 (minI z9 9))), .int (iI (wth y 20)), .int (iI (wth x 6)), .ref a5, .ref a5, .ref a]) rfl ?_
  refine KRg (fun hR => ?_)
  refine KTop (congrArg iI (show maxI 1 (minI z9 9) = wth z9 9 from rfl)) ?_
  refine KCallI (As := [.int (iI (wth x 6)), .int (iI (wth y 20)), .int (iI (wth z9 9))]) (b := a5) (st := [.ref a5, .ref a]) C (ct_X3_init l g (nw S a5 4 0) a5 (wth x 6) (wth y 20) (wth z9 9) (nw_at (kd := 4) (n := 0)) (⟨⟨by omega, by omega⟩, ⟨by omega, by omega⟩, ⟨by omega, by omega⟩⟩)) u_ml_RX5_15 u_im_yX3_init u_in_RX3 u_co_yX3_init rfl hd_yX3_init.2 ⟨Nat.le_of_ble_eq_true rfl, Nat.le_of_ble_eq_true rfl⟩ ⟨Nat.le_of_ble_eq_true rfl, Nat.le_of_ble_eq_true rfl⟩ (Nat.le_of_ble_eq_true rfl) dX5_init_27 rfl (fun v27 u27 hp27 => ?_)
  obtain ⟨rfl, e27, hWH27, hEx27, hFr27⟩ := hp27
  refine KSt (st2 := [.ref a5, .ref a]) rfl ?_
  refine KRg (fun hR => ?_)
  have hE2 := hE1.new ha5 hEx27
  have hFr2 := hFr1.app hE1.1 hEx27.1 hFr27
  have hI2 : sI u27 a = sI S a := (hEx27.k (nw_at (kd := 4) (n := 0)) ha (by decide)).1.trans hI1
  have ha := hE2.1.at ha0
  refine KPutRF (S := u27) (ty := (.object "Aislewright$Warehouse")) C ul_X5 rfl (by decide) 0 0 rfl (by decide) rfl u_fl_RX5_18 tyX5 tyX5_ok nmX5 ha (by decide +kernel) rfl rfl rfl hin rfl dX5_init_30 (fun _ h => h) ?_
  obtain ⟨T3, hT3⟩ : ∃ Tz, Tz = (uP u27 a 0 (some a5)) := ⟨_, rfl⟩
  have hE23 : ExA u27 T3 a := by rw [hT3]; exact exA_uP _ _ _ _
  have hE3 := hE2.trans hE23
  have hFr3 := hFr2.mono hE23.1
  have hI3 : sI T3 a = sI S a := by rw [hT3]; exact hI2
  have hW3 := hWH27.fr hE23 ha (by decide) (by decide)
  have hp0 : sP T3 a 0 = some a5 := by rw [hT3]; exact up2_same _ _ _ _
  have ha := hE3.1.at ha0
  refine KSto (S2 := T3) hT3.symm ?_
  refine KAload_n C dX5_init_33 rfl 0 rfl ?_
  refine KNew C ul_X2 rfl (by decide) tyX2 tyX2_ok u_cl_RX5_22 u_is_RX2 u_in_RX2 nf_X2 ⟨by show _ + 1 ≤ 63; omega, by show _ + 5 ≤ 6468; omega⟩ dX5_init_34 (fun a34 ha34 => ?_)
  have hx4 := Ext.nw ha34 3 0
  have hE34 := hx4.exA a
  have hE4 := hE3.trans hE34
  have hn34 : a34 ∉ sL S := fun h9 => ha34 (hE3.1 _ h9).1
  have hFr4 := hFr3.app hE3.1 hE34.1 (Frs.nw ha34 3 0)
  have hI4 : sI (nw T3 a34 3 0) a = sI S a := (hx4 a ha.1).2.2.2.1.trans hI3
  have hW4 := hW3.fr hE34 ha (by decide) (by decide)
  have hp4 : sP (nw T3 a34 3 0) a 0 = some a5 := (congrFun (hx4 a ha.1).2.2.2.2.1 0).trans hp0
  have ha3 := ha
  have ha : At0 (nw T3 a34 3 0) a 6 := hE34.1.at ha3
  refine KDup C dX5_init_37 rfl ?_
  refine KAload_n C dX5_init_38 rfl 0 rfl ?_
  refine KGetR (S := nw T3 a34 3 0) C ul_X5 rfl (by decide) 0 0 rfl (by decide) rfl u_fl_RX5_18 ha (b := a5) hp4 dX5_init_39 (fun _ h => h) ?_
  refine KCallI (As := [.ref a5]) (b := a34) (st := [.ref a34, .ref a]) C (ct_X2_init l g (nw T3 a34 3 0) a34 a5 (nw_at (kd := 3) (n := 0))) u_ml_RX5_24 u_im_yX2_init u_in_RX2 u_co_yX2_init rfl hd_yX2_init.2 ⟨Nat.le_of_ble_eq_true rfl, Nat.le_of_ble_eq_true rfl⟩ ⟨Nat.le_of_ble_eq_true rfl, Nat.le_of_ble_eq_true rfl⟩ (Nat.le_of_ble_eq_true rfl) dX5_init_42 rfl (fun v42 u42 hp42 => ?_)
  obtain ⟨rfl, p42, wy42, o42, r42, hRO42, hEx42, hFr42⟩ := hp42
  refine KSt (st2 := [.ref a34, .ref a]) rfl ?_
  refine KRg (fun hR => ?_)
  have hk42 := hEx42.k (nw_at (kd := 3) (n := 0)) ha (by decide)
  have hE5 := hE4.new hn34 hEx42
  have hFr5 := hFr4.app hE4.1 hEx42.1 hFr42
  have hI5 : sI u42 a = sI S a := hk42.1.trans hI4
  have hW5 := hW4.fr hEx42 (nw_at (kd := 3) (n := 0)) (by decide) (by decide)
  have hp5 : sP u42 a 0 = some a5 := (congrFun hk42.2.1 0).trans hp4
  have ha := hE5.1.at ha0
  refine KPutRF (S := u42) (ty := (.object "Aislewright$Router")) C ul_X5 rfl (by decide) 1 1 rfl (by decide) rfl u_fl_RX5_27 tyX5 tyX5_ok nmX5 ha (by decide +kernel) rfl rfl rfl hin rfl dX5_init_45 (fun _ h => h) ?_
  obtain ⟨T6, hT6⟩ : ∃ Tz, Tz = (uP u42 a 1 (some a34)) := ⟨_, rfl⟩
  have hE56 : ExA u42 T6 a := by rw [hT6]; exact exA_uP _ _ _ _
  have hE6 := hE5.trans hE56
  have hFr6 := hFr5.mono hE56.1
  have hI6 : sI T6 a = sI S a := by rw [hT6]; exact hI5
  have hW6 := hW5.fr hE56 ha (by decide) (by decide)
  have hR6 := hRO42.fr hE56 ha (by decide) (by decide) (by decide)
  have hp6 : sP T6 a 0 = some a5 ∧ sP T6 a 1 = some a34 := by rw [hT6]; exact ⟨(up2_nk _ _ _ _ (by decide)).trans hp5, up2_same _ _ _ _⟩
  have ha := hE6.1.at ha0
  refine KSto (S2 := T6) hT6.symm ?_
  refine KAload_n C dX5_init_48 rfl 0 rfl ?_
  refine KNew C ul_X4 rfl (by decide) tyX4 tyX4_ok u_cl_RX5_31 u_is_RX4 u_in_RX4 nf_X4 ⟨by show _ + 1 ≤ 63; omega, by show _ + 3 ≤ 6468; omega⟩ dX5_init_49 (fun a49 ha49 => ?_)
  have hx7 := Ext.nw ha49 5 0
  have hE67 := hx7.exA a
  have hE7 := hE6.trans hE67
  have hn49 : a49 ∉ sL S := fun h9 => ha49 (hE6.1 _ h9).1
  have hFr7 := hFr6.app hE6.1 hE67.1 (Frs.nw ha49 5 0)
  have hI7 : sI (nw T6 a49 5 0) a = sI S a := (hx7 a ha.1).2.2.2.1.trans hI6
  have hW7 := hW6.fr hE67 ha (by decide) (by decide)
  have hR7 := hR6.fr hE67 ha (by decide) (by decide) (by decide)
  have hp7 : sP (nw T6 a49 5 0) a = sP T6 a := (hx7 a ha.1).2.2.2.2.1
  have ha6 := ha
  have ha : At0 (nw T6 a49 5 0) a 6 := hE67.1.at ha6
  refine KDup C dX5_init_52 rfl ?_
  refine KAload_n C dX5_init_53 rfl 0 rfl ?_
  refine KGetR (S := nw T6 a49 5 0) C ul_X5 rfl (by decide) 1 1 rfl (by decide) rfl u_fl_RX5_27 ha (b := a34) ((congrFun hp7 1).trans hp6.2) dX5_init_54 (fun _ h => h) ?_
  refine KCallI (As := [.ref a34]) (b := a49) (st := [.ref a49, .ref a]) C (ct_X4_init l g (nw T6 a49 5 0) a49 a34 (nw_at (kd := 5) (n := 0)) (gT g) rfl) u_ml_RX5_33 u_im_yX4_init u_in_RX4 u_co_yX4_init rfl hd_yX4_init.2 ⟨Nat.le_of_ble_eq_true rfl, Nat.le_of_ble_eq_true rfl⟩ ⟨Nat.le_of_ble_eq_true rfl, Nat.le_of_ble_eq_true rfl⟩ (Nat.le_of_ble_eq_true rfl) dX5_init_57 rfl (fun v57 u57 hp57 => ?_)
  obtain ⟨rfl, lb57, sv57, s57, hWV57, hEx57, hFr57⟩ := hp57
  refine KSt (st2 := [.ref a49, .ref a]) rfl ?_
  refine KRg (fun hR => ?_)
  have hk57 := hEx57.k (nw_at (kd := 5) (n := 0)) ha (by decide)
  have hE8 := hE7.new hn49 hEx57
  have hFr8 := hFr7.app hE7.1 hEx57.1 hFr57
  have hI8 : sI u57 a = sI S a := hk57.1.trans hI7
  have hW8 := hW7.fr hEx57 (nw_at (kd := 5) (n := 0)) (by decide) (by decide)
  have hR8 := hR7.fr hEx57 (nw_at (kd := 5) (n := 0)) (by decide) (by decide) (by decide)
  have hp8 : sP u57 a = sP T6 a := hk57.2.1.trans hp7
  have ha := hE8.1.at ha0
  refine KPutRF (S := u57) (ty := (.object "Aislewright$Wave")) C ul_X5 rfl (by decide) 2 2 rfl (by decide) rfl u_fl_RX5_36 tyX5 tyX5_ok nmX5 ha (by decide +kernel) rfl rfl rfl hin rfl dX5_init_60 (fun _ h => h) ?_
  obtain ⟨T9, hT9⟩ : ∃ Tz, Tz = (uP u57 a 2 (some a49)) := ⟨_, rfl⟩
  have hE89 : ExA u57 T9 a := by rw [hT9]; exact exA_uP _ _ _ _
  have hE9 := hE8.trans hE89
  have hFr9 := hFr8.mono hE89.1
  have hI9 : sI T9 a = sI S a := by rw [hT9]; exact hI8
  have hW9 := hW8.fr hE89 ha (by decide) (by decide)
  have hR9 := hR8.fr hE89 ha (by decide) (by decide) (by decide)
  have hV9 := hWV57.fr hE89 ha (by decide) (by decide) (by decide) (by decide)
  have hp9 : sP T9 a 0 = some a5 ∧ sP T9 a 1 = some a34 ∧ sP T9 a 2 = some a49 := by rw [hT9]; exact ⟨(up2_nk _ _ _ _ (by decide)).trans ((congrFun hp8 0).trans hp6.1), (up2_nk _ _ _ _ (by decide)).trans ((congrFun hp8 1).trans hp6.2), up2_same _ _ _ _⟩
  have ha := hE9.1.at ha0
  refine KSto (S2 := T9) hT9.symm ?_
  refine KAload_n C dX5_init_63 rfl 0 rfl ?_
  refine KNew C ul_Jx4a65c rfl (by decide) tyJx4a65c tyJx4a65c_ok u_cl_RX5_40 u_is_RJx4a65c u_in_RJx4a65c nf_Jx4a65c ⟨by show _ + 1 ≤ 63; omega, by show _ + 3 ≤ 6468; omega⟩ dX5_init_64 (fun a64 ha64 => ?_)
  have hx10 := Ext.nw ha64 0 0
  have hE910 := hx10.exA a
  have hn64 : a64 ∉ sL S := fun h9 => ha64 (hE9.1 _ h9).1
  have ha9 := ha
  have ha : At0 (nw T9 a64 0 0) a 6 := hE910.1.at ha9
  have hla : a ≠ a64 := fun e9 => ha64 (e9 ▸ ha9.1)
  refine KDup C dX5_init_67 rfl ?_
  refine KCallI (As := []) (b := a64) (st := [.ref a64, .ref a]) C (ct_Jx4a65c_init_da8c8 l g (nw T9 a64 0 0) a64 (nw_at (kd := 0) (n := 0)) (gT g) rfl) u_ml_RX5_42 u_im_yJx4a65c_init_da8c8 u_in_RJx4a65c u_co_yJx4a65c_init_da8c8 rfl hd_yJx4a65c_init_da8c8.2 ⟨Nat.le_of_ble_eq_true rfl, Nat.le_of_ble_eq_true rfl⟩ ⟨Nat.le_of_ble_eq_true rfl, Nat.le_of_ble_eq_true rfl⟩ (Nat.le_of_ble_eq_true rfl) dX5_init_68 rfl (fun v68 u68 hp68 => ?_)
  obtain ⟨rfl, rfl⟩ := hp68
  refine KSt (st2 := [.ref a64, .ref a]) rfl ?_
  refine KRg (fun hR => ?_)
  refine KPutRF (S := uP (uI (nw T9 a64 0 0) a64 0 0) a64 1 (some (gT g))) (ty := (.object "java/util/ArrayList")) C ul_X5 rfl (by decide) 3 3 rfl (by decide) rfl u_fl_RX5_43 tyX5 tyX5_ok nmX5 ha (by decide +kernel) rfl rfl rfl hin rfl dX5_init_71 (fun _ h => h) ?_
  refine KAload_n C dX5_init_74 rfl 0 rfl ?_
  refine KBipush C dX5_init_75 (by decide) ?_
  refine KPutI (S := uP (uP (uI (nw T9 a64 0 0) a64 0 0) a64 1 (some (gT g))) a 3 (some a64)) (ty := .int) (v := 6) C ul_X5 rfl (by decide) 4 4 rfl (by decide) rfl u_fl_RX5_47 tyX5 tyX5_ok nmX5 ha ⟨by omega, by omega⟩ (by decide +kernel) rfl rfl rfl dX5_init_77 (fun _ h => h) ?_
  obtain ⟨T12, hT12⟩ : ∃ Tz, Tz = (uI (uP (uP (uI (nw T9 a64 0 0) a64 0 0) a64 1 (some (gT g))) a 3 (some a64)) a 4 6) := ⟨_, rfl⟩
  have hE11 : ExA T9 T12 a := by rw [hT12]; exact ((((hE910).new ha64 ((exA_uI _ _ _ _).trans (exA_uP _ _ _ _))).trans (exA_uP _ _ _ _)).trans (exA_uI _ _ _ _))
  have hE12 := hE9.trans hE11
  have hFr12 := hFr9.app hE9.1 hE11.1 (show Frs T9 T12 [a64] by rw [hT12]; exact (Frs.nw ha64 0 0).mono (Gro.same rfl rfl rfl))
  have hW12 := hW9.fr hE11 ha9 (by decide) (by decide)
  have hR12 := hR9.fr hE11 ha9 (by decide) (by decide) (by decide)
  have hV12 := hV9.fr hE11 ha9 (by decide) (by decide) (by decide) (by decide)
  have hL12 : LSn T12 (gT g) a64 := by rw [hT12]; exact ⟨nw_at (S := T9) (a := a64) (kd := 0) (n := 0), (up2_ne _ _ _ _ hla.symm).trans (up2_same _ _ _ _), (up2_ne _ _ _ _ hla.symm).trans ((up2_nk _ _ _ _ (by decide)).trans (nw_I (S := T9) (a := a64) (kd := 0) (n := 0) 2))⟩
  have hpk : ∀ k : Int, k ≠ 3 → sP T12 a k = sP T9 a k := fun k h3 => by rw [hT12]; exact (up2_nk _ _ _ _ h3).trans ((up2_ne _ _ _ _ hla).trans (congrFun (nw_Pne (S := T9) (a := a64) (kd := 0) (n := 0) hla) k))
  have hp3 : sP T12 a 3 = some a64 := by rw [hT12]; exact up2_same _ _ _ _
  have hik : ∀ k : Int, k ≠ 4 → sI T12 a k = 0 := fun k h4 => by rw [hT12]; exact (up2_nk _ _ _ _ h4).trans ((up2_ne _ _ _ _ hla).trans ((congrFun (nw_Ine (S := T9) (a := a64) (kd := 0) (n := 0) hla) k).trans ((congrFun hI9 k).trans (hz k))))
  have hi4 : sI T12 a 4 = 6 := by rw [hT12]; exact up2_same _ _ _ _
  refine KSto (S2 := T12) hT12.symm ?_
  refine KVret C rfl (by
    refine ⟨rfl, ?_⟩
    rw [htt]
    exact ⟨a5, e27, a34, p42, wy42, o42, r42, a49, lb57, sv57, s57, a64, hW12, hR12, hV12, hL12, ⟨(hpk 0 (by decide)).trans hp9.1, (hpk 1 (by decide)).trans hp9.2.1, (hpk 2 (by decide)).trans hp9.2.2, hp3⟩, ⟨hi4, hik 5 (by decide), hik 6 (by decide)⟩, hE12, hFr12⟩) (by decide) (by decide) dX5_init_80
