theorem ro_of {S : Sto} {a b p wy o : Nat} {r : Nat → Nat} (ha : At0 S a 3) (hp : p ∉ sL S) (hwy : wy ∉ sL (uP (nw S p 20 9) a 1 (some p))) (hr : ∀ i, i < 10 → r i ∉ sL (uP (nw S p 20 9) a 1 (some p))) (hri : ∀ i j, i < 10 → j < 10 → r i = r j → i = j) (hrw : ∀ i, i < 10 → r i ≠ wy) (ho : o ∉ sL (uP (mna (uP (nw S p 20 9) a 1 (some p)) wy 10 r 10) a 3 (some wy))) :
    RO (uP (uP (nw (uP (mna (uP (nw S p 20 9) a 1 (some p)) wy 10 r 10) a 3 (some wy)) o 20 4608) a 4 (some o)) a 0 (some b)) a b p wy o r ∧ ExA S (uP (uP (nw (uP (mna (uP (nw S p 20 9) a 1 (some p)) wy 10 r 10) a 3 (some wy)) o 20 4608) a 4 (some o)) a 0 (some b)) a ∧ Frs S (uP (uP (nw (uP (mna (uP (nw S p 20 9) a 1 (some p)) wy 10 r 10) a 3 (some wy)) o 20 4608) a 4 (some o)) a 0 (some b)) ([p] ++ (wy :: rls 10 r) ++ [o]) := by
  obtain ⟨T1, hT1⟩ : ∃ T, T = uP (nw S p 20 9) a 1 (some p) := ⟨_, rfl⟩
  have x1 : ExA S T1 a := by rw [hT1]; exact ((Ext.nw hp 20 9).exA a).trans (exA_uP _ _ _ _)
  have p1 : At0 T1 p 20 ∧ sN T1 p = 9 := by rw [hT1]; exact ⟨nw_at (S := S) (a := p) (kd := 20) (n := 9), nw_ln (S := S) (a := p) (kd := 20) (n := 9)⟩
  have f1 : sP T1 a 1 = some p := by rw [hT1]; exact up2_same _ _ _ _
  have d1 : Frs S T1 [p] := by rw [hT1]; exact Frs.nw hp 20 9
  rw [← hT1] at hwy hr ho ⊢
  have ha1 := x1.1.at ha
  have hpa : p ≠ a := fun e => hp (e ▸ ha.1)
  have hm := Ext.mna (k := 10) hwy hr
  have hmo := mna_out (S := T1) (a := wy) (n := 10) (k := 10) (r := r)
  have hmr : ∀ i, i < 10 → sK (mna T1 wy 10 r 10) (r i) = 20 ∧ sN (mna T1 wy 10 r 10) (r i) = 10 ∧ sI (mna T1 wy 10 r 10) (r i) = (fun _ => 0) := fun i hi => mna_row (hrw i hi) (rls_mem.mpr ⟨i, hi, rfl⟩)
  have hml : ∀ i, i < 10 → r i ∈ sL (mna T1 wy 10 r 10) := fun i hi => List.mem_cons_of_mem _ (List.mem_append_right _ (rls_mem.mpr ⟨i, hi, rfl⟩))
  have hwa : wy ≠ a := fun e => hwy (e ▸ ha1.1)
  have hra : ∀ i, i < 10 → r i ≠ a := fun i hi e => hr i hi (e ▸ ha1.1)
  have dm : Frs T1 (mna T1 wy 10 r 10) (wy :: rls 10 r) := Frs.mna hwy hr hri hrw
  obtain ⟨T2, hT2⟩ : ∃ T, T = uP (mna T1 wy 10 r 10) a 3 (some wy) := ⟨_, rfl⟩
  have x2 : ExA T1 T2 a := by rw [hT2]; exact (hm.exA a).trans (exA_uP _ _ _ _)
  have w2 : At0 T2 wy 22 ∧ sN T2 wy = 10 ∧ ∀ i : Nat, i < 10 → sP T2 wy (i : Int) = some (r i) := by
    rw [hT2]
    exact ⟨hmo.1, hmo.2.1, fun i hi => (up2_ne _ _ _ _ hwa).trans (hmo.2.2 i hi)⟩
  have r2 : ∀ i, i < 10 → At0 T2 (r i) 20 ∧ sN T2 (r i) = 10 ∧ ∀ j, sI T2 (r i) j = 0 := fun i hi => by
    rw [hT2]
    exact ⟨⟨hml i hi, (hmr i hi).1⟩, (hmr i hi).2.1, fun j => congrFun (hmr i hi).2.2 j⟩
  have f2 : sP T2 a 3 = some wy ∧ sP T2 a 1 = some p := by
    rw [hT2]
    exact ⟨up2_same _ _ _ _, (up2_nk _ _ _ _ (by decide)).trans ((congrFun (hm a ha1.1).2.2.2.2.1 1).trans f1)⟩
  have d2 : Frs S T2 ([p] ++ (wy :: rls 10 r)) := by
    have hG : Gro (mna T1 wy 10 r 10) T2 := by rw [hT2]; exact Gro.same rfl rfl rfl
    exact d1.app x1.1 x2.1 (dm.mono hG)
  rw [← hT2] at ho ⊢
  have ha2 := x2.1.at ha1
  have hoa : a ≠ o := fun e => ho (e ▸ ha2.1)
  have x3 : ExA T2 (uP (uP (nw T2 o 20 4608) a 4 (some o)) a 0 (some b)) a := (((Ext.nw ho 20 4608).exA a).trans (exA_uP _ _ _ _)).trans (exA_uP _ _ _ _)
  have hG3 : Gro (nw T2 o 20 4608) (uP (uP (nw T2 o 20 4608) a 4 (some o)) a 0 (some b)) := Gro.same rfl rfl rfl
  have hPa : ∀ k : Int, k ≠ 0 → k ≠ 4 → sP (uP (uP (nw T2 o 20 4608) a 4 (some o)) a 0 (some b)) a k = sP T2 a k := fun k h0 h4 => (up2_nk _ _ _ _ h0).trans ((up2_nk _ _ _ _ h4).trans (congrFun (nw_Pne (S := T2) (a := o) (kd := 20) (n := 4608) hoa) k))
  refine ⟨⟨x3.1.at ha2, up2_same _ _ _ _, (hPa 1 (by decide) (by decide)).trans f2.2, (hPa 3 (by decide) (by decide)).trans f2.1, (up2_nk _ _ _ _ (by decide)).trans (up2_same _ _ _ _), ⟨x3.1.at (x2.1.at p1.1), x3.1.ln (x2.1.at p1.1) (x2.1.ln p1.1 p1.2)⟩, ⟨x3.1.at w2.1, x3.1.ln w2.1 w2.2.1⟩, ⟨nw_at (S := T2) (a := o) (kd := 20) (n := 4608), nw_ln (S := T2) (a := o) (kd := 20) (n := 4608)⟩, fun i hi => ?_⟩, (x1.trans x2).trans x3, ?_⟩
  · obtain ⟨e1, e2, e3⟩ := r2 i hi
    refine ⟨x3.1.at e1, x3.1.ln e1 e2, ?_, fun j => ?_⟩
    · rw [(x3.2 wy w2.1.1 hwa).2.1]; exact w2.2.2 i hi
    · rw [(x3.2 (r i) e1.1 (hra i hi)).1]; exact e3 j
  · exact d2.app (x1.trans x2).1 x3.1 ((Frs.nw ho 20 4608).mono hG3)
theorem wv_of {S : Sto} {t a b lb sv : Nat} {s : Nat → Nat} (ha : At0 S a 5) (hlb : lb ∉ sL S) (hsv : sv ∉ sL (uP (uP (uI (nw S lb 0 0) lb 0 0) lb 1 (some t)) a 1 (some lb))) (hs : ∀ i, i < 40 → s i ∉ sL (uP (uP (uI (nw S lb 0 0) lb 0 0) lb 1 (some t)) a 1 (some lb))) (hsi : ∀ i j, i < 40 → j < 40 → s i = s j → i = j) (hsw : ∀ i, i < 40 → s i ≠ sv) :
    WV (uP (uP (mna (uP (uP (uI (nw S lb 0 0) lb 0 0) lb 1 (some t)) a 1 (some lb)) sv 40 s 40) a 2 (some sv)) a 0 (some b)) t a b lb sv s ∧ ExA S (uP (uP (mna (uP (uP (uI (nw S lb 0 0) lb 0 0) lb 1 (some t)) a 1 (some lb)) sv 40 s 40) a 2 (some sv)) a 0 (some b)) a ∧ Frs S (uP (uP (mna (uP (uP (uI (nw S lb 0 0) lb 0 0) lb 1 (some t)) a 1 (some lb)) sv 40 s 40) a 2 (some sv)) a 0 (some b)) ([lb] ++ (sv :: rls 40 s)) := by
  have hla : a ≠ lb := fun e => hlb (e ▸ ha.1)
  obtain ⟨T1, hT1⟩ : ∃ T, T = uP (uP (uI (nw S lb 0 0) lb 0 0) lb 1 (some t)) a 1 (some lb) := ⟨_, rfl⟩
  have x1 : ExA S T1 a := by
    rw [hT1]
    exact (((Ext.nw hlb 0 0).exA a).new hlb ((exA_uI _ _ _ _).trans (exA_uP _ _ _ _))).trans (exA_uP _ _ _ _)
  have l1 : LSn T1 t lb := by
    rw [hT1]
    exact ⟨nw_at (S := S) (a := lb) (kd := 0) (n := 0), (up2_ne _ _ _ _ hla.symm).trans (up2_same _ _ _ _), (up2_nk _ _ _ _ (by decide)).trans (nw_I (S := S) (a := lb) (kd := 0) (n := 0) 2)⟩
  have f1 : sP T1 a 1 = some lb := by rw [hT1]; exact up2_same _ _ _ _
  have d1 : Frs S T1 [lb] := by rw [hT1]; exact (Frs.nw hlb 0 0).mono (Gro.same rfl rfl rfl)
  rw [← hT1] at hsv hs ⊢
  have ha1 := x1.1.at ha
  have hm := Ext.mna (k := 40) hsv hs
  have hmo := mna_out (S := T1) (a := sv) (n := 40) (k := 40) (r := s)
  have hmr : ∀ i, i < 40 → sK (mna T1 sv 40 s 40) (s i) = 20 ∧ sN (mna T1 sv 40 s 40) (s i) = 40 ∧ sI (mna T1 sv 40 s 40) (s i) = (fun _ => 0) := fun i hi => mna_row (hsw i hi) (rls_mem.mpr ⟨i, hi, rfl⟩)
  have hml : ∀ i, i < 40 → s i ∈ sL (mna T1 sv 40 s 40) := fun i hi => List.mem_cons_of_mem _ (List.mem_append_right _ (rls_mem.mpr ⟨i, hi, rfl⟩))
  have hwa : sv ≠ a := fun e => hsv (e ▸ ha1.1)
  have dm : Frs T1 (mna T1 sv 40 s 40) (sv :: rls 40 s) := Frs.mna hsv hs hsi hsw
  have x2 : ExA T1 (uP (uP (mna T1 sv 40 s 40) a 2 (some sv)) a 0 (some b)) a := ((hm.exA a).trans (exA_uP _ _ _ _)).trans (exA_uP _ _ _ _)
  have hG : Gro (mna T1 sv 40 s 40) (uP (uP (mna T1 sv 40 s 40) a 2 (some sv)) a 0 (some b)) := Gro.same rfl rfl rfl
  refine ⟨⟨x2.1.at ha1, up2_same _ _ _ _, ?_, (up2_nk _ _ _ _ (by decide)).trans (up2_same _ _ _ _), l1.fr x2 ha1 (by decide), ⟨hG.at hmo.1, hG.ln hmo.1 hmo.2.1⟩, fun i hi => ⟨hG.at ⟨hml i hi, (hmr i hi).1⟩, hG.ln ⟨hml i hi, (hmr i hi).1⟩ (hmr i hi).2.1, ?_⟩⟩, x1.trans x2, d1.app x1.1 x2.1 (dm.mono hG)⟩
  · exact (up2_nk _ _ _ _ (by decide)).trans ((up2_nk _ _ _ _ (by decide)).trans ((congrFun (hm a ha1.1).2.2.2.2.1 1).trans f1))
  · exact (up2_ne _ _ _ _ hwa).trans ((up2_ne _ _ _ _ hwa).trans (hmo.2.2 i hi))
/-- what the constructor was told, within its bounds -/
def wth (x m : Int) : Int := maxI 1 (minI x m)
theorem wth_b {x m : Int} (h : 1 ≤ m) : 1 ≤ wth x m ∧ wth x m ≤ m := by
  unfold wth maxI minI
  split <;> split <;> omega
