/-! ===== a batch is picked: the class's cells ===== -/
/-- one order is done -/
def zfi (z : Sig) (o : Nat) : Sig := (z.1, (zo z, zb z, zw z, za z + zto z (zW z o)), zP z, zdu z, upd1 (zst z) (o : Int) 2, zbt z, zmn z, zpr z, zqt z)
theorem tv_upd {st mn pr qt : Int → Int} {p : Int} {o : Nat} (h : st (o : Int) ≠ 2) : ∀ n, o < n → tv (upd1 st (o : Int) 2) mn pr qt p n = tv st mn pr qt p n + tvi pr qt p o (mn (o : Int)).toNat := by
  intro n
  induction n with
  | zero => intro h; omega
  | succ n ih =>
    intro hn
    unfold tv
    by_cases e : o = n
    · subst e
      rw [upd1_eq, if_pos rfl, if_neg h]
      have h1 : tv (upd1 st (o : Int) 2) mn pr qt p o = tv st mn pr qt p o := tv_congr _ (fun o' ho' => ⟨by rw [upd1_ne _ _ (by omega)], fun _ => rfl⟩)
      rw [h1]
      omega
    · rw [ih (by omega), upd1_ne _ _ (by omega)]
      omega
theorem fi_fin {S : Sto} {q : Nat → Nat} {t : Nat} {w : Shp} {z : Sig} {o : Nat} {X : Int} (hT : Top S q) (h : CRw S q t w z) (ho : o < zo z) (hst : zst z (o : Int) ≠ 2) (hX : X = za z + zto z (zW z o)) : CRw (uI (wI (uI S (q 0) 6 X) (row1 (sI (uI S (q 0) 6 X)) (q 7) (adR (sI (uI S (q 0) 6 X) (q 7)) (sI (uI S (q 0) 6 X) (wq w o)) 20))) (wo w o) 3 2) q t w (zfi z o) ∧ Gro S (uI (wI (uI S (q 0) 6 X) (row1 (sI (uI S (q 0) 6 X)) (q 7) (adR (sI (uI S (q 0) 6 X) (q 7)) (sI (uI S (q 0) 6 X) (wq w o)) 20))) (wo w o) 3 2) ∧ OutM S q (uI (wI (uI S (q 0) 6 X) (row1 (sI (uI S (q 0) 6 X)) (q 7) (adR (sI (uI S (q 0) 6 X) (q 7)) (sI (uI S (q 0) 6 X) (wq w o)) 20))) (wo w o) 3 2) := by
  obtain ⟨hWh, hB, hOr, hBt, hV, hR, hz⟩ := h
  obtain ⟨b1, b2, b3, b4, b5⟩ := hB.2.1 o ho
  have hwq : ∀ i ∈ tix, wq w o ≠ q i := fun i hi => hB.2.2.2.2 o ho i hi
  have hwo : ∀ i ∈ tix, q i ≠ wo w o := fun i hi e => hT.nq b2 rfl hi e.symm
  have hI : ∀ x, x ≠ wo w o → x ≠ q 7 → x ≠ q 0 → sI (uI (wI (uI S (q 0) 6 X) (row1 (sI (uI S (q 0) 6 X)) (q 7) (adR (sI (uI S (q 0) 6 X) (q 7)) (sI (uI S (q 0) 6 X) (wq w o)) 20))) (wo w o) 3 2) x = sI S x := fun x h1 h2 h3 => funext fun j => (up2_ne _ _ _ _ h1).trans ((row1_ne _ _ _ h2).trans (up2_ne _ _ _ _ h3))
  have hQ : ∀ i ∈ tix, i ≠ 0 → i ≠ 7 → sI (uI (wI (uI S (q 0) 6 X) (row1 (sI (uI S (q 0) 6 X)) (q 7) (adR (sI (uI S (q 0) 6 X) (q 7)) (sI (uI S (q 0) 6 X) (wq w o)) 20))) (wo w o) 3 2) (q i) = sI S (q i) := fun i hi n0 n7 => hI _ (hwo i hi) (hT.ne i 7 hi (by decide) n7) (hT.ne i 0 hi (by decide) n0)
  have hG : Gro S (uI (wI (uI S (q 0) 6 X) (row1 (sI (uI S (q 0) 6 X)) (q 7) (adR (sI (uI S (q 0) 6 X) (q 7)) (sI (uI S (q 0) 6 X) (wq w o)) 20))) (wo w o) 3 2) := Gro.same rfl rfl rfl
  have h0 : ∀ j, j ≠ 6 → sI (uI (wI (uI S (q 0) 6 X) (row1 (sI (uI S (q 0) 6 X)) (q 7) (adR (sI (uI S (q 0) 6 X) (q 7)) (sI (uI S (q 0) 6 X) (wq w o)) 20))) (wo w o) 3 2) (q 0) j = sI S (q 0) j := fun j hj => (up2_ne _ _ _ _ (hwo 0 (by decide))).trans ((row1_ne _ _ _ (hT.ne 0 7)).trans (up2_nk _ _ _ _ hj))
  have h6 : sI (uI (wI (uI S (q 0) 6 X) (row1 (sI (uI S (q 0) 6 X)) (q 7) (adR (sI (uI S (q 0) 6 X) (q 7)) (sI (uI S (q 0) 6 X) (wq w o)) 20))) (wo w o) 3 2) (q 0) 6 = X := (up2_ne _ _ _ _ (hwo 0 (by decide))).trans ((row1_ne _ _ _ (hT.ne 0 7)).trans (up2_same _ _ _ _))
  obtain ⟨w1, w2, w3, w4', w5', w6, w7, w8⟩ := hWh
  refine ⟨⟨⟨?_, ?_, ?_, ?_, fun p hp => ?_, ?_, ?_, ?_⟩, hB.fr hG rfl (congrFun (hQ 4 (by decide) (by decide) (by decide)) 2) (fun _ _ => rfl) (fun _ _ => rfl), fun o' ho' => ?_, hBt.fr hG rfl (congrFun (hQ 5 (by decide) (by decide) (by decide)) 2) (fun _ _ => rfl), ⟨fun b hb9 => ?_, fun b b' hb9 hb' e => ?_⟩, fun b hb9 => ?_, (congrFun (hQ 29 (by decide) (by decide) (by decide)) 9).trans hz⟩, hG, fun i i1 i2 => ⟨hQ i (tix_mod93 i i1 i2) (by omega) (by omega), rfl⟩⟩
  · rw [hQ 1 (by decide) (by decide) (by decide)]; exact w1
  · rw [hQ 1 (by decide) (by decide) (by decide)]; exact w2
  · rw [hQ 1 (by decide) (by decide) (by decide)]; exact w3
  · rw [hQ 6 (by decide) (by decide) (by decide)]; exact w4'
  · have e1 : sI (uI (wI (uI S (q 0) 6 X) (row1 (sI (uI S (q 0) 6 X)) (q 7) (adR (sI (uI S (q 0) 6 X) (q 7)) (sI (uI S (q 0) 6 X) (wq w o)) 20))) (wo w o) 3 2) (q 7) (p : Int) = sI S (q 7) (p : Int) + sI S (wq w o) (p : Int) := by
      refine (up2_ne _ _ _ _ (hwo 7 (by decide))).trans ((row1_same _ _ _ _).trans ?_)
      unfold adR
      rw [if_pos (by omega)]
      exact congr (congrArg HAdd.hAdd (up2_ne _ _ _ _ (hT.ne 7 0))) (up2_ne _ _ _ _ (hwq 0 (by decide)))
    rw [e1, w5' p hp, (hOr o ho).2.2.2 p hp]
    exact (tv_upd hst _ ho).symm
  · rw [h0 4 (by decide)]; exact w6
  · rw [h0 5 (by decide)]; exact w7
  · rw [h6]; exact hX
  · have ho2 : o' < zo z := ho'
    obtain ⟨c1, c2, c3, c4⟩ := hOr o' ho2
    obtain ⟨d1, d2, d3, d4, d5⟩ := hB.2.1 o' ho2
    have eq : sI (uI (wI (uI S (q 0) 6 X) (row1 (sI (uI S (q 0) 6 X)) (q 7) (adR (sI (uI S (q 0) 6 X) (q 7)) (sI (uI S (q 0) 6 X) (wq w o)) 20))) (wo w o) 3 2) (wq w o') = sI S (wq w o') := hI _ (kind_ne d4 b2 (by decide)) (hB.2.2.2.2 o' ho2 7 (by decide)) (hB.2.2.2.2 o' ho2 0 (by decide))
    rw [eq]
    by_cases e : o' = o
    · subst e
      have hn : ∀ j, j ≠ 3 → sI (uI (wI (uI S (q 0) 6 X) (row1 (sI (uI S (q 0) 6 X)) (q 7) (adR (sI (uI S (q 0) 6 X) (q 7)) (sI (uI S (q 0) 6 X) (wq w o')) 20))) (wo w o') 3 2) (wo w o') j = sI S (wo w o') j := fun j hj => (up2_nk _ _ _ _ hj).trans ((row1_ne _ _ _ (hwo 7 (by decide)).symm).trans (up2_ne _ _ _ _ (hwo 0 (by decide)).symm))
      rw [hn 0 (by decide), hn 2 (by decide)]
      exact ⟨c1, c2, (up2_same _ _ _ _).trans (upd1_eq _ _ _).symm, c4⟩
    · rw [hI _ (fun e9 => e (hB.2.2.1 _ _ ho2 ho e9)) (hT.nq d2 rfl (by decide)) (hT.nq d2 rfl (by decide))]
      exact ⟨c1, c2, c3.trans (upd1_ne _ _ (by omega)).symm, c4⟩
  · have hm := (hBt.2.1 b hb9).2
    rw [hI _ (kind_ne hm b2 (by decide)) (hT.nq hm rfl (by decide)) (hT.nq hm rfl (by decide))]
    exact hV.1 b hb9
  · have hm := (hBt.2.1 b hb9).2
    have hm' := (hBt.2.1 b' hb').2
    rw [hI _ (kind_ne hm b2 (by decide)) (hT.nq hm rfl (by decide)) (hT.nq hm rfl (by decide)), hI _ (kind_ne hm' b2 (by decide)) (hT.nq hm' rfl (by decide)) (hT.nq hm' rfl (by decide))] at e
    exact hV.2 b b' hb9 hb' e
  · obtain ⟨r1, r2, r3, r4, r5, r6⟩ := hR b hb9
    rw [hI _ (kind_ne r2 b2 (by decide)) (r6 7 (by decide)) (r6 0 (by decide))]
    exact ⟨r1, r2, r3, r4, r5, r6⟩
/-- while a batch is picked: the first orders are through -/
def zkk (z : Sig) (b : Int) (k : Nat) : Sig := (z.1, (zo z, zb z, zw z, za z + alI z b k), zP z, zdu z, pkS (zst z) (zbt z) b k, zbt z, zmn z, zpr z, zqt z)
theorem zkk_0 (z : Sig) (b : Int) : zkk z b 0 = z := by
  unfold zkk
  rw [pkS_0]
  show (z.1, (zo z, zb z, zw z, za z + 0), zP z, zdu z, zst z, zbt z, zmn z, zpr z, zqt z) = z
  rw [Int.add_zero]
theorem zkk_t {z : Sig} {b : Int} {k : Nat} (h : zbt z (k : Int) = b) : zfi (zkk z b k) k = zkk z b (k + 1) := by
  have h1 := pkS_step (zst z) (zbt z) b k
  rw [if_pos h] at h1
  have h2 := al_t h
  show (z.1, (zo z, zb z, zw z, za z + alI z b k + zto z (zW z k)), zP z, zdu z, upd1 (pkS (zst z) (zbt z) b k) (k : Int) 2, zbt z, zmn z, zpr z, zqt z) = zkk z b (k + 1)
  rw [h1, Int.add_assoc, h2]
  rfl
theorem zkk_f {z : Sig} {b : Int} {k : Nat} (h : ¬ zbt z (k : Int) = b) : zkk z b k = zkk z b (k + 1) := by
  unfold zkk
  rw [pkS_sk h, al_f h]
theorem obs_pk {z : Sig} {y b M : Nat} {w x : Int} {st : Int → Int} (h : obs z (ri y b) M) : obs (z.1, (zo z, zb z - 1, w, x), zP z, zdu z, st, clo (mrg (zbt z) (-1) (y : Int) (zo z)) (y : Int) (zo z), zmn z, zpr z, zqt z) b M := by
  refine ⟨h.1, fun o ho => ?_⟩
  rw [h.2 o ho]
  constructor
  · rintro ⟨a, e⟩
    exact ⟨a, (jbt_iff (bt := zbt z) (x := -1) (y := y) (b := b) (N := zo z) (by omega) a).mpr (Or.inl e)⟩
  · rintro ⟨a, e⟩
    have a' : o < zo z := a
    rcases (jbt_iff (bt := zbt z) (x := -1) (y := y) (b := b) (N := zo z) (by omega) a').mp e with h1 | ⟨h1, -⟩
    · exact ⟨a', h1⟩
    · omega
theorem pk_fin {S u : Sto} {q : Nat → Nat} {t y : Nat} {w : Shp} {z : Sig} (hT : Top S q) (h : CRw S q t w (zkk z (y : Int) (zo z))) (hy : y < zb z) (hR9 : LRem (uI S (q 0) 5 (zw z + zto z (zpd z (y : Int)))) u t (q 5) (w5 w) (k5 w) (zb z) y) : CRw u q t (shR w y) (zpk z (y : Int)) ∧ Gro S u ∧ OutM S q u ∧ Top u q := by
  obtain ⟨hWh, hB, hOr, hBt, hV, hR, hz⟩ := h
  obtain ⟨r1, r2, r3, r4, r5, r6, r7, r8, r9⟩ := hR9
  have hcap : zb z ≤ k5 w := hBt.1.2.2.2.1
  have hE := (hBt.1.arr (by omega)).1
  have hk5 : 0 < k5 w := by omega
  have hI : ∀ a : Nat, a ≠ q 5 → a ≠ q 0 → sI u a = sI S a := fun a h1 h2 => by
    rw [r8 a h1]
    exact up2_row _ _ _ h2
  have hP : ∀ a : Nat, a ≠ w5 w → sP u a = sP S a := fun a h1 => r9 a h1
  have hG : Gro S u := Gro.same r4 r5 r6
  have hq5 : ∀ i ∈ tix, q i ≠ w5 w := fun i hi e => hT.nq hE rfl hi e.symm
  have hTu : Top u q := hT.mono hG (fun i hi k => by
    have : ∀ i ∈ [0, 1, 2, 3, 11, 13, 80], i ∈ tix := by decide
    rw [hP _ (hq5 i (this i hi))])
  have hWI : ∀ i ∈ tix, i ≠ 0 → i ≠ 5 → sI u (q i) = sI S (q i) := fun i hi n0 n5 => hI _ (hT.ne i 5 hi (by decide) n5) (hT.ne i 0 hi (by decide) n0)
  have h0 : sI u (q 0) = sI (uI S (q 0) 5 (zw z + zto z (zpd z (y : Int)))) (q 0) := r8 _ (hT.ne 0 5)
  have hrow : ∀ b : Nat, b < zb z → sI u (wb w b) = sI S (wb w b) ∧ sJ u (wb w b) = sJ S (wb w b) ∧ sP u (wb w b) = sP S (wb w b) := fun b hb => by
    have hm := (hBt.2.1 b hb).2
    exact ⟨hI _ (hT.nq hm rfl (by decide)) (hT.nq hm rfl (by decide)), by rw [r7], hP _ (kind_ne hm hE (by decide))⟩
  obtain ⟨w1, w2, w3, w4', w5', w6, w7, w8⟩ := hWh
  refine ⟨⟨⟨?_, ?_, ?_, ?_, fun p hp => ?_, ?_, ?_, ?_⟩, ?_, fun o ho => ?_, ⟨r1, fun b hb => ?_, fun b b' hb hb' e => ?_, hBt.2.2.2⟩, ⟨fun b hb => ?_, fun b b' hb hb' e => ?_⟩, fun b hb => ?_, ?_⟩, hG, fun i h1 h2 => ⟨hWI i (tix_mod93 i h1 h2) (by omega) (by omega), by rw [r7]⟩, hTu⟩
  · rw [hWI 1 (by decide) (by decide) (by decide)]; exact w1
  · rw [hWI 1 (by decide) (by decide) (by decide)]; exact w2
  · rw [hWI 1 (by decide) (by decide) (by decide)]; exact w3
  · rw [hWI 6 (by decide) (by decide) (by decide)]; exact w4'
  · rw [hWI 7 (by decide) (by decide) (by decide)]; exact w5' p hp
  · rw [h0]; exact (up2_nk _ _ _ _ (by decide)).trans w6
  · rw [h0]; exact up2_same _ _ _ _
  · rw [h0]; exact (up2_nk _ _ _ _ (by decide)).trans w8
  · refine hB.fr hG (by rw [hP _ (hq5 4 (by decide))]) (by rw [hWI 4 (by decide) (by decide) (by decide)]) (fun o ho => ?_) (fun o ho => by rw [hP _ (kind_ne (hB.2.1 o ho).2.1 hE (by decide))])
    have hc4 := hB.1.2.2.2.1
    have ho2 : o < zo (zkk z (y : Int) (zo z)) := ho
    rw [hP _ (hBt.2.2.2 (by omega) hk5)]
  · have ho2 : o < zo (zkk z (y : Int) (zo z)) := ho
    obtain ⟨d1, d2, d3, d4, d5⟩ := hB.2.1 o ho2
    have e1 : sI u (wo w o) = sI S (wo w o) := hI _ (hT.nq d2 rfl (by decide)) (hT.nq d2 rfl (by decide))
    have e2 : sI u (wq w o) = sI S (wq w o) := hI _ (hB.2.2.2.2 o ho2 5 (by decide)) (hB.2.2.2.2 o ho2 0 (by decide))
    show sI u (wo w o) 0 = _ ∧ sI u (wo w o) 2 = _ ∧ sI u (wo w o) 3 = _ ∧ ∀ p : Nat, p < 20 → sI u (wq w o) (p : Int) = _
    rw [e1, e2]
    exact hOr o ho2
  · have hb2 : b < zb z - 1 := hb
    refine ⟨?_, hG.at (hBt.2.1 _ (ri_lt hy hb2)).2⟩
    show sP u (w5 w) (b : Int) = some (wb w (ri y b))
    by_cases e : b < y
    · rw [r2 b e, show ri y b = b from if_pos e]
      exact (hBt.2.1 b (show b < zb z by omega)).1
    · rw [r3 b (by omega) hb2, show ri y b = b + 1 from if_neg e]
      exact (hBt.2.1 (b + 1) (show b + 1 < zb z by omega)).1
  · exact ri_inj (hBt.2.2.1 _ _ (ri_lt hy hb) (ri_lt hy hb') e)
  · have hb2 : b < zb z - 1 := hb
    have hrb := ri_lt hy hb2
    obtain ⟨v1, v2, v3, v4, M3, v5, v6⟩ := hV.1 (ri y b) hrb
    obtain ⟨c1, c2, -⟩ := hrow _ hrb
    have eL := zpk_ln z y b
    have eP := zpk_pd z y b
    show (0 ≤ sI u (wb w (ri y b)) 0 ∧ sI u (wb w (ri y b)) 0 < 40) ∧ sI u (wb w (ri y b)) 2 = _ ∧ sI u (wb w (ri y b)) 3 = _ ∧ sI u (wb w (ri y b)) 4 = _ ∧ ∃ M : Nat, sJ u (wb w (ri y b)) 1 = _ ∧ _
    rw [c1, c2, eL, eP]
    exact ⟨v1, v2, v3, v4, M3, v5, obs_pk (z := z) v6⟩
  · have hb2 : b < zb z - 1 := hb
    have hb2' : b' < zb z - 1 := hb'
    have e3 : sI u (wb w (ri y b)) 0 = sI u (wb w (ri y b')) 0 := e
    rw [(hrow _ (ri_lt hy hb2)).1, (hrow _ (ri_lt hy hb2')).1] at e3
    exact ri_inj (hV.2 _ _ (ri_lt hy hb2) (ri_lt hy hb2') e3)
  · have hb2 : b < zb z - 1 := hb
    obtain ⟨s1, s2, s3, s4, s5, s6⟩ := hR (ri y b) (ri_lt hy hb2)
    have eP := zpk_pd z y b
    have e1 : sI u (wr w (ri y b)) = sI S (wr w (ri y b)) := hI _ (s6 5 (by decide)) (s6 0 (by decide))
    show sP u (wb w (ri y b)) 5 = some (wr w (ri y b)) ∧ At0 u (wr w (ri y b)) 20 ∧ sN u (wr w (ri y b)) = _ ∧ (∀ j : Nat, j < cntb (zpd (zpk z (y : Int)) (b : Int)) 20 → sI u (wr w (ri y b)) (j : Int) = _) ∧ (∀ o : Nat, o < zo z → wr w (ri y b) ≠ wq w o) ∧ ∀ i ∈ tix, wr w (ri y b) ≠ q i
    rw [(hrow _ (ri_lt hy hb2)).2.2, e1, eP]
    exact ⟨s1, hG.at s2, hG.ln s2 s3, s4, s5, s6⟩
  · rw [hWI 29 (by decide) (by decide) (by decide)]; exact hz
