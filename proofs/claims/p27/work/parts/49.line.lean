/-! ===== lines are written ===== -/
theorem tb_iff {m p : Nat} : m.testBit p = true ↔ m / 2 ^ p % 2 = 1 := by
  rw [Nat.testBit_eq_decide_div_mod_eq]
  exact decide_eq_true_iff
theorem tvi_0 {pr qt : Int → Int} {o p : Nat} : ∀ k, (∀ i : Nat, i < k → 0 ≤ pr ((5 * o + i : Nat) : Int)) → (wnt pr o k).testBit p = false → tvi pr qt (p : Int) o k = 0 := by
  intro k
  induction k with
  | zero => intro _ _; rfl
  | succ k ih =>
    intro h0 h
    unfold wnt at h
    rw [Nat.testBit_or, Bool.or_eq_false_iff] at h
    unfold tvi
    rw [ih (fun i hi => h0 i (by omega)) h.1, if_neg]
    · rfl
    · intro e
      have h2 := h.2
      rw [e, Int.toNat_natCast, Nat.testBit_two_pow_self] at h2
      cases h2
theorem prd_congr2 {bt bt' : Int → Int} {W W' : Nat → Nat} {b b' : Int} : ∀ n, (∀ o : Nat, o < n → (bt (o : Int) = b ↔ bt' (o : Int) = b') ∧ (bt (o : Int) = b → W o = W' o)) → prd bt W b n = prd bt' W' b' n := by
  intro n
  induction n with
  | zero => intro _; rfl
  | succ n ih =>
    intro h
    have h1 := ih (fun o ho => h o (by omega))
    obtain ⟨h2, h3⟩ := h n (by omega)
    show prd bt W b n ||| (if bt (n : Int) = b then W n else 0) = prd bt' W' b' n ||| (if bt' (n : Int) = b' then W' n else 0)
    rw [h1]
    by_cases e : bt (n : Int) = b
    · rw [if_pos e, if_pos (h2.1 e), h3 e]
    · rw [if_neg e, if_neg (fun e2 => e (h2.2 e2))]
theorem lin_eq {z : Sig} (h : Wf z) {o p : Nat} {y : Int} (ho : o < zo z) (hst : zst z (o : Int) = 0) (h5 : zmn z (o : Int) ≠ 5) (hb : (zW z o).testBit p = false) :
    (∀ o' : Nat, o' < zo z → o' ≠ o → zW (zlin z o (p : Int) y) o' = zW z o' ∧ (∀ p' : Int, qv (zlin z o (p : Int) y) p' o' = qv z p' o') ∧ zmn (zlin z o (p : Int) y) (o' : Int) = zmn z (o' : Int)) ∧ zW (zlin z o (p : Int) y) o = zW z o ||| 2 ^ p ∧ qv (zlin z o (p : Int) y) (p : Int) o = y ∧ (∀ p' : Int, p' ≠ (p : Int) → qv (zlin z o (p : Int) y) p' o = qv z p' o) ∧ (∀ p' : Int, ztv (zlin z o (p : Int) y) p' = ztv z p') ∧ ∀ b : Nat, zpd (zlin z o (p : Int) y) (b : Int) = zpd z (b : Int) ∧ zln (zlin z o (p : Int) y) (b : Int) = zln z (b : Int) := by
  obtain ⟨k, hk⟩ : ∃ k : Nat, zmn z (o : Int) = (k : Int) := ⟨(zmn z (o : Int)).toNat, by have := (h.2.2.2.2.1 o ho).1; omega⟩
  have hk5 : k < 5 := by have := (h.2.2.2.2.1 o ho).1; omega
  have ei : 5 * (o : Int) + zmn z (o : Int) = ((5 * o + k : Nat) : Int) := by omega
  have ep : zpr (zlin z o (p : Int) y) = upd1 (zpr z) ((5 * o + k : Nat) : Int) (p : Int) := by
    show upd1 (zpr z) (5 * (o : Int) + zmn z (o : Int)) (p : Int) = _
    rw [ei]
  have eq : zqt (zlin z o (p : Int) y) = upd1 (zqt z) ((5 * o + k : Nat) : Int) y := by
    show upd1 (zqt z) (5 * (o : Int) + zmn z (o : Int)) y = _
    rw [ei]
  have em : ∀ o' : Nat, o' ≠ o → zmn (zlin z o (p : Int) y) (o' : Int) = zmn z (o' : Int) := fun o' hn => upd1_ne _ _ (by omega)
  have emo : (zmn (zlin z o (p : Int) y) (o : Int)).toNat = k + 1 := by
    show (upd1 (zmn z) (o : Int) (zmn z (o : Int) + 1) (o : Int)).toNat = _
    rw [upd1_eq]
    omega
  have hkz : (zmn z (o : Int)).toNat = k := by omega
  have hidx : ∀ o' i : Nat, o' < zo z → i < (zmn z (o' : Int)).toNat → (o' ≠ o ∨ i ≠ k) → 5 * o' + i ≠ 5 * o + k := fun o' i ho' hi hn => by
    have := (h.2.2.2.2.1 o' ho').1
    omega
  have a1 : ∀ o' : Nat, o' < zo z → o' ≠ o → zW (zlin z o (p : Int) y) o' = zW z o' ∧ (∀ p' : Int, qv (zlin z o (p : Int) y) p' o' = qv z p' o') ∧ zmn (zlin z o (p : Int) y) (o' : Int) = zmn z (o' : Int) := fun o' ho' hn => by
    refine ⟨?_, fun p' => ?_, em o' hn⟩
    · unfold zW
      rw [em o' hn, ep]
      exact wnt_upd _ (fun i hi => hidx o' i ho' hi (Or.inl hn))
    · unfold qv
      rw [em o' hn, ep, eq]
      exact tvi_congr _ (fun i hi => ⟨upd1_ne _ _ (by have := hidx o' i ho' hi (Or.inl hn); omega), upd1_ne _ _ (by have := hidx o' i ho' hi (Or.inl hn); omega)⟩)
  have a2 : ∀ p' : Int, qv (zlin z o (p : Int) y) p' o = qv z p' o + (if (p : Int) = p' then y else 0) := fun p' => by
    unfold qv
    rw [emo, hkz, ep, eq]
    unfold tvi
    rw [upd1_eq, upd1_eq, tvi_congr (pr' := zpr z) (qt' := zqt z) k (fun i hi => ⟨upd1_ne _ _ (by omega), upd1_ne _ _ (by omega)⟩)]
    cases k <;> rfl
  have hz0 : qv z (p : Int) o = 0 := by
    unfold qv
    exact tvi_0 _ (fun i hi => (h.2.2.2.2.2.1 o i ho (by omega)).1.1) hb
  have hbt : zbt z (o : Int) < 0 := by
    have h9 := (h.2.2.2.2.1 o ho).2.2.2.1
    rcases Int.lt_or_le (zbt z (o : Int)) 0 with e | e
    · exact e
    · have := h9.mp e; omega
  have hWp : zW (zlin z o (p : Int) y) o = zW z o ||| 2 ^ p := by
    unfold zW
    rw [emo, hkz, ep]
    unfold wnt
    rw [upd1_eq, wnt_upd k (fun i hi => by omega), Int.toNat_natCast]
    cases k <;> rfl
  refine ⟨a1, hWp, by rw [a2, if_pos rfl, hz0]; omega, fun p' hn => by rw [a2, if_neg (fun e => hn e.symm)]; omega, fun p' => ?_, fun b => ⟨?_, ?_⟩⟩
  · refine (tv_congr _ (fun o' ho' => ⟨Iff.rfl, fun h2 => ?_⟩)).symm
    have h2' : zst z (o' : Int) = 2 := h2
    have hn : o' ≠ o := fun e => by rw [e, hst] at h2'; omega
    exact ((a1 o' ho' hn).2.1 p').symm
  · refine (prd_congr2 _ (fun o' ho' => ⟨Iff.rfl, fun e => ?_⟩)).symm
    have e' : zbt z (o' : Int) = (b : Int) := e
    exact (a1 o' ho' (fun e2 => by rw [e2] at e'; omega)).1.symm
  · refine (cln_congr _ (fun o' ho' => ⟨Iff.rfl, fun e => ?_⟩)).symm
    have e' : zbt z (o' : Int) = (b : Int) := e
    exact (a1 o' ho' (fun e2 => by rw [e2] at e'; omega)).2.2.symm
theorem lin_fin {S : Sto} {q : Nat → Nat} {t : Nat} {w : Shp} {z : Sig} {o p : Nat} {y : Int} (hT : Top S q) (hW : Wf z) (h : CRw S q t w z) (ho : o < zo z) (hp : p < 20) (hst : zst z (o : Int) = 0) (h5 : zmn z (o : Int) ≠ 5) (hb : (zW z o).testBit p = false) : CP S q t (uI (uI S (wo w o) 2 ((zW z o ||| 2 ^ p : Nat) : Int)) (wq w o) (p : Int) y) (zlin z o (p : Int) y) := by
  obtain ⟨n1, n2, n3, n4, n5, n6⟩ := lin_eq (y := y) hW ho hst h5 hb
  obtain ⟨hWh, hB, hOr, hBt, hV, hR, hz⟩ := h
  obtain ⟨b1, b2, b3, b4, b5⟩ := hB.2.1 o ho
  have hwq : ∀ i ∈ tix, q i ≠ wq w o := fun i hi e => hB.2.2.2.2 o ho i hi e.symm
  have hwo : ∀ i ∈ tix, q i ≠ wo w o := fun i hi e => hT.nq b2 rfl hi e.symm
  have hI : ∀ x, x ≠ wo w o → x ≠ wq w o → sI (uI (uI S (wo w o) 2 ((zW z o ||| 2 ^ p : Nat) : Int)) (wq w o) (p : Int) y) x = sI S x := fun x h1 h2 => (up2_row _ _ _ h2).trans (up2_row _ _ _ h1)
  have hQ : ∀ i ∈ tix, sI (uI (uI S (wo w o) 2 ((zW z o ||| 2 ^ p : Nat) : Int)) (wq w o) (p : Int) y) (q i) = sI S (q i) := fun i hi => hI _ (hwo i hi) (hwq i hi)
  have hG : Gro S (uI (uI S (wo w o) 2 ((zW z o ||| 2 ^ p : Nat) : Int)) (wq w o) (p : Int) y) := Gro.same rfl rfl rfl
  have hoq : wo w o ≠ wq w o := kind_ne b2 b4 (by decide)
  refine ⟨hG, hT, fun i i1 i2 => ⟨hQ i (tix_mod93 i i1 i2), rfl⟩, w, ?_, hB.fr hG rfl (congrFun (hQ 4 (by decide)) 2) (fun _ _ => rfl) (fun _ _ => rfl), fun o' ho' => ?_, hBt.fr hG rfl (congrFun (hQ 5 (by decide)) 2) (fun _ _ => rfl), ⟨fun b hb9 => ?_, fun b b' hb9 hb' e => ?_⟩, fun b hb9 => ?_, (congrFun (hQ 29 (by decide)) 9).trans hz⟩
  · unfold Whs
    rw [hQ 0 (by decide), hQ 1 (by decide), hQ 6 (by decide), hQ 7 (by decide)]
    obtain ⟨w1, w2, w3, w4', w5', w6, w7, w8⟩ := hWh
    exact ⟨w1, w2, w3, w4', fun p hp => (w5' p hp).trans (n5 _).symm, w6, w7, w8⟩
  · have ho2 : o' < zo z := ho'
    obtain ⟨c1, c2, c3, c4⟩ := hOr o' ho2
    by_cases e : o' = o
    · subst e
      refine ⟨?_, ?_, ?_, fun p' hp' => ?_⟩
      · exact (up2_ne _ _ _ _ hoq).trans ((up2_nk _ _ _ _ (by decide)).trans c1)
      · rw [n2]
        exact (up2_ne _ _ _ _ hoq).trans (up2_same _ _ _ _)
      · exact (up2_ne _ _ _ _ hoq).trans ((up2_nk _ _ _ _ (by decide)).trans c3)
      · by_cases ep : p' = p
        · subst ep
          rw [n3]
          exact up2_same _ _ _ _
        · rw [n4 _ (by omega)]
          exact (up2_nk _ _ _ _ (by omega)).trans ((up2_ne _ _ _ _ hoq.symm).trans (c4 p' hp'))
    · obtain ⟨d1, d2, d3, d4, d5⟩ := hB.2.1 o' ho2
      have e1 : wo w o' ≠ wo w o := fun e9 => e (hB.2.2.1 _ _ ho2 ho e9)
      have e2 : wq w o' ≠ wq w o := fun e9 => e (hB.2.2.2.1 _ _ ho2 ho e9)
      rw [hI _ e1 (kind_ne d2 b4 (by decide)), hI _ (kind_ne d4 b2 (by decide)) e2, (n1 o' ho2 e).1]
      exact ⟨c1, c2, c3, fun p' hp' => by rw [(n1 o' ho2 e).2.1]; exact c4 p' hp'⟩
  · obtain ⟨v1, v2, v3, v4, M, v5, v6⟩ := hV.1 b hb9
    have hm := (hBt.2.1 b hb9).2
    rw [hI _ (kind_ne hm b2 (by decide)) (kind_ne hm b4 (by decide)), (n6 b).1, (n6 b).2]
    exact ⟨v1, v2, v3, v4, M, v5, v6⟩
  · have hm := (hBt.2.1 b hb9).2
    have hm' := (hBt.2.1 b' hb').2
    rw [hI _ (kind_ne hm b2 (by decide)) (kind_ne hm b4 (by decide)), hI _ (kind_ne hm' b2 (by decide)) (kind_ne hm' b4 (by decide))] at e
    exact hV.2 b b' hb9 hb' e
  · obtain ⟨r1, r2, r3, r4, r5, r6⟩ := hR b hb9
    rw [hI _ (kind_ne r2 b2 (by decide)) (r5 o ho), (n6 b).1]
    exact ⟨r1, r2, r3, r4, r5, r6⟩
