/-! ===== routes and aisles ===== -/
theorem rout_mem {N G : Int} {P : Int → Int} {m : Nat} (hN : 1 ≤ N ∧ N ≤ 20) (hG : 1 ≤ G ∧ G ≤ 9) (h : okM N P m) {j : Nat} (hj : j < cntb m 20) : ∃ p : Nat, p < 20 ∧ m.testBit p = true ∧ rout N G P m j = P (p : Int) := by
  have hl : (sl P m 20).length = cntb m 20 := sl_len _ _ _
  have h1 := rtS_bit (okM_okD hN hG h) (i := j) (by omega)
  have h2 := sl_mem P m 20 _ h1.1
  exact ⟨_, h2.1, h2.2, rfl⟩
theorem rout_onto {N G : Int} {P : Int → Int} {m : Nat} (hN : 1 ≤ N ∧ N ≤ 20) (hG : 1 ≤ G ∧ G ≤ 9) (h : okM N P m) {p : Nat} (hp : p < 20) (hb : m.testBit p = true) : ∃ j : Nat, j < cntb m 20 ∧ rout N G P m j = P (p : Int) := by
  have hl : (sl P m 20).length = cntb m 20 := sl_len _ _ _
  obtain ⟨i, h1, h2⟩ := sl_onto P m 20 p hp hb
  obtain ⟨x, h3, h4⟩ := rtS_all (okM_okD hN hG h) h1
  refine ⟨x, by omega, ?_⟩
  unfold rout
  rw [h4, h2]
theorem fr_le {P : Int → Int} {m : Nat} {ai : Int} : ∀ n, ∀ p : Nat, p < n → m.testBit p = true → P (p : Int) / 100 = ai → P (p : Int) % 100 ≤ fr P m ai n := by
  intro n
  induction n with
  | zero => intro p hp; omega
  | succ n ih =>
    intro p hp hb ha
    by_cases e : p = n
    · subst e
      unfold fr
      split
      · exact Int.le_refl _
      · next hn => exact Int.not_lt.mp fun h => hn ⟨hb, ha, h⟩
    · have h1 := ih p (by omega) hb ha
      unfold fr
      split
      · next hn => omega
      · exact h1
theorem fr_ex {P : Int → Int} {m : Nat} {ai : Int} : ∀ n, 0 < fr P m ai n → ∃ p : Nat, p < n ∧ m.testBit p = true ∧ P (p : Int) / 100 = ai ∧ P (p : Int) % 100 = fr P m ai n := by
  intro n
  induction n with
  | zero => intro h; exact absurd h (by show ¬ (0 : Int) < 0; omega)
  | succ n ih =>
    intro h
    unfold fr at h ⊢
    split
    · next hn => exact ⟨n, by omega, hn.1, hn.2.1, rfl⟩
    · next hn =>
      rw [if_neg hn] at h
      obtain ⟨p, h1, h2, h3, h4⟩ := ih h
      exact ⟨p, by omega, h2, h3, h4⟩
theorem fr_pos {N : Int} {P : Int → Int} {m : Nat} {ai : Int} (h : okM N P m) : 0 < fr P m ai 20 ↔ ∃ p : Nat, p < 20 ∧ m.testBit p = true ∧ P (p : Int) / 100 = ai := by
  constructor
  · intro h1
    obtain ⟨p, a, b, e, -⟩ := fr_ex 20 h1
    exact ⟨p, a, b, e⟩
  · rintro ⟨p, a, b, e⟩
    have h1 := fr_le (ai := ai) 20 p a b e
    have h2 := h.1 p a b
    omega
theorem ro_fr {z : Sig} (h : Wf z) {b : Nat} (hb : b < zb z) (ai : Int) : (∃ j : Nat, j < cntb (zpd z (b : Int)) 20 ∧ rout (zN z) (zG z) (zP z) (zpd z (b : Int)) j / 100 = ai) ↔ 0 < zfr z (b : Int) ai := by
  have hok := h.okB (h.lnB hb)
  have h1 := h.1
  unfold zfr
  rw [fr_pos hok]
  constructor
  · rintro ⟨j, hj, e⟩
    obtain ⟨p, a1, a2, a3⟩ := rout_mem (G := zG z) ⟨by omega, by omega⟩ ⟨by omega, by omega⟩ hok hj
    exact ⟨p, a1, a2, by rw [← a3]; exact e⟩
  · rintro ⟨p, a1, a2, a3⟩
    obtain ⟨j, b1, b2⟩ := rout_onto (G := zG z) ⟨by omega, by omega⟩ ⟨by omega, by omega⟩ hok a1 a2
    exact ⟨j, b1, by rw [b2]; exact a3⟩
/-- how many of the first numbers have p -/
def nA (p : Nat → Bool) : Nat → Nat
  | 0 => 0
  | n + 1 => nA p n + (if p n = true then 1 else 0)
theorem nA_congr {p p' : Nat → Bool} : ∀ n, (∀ i, i < n → p i = p' i) → nA p n = nA p' n := by
  intro n
  induction n with
  | zero => intro _; rfl
  | succ n ih =>
    intro h
    unfold nA
    rw [ih (fun i hi => h i (by omega)), h n (by omega)]
theorem nA_one {p p' : Nat → Bool} {x : Nat} (h0 : p x = false) (h1 : p' x = true) : ∀ n, x < n → (∀ i, i < n → i ≠ x → p i = p' i) → nA p' n = nA p n + 1 := by
  intro n
  induction n with
  | zero => intro hx; omega
  | succ n ih =>
    intro hx h
    unfold nA
    by_cases e : x = n
    · subst e
      rw [h0, h1, nA_congr x (fun i hi => (h i (by omega) (by omega)).symm)]
      simp
    · rw [ih (by omega) (fun i hi hn => h i (by omega) hn), h n (by omega) (by omega)]
      omega
theorem nA_0 {p : Nat → Bool} : ∀ n, (∀ i, i < n → p i = false) → nA p n = 0 := by
  intro n
  induction n with
  | zero => intro _; rfl
  | succ n ih =>
    intro h
    unfold nA
    rw [ih (fun i hi => h i (by omega)), h n (by omega)]
    rfl
theorem cntA_nA {F : Int → Int} {A : Nat} : ∀ n, (∀ j : Nat, j < n → 0 ≤ F (j : Int) ∧ F (j : Int) / 100 < A) → (∀ i j : Nat, i < j → j < n → F (i : Int) < F (j : Int)) → cntA F n = nA (fun a => decide (∃ j : Nat, j < n ∧ F (j : Int) / 100 = (a : Int))) A := by
  intro n
  induction n with
  | zero => intro _ _; rw [nA_0 A (fun i _ => decide_eq_false (fun ⟨j, hj, _⟩ => by omega))]; rfl
  | succ n ih =>
    intro hF hs
    have h1 := ih (fun j hj => hF j (by omega)) (fun i j hi hj => hs i j hi (by omega))
    have hn := hF n (by omega)
    unfold cntA
    rw [h1]
    by_cases e : ∃ j : Nat, j < n ∧ F (j : Int) / 100 = F (n : Int) / 100
    · obtain ⟨j, e1, e2⟩ := e
      have hb : bfA F n = F (n : Int) / 100 := by
        obtain ⟨k, rfl⟩ : ∃ k, n = k + 1 := ⟨n - 1, by omega⟩
        show F (k : Int) / 100 = _
        have a1 := hs k (k + 1) (by omega) (by omega)
        by_cases ej : j = k
        · subst ej; exact e2
        · have a2 := hs j k (by omega) (by omega)
          omega
      rw [if_pos hb.symm, Nat.add_zero]
      refine nA_congr A (fun i hi => ?_)
      apply decide_eq_decide.mpr
      constructor
      · rintro ⟨y, y1, y2⟩; exact ⟨y, by omega, y2⟩
      · rintro ⟨y, y1, y2⟩
        by_cases ey : y = n
        · subst ey; exact ⟨j, e1, by omega⟩
        · exact ⟨y, by omega, y2⟩
    · have hb : F (n : Int) / 100 ≠ bfA F n := by
        cases n with
        | zero => show F ((0 : Nat) : Int) / 100 ≠ -1; omega
        | succ k =>
          intro hh
          exact e ⟨k, by omega, hh.symm⟩
      rw [if_neg hb]
      refine (nA_one (x := (F (n : Int) / 100).toNat) ?_ ?_ A (by omega) (fun i hi hne => ?_)).symm
      · refine decide_eq_false (fun ⟨j, j1, j2⟩ => e ⟨j, j1, by omega⟩)
      · exact decide_eq_true ⟨n, by omega, by omega⟩
      · apply decide_eq_decide.mpr
        constructor
        · rintro ⟨y, y1, y2⟩; exact ⟨y, by omega, y2⟩
        · rintro ⟨y, y1, y2⟩
          by_cases ey : y = n
          · subst ey; exact absurd (by omega : i = (F (y : Int) / 100).toNat) hne
          · exact ⟨y, by omega, y2⟩
theorem wt_nA {z : Sig} {b : Int} : ∀ n, wtA z b n = (nA (fun a => decide (0 < zfr z b (a : Int))) n : Int) := by
  intro n
  induction n with
  | zero => rfl
  | succ n ih =>
    unfold wtA nA
    rw [ih]
    by_cases e : 0 < zfr z b (n : Int)
    · rw [if_pos e, if_pos (decide_eq_true e)]; omega
    · rw [if_neg e, if_neg (fun h => e (of_decide_eq_true h))]; omega
theorem ls_eq {z : Sig} {b : Int} {x : Nat} : ∀ n, x < n → 0 < zfr z b (x : Int) → (∀ y : Nat, x < y → y < n → ¬ 0 < zfr z b (y : Int)) → lsA z b n = (x : Int) := by
  intro n
  induction n with
  | zero => intro h; omega
  | succ n ih =>
    intro hx h0 h1
    unfold lsA
    by_cases e : x = n
    · subst e; rw [if_pos h0]
    · rw [if_neg (h1 n (by omega) (by omega)), ih (by omega) h0 (fun y a c => h1 y a (by omega))]
theorem Wf.bpos {z : Sig} (h : Wf z) {b : Nat} (hb : b < zb z) : 0 < cntb (zpd z (b : Int)) 20 := by
  obtain ⟨o, ho, hob⟩ := (h.2.2.2.2.2.2.1 b hb).2
  have h5 := h.2.2.2.2.1 o ho
  have hst : zst z (o : Int) = 1 := h5.2.2.2.1.mp (by omega)
  have hmn := h5.2.2.2.2.2.2 (by omega)
  have hk : wnt (zpr z) o (zmn z (o : Int)).toNat ≠ 0 := by
    obtain ⟨k, hk⟩ : ∃ k, (zmn z (o : Int)).toNat = k + 1 := ⟨(zmn z (o : Int)).toNat - 1, by omega⟩
    rw [hk]
    intro e
    have h1 : (wnt (zpr z) o (k + 1)).testBit (zpr z ((5 * o + k : Nat) : Int)).toNat = true := by
      show (wnt (zpr z) o k ||| 2 ^ (zpr z ((5 * o + k : Nat) : Int)).toNat).testBit _ = true
      rw [Nat.testBit_or, Nat.testBit_two_pow_self, Bool.or_true]
    rw [e, Nat.zero_testBit] at h1
    cases h1
  rcases Nat.eq_zero_or_pos (cntb (zpd z (b : Int)) 20) with e | e
  · exfalso
    have hlt : zpd z (b : Int) < 2 ^ 20 := prd_lt _ (fun o ho => zW_lt h.wl ho)
    have e0 := cntb_zero 20 hlt e
    apply hk
    apply Nat.eq_of_testBit_eq
    intro i
    rw [Nat.zero_testBit]
    have h2 : ∀ n, o < n → (prd (zbt z) (zW z) (b : Int) n).testBit i = false → (zW z o).testBit i = false := by
      intro n
      induction n with
      | zero => intro h; omega
      | succ n ih =>
        intro hn h3
        unfold prd at h3
        rw [Nat.testBit_or, Bool.or_eq_false_iff] at h3
        by_cases en : o = n
        · subst en
          rw [if_pos hob] at h3
          exact h3.2
        · exact ih (by omega) h3.1
    exact h2 (zo z) ho (by show (zpd z (b : Int)).testBit i = false; rw [e0, Nat.zero_testBit])
  · exact e
theorem thr_zth {z : Sig} (h : Wf z) {b : Nat} (hb : b < zb z) : thrA (zN z) (zG z) (plc (zP z) (zpd z (b : Int))) (sl (zP z) (zpd z (b : Int)) 20).length = zth z (b : Int) := by
  have hok := h.okB (h.lnB hb)
  have hpos := h.bpos hb
  have hC := h.1
  have hl : (sl (zP z) (zpd z (b : Int)) 20).length = cntb (zpd z (b : Int)) 20 := sl_len _ _ _
  obtain ⟨n, hn⟩ : ∃ n, (sl (zP z) (zpd z (b : Int)) 20).length = n + 1 := ⟨cntb (zpd z (b : Int)) 20 - 1, by omega⟩
  have hpl : ∀ j : Nat, plc (zP z) (zpd z (b : Int)) (j : Int) = zP z (((sl (zP z) (zpd z (b : Int)) 20).getD j 0 : Nat) : Int) := fun j => by
    unfold plc
    rw [show ((j : Int)).toNat = j from Int.toNat_natCast j]
  have hm : ∀ j : Nat, j < n + 1 → (sl (zP z) (zpd z (b : Int)) 20).getD j 0 < 20 ∧ (zpd z (b : Int)).testBit ((sl (zP z) (zpd z (b : Int)) 20).getD j 0) = true := fun j hj => sl_mem _ _ _ j (by omega)
  have hpA : ∀ p : Nat, p < 20 → (zpd z (b : Int)).testBit p = true → 0 ≤ zP z (p : Int) ∧ zP z (p : Int) / 100 < zA z ∧ 1 ≤ zP z (p : Int) % 100 := fun p hp hbit => by
    have h1 := hok.1 p hp hbit
    rcases h.2.2.1 p hp with e | e
    · omega
    · exact ⟨e.1, e.2.1, e.2.2.1⟩
  have hF : ∀ j : Nat, j < n + 1 → 0 ≤ plc (zP z) (zpd z (b : Int)) (j : Int) ∧ plc (zP z) (zpd z (b : Int)) (j : Int) / 100 < ((zA z).toNat : Int) := fun j hj => by
    rw [hpl j]
    have h1 := hpA _ (hm j hj).1 (hm j hj).2
    omega
  have hs : ∀ i j : Nat, i < j → j < n + 1 → plc (zP z) (zpd z (b : Int)) (i : Int) < plc (zP z) (zpd z (b : Int)) (j : Int) := fun i j hij hj => by
    rw [hpl i, hpl j]
    refine sl_lt (fun a c ha hc h1 h2 e => ?_) 20 (Nat.le_refl _) i j hij (by omega)
    refine h.2.2.2.1 a c ha hc e ?_
    have := hok.1 a ha h1
    omega
  have hcn := cntA_nA (A := (zA z).toNat) (n + 1) hF hs
  have hiff : ∀ a : Nat, (∃ j : Nat, j < n + 1 ∧ plc (zP z) (zpd z (b : Int)) (j : Int) / 100 = (a : Int)) ↔ 0 < zfr z (b : Int) (a : Int) := fun a => by
    unfold zfr
    rw [fr_pos hok]
    constructor
    · rintro ⟨j, j1, j2⟩
      exact ⟨_, (hm j j1).1, (hm j j1).2, by rw [← hpl j]; exact j2⟩
    · rintro ⟨p, p1, p2, p3⟩
      obtain ⟨j, j1, j2⟩ := sl_onto (zP z) (zpd z (b : Int)) 20 p p1 p2
      exact ⟨j, by omega, by rw [hpl j, j2]; exact p3⟩
  have hwt : wtA z (b : Int) (zA z).toNat = (cntA (plc (zP z) (zpd z (b : Int))) (n + 1) : Int) := by
    rw [wt_nA, hcn]
    congr 1
    exact nA_congr _ (fun i _ => decide_eq_decide.mpr (hiff i).symm)
  have hL := hF n (by omega)
  have hls : lsA z (b : Int) (zA z).toNat = plc (zP z) (zpd z (b : Int)) (n : Int) / 100 := by
    have h1 := ls_eq (z := z) (b := (b : Int)) (x := (plc (zP z) (zpd z (b : Int)) (n : Int) / 100).toNat) (zA z).toNat (by omega) ((hiff _).mp ⟨n, by omega, by omega⟩) (fun y y1 y2 y3 => by
      obtain ⟨j, j1, j2⟩ := (hiff y).mpr y3
      by_cases e : j = n
      · subst e; omega
      · have := hs j n (by omega) (by omega)
        omega)
    omega
  have hfr : zfr z (b : Int) (plc (zP z) (zpd z (b : Int)) (n : Int) / 100) = plc (zP z) (zpd z (b : Int)) (n : Int) % 100 := by
    have h1 := fr_le (P := zP z) (m := zpd z (b : Int)) (ai := plc (zP z) (zpd z (b : Int)) (n : Int) / 100) 20 _ (hm n (by omega)).1 (hm n (by omega)).2 (by rw [← hpl n])
    have h0 := hpA _ (hm n (by omega)).1 (hm n (by omega)).2
    rw [← hpl n] at h1 h0
    obtain ⟨p, p1, p2, p3, p4⟩ := fr_ex (P := zP z) (m := zpd z (b : Int)) (ai := plc (zP z) (zpd z (b : Int)) (n : Int) / 100) 20 (by omega)
    obtain ⟨j, j1, j2⟩ := sl_onto (zP z) (zpd z (b : Int)) 20 p p1 p2
    have e1 : plc (zP z) (zpd z (b : Int)) (j : Int) = zP z (p : Int) := by rw [hpl j, j2]
    unfold zfr
    by_cases e : j = n
    · subst e; omega
    · have := hs j n (by omega) (by omega)
      omega
  unfold thrA zth
  rw [hn, if_neg (by omega), hls, hwt, hfr, show n + 1 - 1 = n by omega]
  have e5 : 2 * zG z * (plc (zP z) (zpd z (b : Int)) (n : Int) / 100) = 2 * (plc (zP z) (zpd z (b : Int)) (n : Int) / 100) * zG z := by
    rw [Int.mul_assoc, Int.mul_comm (zG z), ← Int.mul_assoc]
  rw [e5]
  congr 1
  by_cases e : ((cntA (plc (zP z) (zpd z (b : Int))) (n + 1) : Nat) : Int) % 2 = 1
  · rw [if_pos e, if_pos (by omega)]
  · rw [if_neg e, if_neg (by omega)]
/-! ===== numbers of lines, of batches ===== -/
theorem wnt_n {pr : Int → Int} {o : Nat} : ∀ k, (∀ i, i < k → (0 ≤ pr ((5 * o + i : Nat) : Int) ∧ pr ((5 * o + i : Nat) : Int) < 20) ∧ (wnt pr o i).testBit (pr ((5 * o + i : Nat) : Int)).toNat = false) → cntb (wnt pr o k) 20 = k := by
  intro k
  induction k with
  | zero => intro _; exact cntb_0 20
  | succ k ih =>
    intro h
    have h1 := h k (by omega)
    show cntb (wnt pr o k ||| 2 ^ (pr ((5 * o + k : Nat) : Int)).toNat) 20 = k + 1
    rw [cntb_set h1.2 (by omega), ih (fun i hi => h i (by omega))]
/-- an order has as many lines as products -/
theorem Wf.mn {z : Sig} (h : Wf z) {o : Nat} (ho : o < zo z) : ((cntb (zW z o) 20 : Nat) : Int) = zmn z (o : Int) := by
  have h1 := h.2.2.2.2.1 o ho
  have h2 := wnt_n (pr := zpr z) (o := o) (zmn z (o : Int)).toNat (fun i hi => ⟨(h.2.2.2.2.2.1 o i ho (by omega)).1, (h.2.2.2.2.2.1 o i ho (by omega)).2.2.2⟩)
  unfold zW
  omega
theorem tkI_1 {P : Int → Int} {p to : Int} : ∀ n, tkI P p to n = 1 ↔ ∃ o : Nat, o < n ∧ (o : Int) ≠ p ∧ P (o : Int) = to := by
  intro n
  constructor
  · induction n with
    | zero => intro h; exact absurd h (by show ¬ (0 : Int) = 1; omega)
    | succ n ih =>
      intro h
      by_cases e : tkI P p to n = 1
      · obtain ⟨o, a, b⟩ := ih e
        exact ⟨o, by omega, b⟩
      · by_cases e2 : (n : Int) ≠ p ∧ P (n : Int) = to
        · exact ⟨n, by omega, e2⟩
        · have := tkI_f (P := P) (p := p) (to := to) (n := n) (by rintro (a | a); exact e a; exact e2 a)
          omega
  · rintro ⟨o, a, b, c⟩
    rcases tkI_b P p to n with e | e
    · exact absurd c (tkI_0 n (by omega) o a b)
    · exact e
theorem firstAt_in {F : Int → Int} {v : Int} : ∀ n, (firstAt F v n = -1 ∧ ∀ j : Nat, j < n → F (j : Int) ≠ v) ∨ ∃ i : Nat, i < n ∧ firstAt F v n = (i : Int) ∧ F (i : Int) = v := by
  intro n
  induction n with
  | zero => exact Or.inl ⟨rfl, fun j h => absurd h (Nat.not_lt_zero _)⟩
  | succ n ih =>
    unfold firstAt
    rcases ih with ⟨h1, h2⟩ | ⟨i, h1, h2, h3⟩
    · rw [if_pos h1]
      by_cases e : F (n : Int) = v
      · rw [if_pos e]
        exact Or.inr ⟨n, by omega, rfl, e⟩
      · rw [if_neg e]
        exact Or.inl ⟨rfl, fun j hj => if en : j = n then en ▸ e else h2 j (by omega)⟩
    · rw [if_neg (by omega)]
      exact Or.inr ⟨i, by omega, h2, h3⟩
/-- another product lies there -/
theorem put_tk {z : Sig} (h : Wf z) {p to : Int} (hto : to ≠ -1) : tkI (zP z) p to 20 = 1 ↔ firstAt (zP z) to 20 ≠ -1 ∧ firstAt (zP z) to 20 ≠ p := by
  rw [tkI_1]
  rcases firstAt_in (F := zP z) (v := to) 20 with ⟨h1, h2⟩ | ⟨i, h1, h2, h3⟩
  · constructor
    · rintro ⟨o, a, -, c⟩; exact absurd c (h2 o a)
    · rintro ⟨a, -⟩; exact absurd h1 a
  · constructor
    · rintro ⟨o, a, b, c⟩
      have e : o = i := h.2.2.2.1 o i a h1 (c.trans h3.symm) (by rw [c]; exact hto)
      subst e
      exact ⟨by omega, by omega⟩
    · rintro ⟨-, b⟩; exact ⟨i, h1, by omega, h3⟩
/-- the greatest number of lines among the first orders that are not done -/
def mxl (z : Sig) : Nat → Int
  | 0 => 0
  | n + 1 => if zst z (n : Int) = 2 then mxl z n else maxI (mxl z n) (zmn z (n : Int))
theorem mxl_b {z : Sig} (h : Wf z) : ∀ n, n ≤ zo z → 0 ≤ mxl z n ∧ mxl z n ≤ 5 := by
  intro n
  induction n with
  | zero => intro _; show 0 ≤ (0 : Int) ∧ (0 : Int) ≤ 5; omega
  | succ n ih =>
    intro hn
    have h1 := ih (by omega)
    have h2 := (h.2.2.2.2.1 n (by omega)).1
    have h3 := maxI_b (mxl z n) (zmn z (n : Int))
    unfold mxl
    split <;> omega
theorem mxl_t {z : Sig} {n : Nat} (h : zst z (n : Int) = 2) : mxl z n = mxl z (n + 1) := by
  rw [show mxl z (n + 1) = if zst z (n : Int) = 2 then mxl z n else maxI (mxl z n) (zmn z (n : Int)) from rfl, if_pos h]
theorem mxl_f {z : Sig} {n : Nat} (h : ¬ zst z (n : Int) = 2) : maxI (mxl z n) (zmn z (n : Int)) = mxl z (n + 1) := by
  rw [show mxl z (n + 1) = if zst z (n : Int) = 2 then mxl z n else maxI (mxl z n) (zmn z (n : Int)) from rfl, if_neg h]
theorem can_mx {z : Sig} {l : Int} (hl : 0 ≤ l) (hz : zb z = 0) : ∀ n, canI z l n = 1 ↔ mxl z n ≤ l := by
  intro n
  induction n with
  | zero => show (if zb z = 0 then (1 : Int) else 0) = 1 ↔ (0 : Int) ≤ l; rw [if_pos hz]; omega
  | succ n ih =>
    have h3 := maxI_b (mxl z n) (zmn z (n : Int))
    unfold canI mxl
    by_cases e : zst z (n : Int) = 2
    · rw [if_pos e]
      by_cases e2 : canI z l n = 1
      · rw [if_pos ⟨e2, Or.inl e⟩]; exact ⟨fun _ => ih.mp e2, fun _ => rfl⟩
      · rw [if_neg (fun h => e2 h.1)]; exact ⟨fun h => by omega, fun h => absurd (ih.mpr h) e2⟩
    · rw [if_neg e]
      by_cases e2 : canI z l n = 1
      · have h4 := ih.mp e2
        by_cases e3 : zmn z (n : Int) ≤ l
        · rw [if_pos ⟨e2, Or.inr e3⟩]; omega
        · rw [if_neg (fun h => h.2.elim e e3)]; omega
      · rw [if_neg (fun h => e2 h.1)]
        have h4 : ¬ mxl z n ≤ l := fun h => e2 (ih.mpr h)
        omega
theorem can_0 {z : Sig} {l : Int} (hz : 0 < zb z) : ∀ n, canI z l n = 0 := by
  intro n
  induction n with
  | zero => show (if zb z = 0 then (1 : Int) else 0) = 0; rw [if_neg (by omega)]
  | succ n ih => unfold canI; rw [if_neg (by rw [ih]; intro h; omega)]
theorem tkN_pos {z : Sig} {t : Int} : ∀ n, tkN z t n = 0 ↔ ∀ o : Nat, o < n → ¬ isT z t o := by
  intro n
  induction n with
  | zero => exact ⟨fun _ o h => absurd h (Nat.not_lt_zero _), fun _ => rfl⟩
  | succ n ih =>
    have h1 := tkN_b z t n
    unfold tkN
    by_cases e : isT z t n
    · rw [if_pos e]
      exact ⟨fun h => by omega, fun h => absurd e (h n (by omega))⟩
    · rw [if_neg e]
      constructor
      · intro h o ho
        by_cases eo : o = n
        · subst eo; exact e
        · exact ih.mp (by omega) o (by omega)
      · intro h
        have := ih.mpr (fun o ho => h o (by omega))
        omega
/-! ===== rows of the savings ===== -/
theorem tkd_sav : ∀ i : Nat, i < 40 → (30 + i, 20) ∈ tkd ∧ (30 + i, 40) ∈ tln := by decide
theorem Top.sat {S : Sto} {q : Nat → Nat} (h : Top S q) {i : Nat} (hi : i < 40) : At0 S (q (30 + i)) 20 := h.at0 _ _ (tkd_sav i hi).1
theorem Top.sln {S : Sto} {q : Nat → Nat} (h : Top S q) {i : Nat} (hi : i < 40) : sN S (q (30 + i)) = 40 := h.ln0 _ _ (tkd_sav i hi).2
/-- the row of a batch -/
def rwn (S : Sto) (w : Shp) (b : Nat) : Nat := (sI S (wb w b) 0).toNat
theorem BtV.rw {S : Sto} {w : Shp} {z : Sig} {n : Nat} (h : BtV S w z n) {b : Nat} (hb : b < n) : sI S (wb w b) 0 = ((rwn S w b : Nat) : Int) ∧ rwn S w b < 40 := by
  have := (h.1 b hb).1
  unfold rwn
  omega
theorem BtV.ri {S : Sto} {w : Shp} {z : Sig} {n : Nat} (h : BtV S w z n) {b b' : Nat} (hb : b < n) (hb' : b' < n) (e : rwn S w b = rwn S w b') : b = b' := h.2 b b' hb hb' (by rw [(h.rw hb).1, (h.rw hb').1, e])
