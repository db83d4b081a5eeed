/-! ===== the best route, stop by stop ===== -/
/-- where it is after i stops, and what is left -/
def rtS (d : Nat → Nat → Int) (n : Nat) : Nat → Nat × Nat
  | 0 => (9, 2 ^ n - 1)
  | i + 1 => (bnI (rtS d n i).2 (fun k => d (rtS d n i).1 k + tr d n ((rtS d n i).2 - 2 ^ k) k) n, (rtS d n i).2 - 2 ^ (bnI (rtS d n i).2 (fun k => d (rtS d n i).1 k + tr d n ((rtS d n i).2 - 2 ^ k) k) n))
theorem step_ex {d : Nat → Nat → Int} {n left src : Nat} (hd : okD d n) (hs : src < n ∨ src = 9) (hl : left < 2 ^ n) (h0 : left ≠ 0) : ∃ j, j < n ∧ left.testBit j = true ∧ d src j + tr d n (left - 2 ^ j) j < 1000000 := by
  obtain ⟨j, h1, h2⟩ := tb_some hl h0
  have h3 := hd.2 src j hs (Or.inl h1)
  have h4 := tr_b hd n (left - 2 ^ j) j (Nat.le_refl _) (Nat.lt_of_le_of_lt (Nat.sub_le _ _) hl) (Or.inl h1)
  have h5 := hd.1
  exact ⟨j, h1, h2, by omega⟩
theorem rtS_ok {d : Nat → Nat → Int} {n : Nat} (hd : okD d n) : ∀ i, i ≤ n → (rtS d n i).2 < 2 ^ n ∧ cntb (rtS d n i).2 n = n - i ∧ ((rtS d n i).1 < n ∨ (rtS d n i).1 = 9) := by
  intro i
  induction i with
  | zero =>
    intro _
    have := Nat.two_pow_pos n
    exact ⟨by show 2 ^ n - 1 < 2 ^ n; omega, cntb_full n, Or.inr rfl⟩
  | succ i ih =>
    intro hi
    obtain ⟨h1, h2, h3⟩ := ih (by omega)
    have h0 : (rtS d n i).2 ≠ 0 := by
      intro e
      rw [e, cntb_0] at h2
      omega
    obtain ⟨b1, b2, b3, b4⟩ := bnI_spec (step_ex hd h3 h1 h0)
    have h4 := cntb_take b2 b1
    refine ⟨Nat.lt_of_le_of_lt (Nat.sub_le _ _) h1, ?_, Or.inl b1⟩
    show cntb ((rtS d n i).2 - 2 ^ _) n = _
    omega
theorem rtS_bit {d : Nat → Nat → Int} {n i : Nat} (hd : okD d n) (hi : i < n) : (rtS d n (i + 1)).1 < n ∧ (rtS d n i).2.testBit (rtS d n (i + 1)).1 = true ∧ d (rtS d n i).1 (rtS d n (i + 1)).1 + tr d n (rtS d n (i + 1)).2 (rtS d n (i + 1)).1 = tr d n (rtS d n i).2 (rtS d n i).1 ∧ ∀ j, j < (rtS d n (i + 1)).1 → (rtS d n i).2.testBit j = true → tr d n (rtS d n i).2 (rtS d n i).1 < d (rtS d n i).1 j + tr d n ((rtS d n i).2 - 2 ^ j) j := by
  obtain ⟨h1, h2, h3⟩ := rtS_ok hd i (by omega)
  have h0 : (rtS d n i).2 ≠ 0 := by
    intro e
    rw [e, cntb_0] at h2
    omega
  obtain ⟨b1, b2, b3, b4⟩ := bnI_spec (step_ex hd h3 h1 h0)
  refine ⟨b1, b2, ?_, ?_⟩
  · rw [tr_step d n h0, ← b3]
    rfl
  · rw [tr_step d n h0, ← b3]
    exact b4
theorem rtS_onto {d : Nat → Nat → Int} {n : Nat} (hd : okD d n) : ∀ i, i ≤ n → ∀ j, j < n → (rtS d n i).2.testBit j = true ∨ ∃ x, x < i ∧ (rtS d n (x + 1)).1 = j := by
  intro i
  induction i with
  | zero => intro _ j hj; exact Or.inl (by show (2 ^ n - 1).testBit j = true; rw [tb_full]; exact decide_eq_true hj)
  | succ i ih =>
    intro hi j hj
    obtain ⟨b1, b2, -, -⟩ := rtS_bit hd (i := i) (by omega)
    rcases ih (by omega) j hj with h | ⟨x, h1, h2⟩
    · by_cases e : j = (rtS d n (i + 1)).1
      · exact Or.inr ⟨i, by omega, e.symm⟩
      · refine Or.inl ?_
        show ((rtS d n i).2 - 2 ^ (rtS d n (i + 1)).1).testBit j = true
        rw [tb_sub b2, h]
        simp [e]
    · exact Or.inr ⟨x, by omega, h2⟩
/-- every stop comes -/
theorem rtS_all {d : Nat → Nat → Int} {n j : Nat} (hd : okD d n) (hj : j < n) : ∃ x, x < n ∧ (rtS d n (x + 1)).1 = j := by
  rcases rtS_onto hd n (Nat.le_refl _) j hj with h | h
  · exfalso
    obtain ⟨h1, h2, -⟩ := rtS_ok hd n (Nat.le_refl _)
    have h3 := cntb_zero n h1 (by omega)
    rw [h3, Nat.zero_testBit] at h
    cases h
  · exact h
/-- the places by which the best route of m comes -/
def rout (N G : Int) (P : Int → Int) (m : Nat) (i : Nat) : Int := P (((sl P m 20).getD (rtS (dd N G P (sl P m 20)) (sl P m 20).length (i + 1)).1 0 : Nat) : Int)
def RtB (S : Sto) (q : Nat → Nat) (m a i : Nat) (f : Nat → Int → Int) : Prop := (∀ b j, b ≠ a → ¬ RSc q b j → f b j = sI S b j) ∧ f (q 29) 9 = 0 ∧ Rt (wI S f) q (sll S q m).length (dM S q m) ∧ Onw (sll S q m).length (dM S q m) (f (q 12)) (2 ^ (sll S q m).length) ∧ (∀ j : Nat, j < (sll S q m).length → f (q 10) (j : Int) = sI S (q 6) (((sll S q m).getD j 0 : Nat) : Int)) ∧ ∀ x : Nat, x < i → f a (x : Int) = rout (sI S (q 1) 1) (sI S (q 1) 2) (sI S (q 6)) m x
theorem Rt.row {S : Sto} {q : Nat → Nat} {n : Nat} {d : Nat → Nat → Int} {f h : Nat → Int → Int} (hr : Rt (wI S f) q n d) (e : ∀ i ∈ tix, h (q i) = f (q i)) : Rt (wI S h) q n d := by
  obtain ⟨h1, h2, h3, h4, h5, h6⟩ := hr
  have hn := h2.1
  refine ⟨?_, h2, fun x y hx hy => ?_, fun x hx => ?_, fun x hx => ?_, ?_⟩
  · exact (congrFun (e 2 (by decide)) _).trans h1
  · exact (congrFun (e _ (tix_way x (by omega))) _).trans (h3 x y hx hy)
  · exact (congrFun (e _ (tix_way x (by omega))) _).trans (h4 x hx)
  · exact (congrFun (e 29 (by decide)) _).trans (h5 x hx)
  · exact (congrFun (e 29 (by decide)) _).trans h6
theorem RtB.init {S : Sto} {q : Nat → Nat} {m a : Nat} {f : Nat → Int → Int} {F : Int → Int} (hT : Top S q) (ha : a ∉ sL S) (h : GatB S q m (sll S q m).length f) (hRt : Rt (wI S f) q (sll S q m).length (dM S q m)) (hO : Onw (sll S q m).length (dM S q m) F (2 ^ (sll S q m).length)) : RtB S q m a 0 (va_up (row1 f (q 12) F) a (fun _ => 0)) := by
  have hne : ∀ i ∈ tix, q i ≠ a := fun i hi => hT.new ha i hi
  refine ⟨fun b j hb hn => ?_, ?_, ?_, ?_, fun j hj => ?_, fun x hx => absurd hx (Nat.not_lt_zero _)⟩
  · rw [va_up_ne _ _ hb, row1_ne _ _ _ (fun e => hn (Or.inr (Or.inr (Or.inr e))))]
    exact h.kept.1 b j hn
  · rw [va_up_ne _ _ (hne 29 (by decide)), row1_ne _ _ _ (hT.ne 29 12)]
    exact h.2.1
  · have h1 : Rt (wI S (row1 f (q 12) F)) q (sll S q m).length (dM S q m) := Rt.of (S := wI S f) (T := wI S (row1 f (q 12) F)) hT hRt (fun a k h => row1_ne _ _ _ h)
    exact h1.row (fun i hi => va_up_ne _ _ (hne i hi))
  · rw [va_up_ne _ _ (hne 12 (by decide))]
    exact Onw.of (fun j => row1_same _ _ _ _) hO
  · rw [va_up_ne _ _ (hne 10 (by decide)), row1_ne _ _ _ (hT.ne 10 12)]
    exact h.2.2.2.1 j hj
theorem RtB.put {S : Sto} {q : Nat → Nat} {m a i : Nat} {f : Nat → Int → Int} (hT : Top S q) (ha : a ∉ sL S) (h : RtB S q m a i f) : RtB S q m a (i + 1) (up2 f a (i : Int) (rout (sI S (q 1) 1) (sI S (q 1) 2) (sI S (q 6)) m i)) := by
  have hne : ∀ i ∈ tix, q i ≠ a := fun i hi => hT.new ha i hi
  obtain ⟨h1, h2, h3, h4, h5, h6⟩ := h
  refine ⟨fun b j hb hn => ?_, ?_, ?_, ?_, fun j hj => ?_, fun x hx => ?_⟩
  · rw [up2_ne _ _ _ _ hb]; exact h1 b j hb hn
  · rw [up2_ne _ _ _ _ (hne 29 (by decide))]; exact h2
  · exact h3.row (fun i hi => up2_row _ _ _ (hne i hi))
  · rw [up2_row _ _ _ (hne 12 (by decide))]; exact h4
  · rw [up2_ne _ _ _ _ (hne 10 (by decide))]; exact h5 j hj
  · by_cases e : x = i
    · subst e; rw [up2_same]
    · rw [up2_nk _ _ _ _ (by omega)]; exact h6 x (by omega)
