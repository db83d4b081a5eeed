/-! ===== what the router's rows hold while places are gathered ===== -/
theorem insPosN_t' {b : Nat → Bool} {a : Nat} (ha : 0 < a) (h : b (a - 1) = true) : insPosN b a = insPosN b (a - 1) := by
  obtain ⟨k, rfl⟩ : ∃ k, a = k + 1 := ⟨a - 1, by omega⟩
  exact insPosN_t h
theorem insPosN_f' {b : Nat → Bool} {a : Nat} (h : a = 0 ∨ (0 < a ∧ b (a - 1) = false)) : insPosN b a = a := by
  rcases h with h | ⟨h1, h2⟩
  · rw [h]; rfl
  · obtain ⟨k, rfl⟩ : ∃ k, a = k + 1 := ⟨a - 1, by omega⟩
    exact insPosN_f h2
theorem shf_step' (F : Int → Int) {a n : Nat} (ha : 0 < a) (hp : a ≤ n) : upd1 (shf F a n) (a : Int) (F ((a - 1 : Nat) : Int)) = shf F (a - 1) n := by
  obtain ⟨k, rfl⟩ : ∃ k, a = k + 1 := ⟨a - 1, by omega⟩
  exact shf_step F hp
theorem wI_self (S : Sto) : S = wI S (sI S) := rfl
theorem Top.wat {S : Sto} {q : Nat → Nat} (h : Top S q) {i : Nat} (hi : i < 10) : At0 S (q (20 + i)) 20 := by
  rcases (show i = 0 ∨ i = 1 ∨ i = 2 ∨ i = 3 ∨ i = 4 ∨ i = 5 ∨ i = 6 ∨ i = 7 ∨ i = 8 ∨ i = 9 by omega) with e | e | e | e | e | e | e | e | e | e <;> subst e
  · exact h.at0 20 20
  · exact h.at0 21 20
  · exact h.at0 22 20
  · exact h.at0 23 20
  · exact h.at0 24 20
  · exact h.at0 25 20
  · exact h.at0 26 20
  · exact h.at0 27 20
  · exact h.at0 28 20
  · exact h.at0 29 20
theorem Top.wln {S : Sto} {q : Nat → Nat} (h : Top S q) {i : Nat} (hi : i < 10) : sN S (q (20 + i)) = 10 := by
  rcases (show i = 0 ∨ i = 1 ∨ i = 2 ∨ i = 3 ∨ i = 4 ∨ i = 5 ∨ i = 6 ∨ i = 7 ∨ i = 8 ∨ i = 9 by omega) with e | e | e | e | e | e | e | e | e | e <;> subst e
  · exact h.ln0 20 10
  · exact h.ln0 21 10
  · exact h.ln0 22 10
  · exact h.ln0 23 10
  · exact h.ln0 24 10
  · exact h.ln0 25 10
  · exact h.ln0 26 10
  · exact h.ln0 27 10
  · exact h.ln0 28 10
  · exact h.ln0 29 10
theorem tix_way : ∀ i : Nat, i < 10 → 20 + i ∈ tix := by decide
theorem tix_sav : ∀ i : Nat, i < 40 → 30 + i ∈ tix := by decide
theorem Top.wne {S : Sto} {q : Nat → Nat} (h : Top S q) {i j : Nat} (hi : i < 10) (hj : j ∈ tix) (hn : 20 + i ≠ j) : q (20 + i) ≠ q j := fun e => hn (h.2.2.1 _ (tix_way i hi) j hj e)
theorem Top.wne' {S : Sto} {q : Nat → Nat} (h : Top S q) {i j : Nat} (hi : i < 10) (hj : j ∈ tix) (hn : 20 + i ≠ j) : q j ≠ q (20 + i) := fun e => h.wne hi hj hn e.symm
def isWay (q : Nat → Nat) (a : Nat) : Prop := ∃ i, i < 10 ∧ a = q (20 + i)
theorem Top.nway {S : Sto} {q : Nat → Nat} (h : Top S q) (j : Nat) (hj : j ∈ tix := by decide) (hn : j < 20 ∨ 30 ≤ j := by decide) : ¬ isWay q (q j) := by
  intro ⟨i, hi, e⟩
  exact h.wne' hi hj (by omega) e
/-- the sorted places of the products of m below p, while they are gathered -/
def GatA (S : Sto) (q : Nat → Nat) (m p : Nat) (f : Nat → Int → Int) : Prop := (∀ a j, ¬ (a = q 2 ∧ j = 2) → a ≠ q 10 → f a j = sI S a j) ∧ f (q 2) 2 = ((sl (sI S (q 6)) m p).length : Int) ∧ ∀ j : Nat, j < (sl (sI S (q 6)) m p).length → f (q 10) (j : Int) = sI S (q 6) (((sl (sI S (q 6)) m p).getD j 0 : Nat) : Int)
theorem GatA.init {S : Sto} {q : Nat → Nat} {m : Nat} : GatA S q m 0 (up2 (sI S) (q 2) 2 0) := by
  refine ⟨fun a j h1 h2 => ?_, up2_same _ _ _ _, fun j hj => absurd hj (Nat.not_lt_zero _)⟩
  unfold up2
  rw [if_neg h1]
theorem GatA.skip {S : Sto} {q : Nat → Nat} {m p : Nat} {f : Nat → Int → Int} (h : GatA S q m p f) (hb : ¬ m.testBit p = true) : GatA S q m (p + 1) f := by
  have e : sl (sI S (q 6)) m (p + 1) = sl (sI S (q 6)) m p := by
    show (if m.testBit p = true then _ else _) = _
    rw [if_neg hb]
  unfold GatA
  rw [e]
  exact h
theorem GatA.put {S : Sto} {q : Nat → Nat} {m p : Nat} {f : Nat → Int → Int} (hT : Top S q) (h : GatA S q m p f) (hb : m.testBit p = true) : GatA S q m (p + 1) (up2 (row1 f (q 10) (insAt (f (q 10)) (insPosN (fun j => decide (sI S (q 6) (p : Int) < f (q 10) (j : Int))) (sl (sI S (q 6)) m p).length) (sl (sI S (q 6)) m p).length (sI S (q 6) (p : Int)))) (q 2) 2 ((sl (sI S (q 6)) m p).length + 1)) := by
  have e : sl (sI S (q 6)) m (p + 1) = insL (fun x => decide (sI S (q 6) (p : Int) < sI S (q 6) (x : Int))) (sl (sI S (q 6)) m p) p := by
    show (if m.testBit p = true then _ else _) = _
    rw [if_pos hb]
  refine ⟨fun a j h1 h2 => ?_, ?_, ?_⟩
  · have h3 : up2 (row1 f (q 10) (insAt (f (q 10)) (insPosN (fun j => decide (sI S (q 6) (p : Int) < f (q 10) (j : Int))) (sl (sI S (q 6)) m p).length) (sl (sI S (q 6)) m p).length (sI S (q 6) (p : Int)))) (q 2) 2 ((sl (sI S (q 6)) m p).length + 1) a j = f a j := by
      unfold up2
      rw [if_neg h1, row1_ne _ _ _ h2]
    rw [h3]
    exact h.1 a j h1 h2
  · rw [up2_same, e, insL_len]
    rfl
  · rw [e]
    intro j hj
    have hne : q 10 ≠ q 2 := hT.ne 10 2
    rw [up2_ne _ _ _ _ hne, row1_same]
    exact ins_rep (h := fun x => sI S (q 6) (x : Int)) h.2.2 (fun j hj => by rw [h.2.2 j hj]) j hj
/-- all of them are gathered -/
theorem GatA.fin {S : Sto} {q : Nat → Nat} {m p : Nat} {f : Nat → Int → Int} (hm : cntb m 20 ≤ 9) (hp : p ≤ 20) (h : GatA S q m p f) (hc : (9 : Int) ≤ ((sl (sI S (q 6)) m p).length : Int) ∨ (20 : Int) ≤ p) : GatA S q m 20 f := by
  by_cases h20 : p = 20
  · rw [← h20]; exact h
  · have hl : 9 ≤ cntb m p := by
      rcases hc with hc | hc
      · rw [sl_len] at hc; omega
      · omega
    have key : ∀ k, p ≤ k → k ≤ 20 → sl (sI S (q 6)) m k = sl (sI S (q 6)) m p := by
      intro k
      induction k with
      | zero => intro h1 _; rw [show p = 0 by omega]
      | succ k ih =>
        intro h1 h2
        by_cases e : p = k + 1
        · rw [e]
        · have hk := ih (by omega) (by omega)
          have c1 := cntb_mono m h1
          have c2 := cntb_mono m h2
          have c3 : cntb m p ≤ cntb m k := cntb_mono m (by omega)
          have hb : ¬ m.testBit k = true := by
            intro hb
            have c4 : cntb m (k + 1) = cntb m k + 1 := by
              show cntb m k + (if m.testBit k = true then 1 else 0) = _
              rw [if_pos hb]
            omega
          rw [← hk]
          show (if m.testBit k = true then _ else _) = _
          rw [if_neg hb]
    have e := key 20 hp (Nat.le_refl _)
    unfold GatA
    rw [e]
    exact h
def NN (S : Sto) (q : Nat → Nat) : Int := sI S (q 1) 1
def GG' (S : Sto) (q : Nat → Nat) : Int := sI S (q 1) 2
/-- the products of m, sorted; their distances -/
abbrev sll (S : Sto) (q : Nat → Nat) (m : Nat) : List Nat := sl (sI S (q 6)) m 20
abbrev dM (S : Sto) (q : Nat → Nat) (m : Nat) : Nat → Nat → Int := dd (sI S (q 1) 1) (sI S (q 1) 2) (sI S (q 6)) (sll S q m)
def GatB (S : Sto) (q : Nat → Nat) (m i : Nat) (f : Nat → Int → Int) : Prop := (∀ a j, ¬ (a = q 2 ∧ j = 2) → a ≠ q 10 → ¬ isWay q a → f a j = sI S a j) ∧ f (q 2) 2 = ((sll S q m).length : Int) ∧ (∀ j : Nat, j < (sll S q m).length → f (q 10) (j : Int) = sI S (q 6) (((sll S q m).getD j 0 : Nat) : Int)) ∧ ∀ x : Nat, x < i → f (q (20 + x)) 9 = dM S q m x 9 ∧ f (q 29) (x : Int) = dM S q m 9 x ∧ ∀ y : Nat, y < (sll S q m).length → f (q (20 + x)) (y : Int) = dM S q m x y
theorem GatB.init {S : Sto} {q : Nat → Nat} {m : Nat} {f : Nat → Int → Int} (h : GatA S q m 20 f) : GatB S q m 0 f := ⟨fun a j h1 h2 _ => h.1 a j h1 h2, h.2.1, h.2.2, fun x hx => absurd hx (Nat.not_lt_zero _)⟩
def GatC (S : Sto) (q : Nat → Nat) (m i j : Nat) (f : Nat → Int → Int) : Prop := GatB S q m i f ∧ f (q (20 + i)) 9 = dM S q m i 9 ∧ f (q 29) (i : Int) = dM S q m 9 i ∧ ∀ y : Nat, y < j → f (q (20 + i)) (y : Int) = dM S q m i y
/-- a way of the row i is noted -/
theorem GatB.row {S : Sto} {q : Nat → Nat} {m i : Nat} {f : Nat → Int → Int} (hT : Top S q) (h : GatB S q m i f) {x : Nat} (hx : x < 10) (hxi : i ≤ x) (k v : Int) (hk : x = 9 → ∀ z : Nat, z < i → k ≠ (z : Int)) : GatB S q m i (up2 f (q (20 + x)) k v) := by
  refine ⟨fun a j h1 h2 h3 => ?_, ?_, fun j hj => ?_, fun z hz => ?_⟩
  · rw [up2_ne _ _ _ _ (fun e => h3 ⟨x, hx, e⟩)]
    exact h.1 a j h1 h2 h3
  · rw [up2_ne _ _ _ _ (hT.wne' hx (by decide) (by omega))]
    exact h.2.1
  · rw [up2_ne _ _ _ _ (hT.wne' hx (by decide) (by omega))]
    exact h.2.2.1 j hj
  · have h4 := h.2.2.2 z hz
    have hne : q (20 + z) ≠ q (20 + x) := hT.wne' hx (tix_way z (by omega)) (by omega)
    refine ⟨?_, ?_, fun y hy => ?_⟩
    · rw [up2_ne _ _ _ _ hne]; exact h4.1
    · by_cases e : x = 9
      · subst e
        rw [up2_nk _ _ _ _ (fun e2 => hk rfl z hz e2.symm)]
        exact h4.2.1
      · rw [up2_ne _ _ _ _ (hT.wne' (j := 29) hx (by decide) (by omega))]
        exact h4.2.1
    · rw [up2_ne _ _ _ _ hne]; exact h4.2.2 y hy
theorem GatC.init {S : Sto} {q : Nat → Nat} {m i : Nat} {f : Nat → Int → Int} (hT : Top S q) (h : GatB S q m i f) (hi : i < 9) (v : Int) (hv : v = dM S q m i 9) (hv2 : v = dM S q m 9 i) : GatC S q m i 0 (up2 (up2 f (q (20 + i)) 9 v) (q 29) (i : Int) v) := by
  have h1 := h.row hT (x := i) (by omega) (Nat.le_refl _) 9 v (by omega)
  have h2 := h1.row hT (x := 9) (by omega) (by omega) (i : Int) v (fun _ z hz => by omega)
  refine ⟨h2, ?_, ?_, fun y hy => absurd hy (Nat.not_lt_zero _)⟩
  · rw [up2_ne _ _ _ _ (hT.wne (j := 29) (by omega) (by decide) (by omega)), up2_same, hv]
  · rw [up2_same, hv2]
theorem GatC.step {S : Sto} {q : Nat → Nat} {m i j : Nat} {f : Nat → Int → Int} (hT : Top S q) (h : GatC S q m i j f) (hi : i < 9) (hj : j < 9) (v : Int) (hv : v = dM S q m i j) : GatC S q m i (j + 1) (up2 f (q (20 + i)) (j : Int) v) := by
  have h1 := h.1.row hT (x := i) (by omega) (Nat.le_refl _) (j : Int) v (by omega)
  refine ⟨h1, ?_, ?_, fun y hy => ?_⟩
  · rw [up2_nk _ _ _ _ (by omega)]; exact h.2.1
  · rw [up2_ne _ _ _ _ (hT.wne' (j := 29) (by omega) (by decide) (by omega))]; exact h.2.2.1
  · by_cases e : y = j
    · subst e; rw [up2_same, hv]
    · rw [up2_nk _ _ _ _ (by omega)]; exact h.2.2.2 y (by omega)
theorem GatC.done {S : Sto} {q : Nat → Nat} {m i j : Nat} {f : Nat → Int → Int} (h : GatC S q m i j f) (hj : (sll S q m).length ≤ j) : GatB S q m (i + 1) f := by
  refine ⟨h.1.1, h.1.2.1, h.1.2.2.1, fun x hx => ?_⟩
  by_cases e : x = i
  · subst e
    exact ⟨h.2.1, h.2.2.1, fun y hy => h.2.2.2 y (by omega)⟩
  · exact h.1.2.2.2 x (by omega)
/-- the router's table of ways for n stops -/
def Rt (S : Sto) (q : Nat → Nat) (n : Nat) (d : Nat → Nat → Int) : Prop := sI S (q 2) 2 = (n : Int) ∧ okD d n ∧ (∀ x y : Nat, x < n → y < n → sI S (q (20 + x)) (y : Int) = d x y) ∧ (∀ x : Nat, x < n → sI S (q (20 + x)) 9 = d x 9) ∧ ∀ x : Nat, x < n → sI S (q 29) (x : Int) = d 9 x
theorem GatB.rt {S : Sto} {q : Nat → Nat} {m : Nat} {f : Nat → Int → Int} (hCf : Cf S q) (hm : okM (sI S (q 1) 1) (sI S (q 6)) m) (h : GatB S q m (sll S q m).length f) : Rt (wI S f) q (sll S q m).length (dM S q m) := by
  obtain ⟨hA1, hA2, hN1, hN2, hG1, hG2⟩ := hCf
  exact ⟨h.2.1, okM_okD ⟨hN1, hN2⟩ ⟨hG1, hG2⟩ hm, fun x y hx hy => (h.2.2.2 x hx).2.2 y hy, fun x hx => (h.2.2.2 x hx).1, fun x hx => (h.2.2.2 x hx).2.1⟩
/-- a point of the table, and a stop -/
theorem Rt.get {S : Sto} {q : Nat → Nat} {n : Nat} {d : Nat → Nat → Int} (h : Rt S q n d) {x y : Nat} (hx : x < n ∨ x = 9) (hy : y < n) : sI S (q (20 + x)) (y : Int) = d x y := by
  rcases hx with hx | hx
  · exact h.2.2.1 x y hx hy
  · subst hx; exact h.2.2.2.2 y hy
/-- the table of the least ways on, for the sets below b -/
def Onw (n : Nat) (d : Nat → Nat → Int) (F : Int → Int) (b : Nat) : Prop := ∀ left src : Nat, left < b → src < n → left.testBit src = false → F ((left * 9 + src : Nat) : Int) = tr d n left src
theorem Cf.of {S T : Sto} {q : Nat → Nat} (h : Cf S q) (e : ∀ k : Int, sI T (q 1) k = sI S (q 1) k) : Cf T q := by
  unfold Cf
  rw [e, e, e]
  exact h
