/-! ===== what the router's rows hold while places are gathered ===== -/
theorem insPosN_t' {b : Nat → Bool} {a : Nat} (ha : 0 < a) (h : b (a - 1) = true) : insPosN b a = insPosN b (a - 1) := by
  obtain ⟨k, rfl⟩ : ∃ k, a = k + 1 := ⟨a - 1, by omega⟩
  exact insPosN_t h
theorem insPosN_f' {b : Nat → Bool} {a : Nat} (h : a = 0 ∨ (0 < a ∧ b (a - 1) = false)) : insPosN b a = a := by
  rcases h with h | ⟨h1, h2⟩
  · rw [h]; rfl
  · obtain ⟨k, rfl⟩ : ∃ k, a = k + 1 := ⟨a - 1, by omega⟩
    exact insPosN_f h2
theorem shf_step' (F : Int → Int) {a n : Nat} (ha : 0 < a) (hp : a ≤ n) : upd1 (shf F a n) (a : Int) (F ((a - 1 : Nat) : Int)) = shf F (a - 1) n := by
  obtain ⟨k, rfl⟩ : ∃ k, a = k + 1 := ⟨a - 1, by omega⟩
  exact shf_step F hp
theorem wI_self (S : Sto) : S = wI S (sI S) := rfl
theorem Top.wat {S : Sto} {q : Nat → Nat} (h : Top S q) {i : Nat} (hi : i < 10) : At0 S (q (20 + i)) 20 := by
  rcases (show i = 0 ∨ i = 1 ∨ i = 2 ∨ i = 3 ∨ i = 4 ∨ i = 5 ∨ i = 6 ∨ i = 7 ∨ i = 8 ∨ i = 9 by omega) with e | e | e | e | e | e | e | e | e | e <;> subst e
  · exact h.at0 20 20
  · exact h.at0 21 20
  · exact h.at0 22 20
  · exact h.at0 23 20
  · exact h.at0 24 20
  · exact h.at0 25 20
  · exact h.at0 26 20
  · exact h.at0 27 20
  · exact h.at0 28 20
  · exact h.at0 29 20
theorem Top.wln {S : Sto} {q : Nat → Nat} (h : Top S q) {i : Nat} (hi : i < 10) : sN S (q (20 + i)) = 10 := by
  rcases (show i = 0 ∨ i = 1 ∨ i = 2 ∨ i = 3 ∨ i = 4 ∨ i = 5 ∨ i = 6 ∨ i = 7 ∨ i = 8 ∨ i = 9 by omega) with e | e | e | e | e | e | e | e | e | e <;> subst e
  · exact h.ln0 20 10
  · exact h.ln0 21 10
  · exact h.ln0 22 10
  · exact h.ln0 23 10
  · exact h.ln0 24 10
  · exact h.ln0 25 10
  · exact h.ln0 26 10
  · exact h.ln0 27 10
  · exact h.ln0 28 10
  · exact h.ln0 29 10
theorem tix_way : ∀ i : Nat, i < 10 → 20 + i ∈ tix := by decide
theorem tix_sav : ∀ i : Nat, i < 40 → 30 + i ∈ tix := by decide
theorem Top.wne {S : Sto} {q : Nat → Nat} (h : Top S q) {i j : Nat} (hi : i < 10) (hj : j ∈ tix) (hn : 20 + i ≠ j) : q (20 + i) ≠ q j := fun e => hn (h.2.2.1 _ (tix_way i hi) j hj e)
theorem Top.wne' {S : Sto} {q : Nat → Nat} (h : Top S q) {i j : Nat} (hi : i < 10) (hj : j ∈ tix) (hn : 20 + i ≠ j) : q j ≠ q (20 + i) := fun e => h.wne hi hj hn e.symm
def isWay (q : Nat → Nat) (a : Nat) : Prop := ∃ i, i < 10 ∧ a = q (20 + i)
theorem Top.nway {S : Sto} {q : Nat → Nat} (h : Top S q) (j : Nat) (hj : j ∈ tix := by decide) (hn : j < 20 ∨ 30 ≤ j := by decide) : ¬ isWay q (q j) := by
  intro ⟨i, hi, e⟩
  exact h.wne' hi hj (by omega) e
/-- the sorted places of the products of m below p, while they are gathered -/
def GatA (S : Sto) (q : Nat → Nat) (m p : Nat) (f : Nat → Int → Int) : Prop := (∀ a j, ¬ (a = q 2 ∧ j = 2) → a ≠ q 10 → f a j = sI S a j) ∧ f (q 2) 2 = ((sl (sI S (q 6)) m p).length : Int) ∧ ∀ j : Nat, j < (sl (sI S (q 6)) m p).length → f (q 10) (j : Int) = sI S (q 6) (((sl (sI S (q 6)) m p).getD j 0 : Nat) : Int)
theorem GatA.init {S : Sto} {q : Nat → Nat} {m : Nat} : GatA S q m 0 (up2 (sI S) (q 2) 2 0) := by
  refine ⟨fun a j h1 h2 => ?_, up2_same _ _ _ _, fun j hj => absurd hj (Nat.not_lt_zero _)⟩
  unfold up2
  rw [if_neg h1]
theorem GatA.skip {S : Sto} {q : Nat → Nat} {m p : Nat} {f : Nat → Int → Int} (h : GatA S q m p f) (hb : ¬ m.testBit p = true) : GatA S q m (p + 1) f := by
  have e : sl (sI S (q 6)) m (p + 1) = sl (sI S (q 6)) m p := by
    show (if m.testBit p = true then _ else _) = _
    rw [if_neg hb]
  unfold GatA
  rw [e]
  exact h
theorem GatA.put {S : Sto} {q : Nat → Nat} {m p : Nat} {f : Nat → Int → Int} (hT : Top S q) (h : GatA S q m p f) (hb : m.testBit p = true) : GatA S q m (p + 1) (up2 (row1 f (q 10) (insAt (f (q 10)) (insPosN (fun j => decide (sI S (q 6) (p : Int) < f (q 10) (j : Int))) (sl (sI S (q 6)) m p).length) (sl (sI S (q 6)) m p).length (sI S (q 6) (p : Int)))) (q 2) 2 ((sl (sI S (q 6)) m p).length + 1)) := by
  have e : sl (sI S (q 6)) m (p + 1) = insL (fun x => decide (sI S (q 6) (p : Int) < sI S (q 6) (x : Int))) (sl (sI S (q 6)) m p) p := by
    show (if m.testBit p = true then _ else _) = _
    rw [if_pos hb]
  refine ⟨fun a j h1 h2 => ?_, ?_, ?_⟩
  · have h3 : up2 (row1 f (q 10) (insAt (f (q 10)) (insPosN (fun j => decide (sI S (q 6) (p : Int) < f (q 10) (j : Int))) (sl (sI S (q 6)) m p).length) (sl (sI S (q 6)) m p).length (sI S (q 6) (p : Int)))) (q 2) 2 ((sl (sI S (q 6)) m p).length + 1) a j = f a j := by
      unfold up2
      rw [if_neg h1, row1_ne _ _ _ h2]
    rw [h3]
    exact h.1 a j h1 h2
  · rw [up2_same, e, insL_len]
    rfl
  · rw [e]
    intro j hj
    have hne : q 10 ≠ q 2 := hT.ne 10 2
    rw [up2_ne _ _ _ _ hne, row1_same]
    exact ins_rep (h := fun x => sI S (q 6) (x : Int)) h.2.2 (fun j hj => by rw [h.2.2 j hj]) j hj
/-- all of them are gathered -/
theorem GatA.fin {S : Sto} {q : Nat → Nat} {m p : Nat} {f : Nat → Int → Int} (hm : cntb m 20 ≤ 9) (hp : p ≤ 20) (h : GatA S q m p f) (hc : (9 : Int) ≤ ((sl (sI S (q 6)) m p).length : Int) ∨ (20 : Int) ≤ p) : GatA S q m 20 f := by
  by_cases h20 : p = 20
  · rw [← h20]; exact h
  · have hl : 9 ≤ cntb m p := by
      rcases hc with hc | hc
      · rw [sl_len] at hc; omega
      · omega
    have key : ∀ k, p ≤ k → k ≤ 20 → sl (sI S (q 6)) m k = sl (sI S (q 6)) m p := by
      intro k
      induction k with
      | zero => intro h1 _; rw [show p = 0 by omega]
      | succ k ih =>
        intro h1 h2
        by_cases e : p = k + 1
        · rw [e]
        · have hk := ih (by omega) (by omega)
          have c1 := cntb_mono m h1
          have c2 := cntb_mono m h2
          have c3 : cntb m p ≤ cntb m k := cntb_mono m (by omega)
          have hb : ¬ m.testBit k = true := by
            intro hb
            have c4 : cntb m (k + 1) = cntb m k + 1 := by
              show cntb m k + (if m.testBit k = true then 1 else 0) = _
              rw [if_pos hb]
            omega
          rw [← hk]
          show (if m.testBit k = true then _ else _) = _
          rw [if_neg hb]
    have e := key 20 hp (Nat.le_refl _)
    unfold GatA
    rw [e]
    exact h
def NN (S : Sto) (q : Nat → Nat) : Int := sI S (q 1) 1
def GG' (S : Sto) (q : Nat → Nat) : Int := sI S (q 1) 2
/-- the products of m, sorted; their distances -/
abbrev sll (S : Sto) (q : Nat → Nat) (m : Nat) : List Nat := sl (sI S (q 6)) m 20
abbrev dM (S : Sto) (q : Nat → Nat) (m : Nat) : Nat → Nat → Int := dd (sI S (q 1) 1) (sI S (q 1) 2) (sI S (q 6)) (sll S q m)
def GatB (S : Sto) (q : Nat → Nat) (m i : Nat) (f : Nat → Int → Int) : Prop := (∀ a j, ¬ (a = q 2 ∧ j = 2) → a ≠ q 10 → ¬ isWay q a → f a j = sI S a j) ∧ f (q 29) 9 = 0 ∧ f (q 2) 2 = ((sll S q m).length : Int) ∧ (∀ j : Nat, j < (sll S q m).length → f (q 10) (j : Int) = sI S (q 6) (((sll S q m).getD j 0 : Nat) : Int)) ∧ ∀ x : Nat, x < i → f (q (20 + x)) 9 = dM S q m x 9 ∧ f (q 29) (x : Int) = dM S q m 9 x ∧ ∀ y : Nat, y < (sll S q m).length → f (q (20 + x)) (y : Int) = dM S q m x y
theorem GatB.init {S : Sto} {q : Nat → Nat} {m : Nat} {f : Nat → Int → Int} (hT : Top S q) (hz : sI S (q 29) 9 = 0) (h : GatA S q m 20 f) : GatB S q m 0 f := ⟨fun a j h1 h2 _ => h.1 a j h1 h2, (h.1 (q 29) 9 (fun e => absurd e.1 (hT.ne 29 2)) (hT.ne 29 10)).trans hz, h.2.1, h.2.2, fun x hx => absurd hx (Nat.not_lt_zero _)⟩
def GatC (S : Sto) (q : Nat → Nat) (m i j : Nat) (f : Nat → Int → Int) : Prop := GatB S q m i f ∧ f (q (20 + i)) 9 = dM S q m i 9 ∧ f (q 29) (i : Int) = dM S q m 9 i ∧ ∀ y : Nat, y < j → f (q (20 + i)) (y : Int) = dM S q m i y
/-- a way of the row i is noted -/
theorem GatB.row {S : Sto} {q : Nat → Nat} {m i : Nat} {f : Nat → Int → Int} (hT : Top S q) (h : GatB S q m i f) {x : Nat} (hx : x < 10) (hxi : i ≤ x) (k v : Int) (hk : x = 9 → k ≠ 9 ∧ ∀ z : Nat, z < i → k ≠ (z : Int)) : GatB S q m i (up2 f (q (20 + x)) k v) := by
  refine ⟨fun a j h1 h2 h3 => ?_, ?_, ?_, fun j hj => ?_, fun z hz => ?_⟩
  · rw [up2_ne _ _ _ _ (fun e => h3 ⟨x, hx, e⟩)]
    exact h.1 a j h1 h2 h3
  · by_cases e : x = 9
    · subst e
      rw [up2_nk _ _ _ _ (fun e2 => (hk rfl).1 e2.symm)]
      exact h.2.1
    · rw [up2_ne _ _ _ _ (hT.wne' (j := 29) hx (by decide) (by omega))]
      exact h.2.1
  · rw [up2_ne _ _ _ _ (hT.wne' hx (by decide) (by omega))]
    exact h.2.2.1
  · rw [up2_ne _ _ _ _ (hT.wne' hx (by decide) (by omega))]
    exact h.2.2.2.1 j hj
  · have h4 := h.2.2.2.2 z hz
    have hne : q (20 + z) ≠ q (20 + x) := hT.wne' hx (tix_way z (by omega)) (by omega)
    refine ⟨?_, ?_, fun y hy => ?_⟩
    · rw [up2_ne _ _ _ _ hne]; exact h4.1
    · by_cases e : x = 9
      · subst e
        rw [up2_nk _ _ _ _ (fun e2 => (hk rfl).2 z hz e2.symm)]
        exact h4.2.1
      · rw [up2_ne _ _ _ _ (hT.wne' (j := 29) hx (by decide) (by omega))]
        exact h4.2.1
    · rw [up2_ne _ _ _ _ hne]; exact h4.2.2 y hy
theorem GatC.init {S : Sto} {q : Nat → Nat} {m i : Nat} {f : Nat → Int → Int} (hT : Top S q) (h : GatB S q m i f) (hi : i < 9) (v : Int) (hv : v = dM S q m i 9) (hv2 : v = dM S q m 9 i) : GatC S q m i 0 (up2 (up2 f (q (20 + i)) 9 v) (q 29) (i : Int) v) := by
  have h1 := h.row hT (x := i) (by omega) (Nat.le_refl _) 9 v (by omega)
  have h2 := h1.row hT (x := 9) (by omega) (by omega) (i : Int) v (fun _ => ⟨by omega, fun z hz => by omega⟩)
  refine ⟨h2, ?_, ?_, fun y hy => absurd hy (Nat.not_lt_zero _)⟩
  · rw [up2_ne _ _ _ _ (hT.wne (j := 29) (by omega) (by decide) (by omega)), up2_same, hv]
  · rw [up2_same, hv2]
theorem GatC.step {S : Sto} {q : Nat → Nat} {m i j : Nat} {f : Nat → Int → Int} (hT : Top S q) (h : GatC S q m i j f) (hi : i < 9) (hj : j < 9) (v : Int) (hv : v = dM S q m i j) : GatC S q m i (j + 1) (up2 f (q (20 + i)) (j : Int) v) := by
  have h1 := h.1.row hT (x := i) (by omega) (Nat.le_refl _) (j : Int) v (by omega)
  refine ⟨h1, ?_, ?_, fun y hy => ?_⟩
  · rw [up2_nk _ _ _ _ (by omega)]; exact h.2.1
  · rw [up2_ne _ _ _ _ (hT.wne' (j := 29) (by omega) (by decide) (by omega))]; exact h.2.2.1
  · by_cases e : y = j
    · subst e; rw [up2_same, hv]
    · rw [up2_nk _ _ _ _ (by omega)]; exact h.2.2.2 y (by omega)
theorem GatC.done {S : Sto} {q : Nat → Nat} {m i j : Nat} {f : Nat → Int → Int} (h : GatC S q m i j f) (hj : (sll S q m).length ≤ j) : GatB S q m (i + 1) f := by
  refine ⟨h.1.1, h.1.2.1, h.1.2.2.1, h.1.2.2.2.1, fun x hx => ?_⟩
  by_cases e : x = i
  · subst e
    exact ⟨h.2.1, h.2.2.1, fun y hy => h.2.2.2 y (by omega)⟩
  · exact h.1.2.2.2.2 x (by omega)
/-- the router's table of ways for n stops -/
def Rt (S : Sto) (q : Nat → Nat) (n : Nat) (d : Nat → Nat → Int) : Prop := sI S (q 2) 2 = (n : Int) ∧ okD d n ∧ (∀ x y : Nat, x < n → y < n → sI S (q (20 + x)) (y : Int) = d x y) ∧ (∀ x : Nat, x < n → sI S (q (20 + x)) 9 = d x 9) ∧ (∀ x : Nat, x < n → sI S (q 29) (x : Int) = d 9 x) ∧ sI S (q 29) 9 = d 9 9
theorem dst_00 (N G : Int) : dst N G 0 0 = 0 := by simp [dst, absI]
theorem GatB.rt {S : Sto} {q : Nat → Nat} {m : Nat} {f : Nat → Int → Int} (hCf : Cf S q) (hm : okM (sI S (q 1) 1) (sI S (q 6)) m) (h : GatB S q m (sll S q m).length f) : Rt (wI S f) q (sll S q m).length (dM S q m) := by
  obtain ⟨hA1, hA2, hN1, hN2, hG1, hG2⟩ := hCf
  exact ⟨h.2.2.1, okM_okD ⟨hN1, hN2⟩ ⟨hG1, hG2⟩ hm, fun x y hx hy => (h.2.2.2.2 x hx).2.2 y hy, fun x hx => (h.2.2.2.2 x hx).1, fun x hx => (h.2.2.2.2 x hx).2.1, h.2.1.trans (dst_00 _ _).symm⟩
/-- a point of the table, and a stop -/
theorem Rt.get {S : Sto} {q : Nat → Nat} {n : Nat} {d : Nat → Nat → Int} (h : Rt S q n d) {x y : Nat} (hx : x < n ∨ x = 9) (hy : y < n) : sI S (q (20 + x)) (y : Int) = d x y := by
  rcases hx with hx | hx
  · exact h.2.2.1 x y hx hy
  · subst hx; exact h.2.2.2.2.1 y hy
theorem Rt.home {S : Sto} {q : Nat → Nat} {n : Nat} {d : Nat → Nat → Int} (h : Rt S q n d) {x : Nat} (hx : x < n ∨ x = 9) : sI S (q (20 + x)) 9 = d x 9 := by
  rcases hx with hx | hx
  · exact h.2.2.2.1 x hx
  · subst hx; exact h.2.2.2.2.2
theorem Rt.of {S T : Sto} {q : Nat → Nat} {n : Nat} {d : Nat → Nat → Int} (hT : Top S q) (h : Rt S q n d) (e : ∀ a k, a ≠ q 12 → sI T a k = sI S a k) : Rt T q n d := by
  have hn := h.2.1.1
  have w : ∀ x, x < n → q (20 + x) ≠ q 12 := fun x hx => hT.wne (by omega) (by decide) (by omega)
  refine ⟨(e _ _ (hT.ne 2 12)).trans h.1, h.2.1, fun x y hx hy => (e _ _ (w x hx)).trans (h.2.2.1 x y hx hy), fun x hx => (e _ _ (w x hx)).trans (h.2.2.2.1 x hx), fun x hx => (e _ _ (hT.ne 29 12)).trans (h.2.2.2.2.1 x hx), (e _ _ (hT.ne 29 12)).trans h.2.2.2.2.2⟩
/-- the table of the least ways on, for the sets below b -/
def Onw (n : Nat) (d : Nat → Nat → Int) (F : Int → Int) (b : Nat) : Prop := ∀ left src : Nat, left < b → src < n → left.testBit src = false → F ((left * 9 + src : Nat) : Int) = tr d n left src
theorem Cf.of {S T : Sto} {q : Nat → Nat} (h : Cf S q) (e : ∀ k : Int, sI T (q 1) k = sI S (q 1) k) : Cf T q := by
  unfold Cf
  rw [e, e, e]
  exact h
theorem Onw.of {n : Nat} {d : Nat → Nat → Int} {F G : Int → Int} {b : Nat} (e : ∀ j, G j = F j) (h : Onw n d F b) : Onw n d G b := fun left src h1 h2 h3 => (e _).trans (h left src h1 h2 h3)
theorem Onw.get {n : Nat} {d : Nat → Nat → Int} {F : Int → Int} {left k : Nat} (h : Onw n d F left) (hk : k < n) (hb : left.testBit k = true) : F (((left - 2 ^ k) * 9 + k : Nat) : Int) = tr d n (left - 2 ^ k) k := by
  have h1 := tb_ge hb
  have h2 := Nat.two_pow_pos k
  refine h (left - 2 ^ k) k (by omega) hk ?_
  rw [tb_sub hb]
  simp
/-- one set more: the entries of left from its points below j -/
def OnwR (n : Nat) (d : Nat → Nat → Int) (F : Int → Int) (left j : Nat) : Prop := Onw n d F left ∧ ∀ src : Nat, src < j → src < n → left.testBit src = false → F ((left * 9 + src : Nat) : Int) = tr d n left src
theorem OnwR.skip {n : Nat} {d : Nat → Nat → Int} {F : Int → Int} {left j : Nat} (h : OnwR n d F left j) (hb : left.testBit j = true) : OnwR n d F left (j + 1) := by
  refine ⟨h.1, fun src h1 h2 h3 => ?_⟩
  by_cases e : src = j
  · subst e; rw [hb] at h3; cases h3
  · exact h.2 src (by omega) h2 h3
theorem OnwR.put {n : Nat} {d : Nat → Nat → Int} {F : Int → Int} {left j : Nat} (hn : n ≤ 9) (hj : j < n) (h : OnwR n d F left j) : OnwR n d (upd1 F ((left * 9 + j : Nat) : Int) (tr d n left j)) left (j + 1) := by
  have hne : ∀ a b : Nat, (a ≠ left ∨ b ≠ j) → b < 9 → ((a * 9 + b : Nat) : Int) ≠ ((left * 9 + j : Nat) : Int) := by
    intro a b h1 h2 h3
    omega
  refine ⟨fun a b h1 h2 h3 => ?_, fun src h1 h2 h3 => ?_⟩
  · unfold upd1
    rw [if_neg (hne a b (Or.inl (by omega)) (by omega))]
    exact h.1 a b h1 h2 h3
  · unfold upd1
    by_cases e : src = j
    · subst e; rw [if_pos rfl]
    · rw [if_neg (hne left src (Or.inr e) (by omega))]
      exact h.2 src (by omega) h2 h3
theorem OnwR.done {n : Nat} {d : Nat → Nat → Int} {F : Int → Int} {left j : Nat} (h : OnwR n d F left j) (hj : n ≤ j) : Onw n d F (left + 1) := by
  intro a b h1 h2 h3
  by_cases e : a = left
  · subst e; exact h.2 b (by omega) h2 h3
  · exact h.1 a b (by omega) h2 h3
/-- a cell that the router uses again -/
def RSc (q : Nat → Nat) (a : Nat) (j : Int) : Prop := (a = q 2 ∧ j = 2) ∨ a = q 10 ∨ isWay q a ∨ a = q 12
/-- after the router's work: only its own rows have changed -/
def Kept (S : Sto) (q : Nat → Nat) (f : Nat → Int → Int) : Prop := (∀ a j, ¬ RSc q a j → f a j = sI S a j) ∧ f (q 29) 9 = 0
theorem GatB.kept {S : Sto} {q : Nat → Nat} {m i : Nat} {f : Nat → Int → Int} (h : GatB S q m i f) : Kept S q f := ⟨fun a j hn => h.1 a j (fun e => hn (Or.inl e)) (fun e => hn (Or.inr (Or.inl e))) (fun e => hn (Or.inr (Or.inr (Or.inl e)))), h.2.1⟩
theorem Kept.row12 {S : Sto} {q : Nat → Nat} {f : Nat → Int → Int} (hT : Top S q) (h : Kept S q f) (F : Int → Int) : Kept S q (row1 f (q 12) F) := ⟨fun a j hn => (row1_ne _ _ _ (fun e => hn (Or.inr (Or.inr (Or.inr e))))).trans (h.1 a j hn), (row1_ne _ _ _ (hT.ne 29 12)).trans h.2⟩
/-- a cell that is none of the router's -/
def noR (i : Nat) : Bool := (i < 20 || 30 ≤ i) && i != 2 && i != 10 && i != 12
theorem nRSc {S : Sto} {q : Nat → Nat} (hT : Top S q) (i : Nat) (j : Int) (hi : i ∈ tix := by decide) (hn : noR i = true := by decide) : ¬ RSc q (q i) j := by
  simp only [noR, Bool.and_eq_true, Bool.or_eq_true, decide_eq_true_eq, bne_iff_ne] at hn
  intro h
  rcases h with h | h | h | h
  · exact hT.ne i 2 hi (by decide) (by omega) h.1
  · exact hT.ne i 10 hi (by decide) (by omega) h
  · exact hT.nway i hi (by omega) h
  · exact hT.ne i 12 hi (by decide) (by omega) h
theorem Kept.at {S : Sto} {q : Nat → Nat} {f : Nat → Int → Int} (h : Kept S q f) (hT : Top S q) (i : Nat) (j : Int) (hi : i ∈ tix := by decide) (hn : noR i = true := by decide) : f (q i) j = sI S (q i) j := h.1 _ _ (nRSc hT i j hi hn)
/-- the least length of a tour by the products of m -/
def tour (N G : Int) (P : Int → Int) (m : Nat) : Int := tr (dd N G P (sl P m 20)) (sl P m 20).length (2 ^ (sl P m 20).length - 1) 9
theorem tour_b {N G : Int} {P : Int → Int} {m : Nat} (hN : 1 ≤ N ∧ N ≤ 20) (hG : 1 ≤ G ∧ G ≤ 9) (h : okM N P m) : 0 ≤ tour N G P m ∧ tour N G P m ≤ 660 := by
  have h1 := okM_okD hN hG h
  have h2 := tr_b h1 (sl P m 20).length (2 ^ (sl P m 20).length - 1) 9 (Nat.le_refl _) (by have := Nat.two_pow_pos (sl P m 20).length; omega) (Or.inr rfl)
  have h3 := h1.1
  unfold tour
  omega
theorem cntb_zero {m : Nat} : ∀ n, m < 2 ^ n → cntb m n = 0 → m = 0 := by
  intro n
  induction n with
  | zero => intro h _; omega
  | succ n ih =>
    intro h h0
    have h1 : cntb m n + (if m.testBit n = true then 1 else 0) = 0 := h0
    by_cases hb : m.testBit n = true
    · rw [if_pos hb] at h1; omega
    · have h2 : m < 2 ^ n := by
        rcases Nat.lt_or_ge m (2 ^ n) with h3 | h3
        · exact h3
        · exfalso
          apply hb
          rw [Nat.testBit_eq_decide_div_mod_eq]
          have h4 : 2 ^ (n + 1) = 2 ^ n * 2 := Nat.pow_succ 2 n
          have h5 := Nat.two_pow_pos n
          have h6 : m / 2 ^ n = 1 := by apply Nat.div_eq_of_lt_le <;> omega
          rw [h6]; rfl
      exact ih h2 (by omega)
theorem cntb_take {m k n : Nat} (hb : m.testBit k = true) (hk : k < n) : cntb (m - 2 ^ k) n + 1 = cntb m n := by
  have aux : ∀ i, i ≤ k → cntb (m - 2 ^ k) i = cntb m i := by
    intro i
    induction i with
    | zero => intro _; rfl
    | succ i ih =>
      intro hi
      unfold cntb
      rw [ih (by omega), tb_sub hb]
      have : ¬ i = k := by omega
      simp [this]
  induction n with
  | zero => omega
  | succ n ih =>
    unfold cntb
    by_cases e : k = n
    · subst e
      rw [aux k (Nat.le_refl _), tb_sub hb, hb]
      simp
    · have := ih (by omega)
      rw [tb_sub hb]
      have h2 : ¬ n = k := by omega
      simp [h2]
      omega
theorem cntb_full (n : Nat) : cntb (2 ^ n - 1) n = n := by
  have aux : ∀ i, i ≤ n → cntb (2 ^ n - 1) i = i := by
    intro i
    induction i with
    | zero => intro _; rfl
    | succ i ih =>
      intro hi
      unfold cntb
      rw [ih (by omega), tb_full]
      have : i < n := by omega
      simp [this]
  exact aux n (Nat.le_refl _)
/-- the first of the least -/
def bnI (left : Nat) (g : Nat → Int) : Nat → Nat
  | 0 => 0
  | k + 1 => if left.testBit k = true ∧ g k < mnb 1000000 left g k then k else bnI left g k
theorem bnI_t {left : Nat} {g : Nat → Int} {k : Nat} (h : left.testBit k = true) (h2 : g k < mnb 1000000 left g k) : bnI left g (k + 1) = k ∧ mnb 1000000 left g (k + 1) = g k := by
  refine ⟨?_, ?_⟩
  · show (if _ then k else _) = k
    rw [if_pos ⟨h, h2⟩]
  · show (if left.testBit k = true then minI (mnb 1000000 left g k) (g k) else _) = _
    rw [if_pos h]
    unfold minI
    rw [if_pos h2]
theorem bnI_f {left : Nat} {g : Nat → Int} {k : Nat} (h : ¬ left.testBit k = true ∨ mnb 1000000 left g k ≤ g k) : bnI left g (k + 1) = bnI left g k ∧ mnb 1000000 left g (k + 1) = mnb 1000000 left g k := by
  refine ⟨?_, ?_⟩
  · show (if _ then k else _) = _
    rw [if_neg (by intro ⟨a, b⟩; rcases h with h | h; exact h a; omega)]
  · show (if left.testBit k = true then minI (mnb 1000000 left g k) (g k) else _) = _
    by_cases hb : left.testBit k = true
    · rw [if_pos hb]
      rcases h with h | h
      · exact absurd hb h
      · unfold minI
        rw [if_neg (by omega)]
    · rw [if_neg hb]
theorem bnI_spec {left : Nat} {g : Nat → Int} {n : Nat} (h : ∃ j, j < n ∧ left.testBit j = true ∧ g j < 1000000) : bnI left g n < n ∧ left.testBit (bnI left g n) = true ∧ g (bnI left g n) = mnb 1000000 left g n ∧ ∀ j, j < bnI left g n → left.testBit j = true → g (bnI left g n) < g j := by
  induction n with
  | zero => obtain ⟨j, h1, -⟩ := h; omega
  | succ n ih =>
    by_cases hc : left.testBit n = true ∧ g n < mnb 1000000 left g n
    · obtain ⟨e1, e2⟩ := bnI_t hc.1 hc.2
      rw [e1, e2]
      refine ⟨by omega, hc.1, rfl, fun j hj hb => ?_⟩
      have := mnb_le_g 1000000 left g hj hb
      omega
    · have hc2 : ¬ left.testBit n = true ∨ mnb 1000000 left g n ≤ g n := by
        by_cases hb : left.testBit n = true
        · exact Or.inr (Int.not_lt.mp fun z => hc ⟨hb, z⟩)
        · exact Or.inl hb
      obtain ⟨e1, e2⟩ := bnI_f hc2
      rw [e1, e2]
      have hex : ∃ j, j < n ∧ left.testBit j = true ∧ g j < 1000000 := by
        obtain ⟨j, h1, h2, h3⟩ := h
        by_cases e : j = n
        · subst e
          rcases hc2 with hc2 | hc2
          · exact absurd h2 hc2
          · rcases mnb_mem 1000000 left g j with h4 | ⟨k, k1, k2, k3⟩
            · omega
            · exact ⟨k, k1, k2, by omega⟩
        · exact ⟨j, by omega, h2, h3⟩
      obtain ⟨i1, i2, i3, i4⟩ := ih hex
      exact ⟨by omega, i2, i3, i4⟩
/-- the aisles of a row of places, where it changes -/
def bfA (F : Int → Int) : Nat → Int
  | 0 => -1
  | k + 1 => F (k : Int) / 100
def cntA (F : Int → Int) : Nat → Nat
  | 0 => 0
  | k + 1 => cntA F k + (if F (k : Int) / 100 = bfA F k then 0 else 1)
theorem cntA_le (F : Int → Int) (k : Nat) : cntA F k ≤ k := by
  induction k with
  | zero => exact Nat.le_refl _
  | succ k ih => unfold cntA; split <;> omega
theorem cntA_pos {F : Int → Int} {k : Nat} (hF : 0 ≤ F 0) (hk : 0 < k) : 1 ≤ cntA F k := by
  induction k with
  | zero => omega
  | succ k ih =>
    by_cases e : k = 0
    · subst e
      unfold cntA
      rw [if_neg]
      · omega
      · intro h
        have h2 : F ((0 : Nat) : Int) / 100 = -1 := h
        have h3 : (0 : Int) ≤ F ((0 : Nat) : Int) / 100 := Int.ediv_nonneg hF (by omega)
        omega
    · have := ih (by omega)
      unfold cntA
      omega
/-- the length of the route through aisles as a whole, by the sorted places F -/
def thrA (N G : Int) (F : Int → Int) (n : Nat) : Int := if n = 0 then 0 else 2 * G * (F ((n - 1 : Nat) : Int) / 100) + ((cntA F n : Int) - 1) * (N + 1) + (if ((cntA F n : Int) - 1) % 2 = 0 then 2 * (F ((n - 1 : Nat) : Int) % 100) else N + 1)
theorem cntA_congr {F F' : Int → Int} {n : Nat} (h : ∀ j : Nat, j < n → F j = F' j) : cntA F n = cntA F' n ∧ bfA F n = bfA F' n := by
  induction n with
  | zero => exact ⟨rfl, rfl⟩
  | succ n ih =>
    obtain ⟨h1, h2⟩ := ih (fun j hj => h j (by omega))
    unfold cntA
    rw [h1, h2, h n (by omega)]
    refine ⟨rfl, ?_⟩
    show F (n : Int) / 100 = F' (n : Int) / 100
    rw [h n (by omega)]
theorem thrA_congr {N G : Int} {F F' : Int → Int} {n : Nat} (h : ∀ j : Nat, j < n → F j = F' j) : thrA N G F n = thrA N G F' n := by
  unfold thrA
  by_cases e : n = 0
  · rw [if_pos e, if_pos e]
  · rw [if_neg e, if_neg e, (cntA_congr h).1, h (n - 1) (by omega)]
/-- the sorted places of m -/
def plc (P : Int → Int) (m : Nat) (j : Int) : Int := P (((sl P m 20).getD j.toNat 0 : Nat) : Int)
theorem mnb_nn {d : Nat → Nat → Int} {n left src : Nat} (hd : okD d n) (hs : src < n ∨ src = 9) (k : Nat) (hk : k ≤ n) : 0 ≤ mnb 1000000 left (fun k => d src k + tr d n (left - 2 ^ k) k) k := by
  rcases mnb_mem 1000000 left (fun k => d src k + tr d n (left - 2 ^ k) k) k with h | ⟨i, i1, i2, i3⟩
  · omega
  · rw [i3]
    have h1 := hd.2 src i hs (Or.inl (by omega))
    have h2 := tr_nn hd (left - 2 ^ i) i (Or.inl (by omega))
    omega
theorem mnb_t {B : Int} {left : Nat} {g : Nat → Int} {k : Nat} (h : left.testBit k = true) : mnb B left g (k + 1) = minI (mnb B left g k) (g k) := by
  show (if left.testBit k = true then minI (mnb B left g k) (g k) else _) = _
  rw [if_pos h]
theorem mnb_f {B : Int} {left : Nat} {g : Nat → Int} {k : Nat} (h : ¬ left.testBit k = true) : mnb B left g (k + 1) = mnb B left g k := by
  show (if left.testBit k = true then minI (mnb B left g k) (g k) else _) = _
  rw [if_neg h]
theorem KLvE {p : Program} {l : Launch} {e : Env} {R : Room} {s : State} {m : MethodId} {args : Array Value} {below : List Frame} {meth : Method} {c : Code} {Q : State → Prop} {g : GG} {nL cells slots pc : Nat} {lv lv2 : List (Nat × Value)} {st : List Value} {S : Sto} (h : lv = lv2) (kk : Wk p l e R s m args below meth c Q g nL cells slots pc lv2 st S) : Wk p l e R s m args below meth c Q g nL cells slots pc lv st S := by rw [h]; exact kk
theorem try_0 {L gone : Int} (h1 : L ≤ 1000000) (h2 : 0 ≤ gone) (left : Nat) (g : Nat → Int) : L = minI L (gone + mnb 1000000 left g 0) := by
  show L = minI L (gone + 1000000)
  unfold minI
  split <;> omega
theorem try_f {L gone : Int} {left k : Nat} {g : Nat → Int} (h : ¬ left.testBit k = true) : minI L (gone + mnb 1000000 left g k) = minI L (gone + mnb 1000000 left g (k + 1)) := by rw [mnb_f h]
theorem try_skip {L gone x y : Int} {left k : Nat} {g : Nat → Int} (h : left.testBit k = true) (hg : g k = x + y) (hy : 0 ≤ y) (hc : minI L (gone + mnb 1000000 left g k) ≤ gone + x) : minI L (gone + mnb 1000000 left g k) = minI L (gone + mnb 1000000 left g (k + 1)) := by
  rw [mnb_t h]
  unfold minI at hc ⊢
  (repeat' split) <;> (repeat' split at hc) <;> omega
theorem try_go {L gone x y : Int} {left k : Nat} {g : Nat → Int} (h : left.testBit k = true) (hg : g k = x + y) : minI (minI L (gone + mnb 1000000 left g k)) (gone + x + y) = minI L (gone + mnb 1000000 left g (k + 1)) := by
  rw [mnb_t h]
  unfold minI
  (repeat' split) <;> omega
theorem minI_r {x y : Int} (h : y ≤ x) : minI x y = y := by
  unfold minI
  split <;> omega
theorem bfA_b {S : Sto} (h : Rg S) (a k : Nat) : -2147483648 ≤ bfA (sI S a) k ∧ bfA (sI S a) k < 2147483648 := by
  cases k with
  | zero => show -2147483648 ≤ (-1 : Int) ∧ (-1 : Int) < 2147483648; omega
  | succ k =>
    have h1 := h a (k : Int)
    obtain ⟨h1, h2⟩ := h1
    show -2147483648 ≤ sI S a (k : Int) / 100 ∧ sI S a (k : Int) / 100 < 2147483648
    omega
theorem mnb_top {B : Int} {left n : Nat} {g : Nat → Int} (h : left < 2 ^ n) : ∀ k, n ≤ k → mnb B left g k = mnb B left g n := by
  intro k
  induction k with
  | zero => intro hk; rw [show n = 0 by omega]
  | succ k ih =>
    intro hk
    by_cases hkn : n = k + 1
    · rw [hkn]
    · rw [mnb_f (fun hb => absurd (tb_lt h hb) (by omega)), ih (by omega)]
theorem mnb_nn9 {d : Nat → Nat → Int} {n left src : Nat} (hd : okD d n) (hs : src < n ∨ src = 9) (hl : left < 2 ^ n) (k : Nat) : 0 ≤ mnb 1000000 left (fun k => d src k + tr d n (left - 2 ^ k) k) k := by
  by_cases hk : k ≤ n
  · exact mnb_nn hd hs k hk
  · rw [mnb_top hl k (by omega)]
    exact mnb_nn hd hs n (Nat.le_refl n)
