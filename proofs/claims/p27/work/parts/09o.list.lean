/-! ===== lists ===== -/
/-- a list: its object L, its array E with room for cap, its n elements; t is the empty array -/
def Lst (S : Sto) (t L E cap n : Nat) : Prop := At0 S L 0 ∧ sP S L 1 = some E ∧ sI S L 2 = (n : Int) ∧ n ≤ cap ∧ cap ≤ 60 ∧ ((E = t ∧ cap = 0) ∨ (At0 S E 21 ∧ sN S E = cap ∧ 10 ≤ cap))
theorem Lst.arr {S : Sto} {t L E cap n : Nat} (h : Lst S t L E cap n) (hc : 0 < cap) : At0 S E 21 ∧ sN S E = cap := by
  rcases h.2.2.2.2.2 with ⟨-, e⟩ | ⟨h1, h2, -⟩
  · omega
  · exact ⟨h1, h2⟩
/-- the elements are of one class -/
def Els (S : Sto) (E n cb : Nat) : Prop := ∀ j : Nat, j < n → ∀ y : Nat, sP S E (j : Int) = some y → At0 S y cb
/-- an array with room for one more element -/
def Rdy (S u : Sto) (L E n E1 k : Nat) : Prop := At0 u E1 21 ∧ sN u E1 = k ∧ n < k ∧ k ≤ 60 ∧ 10 ≤ k ∧ sP u L 1 = some E1 ∧ At0 u L 0 ∧ sI u L 2 = (n : Int) ∧ (∀ j : Nat, j < n → sP u E1 (j : Int) = sP S E (j : Int)) ∧ (∀ x ∈ sL S, x ∈ sL u ∧ sK u x = sK S x ∧ sN u x = sN S x ∧ sI u x = sI S x ∧ sJ u x = sJ S x ∧ (x ≠ L → sP u x = sP S x)) ∧ (E1 = E ∨ E1 ∉ sL S)
/-- what adding b makes -/
def LAdd (S u : Sto) (t L E n b : Nat) : Prop := ∃ E1 k, Lst u t L E1 k (n + 1) ∧ (∀ j : Nat, j < n → sP u E1 (j : Int) = sP S E (j : Int)) ∧ sP u E1 (n : Int) = some b ∧ (∀ x ∈ sL S, x ∈ sL u ∧ sK u x = sK S x ∧ sN u x = sN S x ∧ sJ u x = sJ S x ∧ (x ≠ L → sI u x = sI S x) ∧ (x ≠ L → x ≠ E → sP u x = sP S x)) ∧ (E1 = E ∨ E1 ∉ sL S)
theorem kind_ne {S : Sto} {a b i j : Nat} (ha : At0 S a i) (hb : At0 S b j) (h : i ≠ j) : a ≠ b := fun e => h (ha.2.symm.trans ((congrArg (sK S) e).trans hb.2))
theorem Rdy.refl {S : Sto} {t L E cap n : Nat} (h : Lst S t L E cap n) (hn : n < cap) : Rdy S S L E n E cap := by
  obtain ⟨h1, h2⟩ := h.arr (by omega)
  rcases h.2.2.2.2.2 with ⟨-, e⟩ | ⟨-, -, h3⟩
  · omega
  · exact ⟨h1, h2, hn, h.2.2.2.2.1, h3, h.2.1, h.1, h.2.2.1, fun _ _ => rfl, fun x hx => ⟨hx, rfl, rfl, rfl, rfl, fun _ => rfl⟩, Or.inl rfl⟩
theorem Rdy.fin {S u : Sto} {t L E n E1 k b : Nat} (h : Rdy S u L E n E1 k) : LAdd S (uI (uP u E1 (n : Int) (some b)) L 2 ((n : Int) + 1)) t L E n b := by
  obtain ⟨h1, h2, h3, h4, h5, h6, h7, h8, h9, h10, h11⟩ := h
  have hne : L ≠ E1 := kind_ne h7 h1 (by decide)
  refine ⟨E1, k, ⟨h7, ?_, ?_, by omega, h4, Or.inr ⟨h1, h2, h5⟩⟩, fun j hj => ?_, ?_, fun x hx => ?_, h11⟩
  · show up2 (sP u) E1 (n : Int) (some b) L 1 = _
    rw [up2_ne _ _ _ _ hne]; exact h6
  · show up2 (sI u) L 2 ((n : Int) + 1) L 2 = _
    rw [up2_same]; omega
  · show up2 (sP u) E1 (n : Int) (some b) E1 (j : Int) = _
    rw [up2_nk _ _ _ _ (by omega)]; exact h9 j hj
  · show up2 (sP u) E1 (n : Int) (some b) E1 (n : Int) = _
    rw [up2_same]
  · obtain ⟨a1, a2, a3, a4, a5, a6⟩ := h10 x hx
    refine ⟨a1, a2, a3, a5, fun hL => ?_, fun hL hE => ?_⟩
    · show up2 (sI u) L 2 ((n : Int) + 1) x = _
      rw [up2_row _ _ _ hL]; exact a4
    · show up2 (sP u) E1 (n : Int) (some b) x = _
      have hx1 : x ≠ E1 := fun e => by
        rcases h11 with e2 | e2
        · exact hE (e.trans e2)
        · exact e2 (e ▸ hx)
      rw [up2_row _ _ _ hx1]; exact a6 hL
theorem LAdd.pre {S u : Sto} {t L E n b : Nat} {m : Int} (h : LAdd (uI S L 0 m) u t L E n b) : LAdd S u t L E n b := by
  obtain ⟨E1, k, h1, h2, h3, h4, h5⟩ := h
  refine ⟨E1, k, h1, h2, h3, fun x hx => ?_, h5⟩
  obtain ⟨a1, a2, a3, a4, a5, a6⟩ := h4 x hx
  exact ⟨a1, a2, a3, a4, fun hL => (a5 hL).trans (up2_row _ _ _ hL), a6⟩
theorem Lst.uI0 {S : Sto} {t L E cap n : Nat} (h : Lst S t L E cap n) (m : Int) : Lst (uI S L 0 m) t L E cap n := ⟨h.1, h.2.1, (up2_nk _ _ _ _ (by decide)).trans h.2.2.1, h.2.2.2.1, h.2.2.2.2.1, h.2.2.2.2.2⟩
/-- an array copied into a longer new one -/
def cpyS (S : Sto) (E a k cap : Nat) : Sto := wP (nw S a 21 k) (rowP (sP (nw S a 21 k)) a (cpI (sP (nw S a 21 k) E) (sP (nw S a 21 k) a) 0 0 cap))
theorem Rdy.grown {S : Sto} {t L E cap n a k : Nat} (h : Lst S t L E cap n) (hn : n = cap) (ha : a ∉ sL S) (hc : 0 < cap) (hk : cap < k) (hk2 : k ≤ 60) (hk3 : 10 ≤ k) : Rdy S (uP (cpyS S E a k cap) L 1 (some a)) L E n a k := by
  obtain ⟨h1, h2⟩ := h.arr hc
  have hLa : L ≠ a := fun e => ha (e ▸ h.1.1)
  have hEa : E ≠ a := fun e => ha (e ▸ h1.1)
  have hx := Ext.nw (S := S) ha 21 k
  refine ⟨nw_at (S := S) (a := a) (kd := 21) (n := k), nw_ln (S := S) (a := a) (kd := 21) (n := k), by omega, hk2, hk3, up2_same _ _ _ _, ?_, ?_, fun j hj => ?_, fun x hx1 => ?_, Or.inr ha⟩
  · exact ⟨(hx L h.1.1).1, (hx L h.1.1).2.1.trans h.1.2⟩
  · show sI (nw S a 21 k) L 2 = _
    rw [(hx L h.1.1).2.2.2.1]; exact h.2.2.1
  · show up2 (rowP (sP (nw S a 21 k)) a (cpI (sP (nw S a 21 k) E) (sP (nw S a 21 k) a) 0 0 cap)) L 1 (some a) a (j : Int) = _
    rw [up2_ne _ _ _ _ hLa.symm, rowP_same]
    unfold cpI
    rw [if_pos (by omega), (hx E h1.1).2.2.2.2.1]
    congr 1
    omega
  · obtain ⟨b1, b2, b3, b4, b5, b6⟩ := hx x hx1
    have hxa : x ≠ a := fun e => ha (e ▸ hx1)
    refine ⟨b1, b2, b3, b4, b6, fun hL => ?_⟩
    show up2 (rowP (sP (nw S a 21 k)) a (cpI (sP (nw S a 21 k) E) (sP (nw S a 21 k) a) 0 0 cap)) L 1 (some a) x = _
    rw [up2_row _ _ _ hL, rowP_ne _ _ hxa]
    exact b5
theorem Rdy.first {S : Sto} {t L E cap n a : Nat} (h : Lst S t L E cap n) (hc : cap = 0) (ha : a ∉ sL S) : Rdy S (uP (nw S a 21 10) L 1 (some a)) L E n a 10 := by
  have hLa : L ≠ a := fun e => ha (e ▸ h.1.1)
  have hx := Ext.nw (S := S) ha 21 10
  have hn := h.2.2.2.1
  refine ⟨nw_at (S := S) (a := a) (kd := 21) (n := 10), nw_ln (S := S) (a := a) (kd := 21) (n := 10), by omega, by omega, by omega, up2_same _ _ _ _, ?_, ?_, fun j hj => by omega, fun x hx1 => ?_, Or.inr ha⟩
  · exact ⟨(hx L h.1.1).1, (hx L h.1.1).2.1.trans h.1.2⟩
  · show sI (nw S a 21 10) L 2 = _
    rw [(hx L h.1.1).2.2.2.1]; exact h.2.2.1
  · obtain ⟨b1, b2, b3, b4, b5, b6⟩ := hx x hx1
    refine ⟨b1, b2, b3, b4, b6, fun hL => ?_⟩
    show up2 (sP (nw S a 21 10)) L 1 (some a) x = _
    rw [up2_row _ _ _ hL]
    exact b5
/-- what taking the element at i away makes -/
def LRem (S u : Sto) (t L E cap n i : Nat) : Prop := Lst u t L E cap (n - 1) ∧ (∀ j : Nat, j < i → sP u E (j : Int) = sP S E (j : Int)) ∧ (∀ j : Nat, i ≤ j → j < n - 1 → sP u E (j : Int) = sP S E ((j + 1 : Nat) : Int)) ∧ sL u = sL S ∧ sK u = sK S ∧ sN u = sN S ∧ sJ u = sJ S ∧ (∀ x, x ≠ L → sI u x = sI S x) ∧ (∀ x, x ≠ E → sP u x = sP S x)
theorem LRem.fin1 {S : Sto} {t L E cap n i : Nat} {m : Int} (h : Lst S t L E cap n) (hi : i < n) : LRem S (uP (uI (wP (uI S L 0 m) (rowP (sP S) E (cpI (sP S E) (sP S E) (i + 1) i (n - 1 - i)))) L 2 ((n : Int) - 1)) E ((n : Int) - 1) none) t L E cap n i := by
  have hc : 0 < cap := by have := h.2.2.2.1; omega
  obtain ⟨h1, h2⟩ := h.arr hc
  have hLE : L ≠ E := kind_ne h.1 h1 (by decide)
  have h3 : 10 ≤ cap := by rcases h.2.2.2.2.2 with ⟨-, e⟩ | ⟨-, -, h3⟩ <;> omega
  refine ⟨⟨h.1, ?_, ?_, by have := h.2.2.2.1; omega, h.2.2.2.2.1, Or.inr ⟨h1, h2, h3⟩⟩, fun j hj => ?_, fun j hj hj2 => ?_, rfl, rfl, rfl, rfl, fun x hx => ?_, fun x hx => ?_⟩
  · show up2 (rowP (sP S) E (cpI (sP S E) (sP S E) (i + 1) i (n - 1 - i))) E ((n : Int) - 1) none L 1 = _
    rw [up2_ne _ _ _ _ hLE, rowP_ne _ _ hLE]; exact h.2.1
  · show up2 (up2 (sI S) L 0 m) L 2 ((n : Int) - 1) L 2 = _
    rw [up2_same]; omega
  · show up2 (rowP (sP S) E (cpI (sP S E) (sP S E) (i + 1) i (n - 1 - i))) E ((n : Int) - 1) none E (j : Int) = _
    rw [up2_nk _ _ _ _ (by omega), rowP_same]
    unfold cpI
    rw [if_neg (by omega)]
  · show up2 (rowP (sP S) E (cpI (sP S E) (sP S E) (i + 1) i (n - 1 - i))) E ((n : Int) - 1) none E (j : Int) = _
    rw [up2_nk _ _ _ _ (by omega), rowP_same]
    unfold cpI
    rw [if_pos (by omega)]
    congr 1
    omega
  · show up2 (up2 (sI S) L 0 m) L 2 ((n : Int) - 1) x = _
    rw [up2_row _ _ _ hx, up2_row _ _ _ hx]
  · show up2 (rowP (sP S) E (cpI (sP S E) (sP S E) (i + 1) i (n - 1 - i))) E ((n : Int) - 1) none x = _
    rw [up2_row _ _ _ hx, rowP_ne _ _ hx]
theorem LRem.fin0 {S : Sto} {t L E cap n i : Nat} {m : Int} (h : Lst S t L E cap n) (hi : i < n) (hl : i = n - 1) : LRem S (uP (uI (uI S L 0 m) L 2 ((n : Int) - 1)) E ((n : Int) - 1) none) t L E cap n i := by
  have hc : 0 < cap := by have := h.2.2.2.1; omega
  obtain ⟨h1, h2⟩ := h.arr hc
  have hLE : L ≠ E := kind_ne h.1 h1 (by decide)
  have h3 : 10 ≤ cap := by rcases h.2.2.2.2.2 with ⟨-, e⟩ | ⟨-, -, h3⟩ <;> omega
  refine ⟨⟨h.1, ?_, ?_, by have := h.2.2.2.1; omega, h.2.2.2.2.1, Or.inr ⟨h1, h2, h3⟩⟩, fun j hj => ?_, fun j hj hj2 => by omega, rfl, rfl, rfl, rfl, fun x hx => ?_, fun x hx => ?_⟩
  · show up2 (sP S) E ((n : Int) - 1) none L 1 = _
    rw [up2_ne _ _ _ _ hLE]; exact h.2.1
  · show up2 (up2 (sI S) L 0 m) L 2 ((n : Int) - 1) L 2 = _
    rw [up2_same]; omega
  · show up2 (sP S) E ((n : Int) - 1) none E (j : Int) = _
    rw [up2_nk _ _ _ _ (by omega)]
  · show up2 (up2 (sI S) L 0 m) L 2 ((n : Int) - 1) x = _
    rw [up2_row _ _ _ hx, up2_row _ _ _ hx]
  · show up2 (sP S) E ((n : Int) - 1) none x = _
    rw [up2_row _ _ _ hx]
