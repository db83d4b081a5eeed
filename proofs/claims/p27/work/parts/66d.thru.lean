/-! ===== the length through the aisles ===== -/
/-- the last aisle of the set, or v0 -/
def lsM (P : Int → Int) (m : Nat) (v0 : Int) : Nat → Int
  | 0 => v0
  | k + 1 => if m.testBit k = true ∧ lsM P m v0 k < P (k : Int) / 100 then P (k : Int) / 100 else lsM P m v0 k
theorem lsM_t {P : Int → Int} {m : Nat} {v0 : Int} {k : Nat} (h1 : m.testBit k = true) (h2 : lsM P m v0 k < P (k : Int) / 100) : P (k : Int) / 100 = lsM P m v0 (k + 1) := (if_pos ⟨h1, h2⟩).symm
theorem lsM_f {P : Int → Int} {m : Nat} {v0 : Int} {k : Nat} (h : ¬ m.testBit k = true ∨ ¬ lsM P m v0 k < P (k : Int) / 100) : lsM P m v0 k = lsM P m v0 (k + 1) := (if_neg (fun e => by rcases h with h | h; exact h e.1; exact h e.2)).symm
theorem lsM_ge {P : Int → Int} {m : Nat} {v0 : Int} : ∀ n (k : Nat), k < n → m.testBit k = true → P (k : Int) / 100 ≤ lsM P m v0 n := by
  intro n
  induction n with
  | zero => intro k hk; omega
  | succ n ih =>
    intro k hk hb
    unfold lsM
    by_cases e : k = n
    · subst e
      split
      · exact Int.le_refl _
      · next h => have : ¬ lsM P m v0 k < P (k : Int) / 100 := fun h9 => h ⟨hb, h9⟩
                  omega
    · have := ih k (by omega) hb
      split
      · next h => omega
      · exact this
theorem lsM_mem {P : Int → Int} {m : Nat} {v0 : Int} : ∀ n, lsM P m v0 n = v0 ∨ ∃ k : Nat, k < n ∧ m.testBit k = true ∧ lsM P m v0 n = P (k : Int) / 100 := by
  intro n
  induction n with
  | zero => exact Or.inl rfl
  | succ n ih =>
    by_cases e : m.testBit n = true ∧ lsM P m v0 n < P (n : Int) / 100
    · exact Or.inr ⟨n, by omega, e.1, if_pos e⟩
    · have e1 : lsM P m v0 (n + 1) = lsM P m v0 n := if_neg e
      rw [e1]
      rcases ih with h | ⟨k, h1, h2, h3⟩
      · exact Or.inl h
      · exact Or.inr ⟨k, by omega, h2, h3⟩
theorem lsM_id {P : Int → Int} {m : Nat} {v0 : Int} : ∀ k, k ≤ 20 → lsM P m (lsM P m v0 20) k = lsM P m v0 20 := by
  intro k
  induction k with
  | zero => intro _; rfl
  | succ k ih =>
    intro hk
    have h1 := ih (by omega)
    by_cases hb : m.testBit k = true
    · have h2 := lsM_ge (P := P) (m := m) (v0 := v0) 20 k (by omega) hb
      rw [← lsM_f (Or.inr (by omega)), h1]
    · rw [← lsM_f (Or.inl hb), h1]
theorem lsM_b {N : Int} {P : Int → Int} {m : Nat} {v0 : Int} (h : okM N P m) (hv : -1 ≤ v0 ∧ v0 ≤ 5) (n : Nat) (hn : n ≤ 20) : -1 ≤ lsM P m v0 n ∧ lsM P m v0 n ≤ 5 := by
  rcases lsM_mem (P := P) (m := m) (v0 := v0) n with e | ⟨k, k1, k2, k3⟩
  · omega
  · have := h.1 k (by omega) k2
    omega
/-- what the law has gone by before an aisle: the length, where it is, the side -/
def thS (z : Sig) (b la : Int) : Nat → Int × Int × Int
  | 0 => (0, 0, 0)
  | a + 1 => if 0 < zfr z b (a : Int) then ((thS z b la a).1 + (((a : Int) - (thS z b la a).2.1) * zG z + (if (a : Int) < la ∨ (thS z b la a).2.2 = 1 then zN z + 1 else 2 * zfr z b (a : Int))), (a : Int), if (a : Int) < la ∨ (thS z b la a).2.2 = 1 then 1 - (thS z b la a).2.2 else (thS z b la a).2.2) else thS z b la a
theorem thS_f {z : Sig} {b la : Int} {a : Nat} (h : ¬ 0 < zfr z b (a : Int)) : thS z b la (a + 1) = thS z b la a := if_neg h
theorem thS_t {z : Sig} {b la : Int} {a : Nat} (h : 0 < zfr z b (a : Int)) : thS z b la (a + 1) = ((thS z b la a).1 + (((a : Int) - (thS z b la a).2.1) * zG z + (if (a : Int) < la ∨ (thS z b la a).2.2 = 1 then zN z + 1 else 2 * zfr z b (a : Int))), (a : Int), if (a : Int) < la ∨ (thS z b la a).2.2 = 1 then 1 - (thS z b la a).2.2 else (thS z b la a).2.2) := if_pos h
theorem thS_t1 {z : Sig} {b la : Int} {a : Nat} (h : 0 < zfr z b (a : Int)) (h2 : (a : Int) < la ∨ (thS z b la a).2.2 = 1) : thS z b la (a + 1) = ((thS z b la a).1 + (((a : Int) - (thS z b la a).2.1) * zG z + (zN z + 1)), (a : Int), 1 - (thS z b la a).2.2) := by rw [thS_t h, if_pos h2, if_pos h2]
theorem thS_t0 {z : Sig} {b la : Int} {a : Nat} (h : 0 < zfr z b (a : Int)) (h2 : ¬ ((a : Int) < la ∨ (thS z b la a).2.2 = 1)) : thS z b la (a + 1) = ((thS z b la a).1 + (((a : Int) - (thS z b la a).2.1) * zG z + 2 * zfr z b (a : Int)), (a : Int), (thS z b la a).2.2) := by rw [thS_t h, if_neg h2, if_neg h2]
theorem thS_b (z : Sig) (b la : Int) (a : Nat) : 0 ≤ (thS z b la a).2.1 ∧ (thS z b la a).2.1 ≤ a ∧ ((thS z b la a).2.2 = 0 ∨ (thS z b la a).2.2 = 1) := by
  induction a with
  | zero => exact ⟨Int.le_refl _, Int.le_refl _, Or.inl rfl⟩
  | succ a ih =>
    by_cases h : 0 < zfr z b (a : Int)
    · by_cases h2 : (a : Int) < la ∨ (thS z b la a).2.2 = 1
      · rw [thS_t1 h h2]; dsimp only; omega
      · rw [thS_t0 h h2]; dsimp only; omega
    · rw [thS_f h]; omega
theorem frp_pos {P : Int → Int} {m : Nat} {ai : Int} : ∀ n (k : Nat), k < n → m.testBit k = true → P (k : Int) / 100 = ai → 1 ≤ P (k : Int) % 100 → 0 < fr P m ai n := by
  intro n
  induction n with
  | zero => intro k hk; omega
  | succ n ih =>
    intro k hk hb h1 h2
    unfold fr
    by_cases e : k = n
    · subst e
      split
      · omega
      · next h => have : ¬ fr P m ai k < P (k : Int) % 100 := fun h9 => h ⟨hb, h1, h9⟩
                  omega
    · have := ih k (by omega) hb h1 h2
      split
      · next h => omega
      · exact this
theorem frp_ex {P : Int → Int} {m : Nat} {ai : Int} : ∀ n, 0 < fr P m ai n → ∃ k : Nat, k < n ∧ m.testBit k = true ∧ P (k : Int) / 100 = ai := by
  intro n
  induction n with
  | zero => intro h; exact absurd h (Int.lt_irrefl _)
  | succ n ih =>
    intro h
    by_cases e : m.testBit n = true ∧ P (n : Int) / 100 = ai ∧ fr P m ai n < P (n : Int) % 100
    · exact ⟨n, by omega, e.1, e.2.1⟩
    · have e1 : fr P m ai (n + 1) = fr P m ai n := if_neg e
      rw [e1] at h
      obtain ⟨k, h1, h2⟩ := ih h
      exact ⟨k, by omega, h2⟩
theorem thS_end {z : Sig} {b : Int} (hm : okM (zN z) (zP z) (zpd z b)) (hA : 1 ≤ zA z ∧ zA z ≤ 6) (hpl : ∀ k : Nat, k < 20 → (zpd z b).testBit k = true → zP z (k : Int) / 100 < zA z) {k0 : Nat} (hk : k0 < 20 ∧ (zpd z b).testBit k0 = true) :
    (thS z b (lsM (zP z) (zpd z b) (-1) 20) (zA z).toNat).1 + (thS z b (lsM (zP z) (zpd z b) (-1) 20) (zA z).toNat).2.1 * zG z = zth z b := by
  obtain ⟨k1, hk1, hb1, he1⟩ : ∃ k : Nat, k < 20 ∧ (zpd z b).testBit k = true ∧ lsM (zP z) (zpd z b) (-1) 20 = zP z (k : Int) / 100 := by
    rcases lsM_mem (P := zP z) (m := zpd z b) (v0 := -1) 20 with e | e
    · have h1 := lsM_ge (P := zP z) (m := zpd z b) (v0 := -1) 20 k0 hk.1 hk.2
      have h2 := hm.1 k0 hk.1 hk.2
      omega
    · exact e
  have hge := lsM_ge (P := zP z) (m := zpd z b) (v0 := -1) 20
  generalize lsM (zP z) (zpd z b) (-1) 20 = la at he1 hge ⊢
  have hp1 := hm.1 k1 hk1 hb1
  have hla : 0 ≤ la ∧ la < zA z := ⟨by omega, by have := hpl k1 hk1 hb1; omega⟩
  have hF1 : 0 < zfr z b la := frp_pos 20 k1 hk1 hb1 he1.symm hp1.2.2.1
  have hF0 : ∀ a : Nat, la < (a : Int) → ¬ 0 < zfr z b (a : Int) := fun a ha h => by
    obtain ⟨k, k1, k2, k3⟩ := frp_ex 20 h
    have := hge k k1 k2
    omega
  have low : ∀ a : Nat, (a : Int) ≤ la → thS z b la a = (lsA z b a * zG z + wtA z b a * (zN z + 1), lsA z b a, wtA z b a % 2) := by
    intro a
    induction a with
    | zero => intro _; show ((0 : Int), (0 : Int), (0 : Int)) = (0 * zG z + 0 * (zN z + 1), 0, 0 % 2); rw [Int.zero_mul, Int.zero_mul]; rfl
    | succ a ih =>
      intro ha
      have ih := ih (by omega)
      have hlb := lsA_b z b a
      by_cases h : 0 < zfr z b (a : Int)
      · rw [thS_t1 h (Or.inl (by omega)), ih]
        have e1 : lsA z b (a + 1) = (a : Int) := if_pos h
        have e2 : wtA z b (a + 1) = wtA z b a + 1 := by show wtA z b a + (if 0 < zfr z b (a : Int) then 1 else 0) = _; rw [if_pos h]
        rw [e1, e2]
        dsimp only
        rw [Int.sub_mul, Int.add_mul]
        refine Prod.ext ?_ (Prod.ext rfl ?_)
        · dsimp only; omega
        · dsimp only; omega
      · rw [thS_f h, ih]
        have e1 : lsA z b (a + 1) = lsA z b a := if_neg h
        have e2 : wtA z b (a + 1) = wtA z b a := by show wtA z b a + (if 0 < zfr z b (a : Int) then 1 else 0) = _; rw [if_neg h, Int.add_zero]
        rw [e1, e2]
  have hi : ∀ a : Nat, la < (a : Int) → (thS z b la a).1 = la * zG z + (wtA z b a - 1) * (zN z + 1) + (if wtA z b a % 2 = 1 then 2 * zfr z b la else zN z + 1) ∧ (thS z b la a).2.1 = la ∧ lsA z b a = la := by
    intro a
    induction a with
    | zero => intro ha; omega
    | succ a ih =>
      intro ha
      by_cases e : (a : Int) = la
      · have h : 0 < zfr z b (a : Int) := by rw [e]; exact hF1
        have hl := low a (by omega)
        have hlb := lsA_b z b a
        have e1 : lsA z b (a + 1) = (a : Int) := if_pos h
        have e2 : wtA z b (a + 1) = wtA z b a + 1 := by show wtA z b a + (if 0 < zfr z b (a : Int) then 1 else 0) = _; rw [if_pos h]
        rw [e1, e2]
        have e3 : (wtA z b a + 1 - 1) * (zN z + 1) = wtA z b a * (zN z + 1) := by rw [Int.add_sub_cancel]
        by_cases h2 : wtA z b a % 2 = 1
        · rw [thS_t1 h (Or.inr (by rw [hl]; exact h2)), hl]
          dsimp only
          rw [Int.sub_mul, e3, if_neg (by omega), e]
          refine ⟨by omega, rfl, rfl⟩
        · rw [thS_t0 h (fun h9 => by rcases h9 with h9 | h9; omega; rw [hl] at h9; exact h2 h9), hl]
          dsimp only
          rw [Int.sub_mul, e3, if_pos (by omega), e]
          refine ⟨by omega, rfl, rfl⟩
      · have h := hF0 a (by omega)
        have ih := ih (by omega)
        have e1 : lsA z b (a + 1) = lsA z b a := if_neg h
        have e2 : wtA z b (a + 1) = wtA z b a := by show wtA z b a + (if 0 < zfr z b (a : Int) then 1 else 0) = _; rw [if_neg h, Int.add_zero]
        rw [thS_f h, e1, e2]
        exact ih
  obtain ⟨h1, h2, h3⟩ := hi (zA z).toNat (by omega)
  rw [h1, h2]
  unfold zth
  have e9 : (((lsA z b (zA z).toNat)).toNat : Int) = la := by omega
  rw [h3, Int.mul_assoc]
  by_cases h9 : wtA z b (zA z).toNat % 2 = 1
  · rw [if_pos h9]; omega
  · rw [if_neg h9]; omega
