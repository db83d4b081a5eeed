/-! ===== what the reference computes, in words of its rows ===== -/
/-- the products of the first k lines of the order o, as a set -/
def wnt (pr : Int → Int) (o : Nat) : Nat → Nat
  | 0 => 0
  | k + 1 => wnt pr o k ||| 2 ^ (pr ((5 * o + k : Nat) : Int)).toNat
/-- the products of the batch b among the first orders -/
def prd (bt : Int → Int) (W : Nat → Nat) (b : Int) : Nat → Nat
  | 0 => 0
  | o + 1 => prd bt W b o ||| (if bt (o : Int) = b then W o else 0)
/-- its lines -/
def cln (bt mn : Int → Int) (b : Int) : Nat → Int
  | 0 => 0
  | o + 1 => cln bt mn b o + (if bt (o : Int) = b then mn (o : Int) else 0)
/-- how much of p the first k lines of o ask for -/
def tvi (pr qt : Int → Int) (p : Int) (o : Nat) : Nat → Int
  | 0 => 0
  | k + 1 => tvi pr qt p o k + (if pr ((5 * o + k : Nat) : Int) = p then qt ((5 * o + k : Nat) : Int) else 0)
/-- the turnover of p among the first orders -/
def tv (st mn pr qt : Int → Int) (p : Int) : Nat → Int
  | 0 => 0
  | o + 1 => tv st mn pr qt p o + (if st (o : Int) = 2 then tvi pr qt p o (mn (o : Int)).toNat else 0)
/-- all batches behind one move up -/
def clo (bt : Int → Int) (gone : Int) (n : Nat) : Int → Int := fun j => if 0 ≤ j ∧ j < n then (if gone < bt j then bt j - 1 else bt j) else bt j
theorem clo_0 (bt : Int → Int) (gone : Int) : clo bt gone 0 = bt := by
  funext j
  unfold clo
  rw [if_neg (by omega)]
theorem clo_step (bt : Int → Int) (gone : Int) (n : Nat) : upd1 (clo bt gone n) (n : Int) (if gone < bt (n : Int) then bt (n : Int) - 1 else bt (n : Int)) = clo bt gone (n + 1) := by
  funext j
  unfold upd1 clo
  by_cases h : j = (n : Int)
  · subst h
    rw [if_pos rfl, if_pos (show 0 ≤ (n : Int) ∧ (n : Int) < ((n + 1 : Nat) : Int) by omega)]
  · rw [if_neg h]
    by_cases h2 : 0 ≤ j ∧ j < (n : Int)
    · rw [if_pos h2, if_pos (show 0 ≤ j ∧ j < ((n + 1 : Nat) : Int) by omega)]
    · rw [if_neg h2, if_neg (by omega)]
theorem clo_at (bt : Int → Int) (gone : Int) (n : Nat) : clo bt gone n (n : Int) = bt (n : Int) := by
  unfold clo
  rw [if_neg (by omega)]
/-- the second batch's orders go to the first -/
def mrg (bt : Int → Int) (fi se : Int) (n : Nat) : Int → Int := fun j => if 0 ≤ j ∧ j < n then (if bt j = se then fi else bt j) else bt j
theorem mrg_0 (bt : Int → Int) (fi se : Int) : mrg bt fi se 0 = bt := by
  funext j
  unfold mrg
  rw [if_neg (by omega)]
theorem mrg_step (bt : Int → Int) (fi se : Int) (n : Nat) : upd1 (mrg bt fi se n) (n : Int) (if bt (n : Int) = se then fi else bt (n : Int)) = mrg bt fi se (n + 1) := by
  funext j
  unfold upd1 mrg
  by_cases h : j = (n : Int)
  · subst h
    rw [if_pos rfl, if_pos (show 0 ≤ (n : Int) ∧ (n : Int) < ((n + 1 : Nat) : Int) by omega)]
  · rw [if_neg h]
    by_cases h2 : 0 ≤ j ∧ j < (n : Int)
    · rw [if_pos h2, if_pos (show 0 ≤ j ∧ j < ((n + 1 : Nat) : Int) by omega)]
    · rw [if_neg h2, if_neg (by omega)]
theorem mrg_at (bt : Int → Int) (fi se : Int) (n : Nat) : mrg bt fi se n (n : Int) = bt (n : Int) := by
  unfold mrg
  rw [if_neg (by omega)]
/-- the best pair: the saving, the first, the second; over the pairs (a, a + 1 + t) -/
def jin (sv : Nat → Nat → Int) (a : Nat) (acc : Int × Int × Int) : Nat → Int × Int × Int
  | 0 => acc
  | t + 1 => if (jin sv a acc t).1 < sv a (a + 1 + t) then (sv a (a + 1 + t), (a : Int), ((a + 1 + t : Nat) : Int)) else jin sv a acc t
def jout (sv : Nat → Nat → Int) (nb : Nat) : Nat → Int × Int × Int
  | 0 => (0, -1, -1)
  | a + 1 => jin sv a (jout sv nb a) (nb - (a + 1))
/-! the state that calls see -/
abbrev Sig : Type := (Int × Int × Int × Int) × (Nat × Nat × Int × Int) × (Int → Int) × (Int → Int) × (Int → Int) × (Int → Int) × (Int → Int) × (Int → Int) × (Int → Int)
abbrev zA (z : Sig) : Int := z.1.1
abbrev zN (z : Sig) : Int := z.1.2.1
abbrev zG (z : Sig) : Int := z.1.2.2.1
abbrev zC (z : Sig) : Int := z.1.2.2.2
abbrev zo (z : Sig) : Nat := z.2.1.1
abbrev zb (z : Sig) : Nat := z.2.1.2.1
abbrev zw (z : Sig) : Int := z.2.1.2.2.1
abbrev za (z : Sig) : Int := z.2.1.2.2.2
abbrev zP (z : Sig) : Int → Int := z.2.2.1
abbrev zdu (z : Sig) : Int → Int := z.2.2.2.1
abbrev zst (z : Sig) : Int → Int := z.2.2.2.2.1
abbrev zbt (z : Sig) : Int → Int := z.2.2.2.2.2.1
abbrev zmn (z : Sig) : Int → Int := z.2.2.2.2.2.2.1
abbrev zpr (z : Sig) : Int → Int := z.2.2.2.2.2.2.2.1
abbrev zqt (z : Sig) : Int → Int := z.2.2.2.2.2.2.2.2
/-- an order's products -/
def zW (z : Sig) (o : Nat) : Nat := wnt (zpr z) o (zmn z (o : Int)).toNat
def zpd (z : Sig) (b : Int) : Nat := prd (zbt z) (zW z) b (zo z)
def zln (z : Sig) (b : Int) : Int := cln (zbt z) (zmn z) b (zo z)
def ztv (z : Sig) (p : Int) : Int := tv (zst z) (zmn z) (zpr z) (zqt z) p (zo z)
def zto (z : Sig) (m : Nat) : Int := tour (zN z) (zG z) (zP z) m
/-- the saving of two batches; 0 where they may not be put together -/
def zsv (z : Sig) (a b : Nat) : Int := if zln z (a : Int) + zln z (b : Int) ≤ zC z then zto z (zpd z (a : Int)) + zto z (zpd z (b : Int)) - zto z (zpd z (a : Int) ||| zpd z (b : Int)) else 0
/-- how many orders are done -/
def dn (st : Int → Int) : Nat → Nat
  | 0 => 0
  | o + 1 => dn st o + (if st (o : Int) = 2 then 1 else 0)
/-- a place of a product -/
def plOk (z : Sig) (x : Int) : Prop := 0 ≤ x ∧ x / 100 < zA z ∧ 1 ≤ x % 100 ∧ x % 100 ≤ zN z
/-- what always holds of it -/
def Wf (z : Sig) : Prop :=
  (1 ≤ zA z ∧ zA z ≤ 6 ∧ 1 ≤ zN z ∧ zN z ≤ 20 ∧ 1 ≤ zG z ∧ zG z ≤ 9 ∧ 1 ≤ zC z ∧ zC z ≤ 9) ∧ (zo z ≤ 40 ∧ zb z ≤ zo z) ∧
  (∀ p : Nat, p < 20 → zP z (p : Int) = -1 ∨ plOk z (zP z (p : Int))) ∧ (∀ p p' : Nat, p < 20 → p' < 20 → zP z (p : Int) = zP z (p' : Int) → zP z (p : Int) ≠ -1 → p = p') ∧
  (∀ o : Nat, o < zo z → (0 ≤ zmn z (o : Int) ∧ zmn z (o : Int) ≤ 5) ∧ (zst z (o : Int) = 0 ∨ zst z (o : Int) = 1 ∨ zst z (o : Int) = 2) ∧ (-1 ≤ zbt z (o : Int) ∧ zbt z (o : Int) < (zb z : Int)) ∧ (0 ≤ zbt z (o : Int) ↔ zst z (o : Int) = 1) ∧ (0 ≤ zdu z (o : Int) ∧ zdu z (o : Int) ≤ 999) ∧ (zst z (o : Int) ≠ 2 → zmn z (o : Int) ≤ zC z) ∧ (zst z (o : Int) ≠ 0 → 0 < zmn z (o : Int))) ∧
  (∀ o k : Nat, o < zo z → (k : Int) < zmn z (o : Int) → (0 ≤ zpr z ((5 * o + k : Nat) : Int) ∧ zpr z ((5 * o + k : Nat) : Int) < 20) ∧ zP z (zpr z ((5 * o + k : Nat) : Int)) ≠ -1 ∧ (1 ≤ zqt z ((5 * o + k : Nat) : Int) ∧ zqt z ((5 * o + k : Nat) : Int) ≤ 99) ∧ (wnt (zpr z) o k).testBit (zpr z ((5 * o + k : Nat) : Int)).toNat = false) ∧
  (∀ b : Nat, b < zb z → zln z (b : Int) ≤ zC z ∧ ∃ o : Nat, o < zo z ∧ zbt z (o : Int) = (b : Int)) ∧
  (0 ≤ zw z ∧ zw z ≤ 660 * (dn (zst z) (zo z) : Int)) ∧ (0 ≤ za z ∧ za z ≤ 660 * (dn (zst z) (zo z) : Int))
theorem dn_le (st : Int → Int) (n : Nat) : dn st n ≤ n := by
  induction n with
  | zero => exact Nat.le_refl _
  | succ n ih => unfold dn; split <;> omega
/-! bounds -/
theorem wnt_lt {pr : Int → Int} {o : Nat} : ∀ k, (∀ i, i < k → 0 ≤ pr ((5 * o + i : Nat) : Int) ∧ pr ((5 * o + i : Nat) : Int) < 20) → wnt pr o k < 1048576 := by
  intro k
  induction k with
  | zero => intro _; show 0 < 1048576; omega
  | succ k ih =>
    intro h
    have h1 := ih (fun i hi => h i (by omega))
    have h2 := h k (by omega)
    have h3 : 2 ^ (pr ((5 * o + k : Nat) : Int)).toNat < 2 ^ 20 := Nat.pow_lt_pow_right (by omega) (by omega)
    exact Nat.or_lt_two_pow (n := 20) h1 h3
theorem wnt_cnt {pr : Int → Int} {o : Nat} : ∀ k, (∀ i, i < k → 0 ≤ pr ((5 * o + i : Nat) : Int) ∧ pr ((5 * o + i : Nat) : Int) < 20) → cntb (wnt pr o k) 20 ≤ k := by
  intro k
  induction k with
  | zero => intro _; show cntb 0 20 ≤ 0; rw [cntb_0]; omega
  | succ k ih =>
    intro h
    have h1 := ih (fun i hi => h i (by omega))
    have h2 := cntb_or (wnt pr o k) (2 ^ (pr ((5 * o + k : Nat) : Int)).toNat) 20
    have h3 : cntb (2 ^ (pr ((5 * o + k : Nat) : Int)).toNat) 20 ≤ 1 := by
      have h4 := cntb_set (m := 0) (p := (pr ((5 * o + k : Nat) : Int)).toNat) (n := 20) (Nat.zero_testBit _) (by have := h k (by omega); omega)
      rw [Nat.zero_or, cntb_0] at h4
      omega
    show cntb (wnt pr o k ||| _) 20 ≤ _
    omega
theorem wnt_bit {pr : Int → Int} {o : Nat} : ∀ k p, (wnt pr o k).testBit p = true → ∃ i, i < k ∧ (pr ((5 * o + i : Nat) : Int)).toNat = p := by
  intro k
  induction k with
  | zero => intro p h; rw [show wnt pr o 0 = 0 from rfl, Nat.zero_testBit] at h; cases h
  | succ k ih =>
    intro p h
    rw [show wnt pr o (k + 1) = wnt pr o k ||| 2 ^ (pr ((5 * o + k : Nat) : Int)).toNat from rfl, Nat.testBit_or, Nat.testBit_two_pow] at h
    simp only [Bool.or_eq_true, decide_eq_true_eq] at h
    rcases h with h | h
    · obtain ⟨i, h1, h2⟩ := ih p h
      exact ⟨i, by omega, h2⟩
    · exact ⟨k, by omega, h⟩
theorem prd_bit {bt : Int → Int} {W : Nat → Nat} {b : Int} : ∀ n p, (prd bt W b n).testBit p = true → ∃ o, o < n ∧ bt (o : Int) = b ∧ (W o).testBit p = true := by
  intro n
  induction n with
  | zero => intro p h; rw [show prd bt W b 0 = 0 from rfl, Nat.zero_testBit] at h; cases h
  | succ n ih =>
    intro p h
    rw [show prd bt W b (n + 1) = prd bt W b n ||| (if bt (n : Int) = b then W n else 0) from rfl, Nat.testBit_or] at h
    simp only [Bool.or_eq_true] at h
    rcases h with h | h
    · obtain ⟨o, h1, h2, h3⟩ := ih p h
      exact ⟨o, by omega, h2, h3⟩
    · by_cases e : bt (n : Int) = b
      · rw [if_pos e] at h; exact ⟨n, by omega, e, h⟩
      · rw [if_neg e, Nat.zero_testBit] at h; cases h
theorem prd_lt {bt : Int → Int} {W : Nat → Nat} {b : Int} : ∀ n, (∀ o, o < n → W o < 1048576) → prd bt W b n < 1048576 := by
  intro n
  induction n with
  | zero => intro _; show 0 < 1048576; omega
  | succ n ih =>
    intro h
    have h1 := ih (fun o ho => h o (by omega))
    have h2 := h n (by omega)
    refine Nat.or_lt_two_pow (n := 20) h1 ?_
    split
    · exact h2
    · omega
theorem prd_cnt {bt mn : Int → Int} {W : Nat → Nat} {b : Int} : ∀ n, (∀ o, o < n → (cntb (W o) 20 : Int) ≤ mn (o : Int)) → (cntb (prd bt W b n) 20 : Int) ≤ cln bt mn b n := by
  intro n
  induction n with
  | zero => intro _; show ((cntb 0 20 : Nat) : Int) ≤ 0; rw [cntb_0]; omega
  | succ n ih =>
    intro h
    have h1 := ih (fun o ho => h o (by omega))
    have h2 := h n (by omega)
    have h3 := cntb_or (prd bt W b n) (if bt (n : Int) = b then W n else 0) 20
    show ((cntb (prd bt W b n ||| _) 20 : Nat) : Int) ≤ cln bt mn b n + _
    split
    · next e => rw [if_pos e] at h3; omega
    · next e => rw [if_neg e, cntb_0] at h3; omega
