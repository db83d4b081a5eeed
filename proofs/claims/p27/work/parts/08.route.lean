/-! ===== bits ===== -/
theorem ib_sl : ∀ n, n < 32 → ((nI n &&& 31).toBitVec.smod 32).toNat = n := by decide +kernel
theorem ib_nI (n : Nat) : iI (n : Int) = nI n := iI_nat n
theorem ib_shr {m p : Nat} (hm : m < 2147483648) (hp : p < 32) : iI (m : Int) >>> (iI (p : Int) &&& 31) = iI ((m / 2 ^ p : Nat) : Int) := by
  rw [ib_nI, ib_nI, ib_nI]
  exact pk_shrN (by omega) _ p (ib_sl p hp)
theorem ib_and (a b : Nat) : iI (a : Int) &&& iI (b : Int) = iI ((a &&& b : Nat) : Int) := by
  rw [ib_nI, ib_nI, ib_nI]
  apply Int32.toBitVec_inj.1
  show BitVec.ofNat 32 a &&& BitVec.ofNat 32 b = BitVec.ofNat 32 (a &&& b)
  apply BitVec.eq_of_getLsbD_eq
  intro i hi
  simp [hi]
theorem ib_or (a b : Nat) : iI (a : Int) ||| iI (b : Int) = iI ((a ||| b : Nat) : Int) := by
  rw [ib_nI, ib_nI, ib_nI]
  apply Int32.toBitVec_inj.1
  show BitVec.ofNat 32 a ||| BitVec.ofNat 32 b = BitVec.ofNat 32 (a ||| b)
  apply BitVec.eq_of_getLsbD_eq
  intro i hi
  simp [hi]
theorem ib_xor (a b : Nat) : iI (a : Int) ^^^ iI (b : Int) = iI ((a ^^^ b : Nat) : Int) := by
  rw [ib_nI, ib_nI, ib_nI]
  apply Int32.toBitVec_inj.1
  show BitVec.ofNat 32 a ^^^ BitVec.ofNat 32 b = BitVec.ofNat 32 (a ^^^ b)
  apply BitVec.eq_of_getLsbD_eq
  intro i hi
  simp [hi]
theorem ib_shl {p : Nat} (hp : p < 31) : iI 1 <<< (iI (p : Int) &&& 31) = iI ((2 ^ p : Nat) : Int) := by
  have h1 : iI 1 = nI 1 := iI_nat 1
  have h2 : 2 ^ p < 2 ^ 31 := Nat.pow_lt_pow_right (by omega) hp
  rw [h1, ib_nI, ib_nI, pk_shlN (n := 1) _ p (ib_sl p (by omega)) (by omega), Nat.one_mul]
theorem ib_bit {m p : Nat} (hm : m < 2147483648) (hp : p < 32) : iI ((m / 2 ^ p : Nat) : Int) &&& iI 1 = iI ((m / 2 ^ p % 2 : Nat) : Int) := by
  have h1 : (1 : Int) = ((1 : Nat) : Int) := rfl
  rw [h1, ib_and]
  congr 2
  exact Nat.and_one_is_mod _
theorem tb_1 {m p : Nat} (h : m / 2 ^ p % 2 ≠ 0) : m.testBit p = true := by
  rw [Nat.testBit_eq_decide_div_mod_eq]
  exact decide_eq_true (by omega)
theorem tb_0 {m p : Nat} (h : m / 2 ^ p % 2 = 0) : m.testBit p = false := by
  rw [Nat.testBit_eq_decide_div_mod_eq]
  exact decide_eq_false (by omega)
theorem tb_ge {m k : Nat} (h : m.testBit k = true) : 2 ^ k ≤ m := by
  rcases Nat.lt_or_ge m (2 ^ k) with h1 | h1
  · rw [Nat.testBit_lt_two_pow h1] at h
    cases h
  · exact h1
/-- a bit taken away -/
theorem tb_sub {m k : Nat} (h : m.testBit k = true) (j : Nat) : (m - 2 ^ k).testBit j = (m.testBit j && !decide (j = k)) := by
  have hp : 0 < 2 ^ k := Nat.two_pow_pos k
  have hx : m / 2 ^ k % 2 = 1 := by
    rw [Nat.testBit_eq_decide_div_mod_eq] at h
    exact of_decide_eq_true h
  have hb : m % 2 ^ k < 2 ^ k := Nat.mod_lt _ hp
  have e1 : m = 2 ^ k * (m / 2 ^ k) + m % 2 ^ k := (Nat.div_add_mod m (2 ^ k)).symm
  generalize m / 2 ^ k = x at hx e1
  generalize m % 2 ^ k = b at hb e1
  obtain ⟨y, rfl⟩ : ∃ y, x = y + 1 := ⟨x - 1, by omega⟩
  have e2 : m - 2 ^ k = 2 ^ k * y + b := by
    rw [e1, Nat.mul_succ]
    omega
  rw [e2, e1, Nat.two_pow_add_eq_or_of_lt hb, Nat.two_pow_add_eq_or_of_lt hb, Nat.testBit_or, Nat.testBit_or, Nat.testBit_two_pow_mul, Nat.testBit_two_pow_mul]
  rcases Nat.lt_trichotomy j k with h1 | h1 | h1
  · have e3 : ¬ j ≥ k := by omega
    have e4 : ¬ j = k := by omega
    simp [e3, e4]
  · subst h1
    have e5 : y % 2 = 0 := by omega
    have e6 : b.testBit j = false := Nat.testBit_lt_two_pow hb
    simp [e6, Nat.testBit_zero, e5]
  · obtain ⟨t, ht⟩ : ∃ t, j - k = t + 1 := ⟨j - k - 1, by omega⟩
    have e4 : ¬ j = k := by omega
    have e7 : (y + 1) / 2 = y / 2 := by omega
    rw [ht, Nat.testBit_succ, Nat.testBit_succ, e7]
    simp [e4]
theorem tb_xor {m k : Nat} (h : m.testBit k = true) : m ^^^ 2 ^ k = m - 2 ^ k := by
  apply Nat.eq_of_testBit_eq
  intro i
  rw [tb_sub h, Nat.testBit_xor, Nat.testBit_two_pow]
  by_cases hi : k = i
  · subst hi; simp [h]
  · have hi2 : ¬ i = k := fun e => hi e.symm
    simp [hi, hi2]
theorem tb_full {n k : Nat} : (2 ^ n - 1).testBit k = decide (k < n) := Nat.testBit_two_pow_sub_one n k
theorem tb_lt {m n k : Nat} (h : m < 2 ^ n) (hk : m.testBit k = true) : k < n := by
  rcases Nat.lt_or_ge k n with h1 | h1
  · exact h1
  · have h2 := tb_ge hk
    have h3 : 2 ^ n ≤ 2 ^ k := Nat.pow_le_pow_right (by omega) h1
    omega
theorem tb_some {m n : Nat} (h : m < 2 ^ n) (h0 : m ≠ 0) : ∃ k, k < n ∧ m.testBit k = true := by
  obtain ⟨k, hk⟩ := Nat.exists_testBit_of_ne_zero h0
  exact ⟨k, tb_lt h hk, hk⟩
/-! ===== the least tour by a set, from a point, home; 9 is home ===== -/
/-- the least of g over the bits of left below n, from B on -/
def mnb (B : Int) (left : Nat) (g : Nat → Int) : Nat → Int
  | 0 => B
  | n + 1 => if left.testBit n then minI (mnb B left g n) (g n) else mnb B left g n
theorem mnb_le (B : Int) (left : Nat) (g : Nat → Int) (n : Nat) : mnb B left g n ≤ B := by
  induction n with
  | zero => exact Int.le_refl _
  | succ n ih =>
    unfold mnb
    split
    · have := minI_b (mnb B left g n) (g n); omega
    · exact ih
theorem mnb_le_g (B : Int) (left : Nat) (g : Nat → Int) {n k : Nat} (hk : k < n) (hb : left.testBit k = true) : mnb B left g n ≤ g k := by
  induction n with
  | zero => omega
  | succ n ih =>
    unfold mnb
    by_cases h : k = n
    · subst h
      rw [if_pos hb]
      have := minI_b (mnb B left g k) (g k); omega
    · have h1 := ih (by omega)
      split
      · have := minI_b (mnb B left g n) (g n); omega
      · exact h1
theorem mnb_mem (B : Int) (left : Nat) (g : Nat → Int) (n : Nat) : mnb B left g n = B ∨ ∃ k, k < n ∧ left.testBit k = true ∧ mnb B left g n = g k := by
  induction n with
  | zero => exact Or.inl rfl
  | succ n ih =>
    unfold mnb
    by_cases hb : left.testBit n = true
    · rw [if_pos hb]
      rcases (minI_b (mnb B left g n) (g n)).2.2 with h | h
      · rw [h]
        rcases ih with h1 | ⟨k, h1, h2, h3⟩
        · exact Or.inl h1
        · exact Or.inr ⟨k, by omega, h2, h3⟩
      · exact Or.inr ⟨n, by omega, hb, h⟩
    · rw [if_neg hb]
      rcases ih with h1 | ⟨k, h1, h2, h3⟩
      · exact Or.inl h1
      · exact Or.inr ⟨k, by omega, h2, h3⟩
/-- the bound does not matter where some value is under it -/
theorem mnb_B {B B' : Int} {left : Nat} {g : Nat → Int} {n k : Nat} (hk : k < n) (hb : left.testBit k = true) (h1 : g k < B) (h2 : g k < B') : mnb B left g n = mnb B' left g n := by
  have a1 := mnb_le_g B left g hk hb
  have a2 := mnb_le_g B' left g hk hb
  rcases mnb_mem B left g n with h | ⟨i, i1, i2, i3⟩
  · omega
  · rcases mnb_mem B' left g n with h' | ⟨j, j1, j2, j3⟩
    · omega
    · have b1 := mnb_le_g B left g j1 j2
      have b2 := mnb_le_g B' left g i1 i2
      omega
theorem mnb_congr {B : Int} {left : Nat} {g h : Nat → Int} {n : Nat} (e : ∀ k, k < n → left.testBit k = true → g k = h k) : mnb B left g n = mnb B left h n := by
  induction n with
  | zero => rfl
  | succ n ih =>
    unfold mnb
    rw [ih (fun k a b => e k (by omega) b)]
    by_cases hb : left.testBit n = true
    · rw [if_pos hb, if_pos hb, e n (by omega) hb]
    · rw [if_neg hb, if_neg hb]
def trF (d : Nat → Nat → Int) (n : Nat) : Nat → Nat → Nat → Int
  | 0, _, src => d src 9
  | f + 1, left, src => if left = 0 then d src 9 else mnb 1000000 left (fun k => d src k + trF d n f (left - 2 ^ k) k) n
/-- the least length from src by the points of left home -/
def tr (d : Nat → Nat → Int) (n left src : Nat) : Int := trF d n left left src
theorem trF_fuel (d : Nat → Nat → Int) (n : Nat) : ∀ f f' left src, left ≤ f → left ≤ f' → trF d n f left src = trF d n f' left src := by
  intro f
  induction f with
  | zero =>
    intro f' left src h1 h2
    have h0 : left = 0 := by omega
    subst h0
    cases f' with
    | zero => rfl
    | succ f' => unfold trF; rw [if_pos rfl]
  | succ f ih =>
    intro f' left src h1 h2
    cases f' with
    | zero =>
      have h0 : left = 0 := by omega
      subst h0
      unfold trF; rw [if_pos rfl]
    | succ f' =>
      unfold trF
      by_cases h0 : left = 0
      · rw [if_pos h0, if_pos h0]
      · rw [if_neg h0, if_neg h0]
        refine mnb_congr fun k hk hb => ?_
        have h3 := tb_ge hb
        have h4 : 0 < 2 ^ k := Nat.two_pow_pos _
        rw [ih f' (left - 2 ^ k) k (by omega) (by omega)]
theorem tr_0 (d : Nat → Nat → Int) (n src : Nat) : tr d n 0 src = d src 9 := rfl
theorem tr_step (d : Nat → Nat → Int) (n : Nat) {left src : Nat} (h : left ≠ 0) : tr d n left src = mnb 1000000 left (fun k => d src k + tr d n (left - 2 ^ k) k) n := by
  have h1 : tr d n left src = trF d n ((left - 1) + 1) left src := trF_fuel d n left _ left src (Nat.le_refl _) (by omega)
  rw [h1]
  unfold trF
  rw [if_neg h]
  refine mnb_congr fun k hk hb => ?_
  have h3 := tb_ge hb
  have h4 : 0 < 2 ^ k := Nat.two_pow_pos _
  unfold tr
  rw [trF_fuel d n (left - 1) (left - 2 ^ k) (left - 2 ^ k) k (by omega) (Nat.le_refl _)]
/-- the distances are small and not negative -/
def okD (d : Nat → Nat → Int) (n : Nat) : Prop := n ≤ 9 ∧ ∀ i j, (i < n ∨ i = 9) → (j < n ∨ j = 9) → 0 ≤ d i j ∧ d i j ≤ 66
theorem trF_nn {d : Nat → Nat → Int} {n : Nat} (hd : okD d n) : ∀ f left src, (src < n ∨ src = 9) → 0 ≤ trF d n f left src := by
  intro f
  induction f with
  | zero => intro left src hs; exact (hd.2 src 9 hs (Or.inr rfl)).1
  | succ f ih =>
    intro left src hs
    unfold trF
    split
    · exact (hd.2 src 9 hs (Or.inr rfl)).1
    · rcases mnb_mem 1000000 left (fun k => d src k + trF d n f (left - 2 ^ k) k) n with h | ⟨k, k1, k2, k3⟩
      · omega
      · rw [k3]
        have h1 := hd.2 src k hs (Or.inl k1)
        have h2 := ih (left - 2 ^ k) k (Or.inl k1)
        omega
theorem tr_nn {d : Nat → Nat → Int} {n : Nat} (hd : okD d n) (left src : Nat) (hs : src < n ∨ src = 9) : 0 ≤ tr d n left src := trF_nn hd left left src hs
theorem tr_b {d : Nat → Nat → Int} {n : Nat} (hd : okD d n) : ∀ j left src, j ≤ n → left < 2 ^ j → (src < n ∨ src = 9) → 0 ≤ tr d n left src ∧ tr d n left src ≤ 66 * ((j : Int) + 1) := by
  intro j
  induction j with
  | zero =>
    intro left src _ hl hs
    have h0 : left = 0 := by omega
    subst h0
    rw [tr_0]
    have := hd.2 src 9 hs (Or.inr rfl)
    omega
  | succ j ih =>
    intro left src hj hl hs
    by_cases hlt : left < 2 ^ j
    · have := ih left src (by omega) hlt hs
      omega
    · have hb : left.testBit j = true := by
        rw [Nat.testBit_eq_decide_div_mod_eq]
        have h2 : 2 ^ (j + 1) = 2 ^ j * 2 := Nat.pow_succ 2 j
        have h3 : 0 < 2 ^ j := Nat.two_pow_pos _
        have h4 : left / 2 ^ j = 1 := by
          apply Nat.div_eq_of_lt_le <;> omega
        rw [h4]; rfl
      have h2 : 2 ^ (j + 1) = 2 ^ j * 2 := Nat.pow_succ 2 j
      have h3 : 0 < 2 ^ j := Nat.two_pow_pos _
      have h0 : left ≠ 0 := by omega
      rw [tr_step d n h0]
      have h5 := mnb_le_g 1000000 left (fun k => d src k + tr d n (left - 2 ^ k) k) (show j < n by omega) hb
      have h6 := ih (left - 2 ^ j) j (by omega) (by omega) (Or.inl (by omega))
      have h7 := hd.2 src j hs (Or.inl (by omega))
      have h8 := tr_nn hd left src hs
      rw [tr_step d n h0] at h8
      exact ⟨h8, by omega⟩
