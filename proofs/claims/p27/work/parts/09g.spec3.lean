/-! ===== more of the reference's words ===== -/
/-- j is a next stop as good as the best -/
def sat (d : Nat → Nat → Int) (n left at_ j : Nat) : Prop := left.testBit j = true ∧ d at_ j + tr d n (left - 2 ^ j) j = tr d n left at_
/-- w is the first such from k on; -1: none -/
def isNx (d : Nat → Nat → Int) (n left at_ k : Nat) (w : Int) : Prop := (w = -1 ∧ ∀ i, k ≤ i → i < n → ¬ sat d n left at_ i) ∨ ∃ i : Nat, w = (i : Int) ∧ k ≤ i ∧ i < n ∧ sat d n left at_ i ∧ ∀ j, k ≤ j → j < i → ¬ sat d n left at_ j
theorem isNx.init {d : Nat → Nat → Int} {n left at_ : Nat} : isNx d n left at_ n (-1) := Or.inl ⟨rfl, fun i h1 h2 => by omega⟩
theorem isNx.yes {d : Nat → Nat → Int} {n left at_ k : Nat} {w : Int} (hk : k < n) (hs : sat d n left at_ k) : isNx d n left at_ k (k : Int) := Or.inr ⟨k, rfl, Nat.le_refl _, hk, hs, fun j h1 h2 => by omega⟩
theorem isNx.no {d : Nat → Nat → Int} {n left at_ k : Nat} {w : Int} (h : isNx d n left at_ (k + 1) w) (hs : ¬ sat d n left at_ k) : isNx d n left at_ k w := by
  rcases h with ⟨h1, h2⟩ | ⟨i, h1, h2, h3, h4, h5⟩
  · refine Or.inl ⟨h1, fun i h3 h4 => ?_⟩
    by_cases e : i = k
    · subst e; exact hs
    · exact h2 i (by omega) h4
  · refine Or.inr ⟨i, h1, by omega, h3, h4, fun j h6 h7 => ?_⟩
    by_cases e : j = k
    · subst e; exact hs
    · exact h5 j (by omega) h7
theorem isNx.rt {d : Nat → Nat → Int} {n i : Nat} {w : Int} (hd : okD d n) (hi : i < n) (h : isNx d n (rtS d n i).2 (rtS d n i).1 0 w) : w = ((rtS d n (i + 1)).1 : Int) := by
  obtain ⟨b1, b2, b3, b4⟩ := rtS_bit hd hi
  have hs : sat d n (rtS d n i).2 (rtS d n i).1 (rtS d n (i + 1)).1 := ⟨b2, b3⟩
  have hn : ∀ j, j < (rtS d n (i + 1)).1 → ¬ sat d n (rtS d n i).2 (rtS d n i).1 j := fun j hj hsj => by
    have := b4 j hj hsj.1
    have := hsj.2
    omega
  rcases h with ⟨h1, h2⟩ | ⟨j, h1, h2, h3, h4, h5⟩
  · exact absurd hs (h2 _ (Nat.zero_le _) b1)
  · rcases Nat.lt_trichotomy j (rtS d n (i + 1)).1 with h6 | h6 | h6
    · exact absurd h4 (hn j h6)
    · rw [h1, h6]
    · exact absurd hs (h5 _ (Nat.zero_le _) h6)
/-- the farthest position of the set m in an aisle, among the first products; 0: none -/
def fr (P : Int → Int) (m : Nat) (ai : Int) : Nat → Int
  | 0 => 0
  | p + 1 => if m.testBit p = true ∧ P (p : Int) / 100 = ai ∧ fr P m ai p < P (p : Int) % 100 then P (p : Int) % 100 else fr P m ai p
theorem fr_b (P : Int → Int) (m : Nat) (ai : Int) (n : Nat) : 0 ≤ fr P m ai n ∧ fr P m ai n ≤ 99 := by
  induction n with
  | zero => show 0 ≤ (0 : Int) ∧ (0 : Int) ≤ 99; omega
  | succ n ih => unfold fr; split <;> omega
theorem fr_t {P : Int → Int} {m : Nat} {ai : Int} {p : Nat} (h1 : m.testBit p = true) (h2 : P (p : Int) / 100 = ai) (h3 : fr P m ai p < P (p : Int) % 100) : P (p : Int) % 100 = fr P m ai (p + 1) := by
  unfold fr
  rw [if_pos ⟨h1, h2, h3⟩]
theorem fr_f {P : Int → Int} {m : Nat} {ai : Int} {p : Nat} (h : ¬ m.testBit p = true ∨ ¬ P (p : Int) / 100 = ai ∨ P (p : Int) % 100 ≤ fr P m ai p) : fr P m ai p = fr P m ai (p + 1) := by
  show _ = (if m.testBit p = true ∧ P (p : Int) / 100 = ai ∧ fr P m ai p < P (p : Int) % 100 then P (p : Int) % 100 else fr P m ai p)
  rw [if_neg]
  rintro ⟨a, b, c⟩
  rcases h with h | h | h
  · exact h a
  · exact h b
  · omega
def zfr (z : Sig) (b ai : Int) : Int := fr (zP z) (zpd z b) ai 20
/-- the last aisle with places, and how many have places, among the first -/
def lsA (z : Sig) (b : Int) : Nat → Int
  | 0 => 0
  | a + 1 => if 0 < zfr z b (a : Int) then (a : Int) else lsA z b a
def wtA (z : Sig) (b : Int) : Nat → Int
  | 0 => 0
  | a + 1 => wtA z b a + (if 0 < zfr z b (a : Int) then 1 else 0)
theorem lsA_b (z : Sig) (b : Int) (a : Nat) : 0 ≤ lsA z b a ∧ lsA z b a ≤ a ∧ 0 ≤ wtA z b a ∧ wtA z b a ≤ a := by
  induction a with
  | zero => show 0 ≤ (0 : Int) ∧ (0 : Int) ≤ ((0 : Nat) : Int) ∧ 0 ≤ (0 : Int) ∧ (0 : Int) ≤ ((0 : Nat) : Int); omega
  | succ a ih => unfold lsA wtA; split <;> omega
def zth (z : Sig) (b : Int) : Int := 2 * lsA z b (zA z).toNat * zG z + (wtA z b (zA z).toNat - 1) * (zN z + 1) + (if wtA z b (zA z).toNat % 2 = 1 then 2 * zfr z b (lsA z b (zA z).toNat) else zN z + 1)
/-- how many of the first batches have places in an aisle -/
def ciA (z : Sig) (ai : Int) : Nat → Int
  | 0 => 0
  | b + 1 => ciA z ai b + (if 0 < zfr z (b : Int) ai then 1 else 0)
theorem ciA_b (z : Sig) (ai : Int) (n : Nat) : 0 ≤ ciA z ai n ∧ ciA z ai n ≤ n := by
  induction n with
  | zero => show 0 ≤ (0 : Int) ∧ (0 : Int) ≤ ((0 : Nat) : Int); omega
  | succ n ih => unfold ciA; split <;> omega
theorem tix_mod : ∀ i : Nat, 80 ≤ i → i ≤ 88 → i ∈ tix := by
  intro i h1 h2
  have : ∀ j : Nat, j < 9 → 80 + j ∈ tix := by decide
  have h3 := this (i - 80) (by omega)
  rw [show 80 + (i - 80) = i by omega] at h3
  exact h3
theorem isNx.b {d : Nat → Nat → Int} {n left at_ k : Nat} {w : Int} (h : isNx d n left at_ k w) : -1 ≤ w ∧ w < (n : Int) ∨ w = -1 := by
  rcases h with ⟨h1, -⟩ | ⟨i, h1, h2, h3, -, -⟩
  · exact Or.inr h1
  · exact Or.inl ⟨by omega, by omega⟩
theorem isNx.no' {d : Nat → Nat → Int} {n left at_ kk : Nat} {w : Int} (hk : 0 < kk) (h : isNx d n left at_ kk w) (hs : ¬ sat d n left at_ (kk - 1)) : isNx d n left at_ (kk - 1) w := by
  obtain ⟨k, rfl⟩ : ∃ k, kk = k + 1 := ⟨kk - 1, by omega⟩
  exact h.no hs
theorem rtS_out {d : Nat → Nat → Int} {n : Nat} (hd : okD d n) : ∀ i, i ≤ n → ((rtS d n i).1 < n ∧ (rtS d n i).2.testBit (rtS d n i).1 = false) ∨ (rtS d n i).1 = 9 := by
  intro i hi
  cases i with
  | zero => exact Or.inr rfl
  | succ i =>
    obtain ⟨b1, b2, -, -⟩ := rtS_bit hd (i := i) (by omega)
    refine Or.inl ⟨b1, ?_⟩
    show ((rtS d n i).2 - 2 ^ (rtS d n (i + 1)).1).testBit (rtS d n (i + 1)).1 = false
    rw [tb_sub b2]
    simp
theorem OnM.get2 {n : Nat} {d : Nat → Nat → Int} {F : Int → Int} {left k b : Nat} (h : OnM n d F b) (hl : left < b) (hk : k < n) (hb : left.testBit k = true) : F ((10 * (left - 2 ^ k) + k : Nat) : Int) = tr d n (left - 2 ^ k) k := by
  refine h (left - 2 ^ k) k (Nat.lt_of_le_of_lt (Nat.sub_le _ _) hl) (Or.inl ⟨hk, ?_⟩)
  rw [tb_sub hb]
  simp
theorem upd1_next {F : Int → Int} {g : Nat → Int} {i : Nat} (h : ∀ x : Nat, x < i → F (x : Int) = g x) : ∀ x : Nat, x < i + 1 → upd1 F (i : Int) (g i) (x : Int) = g x := by
  intro x hx
  unfold upd1
  by_cases e : x = i
  · subst e; rw [if_pos rfl]
  · rw [if_neg (by omega)]; exact h x (by omega)
