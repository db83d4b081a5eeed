/-! ===== pure words ===== -/
def absI (x : Int) : Int := if 0 ≤ x then x else 0 - x
def minI (x y : Int) : Int := if y < x then y else x
def maxI (x y : Int) : Int := if x < y then y else x
theorem absI_b (x : Int) : 0 ≤ absI x ∧ (absI x = x ∨ absI x = 0 - x) := by unfold absI; split <;> omega
theorem minI_b (x y : Int) : minI x y ≤ x ∧ minI x y ≤ y ∧ (minI x y = x ∨ minI x y = y) := by unfold minI; split <;> omega
theorem maxI_b (x y : Int) : x ≤ maxI x y ∧ y ≤ maxI x y ∧ (maxI x y = x ∨ maxI x y = y) := by unfold maxI; split <;> omega
/-- the distance of two places; N positions, the gap G -/
def dst (N G x y : Int) : Int := if absI (x / 100 - y / 100) = 0 then absI (x % 100 - y % 100) else absI (x / 100 - y / 100) * G + minI (x % 100 + y % 100) (2 * (N + 1) - (x % 100 + y % 100))
/-- a place's number: the start, or a place -/
def isPl (x : Int) : Prop := 0 ≤ x ∧ x / 100 ≤ 5 ∧ x % 100 ≤ 20
theorem dst_b {N G x y : Int} (hN : 1 ≤ N ∧ N ≤ 20) (hG : 1 ≤ G ∧ G ≤ 9) (hx : isPl x) (hy : isPl y) (hxN : x % 100 ≤ N) (hyN : y % 100 ≤ N) : 0 ≤ dst N G x y ∧ dst N G x y ≤ 66 := by
  obtain ⟨x1, x2, x3⟩ := hx
  obtain ⟨y1, y2, y3⟩ := hy
  have a1 := absI_b (x / 100 - y / 100)
  have a2 := absI_b (x % 100 - y % 100)
  have a3 := minI_b (x % 100 + y % 100) (2 * (N + 1) - (x % 100 + y % 100))
  have a4 : absI (x / 100 - y / 100) ≤ 5 := by omega
  have a5 : 0 ≤ absI (x / 100 - y / 100) * G := Int.mul_nonneg a1.1 (by omega)
  have a6 : absI (x / 100 - y / 100) * G ≤ 5 * 9 := Int.mul_le_mul a4 hG.2 (by omega) (by omega)
  unfold dst
  split <;> omega
/-- what the constructor was told -/
def Cf (S : Sto) (q : Nat → Nat) : Prop := 1 ≤ sI S (q 1) 0 ∧ sI S (q 1) 0 ≤ 6 ∧ 1 ≤ sI S (q 1) 1 ∧ sI S (q 1) 1 ≤ 20 ∧ 1 ≤ sI S (q 1) 2 ∧ sI S (q 1) 2 ≤ 9
/-- the first place from 0 on where F is v -/
def firstAt (F : Int → Int) (v : Int) : Nat → Int
  | 0 => -1
  | n + 1 => if firstAt F v n = -1 then (if F n = v then (n : Int) else -1) else firstAt F v n
theorem firstAt_no {F : Int → Int} {v : Int} {n : Nat} (h : ∀ j : Int, 0 ≤ j → j < n → F j ≠ v) : firstAt F v n = -1 := by
  induction n with
  | zero => rfl
  | succ n ih =>
    have h1 := ih (fun j a b => h j a (by omega))
    unfold firstAt
    rw [if_pos h1, if_neg (h n (by omega) (by omega))]
theorem firstAt_yes {F : Int → Int} {v : Int} {n i : Nat} (h : ∀ j : Int, 0 ≤ j → j < i → F j ≠ v) (hi : F i = v) (hn : i < n) : firstAt F v n = i := by
  induction n with
  | zero => omega
  | succ n ih =>
    unfold firstAt
    by_cases hin : i = n
    · subst hin
      rw [if_pos (firstAt_no h), if_pos hi]
    · have h1 := ih (by omega)
      rw [h1, if_neg (by omega)]
