/-! ===== the law's rows hold a state ===== -/
def LRq (S : Sto) (q : Nat → Nat) (z : Sig) : Prop := sI S (q 80) 0 = zC z ∧ sI S (q 80) 1 = (zo z : Int) ∧ sI S (q 80) 2 = (zb z : Int) ∧ sI S (q 80) 3 = zw z ∧ sI S (q 80) 4 = za z ∧ sI S (q 80) 5 = zA z ∧ sI S (q 80) 6 = zN z ∧ sI S (q 80) 7 = zG z
def LRp (S : Sto) (q : Nat → Nat) (z : Sig) : Prop := sI S (q 81) = zP z ∧ sI S (q 84) = zpr z ∧ sI S (q 85) = zqt z
def LRo (S : Sto) (q : Nat → Nat) (z : Sig) : Prop := ∀ o : Nat, o < zo z → sI S (q 83) ((4 * o : Nat) : Int) = zdu z (o : Int) ∧ sI S (q 83) ((4 * o + 1 : Nat) : Int) = zst z (o : Int) ∧ sI S (q 83) ((4 * o + 2 : Nat) : Int) = zbt z (o : Int) ∧ sI S (q 83) ((4 * o + 3 : Nat) : Int) = zmn z (o : Int)
def LR (S : Sto) (q : Nat → Nat) (z : Sig) : Prop := LRq S q z ∧ LRp S q z ∧ LRo S q z ∧ (∀ p : Nat, p < 20 → sI S (q 82) (p : Int) = ztv z (p : Int)) ∧ zo z ≤ 12 ∧ zC z ≤ 6
/-- all but the rows of the routes is as it was -/
def KR (S : Sto) (q : Nat → Nat) (f : Nat → Int → Int) : Prop := ∀ c j, c ≠ q 87 → c ≠ q 88 → f c j = sI S c j
theorem KR.at {S : Sto} {q : Nat → Nat} {f : Nat → Int → Int} (h : KR S q f) (hT : Top S q) (i : Nat) (hi : i ∈ tix := by decide) (hn : i ≠ 87 ∧ i ≠ 88 := by decide) : f (q i) = sI S (q i) := funext fun j => h _ j (hT.ne i 87 hi (by decide) hn.1) (hT.ne i 88 hi (by decide) hn.2)
theorem lo_and (x : Int) : ∃ y : Int, 0 ≤ y ∧ y < 2147483648 ∧ iI x &&& iI 2147483647 = iI y := by
  refine ⟨(iI x &&& iI 2147483647).toInt, ?_, ?_, (iI_of _).symm⟩
  · have h : (iI x &&& iI 2147483647).toInt = (((iI x).toBitVec &&& (iI 2147483647).toBitVec).toNat : Int) := by
      show ((iI x).toBitVec &&& (iI 2147483647).toBitVec).toInt = _
      apply BitVec.toInt_eq_toNat_of_msb
      rw [BitVec.msb_and, show (iI 2147483647).toBitVec.msb = false by decide, Bool.and_false]
    rw [h]
    exact Int.natCast_nonneg _
  · have := (inR_of (iI x &&& iI 2147483647)).2
    exact this
/-! a row of numbers, turned round behind k -/
def rvP (G : Int → Int) (k n a : Int) : Int → Int := fun j => if (k + 1 ≤ j ∧ j < a) ∨ (k + n - a < j ∧ j < n) then G (k + n - j) else G j
theorem rvP_0 (G : Int → Int) (k n : Int) : rvP G k n (k + 1) = G := by
  funext j
  unfold rvP
  rw [if_neg (by omega)]
theorem rvP_lo {G : Int → Int} {k n a : Int} : rvP G k n a a = if k + n - a < a ∧ a < n then G (k + n - a) else G a := by
  unfold rvP
  by_cases h : k + n - a < a ∧ a < n
  · rw [if_pos h, if_pos (Or.inr h)]
  · rw [if_neg h, if_neg (by omega)]
theorem rvP_step {G : Int → Int} {k n a b : Int} (hb : b = k + n - a) (h1 : k + 1 ≤ a) (h2 : a < b) (h3 : b < n) : upd1 (upd1 (rvP G k n a) a (rvP G k n a b)) b (rvP G k n a a) = rvP G k n (a + 1) := by
  subst hb
  have e1 : rvP G k n a a = G a := by unfold rvP; rw [if_neg (by omega)]
  have e2 : rvP G k n a (k + n - a) = G (k + n - a) := by unfold rvP; rw [if_neg (by omega)]
  rw [e1, e2]
  funext j
  unfold upd1
  by_cases hj : j = k + n - a
  · rw [if_pos hj]
    unfold rvP
    rw [if_pos (by omega), hj, show k + n - (k + n - a) = a by omega]
  · rw [if_neg hj]
    by_cases hj2 : j = a
    · rw [if_pos hj2]
      unfold rvP
      rw [if_pos (by omega), hj2]
    · rw [if_neg hj2]
      unfold rvP
      by_cases h : (k + 1 ≤ j ∧ j < a) ∨ (k + n - a < j ∧ j < n)
      · rw [if_pos h, if_pos (by omega)]
      · rw [if_neg h, if_neg (by omega)]
theorem rvP_end {F : Int → Int} {k n i a : Int} (h : k + n - a ≤ a) (h1 : k + 1 ≤ a) (h2 : a ≤ n) : rvP (swF F k i) k n a = nxF F n k i := by
  funext j
  unfold rvP nxF
  by_cases h3 : k + 1 ≤ j ∧ j < n
  · rw [if_pos h3]
    by_cases h4 : (k + 1 ≤ j ∧ j < a) ∨ (k + n - a < j ∧ j < n)
    · rw [if_pos h4]
    · rw [if_neg h4, show k + n - j = j by omega]
  · rw [if_neg h3, if_neg (by omega)]
theorem swF_up (F : Int → Int) (k i : Int) : upd1 (upd1 F k (F i)) i (F k) = swF F k i := by
  funext j
  unfold upd1 swF
  rfl
theorem kfL_f {F : Int → Int} {k : Nat} (h : ¬ F ((k + 1 : Nat) : Int) < F (k : Int)) : kfL (gtF F) (k + 1) = k + 1 := by
  unfold kfL gtF
  rw [decide_eq_false h]
  rfl
theorem kfL_t {F : Int → Int} {k : Nat} (h : F ((k + 1 : Nat) : Int) < F (k : Int)) : kfL (gtF F) (k + 1) = kfL (gtF F) k := by
  have e : gtF F k = true := decide_eq_true h
  show (if gtF F k = true then _ else _) = _
  rw [if_pos e]
theorem jfL_f {F : Int → Int} {k i : Nat} (hi : 0 < i) (h : ¬ F (i : Int) < F (k : Int)) : jfL (ltF F k) i = i := by
  obtain ⟨j, rfl⟩ : ∃ j, i = j + 1 := ⟨i - 1, by omega⟩
  unfold jfL ltF
  rw [decide_eq_false h]
  rfl
theorem jfL_t {F : Int → Int} {k i : Nat} (hi : 0 < i) (h : F (i : Int) < F (k : Int)) : jfL (ltF F k) i = jfL (ltF F k) (i - 1) := by
  obtain ⟨j, rfl⟩ : ∃ j, i = j + 1 := ⟨i - 1, by omega⟩
  have e : ltF F k (j + 1) = true := decide_eq_true h
  show (if ltF F k (j + 1) = true then _ else _) = _
  rw [if_pos e]
  rfl
/-! the places of a set, by rising numbers -/
def clP (pl : Nat → Int) (s : Int) : Nat → Nat
  | 0 => 0
  | n + 1 => clP pl s n + (if pl n < s then 1 else 0)
def cIx (P : Int → Int) (m : Nat) (s : Int) : Nat → Nat
  | 0 => 0
  | k + 1 => if m.testBit k = true ∧ P (k : Int) = s then 1 else cIx P m s k
/-- pl are the places of the products m, by rising numbers -/
def Rte (P : Int → Int) (m n : Nat) (pl : Nat → Int) : Prop := (∀ i j, i < n → j < n → (pl i < pl j ↔ i < j)) ∧ (∀ j, j < n → 1 ≤ pl j ∧ pl j < 700) ∧ (∀ k : Nat, k < 20 → m.testBit k = true → ∃ j, j < n ∧ pl j = P (k : Int)) ∧ (∀ j, j < n → ∃ k : Nat, k < 20 ∧ m.testBit k = true ∧ P (k : Int) = pl j) ∧ (∀ a b : Nat, a < 20 → b < 20 → m.testBit a = true → m.testBit b = true → P (a : Int) = P (b : Int) → a = b) ∧ n ≤ 6
theorem clP_le (pl : Nat → Int) (s : Int) (n : Nat) : clP pl s n ≤ n := by
  induction n with
  | zero => exact Nat.le_refl _
  | succ n ih => unfold clP; split <;> omega
theorem clP_lt {pl : Nat → Int} {s : Int} : ∀ n, (∀ i j, i < n → j < n → (pl i < pl j ↔ i < j)) → ∀ j, j < n → (j < clP pl s n ↔ pl j < s) := by
  intro n
  induction n with
  | zero => intro _ j hj; omega
  | succ n ih =>
    intro hm j hj
    have ih := ih (fun i j hi hj => hm i j (by omega) (by omega))
    have hle := clP_le pl s n
    by_cases h : pl n < s
    · have hall : ∀ i, i < n → pl i < s := fun i hi => by
        have := (hm i n (by omega) (by omega)).mpr hi
        omega
      have hn : clP pl s n = n := by
        rcases Nat.lt_or_ge (clP pl s n) n with h1 | h1
        · have := (ih _ h1).mpr (hall _ h1)
          omega
        · omega
      unfold clP
      rw [if_pos h, hn]
      refine ⟨fun _ => ?_, fun _ => hj⟩
      by_cases e : j = n
      · rw [e]; exact h
      · exact hall j (by omega)
    · unfold clP
      rw [if_neg h, Nat.add_zero]
      by_cases e : j = n
      · subst e
        exact ⟨fun h1 => by omega, fun h1 => absurd h1 h⟩
      · exact ih j (by omega)
theorem cIx_le (P : Int → Int) (m : Nat) (s : Int) (k : Nat) : cIx P m s k ≤ 1 := by
  induction k with
  | zero => exact Nat.zero_le _
  | succ k ih => unfold cIx; split <;> omega
theorem cIx_t {P : Int → Int} {m : Nat} {s : Int} {k : Nat} (h : m.testBit k = true ∧ P (k : Int) = s) : cIx P m s (k + 1) = 1 := if_pos h
theorem cIx_f {P : Int → Int} {m : Nat} {s : Int} {k : Nat} (h : ¬ (m.testBit k = true ∧ P (k : Int) = s)) : cIx P m s (k + 1) = cIx P m s k := if_neg h
theorem cIx_ex {P : Int → Int} {m : Nat} {s : Int} : ∀ k, cIx P m s k ≠ 0 → ∃ j : Nat, j < k ∧ m.testBit j = true ∧ P (j : Int) = s := by
  intro k
  induction k with
  | zero => intro h; exact absurd rfl h
  | succ k ih =>
    intro h
    by_cases e : m.testBit k = true ∧ P (k : Int) = s
    · exact ⟨k, by omega, e.1, e.2⟩
    · rw [cIx_f e] at h
      obtain ⟨j, h1, h2⟩ := ih h
      exact ⟨j, by omega, h2⟩
theorem cIx_has {P : Int → Int} {m : Nat} {s : Int} : ∀ k (j : Nat), j < k → m.testBit j = true → P (j : Int) = s → cIx P m s k = 1 := by
  intro k
  induction k with
  | zero => intro j hj; omega
  | succ k ih =>
    intro j hj h1 h2
    by_cases e : m.testBit k = true ∧ P (k : Int) = s
    · exact cIx_t e
    · rw [cIx_f e]
      by_cases e2 : j = k
      · subst e2; exact absurd ⟨h1, h2⟩ e
      · exact ih j (by omega) h1 h2
/-- the next place comes -/
theorem Rte.put {P : Int → Int} {m n : Nat} {pl : Nat → Int} (h : Rte P m n pl) {s : Int} {k : Nat} (hk : k < 20) (hb : m.testBit k = true) (hs : P (k : Int) = s) : cIx P m s k = 0 ∧ clP pl s n < n ∧ pl (clP pl s n) = s := by
  obtain ⟨h1, h2, h3, h4, h5, h6⟩ := h
  refine ⟨?_, ?_⟩
  · rcases Nat.eq_zero_or_pos (cIx P m s k) with e | e
    · exact e
    · obtain ⟨j, j1, j2, j3⟩ := cIx_ex (P := P) (m := m) (s := s) k (by omega)
      have := h5 j k (by omega) hk j2 hb (by rw [j3, hs])
      omega
  · obtain ⟨j, j1, j2⟩ := h3 k hk hb
    rw [hs] at j2
    have e : clP pl s n = j := by
      have hle := clP_le pl s n
      rcases Nat.lt_trichotomy (clP pl s n) j with e | e | e
      · have a1 : ¬ pl (clP pl s n) < s := fun h9 => Nat.lt_irrefl _ ((clP_lt n h1 (clP pl s n) (by omega)).mpr h9)
        have a2 := (h1 (clP pl s n) j (by omega) j1).mpr e
        omega
      · exact e
      · have := (clP_lt (s := s) n h1 j j1).mp e
        omega
    rw [e]
    exact ⟨j1, j2⟩
theorem Rte.next {P : Int → Int} {m n : Nat} {pl : Nat → Int} (h : Rte P m n pl) (s : Int) : clP pl (s + 1) n = clP pl s n + cIx P m s 20 := by
  obtain ⟨h1, h2, h3, h4, h5, h6⟩ := h
  have hm := clP_lt (s := s) n h1
  have hm1 := clP_lt (s := s + 1) n h1
  have hle := clP_le pl s n
  have hle1 := clP_le pl (s + 1) n
  have hge : clP pl s n ≤ clP pl (s + 1) n := by
    rcases Nat.lt_or_ge (clP pl (s + 1) n) (clP pl s n) with e | e
    · have a1 := (hm _ (show clP pl (s + 1) n < n by omega)).mp e
      have a2 := (hm1 _ (show clP pl (s + 1) n < n by omega)).mpr (by omega)
      omega
    · exact e
  by_cases hc : cIx P m s 20 = 0
  · rw [hc]
    rcases Nat.lt_or_ge (clP pl s n) (clP pl (s + 1) n) with e | e
    · have hn : clP pl s n < n := by omega
      have a1 := (hm1 _ hn).mp e
      have a2 : ¬ pl (clP pl s n) < s := fun h9 => Nat.lt_irrefl _ ((hm _ hn).mpr h9)
      obtain ⟨k, k1, k2, k3⟩ := h4 _ hn
      have := cIx_has 20 k k1 k2 (show P (k : Int) = s by omega)
      omega
    · omega
  · have hc1 := cIx_le P m s 20
    obtain ⟨k, k1, k2, k3⟩ := cIx_ex 20 hc
    obtain ⟨j, j1, j2⟩ := h3 k k1 k2
    have a0 := (hm j j1)
    have a1 := (hm1 j j1).mpr (by omega)
    have ej : clP pl s n = j := by
      rcases Nat.lt_trichotomy (clP pl s n) j with e | e | e
      · have b1 : ¬ pl (clP pl s n) < s := fun h9 => Nat.lt_irrefl _ ((hm (clP pl s n) (by omega)).mpr h9)
        have b2 := (h1 (clP pl s n) j (by omega) j1).mpr e
        omega
      · exact e
      · have := a0.mp e
        omega
    rcases Nat.lt_or_ge (j + 1) (clP pl (s + 1) n) with e | e
    · have b1 := (hm1 (j + 1) (by omega)).mp e
      have b2 := (h1 j (j + 1) j1 (by omega)).mpr (by omega)
      omega
    · omega
theorem Rte.none {P : Int → Int} {m n : Nat} {pl : Nat → Int} (h : Rte P m n pl) : clP pl 1 n = 0 := by
  rcases Nat.eq_zero_or_pos (clP pl 1 n) with e | e
  · exact e
  · have hle := clP_le pl 1 n
    have := (clP_lt (s := 1) n h.1 0 (by omega)).mp e
    have := h.2.1 0 (by omega)
    omega
theorem Rte.all {P : Int → Int} {m n : Nat} {pl : Nat → Int} (h : Rte P m n pl) : clP pl 700 n = n := by
  have hle := clP_le pl 700 n
  rcases Nat.lt_or_ge (clP pl 700 n) n with e | e
  · have := (clP_lt (s := 700) n h.1 _ e).mpr (h.2.1 _ e).2
    omega
  · omega
def VR (S : Sto) (q : Nat → Nat) (pl : Nat → Int) (f : Nat → Int → Int) (c : Nat) : Prop := (∀ a j, a ≠ q 88 → f a j = sI S a j) ∧ ∀ j : Nat, j < c → f (q 88) (j : Int) = pl j
theorem VR.put {S : Sto} {q : Nat → Nat} {pl : Nat → Int} {f : Nat → Int → Int} {c : Nat} {v : Int} (h : VR S q pl f c) (hv : pl c = v) : VR S q pl (up2 f (q 88) (c : Int) v) (c + 1) := by
  refine ⟨fun a j ha => (up2_ne _ _ _ _ ha).trans (h.1 a j ha), fun j hj => ?_⟩
  unfold up2
  by_cases e : j = c
  · subst e
    rw [if_pos ⟨rfl, rfl⟩, hv]
  · rw [if_neg (by omega)]
    exact h.2 j (by omega)
/-- a point of a route: 9 is home -/
def pq (pl : Nat → Int) (j : Nat) : Int := if j = 9 then 0 else pl j
def stp (d : Nat → Nat → Int) (a : List Nat) (n k : Nat) : Int := d (if k = 0 then 9 else a.getD (k - 1) 0) (if k = n then 9 else a.getD k 0)
def smk (d : Nat → Nat → Int) (a : List Nat) (n : Nat) : Nat → Int
  | 0 => 0
  | k + 1 => smk d a n k + stp d a n k
theorem smk_cst {d : Nat → Nat → Int} {a : List Nat} {n : Nat} (hl : a.length = n) : smk d a n (n + 1) = cst d 9 a := by
  have key : ∀ i, i ≤ n → cst d 9 a = smk d a n i + cst d (if i = 0 then 9 else a.getD (i - 1) 0) (a.drop i) := by
    intro i
    induction i with
    | zero => intro _; rw [if_pos rfl, List.drop_zero]; show _ = 0 + _; omega
    | succ i ih =>
      intro hi
      rw [ih (by omega), List.drop_eq_getElem_cons (show i < a.length by omega)]
      have e : a.getD i 0 = a[i]'(by omega) := by rw [List.getD_eq_getElem?_getD, List.getElem?_eq_getElem (by omega)]; rfl
      show smk d a n i + (d _ (a[i]'(by omega)) + cst d (a[i]'(by omega)) (a.drop (i + 1))) = (smk d a n i + stp d a n i) + cst d _ _
      rw [if_neg (show ¬ i + 1 = 0 by omega), Nat.add_sub_cancel, e]
      unfold stp
      rw [if_neg (show ¬ i = n by omega), e]
      omega
  rw [key n (Nat.le_refl n), ← hl, List.drop_length]
  show _ = smk d a a.length a.length + d _ 9
  show smk d a a.length a.length + stp d a a.length a.length = _
  unfold stp
  rw [if_pos rfl]
theorem stp_b {d : Nat → Nat → Int} {a : List Nat} {n k : Nat} (hd : okD d n) (hl : a.length = n) (hx : ∀ x ∈ a, x < n) (hk : k ≤ n) : 0 ≤ stp d a n k ∧ stp d a n k ≤ 66 := by
  unfold stp
  refine hd.2 _ _ ?_ ?_
  · split
    · exact Or.inr rfl
    · exact Or.inl (getD_lt hx (by omega))
  · split
    · exact Or.inr rfl
    · exact Or.inl (getD_lt hx (by omega))
theorem smk_b {d : Nat → Nat → Int} {a : List Nat} {n : Nat} (hd : okD d n) (hl : a.length = n) (hx : ∀ x ∈ a, x < n) : ∀ k, k ≤ n + 1 → 0 ≤ smk d a n k ∧ smk d a n k ≤ 66 * k := by
  intro k
  induction k with
  | zero => intro _; show 0 ≤ (0 : Int) ∧ (0 : Int) ≤ 66 * ((0 : Nat) : Int); omega
  | succ k ih =>
    intro hk
    have h1 := ih (by omega)
    have h2 := stp_b hd hl hx (show k ≤ n by omega)
    show 0 ≤ smk d a n k + stp d a n k ∧ smk d a n k + stp d a n k ≤ _
    omega
/-- the law's search of the best order, before the t-th -/
def RtI (S : Sto) (q : Nat → Nat) (pl : Nat → Int) (d : Nat → Nat → Int) (n t : Nat) (a x : List Nat) (le gg : Int) (f : Nat → Int → Int) : Prop :=
  KR S q f ∧ ((gg = 1 ∧ (enA n)[t]? = some a ∧ rwA pl n (f (q 88)) a) ∨ (gg = 0 ∧ t = (enA n).length)) ∧
  ((t = 0 ∧ le = -1 ∧ gg = 1) ∨ (0 < t ∧ FB (cst d 9) ((enA n).take t) x ∧ le = cst d 9 x ∧ ∀ j : Nat, j < n → f (q 87) ((1 + j : Nat) : Int) = pl (x.getD j 0)))
/-- the same, behind the t-th -/
def RtU (S : Sto) (q : Nat → Nat) (pl : Nat → Int) (d : Nat → Nat → Int) (n t : Nat) (a x : List Nat) (le : Int) (f : Nat → Int → Int) : Prop :=
  KR S q f ∧ rwA pl n (f (q 88)) a ∧ FB (cst d 9) ((enA n).take (t + 1)) x ∧ le = cst d 9 x ∧ ∀ j : Nat, j < n → f (q 87) ((1 + j : Nat) : Int) = pl (x.getD j 0)
theorem RtU.no {S : Sto} {q : Nat → Nat} {pl : Nat → Int} {d : Nat → Nat → Int} {n t : Nat} {a x : List Nat} {le : Int} {f : Nat → Int → Int} (hn : n ≤ 6) (hpl : ∀ i j, i < n → j < n → (pl i < pl j ↔ i < j)) (ha : (enA n)[t]? = some a) (h : RtU S q pl d n t a x le f) (hk : kfL (gtF (f (q 88))) (n - 1) = 0) : RtI S q pl d n (t + 1) a x le 0 f := by
  obtain ⟨h1, h2, h3, h4, h5⟩ := h
  obtain ⟨al, ax, -⟩ := enA_mem (List.mem_of_getElem? ha)
  have hnx := (nx_row hpl al ax h2).1.mp hk
  rw [enA_nx hn ha] at hnx
  have b1 : t < (enA n).length := by
    rcases Nat.lt_or_ge t (enA n).length with e | e
    · exact e
    · rw [List.getElem?_eq_none e] at ha; cases ha
  have b2 := List.getElem?_eq_none_iff.mp hnx
  exact ⟨h1, Or.inr ⟨rfl, by omega⟩, Or.inr ⟨by omega, h3, h4, h5⟩⟩
theorem RtU.yes {S : Sto} {q : Nat → Nat} {pl : Nat → Int} {d : Nat → Nat → Int} {n t k : Nat} {a x : List Nat} {le : Int} {f : Nat → Int → Int} (hT : Top S q) (hn : n ≤ 6) (hpl : ∀ i j, i < n → j < n → (pl i < pl j ↔ i < j)) (ha : (enA n)[t]? = some a) (h : RtU S q pl d n t a x le f) (hk : kfL (gtF (f (q 88))) (n - 1) = k + 1) : ∃ b, RtI S q pl d n (t + 1) b x le 1 (row1 f (q 88) (nxF (f (q 88)) (n : Int) (k : Int) ((jfL (ltF (f (q 88)) k) (n - 1) : Nat) : Int))) := by
  obtain ⟨h1, h2, h3, h4, h5⟩ := h
  obtain ⟨al, ax, -⟩ := enA_mem (List.mem_of_getElem? ha)
  have hr := nx_row hpl al ax h2
  cases hb : nxL a with
  | none => have := hr.1.mpr hb; omega
  | some b =>
    have h6 := hr.2 k b hk hb
    rw [enA_nx hn ha] at hb
    refine ⟨b, fun c j c1 c2 => (row1_ne _ _ _ c2).trans (h1 c j c1 c2), Or.inl ⟨rfl, hb, fun j hj => ?_⟩, Or.inr ⟨by omega, h3, h4, fun j hj => (row1_ne _ _ _ (hT.ne 87 88)).trans (h5 j hj)⟩⟩
    rw [row1_same]
    exact h6 j hj
theorem RtI.keep {S : Sto} {q : Nat → Nat} {pl : Nat → Int} {d : Nat → Nat → Int} {n t : Nat} {a x : List Nat} {le : Int} {f : Nat → Int → Int} (h : RtI S q pl d n t a x le 1 f) (h0 : 0 ≤ le) (hc : le ≤ cst d 9 a) : RtU S q pl d n t a x le f := by
  obtain ⟨h1, h2, h3⟩ := h
  have h2 : (enA n)[t]? = some a ∧ rwA pl n (f (q 88)) a := by
    rcases h2 with h2 | h2
    · exact h2.2
    · omega
  rcases h3 with h3 | ⟨b1, b2, b3, b4⟩
  · omega
  · refine ⟨h1, h2.2, ?_, b3, b4⟩
    rw [tk_succ _ _ _ h2.1]
    exact b2.old (by omega)
theorem RtI.new {S : Sto} {q : Nat → Nat} {pl : Nat → Int} {d : Nat → Nat → Int} {n t : Nat} {a x : List Nat} {le : Int} {f h : Nat → Int → Int} (hT : Top S q) (hd : okD d n) (hI : RtI S q pl d n t a x le 1 f) (hc : le < 0 ∨ cst d 9 a < le) (hh : (∀ c j, c ≠ q 87 → h c j = f c j) ∧ ∀ j : Nat, j < n → h (q 87) ((1 + j : Nat) : Int) = pl (a.getD j 0)) : RtU S q pl d n t a a (cst d 9 a) h := by
  obtain ⟨h1, h2, h3⟩ := hI
  have h2 : (enA n)[t]? = some a ∧ rwA pl n (f (q 88)) a := by
    rcases h2 with h2 | h2
    · exact h2.2
    · omega
  refine ⟨fun c j c1 c2 => (hh.1 c j c1).trans (h1 c j c1 c2), fun j hj => (hh.1 _ _ (hT.ne 88 87)).trans (h2.2 j hj), ?_, rfl, hh.2⟩
  rw [tk_succ _ _ _ h2.1]
  rcases h3 with ⟨b1, -⟩ | ⟨b1, b2, b3, b4⟩
  · rw [b1]
    exact FB.one a
  · have hx : x ∈ enA n := by
      obtain ⟨A, B, e, -, -⟩ := b2
      exact List.mem_of_mem_take (i := t) (by rw [e]; exact List.mem_append_right _ List.mem_cons_self)
    have hx2 := cst_b hd x 9 (enA_mem hx).2.1 (Or.inr rfl)
    exact b2.new (by omega)
theorem rte_of {N : Int} {P : Int → Int} {m : Nat} (hN : 1 ≤ N ∧ N ≤ 20) (h : okM N P m) (hd : ∀ a b : Nat, a < 20 → b < 20 → m.testBit a = true → m.testBit b = true → P (a : Int) = P (b : Int) → a = b) (h6 : (sl P m 20).length ≤ 6) : Rte P m (sl P m 20).length (fun j => P (((sl P m 20).getD j 0 : Nat) : Int)) := by
  have hlt := sl_lt (P := P) (m := m) hd 20 (Nat.le_refl _)
  refine ⟨fun i j hi hj => ⟨fun h1 => ?_, fun h1 => hlt i j h1 hj⟩, fun j hj => ?_, fun k hk hb => ?_, fun j hj => ?_, hd, h6⟩
  · rcases Nat.lt_trichotomy i j with e | e | e
    · exact e
    · subst e; exact absurd h1 (Int.lt_irrefl _)
    · have := hlt j i e hi
      dsimp only at h1
      omega
  · have h1 := sl_mem P m 20 j hj
    have h2 := h.1 _ h1.1 h1.2
    dsimp only
    omega
  · obtain ⟨j, j1, j2⟩ := sl_onto P m 20 k hk hb
    exact ⟨j, j1, by dsimp only; rw [j2]⟩
  · have h1 := sl_mem P m 20 j hj
    exact ⟨_, h1.1, h1.2, rfl⟩
theorem up2_2row (f : Nat → Int → Int) (a : Nat) (k v k2 v2 : Int) : up2 (up2 f a k v) a k2 v2 = row1 f a (upd1 (upd1 (f a) k v) k2 v2) := by rw [up2_to_row1 f, up2_row1]
theorem up2_2row1 (f : Nat → Int → Int) (a : Nat) (F : Int → Int) (k v k2 v2 : Int) : up2 (up2 (row1 f a F) a k v) a k2 v2 = row1 f a (upd1 (upd1 F k v) k2 v2) := by rw [up2_row1, up2_row1]
theorem rvP_step2 {G : Int → Int} {k n a b c : Int} (hc : c = a + 1) (hb : b = k + n - a) (h1 : k + 1 ≤ a) (h2 : a < b) (h3 : b < n) : upd1 (upd1 (rvP G k n a) a (rvP G k n a b)) b (rvP G k n a a) = rvP G k n c := by
  subst hc
  exact rvP_step hb h1 h2 h3
theorem RtI.leb {S : Sto} {q : Nat → Nat} {pl : Nat → Int} {d : Nat → Nat → Int} {n t : Nat} {a x : List Nat} {le gg : Int} {f : Nat → Int → Int} (h : RtI S q pl d n t a x le gg f) (hd : okD d n) (hn : n ≤ 9) : -1 ≤ le ∧ le ≤ 1000000 := by
  rcases h.2.2 with ⟨-, h1, -⟩ | ⟨h1, ⟨A, B, e, -, -⟩, h3, -⟩
  · omega
  · have hx : x ∈ enA n := List.mem_of_mem_take (i := t) (by rw [e]; exact List.mem_append_right _ List.mem_cons_self)
    obtain ⟨xl, xx, -⟩ := enA_mem hx
    have := cst_b hd x 9 xx (Or.inr rfl)
    omega
theorem RtI.fin {S : Sto} {q : Nat → Nat} {pl : Nat → Int} {d : Nat → Nat → Int} {n t : Nat} {a x : List Nat} {le gg : Int} {f : Nat → Int → Int} (h : RtI S q pl d n t a x le gg f) (h0 : gg = 0) (hn : n ≤ 6) (hd : okD d n) : le = tr d n (2 ^ n - 1) 9 ∧ ∀ j : Nat, j < n → f (q 87) ((1 + j : Nat) : Int) = pl (rtS d n (j + 1)).1 := by
  obtain ⟨-, h2, h3⟩ := h
  have ht : t = (enA n).length := by
    rcases h2 with h2 | h2
    · omega
    · exact h2.2
  rcases h3 with ⟨-, -, h4⟩ | ⟨-, b2, b3, b4⟩
  · omega
  · rw [ht, List.take_length] at b2
    obtain ⟨e1, e2, e3⟩ := enA_best hd
    have e := b2.uniq e1
    subst e
    exact ⟨by rw [b3, e2], fun j hj => by rw [b4 j hj, e3 j hj]⟩
theorem RtU.dist {S : Sto} {q : Nat → Nat} {pl : Nat → Int} {d : Nat → Nat → Int} {n t : Nat} {a x : List Nat} {le : Int} {f : Nat → Int → Int} (h : RtU S q pl d n t a x le f) (hpl : ∀ i j, i < n → j < n → (pl i < pl j ↔ i < j)) (al : a.length = n) (ax : ∀ x ∈ a, x < n) (an : a.Nodup) : ∀ i j : Nat, i < n → j < n → f (q 88) (i : Int) = f (q 88) (j : Int) → i = j := by
  intro i j hi hj e
  rw [h.2.1 i hi, h.2.1 j hj] at e
  have h1 := getD_lt ax (show i < a.length by omega)
  have h2 := getD_lt ax (show j < a.length by omega)
  have h3 : a.getD i 0 = a.getD j 0 := by
    rcases Nat.lt_trichotomy (a.getD i 0) (a.getD j 0) with e1 | e1 | e1
    · have := (hpl _ _ h1 h2).mpr e1; omega
    · exact e1
    · have := (hpl _ _ h2 h1).mpr e1; omega
  rw [List.getD_eq_getElem?_getD, List.getD_eq_getElem?_getD, List.getElem?_eq_getElem (show i < a.length by omega), List.getElem?_eq_getElem (show j < a.length by omega)] at h3
  have hp := List.pairwise_iff_getElem.mp an
  have h3 : a[i]'(by omega) = a[j]'(by omega) := h3
  rcases Nat.lt_trichotomy i j with e1 | e1 | e1
  · exact absurd h3 (hp i j (by omega) (by omega) e1)
  · exact e1
  · exact absurd h3.symm (hp j i (by omega) (by omega) e1)
theorem w_put {q : Nat → Nat} {h : Nat → Int → Int} {g : Nat → Int} {k : Nat} (hW : ∀ j : Nat, j < k → h (q 87) ((1 + j : Nat) : Int) = g j) : ∀ j : Nat, j < k + 1 → up2 h (q 87) ((1 + k : Nat) : Int) (g k) (q 87) ((1 + j : Nat) : Int) = g j := by
  intro j hj
  by_cases e : j = k
  · rw [e, up2_same]
  · rw [up2_nk _ _ _ _ (by omega)]
    exact hW j (by omega)
theorem stp_w {N G x y : Int} {pl : Nat → Int} {d : Nat → Nat → Int} {a : List Nat} {n k : Nat} (hde : d = fun i9 j9 : Nat => dst N G (pq pl i9) (pq pl j9)) (h1 : pq pl (if k = 0 then 9 else a.getD (k - 1) 0) = x) (h2 : pq pl (if k = n then 9 else a.getD k 0) = y) : dst N G x y = stp d a n k := by
  rw [hde, ← h1, ← h2]
  rfl
/-- what `low` answers -/
def lowN (x n : Int) : Nat := ((iI x &&& iI 2147483647).toInt % n).toNat
theorem lowN_eq {x n y : Int} (h0 : 0 ≤ y) (h1 : y < 2147483648) (h : iI x &&& iI 2147483647 = iI y) (hn : 0 < n) : ((lowN x n : Nat) : Int) = y % n := by
  unfold lowN
  rw [h, iI_toInt ⟨by omega, by omega⟩]
  have := Int.emod_nonneg y (show n ≠ 0 by omega)
  omega
theorem lowN_lt {x n : Int} (hn : 0 < n) : ((lowN x n : Nat) : Int) < n := by
  obtain ⟨y, h0, h1, h2⟩ := lo_and x
  rw [lowN_eq h0 h1 h2 hn]
  exact Int.emod_lt_of_pos _ hn
