/-! ===== putting in by shifting up ===== -/
def insPosN (b : Nat → Bool) : Nat → Nat
  | 0 => 0
  | n + 1 => if b n then insPosN b n else n + 1
theorem insPosN_le (b : Nat → Bool) (n : Nat) : insPosN b n ≤ n := by
  induction n with
  | zero => exact Nat.le_refl _
  | succ n ih => unfold insPosN; split <;> omega
theorem insPosN_congr {b b' : Nat → Bool} {n : Nat} (h : ∀ j, j < n → b j = b' j) : insPosN b n = insPosN b' n := by
  induction n with
  | zero => rfl
  | succ n ih =>
    unfold insPosN
    rw [h n (by omega), ih (fun j hj => h j (by omega))]
theorem insPosN_t {b : Nat → Bool} {n : Nat} (h : b n = true) : insPosN b (n + 1) = insPosN b n := by
  show (if b n then insPosN b n else n + 1) = _
  rw [if_pos h]
theorem insPosN_f {b : Nat → Bool} {n : Nat} (h : b n = false) : insPosN b (n + 1) = n + 1 := by
  show (if b n then insPosN b n else n + 1) = _
  rw [h]
  rfl
theorem insPosN_above {b : Nat → Bool} {n j : Nat} (h1 : insPosN b n ≤ j) (h2 : j < n) : b j = true := by
  induction n with
  | zero => omega
  | succ n ih =>
    cases hb : b n with
    | false => rw [insPosN_f hb] at h1; omega
    | true =>
      rw [insPosN_t hb] at h1
      by_cases hj : j = n
      · rw [hj]; exact hb
      · exact ih h1 (by omega)
theorem insPosN_below {b : Nat → Bool} {n : Nat} (h : 0 < insPosN b n) : b (insPosN b n - 1) = false := by
  induction n with
  | zero => exact absurd h (Nat.lt_irrefl 0)
  | succ n ih =>
    cases hb : b n with
    | false => rw [insPosN_f hb]; exact hb
    | true => rw [insPosN_t hb] at h ⊢; exact ih h
/-- from p to n one place up; place p as it was -/
def shf (F : Int → Int) (p n : Nat) : Int → Int := fun j => if (p : Int) < j ∧ j ≤ (n : Int) then F (j - 1) else F j
theorem shf_self (F : Int → Int) (n : Nat) : shf F n n = F := by
  funext j
  unfold shf
  rw [if_neg (by omega)]
theorem shf_step (F : Int → Int) {p n : Nat} (hp : p + 1 ≤ n) : upd1 (shf F (p + 1) n) ((p : Int) + 1) (F (p : Int)) = shf F p n := by
  funext j
  unfold upd1 shf
  by_cases hj : j = (p : Int) + 1
  · rw [if_pos hj, if_pos (by omega), hj]
    congr 1
    omega
  · rw [if_neg hj]
    by_cases h2 : ((p + 1 : Nat) : Int) < j ∧ j ≤ n
    · rw [if_pos h2, if_pos (by omega)]
    · rw [if_neg h2, if_neg (by omega)]
theorem shf_lo (F : Int → Int) {p n : Nat} {j : Int} (h : j ≤ p) : shf F p n j = F j := by
  unfold shf
  rw [if_neg (by omega)]
def insAt (F : Int → Int) (p n : Nat) (v : Int) : Int → Int := upd1 (shf F p n) p v
theorem insAt_lo (F : Int → Int) {p n : Nat} {v j : Int} (h : j < p) : insAt F p n v j = F j := by
  unfold insAt upd1
  rw [if_neg (by omega), shf_lo F (by omega)]
theorem insAt_eq (F : Int → Int) {p n : Nat} {v : Int} : insAt F p n v p = v := by
  unfold insAt upd1
  rw [if_pos rfl]
theorem insAt_hi (F : Int → Int) {p n : Nat} {v j : Int} (h : (p : Int) < j) (h2 : j ≤ n) : insAt F p n v j = F (j - 1) := by
  unfold insAt upd1 shf
  rw [if_neg (by omega), if_pos ⟨h, h2⟩]
theorem insAt_out (F : Int → Int) {p n : Nat} {v j : Int} (hp : p ≤ n) (h2 : (n : Int) < j) : insAt F p n v j = F j := by
  unfold insAt upd1 shf
  rw [if_neg (by omega), if_neg (by omega)]
/-- the same in a list -/
def insL (b : Nat → Bool) (l : List Nat) (v : Nat) : List Nat := l.take (insPosN (fun j => b (l.getD j 0)) l.length) ++ v :: l.drop (insPosN (fun j => b (l.getD j 0)) l.length)
theorem insL_len (b : Nat → Bool) (l : List Nat) (v : Nat) : (insL b l v).length = l.length + 1 := by
  unfold insL
  have h := insPosN_le (fun j => b (l.getD j 0)) l.length
  rw [List.length_append, List.length_cons, List.length_take, List.length_drop]
  omega
theorem insL_lo {b : Nat → Bool} {l : List Nat} {v j : Nat} (h : j < insPosN (fun j => b (l.getD j 0)) l.length) : (insL b l v).getD j 0 = l.getD j 0 := by
  unfold insL
  have hl := insPosN_le (fun j => b (l.getD j 0)) l.length
  rw [List.getD_eq_getElem?_getD, List.getElem?_append_left (by rw [List.length_take]; omega), List.getElem?_take, if_pos h, ← List.getD_eq_getElem?_getD]
theorem insL_eq {b : Nat → Bool} {l : List Nat} {v : Nat} : (insL b l v).getD (insPosN (fun j => b (l.getD j 0)) l.length) 0 = v := by
  unfold insL
  have hl := insPosN_le (fun j => b (l.getD j 0)) l.length
  rw [List.getD_eq_getElem?_getD, List.getElem?_append_right (by rw [List.length_take]; omega), List.length_take]
  rw [show insPosN (fun j => b (l.getD j 0)) l.length - min (insPosN (fun j => b (l.getD j 0)) l.length) l.length = 0 by omega]
  rfl
theorem insL_hi {b : Nat → Bool} {l : List Nat} {v j : Nat} (h : insPosN (fun j => b (l.getD j 0)) l.length < j) : (insL b l v).getD j 0 = l.getD (j - 1) 0 := by
  unfold insL
  have hl := insPosN_le (fun j => b (l.getD j 0)) l.length
  rw [List.getD_eq_getElem?_getD, List.getElem?_append_right (by rw [List.length_take]; omega), List.length_take]
  obtain ⟨k, hk⟩ : ∃ k, j - min (insPosN (fun j => b (l.getD j 0)) l.length) l.length = k + 1 := ⟨j - min (insPosN (fun j => b (l.getD j 0)) l.length) l.length - 1, by omega⟩
  rw [hk, List.getElem?_cons_succ, List.getElem?_drop, ← List.getD_eq_getElem?_getD]
  congr 1
  omega
/-- a row that holds a list, after the same is put into both -/
theorem ins_rep {b : Nat → Bool} {b2 : Nat → Bool} {F : Int → Int} {l : List Nat} {h : Nat → Int} {v : Nat} (hF : ∀ j : Nat, j < l.length → F j = h (l.getD j 0)) (hb : ∀ j : Nat, j < l.length → b2 j = b (l.getD j 0)) : ∀ j : Nat, j < (insL b l v).length → insAt F (insPosN b2 l.length) l.length (h v) j = h ((insL b l v).getD j 0) := by
  intro j hj
  rw [insL_len] at hj
  have e : insPosN b2 l.length = insPosN (fun j => b (l.getD j 0)) l.length := insPosN_congr hb
  rw [e]
  have hl := insPosN_le (fun j => b (l.getD j 0)) l.length
  rcases Nat.lt_trichotomy j (insPosN (fun j => b (l.getD j 0)) l.length) with h1 | h1 | h1
  · rw [insL_lo h1, insAt_lo F (by omega)]
    exact hF j (by omega)
  · rw [h1, insL_eq, insAt_eq]
  · rw [insL_hi h1, insAt_hi F (by omega) (by omega)]
    have := hF (j - 1) (by omega)
    rw [← this]
    congr 1
    omega
/-! ===== the products of a set, by rising places ===== -/
def cntb (m : Nat) : Nat → Nat
  | 0 => 0
  | n + 1 => cntb m n + (if m.testBit n = true then 1 else 0)
theorem cntb_mono (m : Nat) {a b : Nat} (h : a ≤ b) : cntb m a ≤ cntb m b := by
  induction b with
  | zero => rw [show a = 0 by omega]; exact Nat.le_refl _
  | succ b ih =>
    by_cases e : a = b + 1
    · rw [e]; exact Nat.le_refl _
    · have := ih (by omega)
      show cntb m a ≤ cntb m b + _
      omega
theorem cntb_or (a b n : Nat) : cntb (a ||| b) n ≤ cntb a n + cntb b n := by
  induction n with
  | zero => exact Nat.le_refl _
  | succ n ih =>
    unfold cntb
    rw [Nat.testBit_or]
    cases a.testBit n <;> cases b.testBit n <;> simp <;> omega
theorem cntb_0 (n : Nat) : cntb 0 n = 0 := by
  induction n with
  | zero => rfl
  | succ n ih => unfold cntb; rw [ih, Nat.zero_testBit]; rfl
theorem cntb_set {m p n : Nat} (h : m.testBit p = false) (hp : p < n) : cntb (m ||| 2 ^ p) n = cntb m n + 1 := by
  have aux : ∀ k, k ≤ p → cntb (m ||| 2 ^ p) k = cntb m k := by
    intro k
    induction k with
    | zero => intro _; rfl
    | succ k ih =>
      intro hk
      unfold cntb
      rw [ih (by omega), Nat.testBit_or, Nat.testBit_two_pow]
      have : ¬ p = k := by omega
      simp [this]
  induction n with
  | zero => omega
  | succ n ih =>
    unfold cntb
    by_cases e : p = n
    · subst e
      rw [aux p (Nat.le_refl _), Nat.testBit_or, Nat.testBit_two_pow, h]
      simp
    · rw [ih (by omega), Nat.testBit_or, Nat.testBit_two_pow]
      simp [e]
      omega
def sl (P : Int → Int) (m : Nat) : Nat → List Nat
  | 0 => []
  | p + 1 => if m.testBit p = true then insL (fun x => decide (P p < P x)) (sl P m p) p else sl P m p
theorem sl_len (P : Int → Int) (m n : Nat) : (sl P m n).length = cntb m n := by
  induction n with
  | zero => rfl
  | succ n ih =>
    unfold sl cntb
    split
    · rw [insL_len, ih]
    · rw [ih]; rfl
theorem sl_mem (P : Int → Int) (m n : Nat) : ∀ j, j < (sl P m n).length → (sl P m n).getD j 0 < n ∧ m.testBit ((sl P m n).getD j 0) = true := by
  induction n with
  | zero => intro j hj; exact absurd hj (Nat.not_lt_zero _)
  | succ n ih =>
    intro j hj
    unfold sl at hj ⊢
    by_cases hb : m.testBit n = true
    · rw [if_pos hb] at hj ⊢
      rw [insL_len] at hj
      rcases Nat.lt_trichotomy j (insPosN (fun j => (fun x => decide (P n < P x)) ((sl P m n).getD j 0)) (sl P m n).length) with h1 | h1 | h1
      · rw [insL_lo h1]
        have h2 := insPosN_le (fun j => (fun x => decide (P n < P x)) ((sl P m n).getD j 0)) (sl P m n).length
        have := ih j (by omega)
        exact ⟨by omega, this.2⟩
      · rw [h1, insL_eq]
        exact ⟨by omega, hb⟩
      · rw [insL_hi h1]
        have := ih (j - 1) (by omega)
        exact ⟨by omega, this.2⟩
    · rw [if_neg hb] at hj ⊢
      have := ih j hj
      exact ⟨by omega, this.2⟩
theorem sl_onto (P : Int → Int) (m n : Nat) : ∀ p, p < n → m.testBit p = true → ∃ j, j < (sl P m n).length ∧ (sl P m n).getD j 0 = p := by
  induction n with
  | zero => intro p hp; omega
  | succ n ih =>
    intro p hp hb
    unfold sl
    by_cases hn : m.testBit n = true
    · rw [if_pos hn, insL_len]
      by_cases e : p = n
      · subst e
        have h2 := insPosN_le (fun j => decide (P p < P ((sl P m p).getD j 0))) (sl P m p).length
        exact ⟨_, Nat.lt_succ_of_le h2, insL_eq⟩
      · obtain ⟨j, h1, h2⟩ := ih p (by omega) hb
        by_cases hj : j < insPosN (fun j => (fun x => decide (P n < P x)) ((sl P m n).getD j 0)) (sl P m n).length
        · exact ⟨j, by omega, by rw [insL_lo hj]; exact h2⟩
        · exact ⟨j + 1, by omega, by rw [insL_hi (Nat.lt_succ_of_le (Nat.not_lt.mp hj))]; exact h2⟩
    · rw [if_neg hn]
      by_cases e : p = n
      · subst e; exact absurd hb hn
      · exact ih p (by omega) hb
/-- rising: where no two are at one place -/
theorem sl_lt {P : Int → Int} {m : Nat} (hd : ∀ a b : Nat, a < 20 → b < 20 → m.testBit a = true → m.testBit b = true → P a = P b → a = b) : ∀ n, n ≤ 20 → ∀ i j, i < j → j < (sl P m n).length → P ((sl P m n).getD i 0) < P ((sl P m n).getD j 0) := by
  intro n
  induction n with
  | zero => intro _ i j _ hj; exact absurd hj (Nat.not_lt_zero _)
  | succ n ih =>
    intro hn i j hij hj
    have ih := ih (by omega)
    have hmem := sl_mem P m n
    unfold sl at hj ⊢
    by_cases hb : m.testBit n = true
    · rw [if_pos hb] at hj ⊢
      rw [insL_len] at hj
      generalize hk : insPosN (fun j => (fun x => decide (P n < P x)) ((sl P m n).getD j 0)) (sl P m n).length = k
      have hkl : k ≤ (sl P m n).length := by rw [← hk]; exact insPosN_le _ _
      have hup : ∀ x, k ≤ x → x < (sl P m n).length → P n < P ((sl P m n).getD x 0) := by
        intro x h1 h2
        have h3 := insPosN_above (b := fun j => (fun x => decide (P n < P x)) ((sl P m n).getD j 0)) (n := (sl P m n).length) (j := x) (by rw [hk]; exact h1) h2
        exact of_decide_eq_true h3
      have hdn : ∀ x, x < k → P ((sl P m n).getD x 0) < P n := by
        intro x h1
        have h3 := insPosN_below (b := fun j => (fun x => decide (P n < P x)) ((sl P m n).getD j 0)) (n := (sl P m n).length) (by rw [hk]; omega)
        rw [hk] at h3
        have h4 : ¬ P n < P ((sl P m n).getD (k - 1) 0) := of_decide_eq_false h3
        have h5 : P ((sl P m n).getD x 0) ≤ P ((sl P m n).getD (k - 1) 0) := by
          by_cases e : x = k - 1
          · rw [e]; exact Int.le_refl _
          · exact Int.le_of_lt (ih x (k - 1) (by omega) (by omega))
        have h6 : P ((sl P m n).getD x 0) ≠ P n := by
          intro e
          have h7 := hmem x (by omega)
          have := hd _ n (by omega) (by omega) h7.2 hb e
          omega
        omega
      have lo : ∀ x, x < k → (insL (fun x => decide (P n < P x)) (sl P m n) n).getD x 0 = (sl P m n).getD x 0 := fun x hx => insL_lo (by rw [hk]; exact hx)
      have eq : (insL (fun x => decide (P n < P x)) (sl P m n) n).getD k 0 = n := by rw [← hk]; exact insL_eq
      have hi : ∀ x, k < x → (insL (fun x => decide (P n < P x)) (sl P m n) n).getD x 0 = (sl P m n).getD (x - 1) 0 := fun x hx => insL_hi (by rw [hk]; exact hx)
      rcases Nat.lt_trichotomy i k with h1 | h1 | h1
      · rw [lo i h1]
        rcases Nat.lt_trichotomy j k with h2 | h2 | h2
        · rw [lo j h2]; exact ih i j hij (by omega)
        · rw [h2, eq]; exact hdn i h1
        · rw [hi j h2]
          exact Int.lt_trans (hdn i h1) (hup (j - 1) (by omega) (by omega))
      · rw [h1, eq, hi j (by omega)]
        exact hup (j - 1) (by omega) (by omega)
      · rw [hi i h1, hi j (by omega)]
        exact ih (i - 1) (j - 1) (by omega) (by omega)
    · rw [if_neg hb] at hj ⊢
      exact ih i j hij hj
/-- the point of a stop: 9 is home -/
def pt (P : Int → Int) (l : List Nat) (j : Nat) : Int := if j = 9 then 0 else P (l.getD j 0)
def dd (N G : Int) (P : Int → Int) (l : List Nat) (i j : Nat) : Int := dst N G (pt P l i) (pt P l j)
/-- a set of products that a route can come by -/
def okM (N : Int) (P : Int → Int) (m : Nat) : Prop := (∀ p : Nat, p < 20 → m.testBit p = true → 0 ≤ P p ∧ P p / 100 ≤ 5 ∧ 1 ≤ P p % 100 ∧ P p % 100 ≤ N) ∧ cntb m 20 ≤ 9 ∧ m < 1048576
theorem okM_pt {N : Int} {P : Int → Int} {m : Nat} (hN : 1 ≤ N ∧ N ≤ 20) (h : okM N P m) {j : Nat} (hj : j < (sl P m 20).length ∨ j = 9) : isPl (pt P (sl P m 20) j) ∧ pt P (sl P m 20) j % 100 ≤ N ∧ pt P (sl P m 20) j ≤ 600 := by
  unfold pt
  by_cases e : j = 9
  · rw [if_pos e]
    unfold isPl
    omega
  · rw [if_neg e]
    have h1 := sl_mem P m 20 j (by omega)
    have h2 := h.1 _ h1.1 h1.2
    unfold isPl
    omega
theorem okM_okD {N G : Int} {P : Int → Int} {m : Nat} (hN : 1 ≤ N ∧ N ≤ 20) (hG : 1 ≤ G ∧ G ≤ 9) (h : okM N P m) : okD (dd N G P (sl P m 20)) (sl P m 20).length := by
  refine ⟨by rw [sl_len]; exact h.2.1, fun i j hi hj => ?_⟩
  have h1 := okM_pt hN h hi
  have h2 := okM_pt hN h hj
  exact dst_b hN hG h1.1 h2.1 h1.2.1 h2.2.1
theorem dst_sym (N G x y : Int) : dst N G x y = dst N G y x := by
  unfold dst
  have e1 : absI (x / 100 - y / 100) = absI (y / 100 - x / 100) := by unfold absI; split <;> split <;> omega
  have e2 : absI (x % 100 - y % 100) = absI (y % 100 - x % 100) := by unfold absI; split <;> split <;> omega
  rw [e1, e2, Int.add_comm (x % 100) (y % 100)]
