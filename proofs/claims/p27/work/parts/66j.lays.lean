/-! ===== a new layout, place by place ===== -/
theorem insL_srt {R : Nat → Nat → Prop} {b : Nat → Bool} {l : List Nat} {v : Nat} (htr : ∀ x y w, R x y → R y w → R x w) (hs : ∀ i j, i < j → j < l.length → R (l.getD i 0) (l.getD j 0)) (hb : ∀ j, j < l.length → (b (l.getD j 0) = true ↔ R v (l.getD j 0))) (ht : ∀ j, j < l.length → ¬ R v (l.getD j 0) → R (l.getD j 0) v) : ∀ i j, i < j → j < (insL b l v).length → R ((insL b l v).getD i 0) ((insL b l v).getD j 0) := by
  intro i j hij hj
  rw [insL_len] at hj
  generalize hk : insPosN (fun j => b (l.getD j 0)) l.length = k
  have hkl : k ≤ l.length := by rw [← hk]; exact insPosN_le _ _
  have hup : ∀ x, k ≤ x → x < l.length → R v (l.getD x 0) := by
    intro x h1 h2
    have h3 := insPosN_above (b := fun j => b (l.getD j 0)) (n := l.length) (j := x) (by rw [hk]; exact h1) h2
    exact (hb x h2).mp h3
  have hdn : ∀ x, x < k → R (l.getD x 0) v := by
    intro x h1
    have h3 := insPosN_below (b := fun j => b (l.getD j 0)) (n := l.length) (by rw [hk]; omega)
    rw [hk] at h3
    have h4 : R (l.getD (k - 1) 0) v := ht (k - 1) (by omega) (fun h9 => by
      have := (hb (k - 1) (by omega)).mpr h9
      rw [this] at h3
      cases h3)
    by_cases e : x = k - 1
    · rw [e]; exact h4
    · exact htr _ _ _ (hs x (k - 1) (by omega) (by omega)) h4
  have lo : ∀ x, x < k → (insL b l v).getD x 0 = l.getD x 0 := fun x hx => insL_lo (by rw [hk]; exact hx)
  have eq : (insL b l v).getD k 0 = v := by rw [← hk]; exact insL_eq
  have hi : ∀ x, k < x → (insL b l v).getD x 0 = l.getD (x - 1) 0 := fun x hx => insL_hi (by rw [hk]; exact hx)
  rcases Nat.lt_trichotomy i k with h1 | h1 | h1
  · rw [lo i h1]
    rcases Nat.lt_trichotomy j k with h2 | h2 | h2
    · rw [lo j h2]; exact hs i j hij (by omega)
    · rw [h2, eq]; exact hdn i h1
    · rw [hi j h2]
      exact htr _ _ _ (hdn i h1) (hup (j - 1) (by omega) (by omega))
  · rw [h1, eq, hi j (by omega)]
    exact hup (j - 1) (by omega) (by omega)
  · rw [hi i h1, hi j (by omega)]
    exact hs (i - 1) (j - 1) (by omega) (by omega)
theorem insL_onto {b : Nat → Bool} {l : List Nat} {v : Nat} : (∃ j, j < (insL b l v).length ∧ (insL b l v).getD j 0 = v) ∧ ∀ i, i < l.length → ∃ j, j < (insL b l v).length ∧ (insL b l v).getD j 0 = l.getD i 0 := by
  rw [insL_len]
  have h2 := insPosN_le (fun j => b (l.getD j 0)) l.length
  refine ⟨⟨_, Nat.lt_succ_of_le h2, insL_eq⟩, fun i hi => ?_⟩
  by_cases hj : i < insPosN (fun j => b (l.getD j 0)) l.length
  · exact ⟨i, by omega, insL_lo hj⟩
  · exact ⟨i + 1, by omega, insL_hi (Nat.lt_succ_of_le (Nat.not_lt.mp hj))⟩
theorem rkL_t {z : Sig} {n : Nat} (h : ¬ zP z (n : Int) = -1) : rkL z (n + 1) = insL (fun x => decide (ztv z (x : Int) < ztv z (n : Int))) (rkL z n) n := if_neg h
theorem rkL_f {z : Sig} {n : Nat} (h : zP z (n : Int) = -1) : rkL z (n + 1) = rkL z n := if_pos h
theorem spL_t {z : Sig} {n : Nat} (h : ¬ zP z (n : Int) = -1) : spL z (n + 1) = insL (fun x => decide (dst (zN z) (zG z) 0 (zP z (n : Int)) < dst (zN z) (zG z) 0 (zP z (x : Int)) ∨ (dst (zN z) (zG z) 0 (zP z (x : Int)) = dst (zN z) (zG z) 0 (zP z (n : Int)) ∧ zP z (n : Int) < zP z (x : Int)))) (spL z n) n := if_neg h
theorem spL_f {z : Sig} {n : Nat} (h : zP z (n : Int) = -1) : spL z (n + 1) = spL z n := if_pos h
theorem rk_onto (z : Sig) : ∀ n (p : Nat), p < n → ¬ zP z (p : Int) = -1 → ∃ j, j < (rkL z n).length ∧ (rkL z n).getD j 0 = p := by
  intro n
  induction n with
  | zero => intro p hp; omega
  | succ n ih =>
    intro p hp h
    by_cases hn : zP z (n : Int) = -1
    · rw [rkL_f hn]
      by_cases e : p = n
      · subst e; exact absurd hn h
      · exact ih p (by omega) h
    · rw [rkL_t hn]
      by_cases e : p = n
      · subst e; exact insL_onto.1
      · obtain ⟨j, h1, h2⟩ := ih p (by omega) h
        rw [← h2]
        exact insL_onto.2 j h1
theorem sp_onto (z : Sig) : ∀ n (p : Nat), p < n → ¬ zP z (p : Int) = -1 → ∃ j, j < (spL z n).length ∧ (spL z n).getD j 0 = p := by
  intro n
  induction n with
  | zero => intro p hp; omega
  | succ n ih =>
    intro p hp h
    by_cases hn : zP z (n : Int) = -1
    · rw [spL_f hn]
      by_cases e : p = n
      · subst e; exact absurd hn h
      · exact ih p (by omega) h
    · rw [spL_t hn]
      by_cases e : p = n
      · subst e; exact insL_onto.1
      · obtain ⟨j, h1, h2⟩ := ih p (by omega) h
        rw [← h2]
        exact insL_onto.2 j h1
/-- the order of products by turnover -/
def rkR (z : Sig) (x y : Nat) : Prop := ztv z (y : Int) < ztv z (x : Int) ∨ (ztv z (x : Int) = ztv z (y : Int) ∧ x < y)
theorem rk_srt (z : Sig) : ∀ n i j, i < j → j < (rkL z n).length → rkR z ((rkL z n).getD i 0) ((rkL z n).getD j 0) := by
  intro n
  induction n with
  | zero => intro i j _ hj; exact absurd hj (Nat.not_lt_zero _)
  | succ n ih =>
    by_cases hn : zP z (n : Int) = -1
    · rw [rkL_f hn]; exact ih
    · rw [rkL_t hn]
      have hm := rkL_mem z n
      refine insL_srt (R := rkR z) (fun x y w h1 h2 => ?_) ih (fun j hj => ?_) (fun j hj h => ?_)
      · unfold rkR at *; omega
      · have := (hm j hj).1
        unfold rkR
        rw [decide_eq_true_iff]
        omega
      · have := (hm j hj).1
        unfold rkR at *
        omega
/-- the order of places by their distance -/
def ltP (z : Sig) (x y : Int) : Prop := dst (zN z) (zG z) 0 x < dst (zN z) (zG z) 0 y ∨ (dst (zN z) (zG z) 0 x = dst (zN z) (zG z) 0 y ∧ x < y)
theorem sp_srt {z : Sig} (hW : Wf z) : ∀ n, n ≤ 20 → ∀ i j, i < j → j < (spL z n).length → ltP z (zP z (((spL z n).getD i 0 : Nat) : Int)) (zP z (((spL z n).getD j 0 : Nat) : Int)) := by
  intro n
  induction n with
  | zero => intro _ i j _ hj; exact absurd hj (Nat.not_lt_zero _)
  | succ n ih =>
    intro hn20
    by_cases hn : zP z (n : Int) = -1
    · rw [spL_f hn]; exact ih (by omega)
    · rw [spL_t hn]
      have hm := spL_mem z n
      refine insL_srt (R := fun x y => ltP z (zP z (x : Int)) (zP z (y : Int))) (fun x y w h1 h2 => ?_) (ih (by omega)) (fun j hj => ?_) (fun j hj h => ?_)
      · unfold ltP at *; omega
      · unfold ltP
        rw [decide_eq_true_iff]
        omega
      · obtain ⟨h1, h2⟩ := hm j hj
        have h3 : zP z (n : Int) ≠ zP z (((spL z n).getD j 0 : Nat) : Int) := fun e => by
          have := hW.2.2.2.1 n _ (by omega) (by omega) e hn
          omega
        unfold ltP at *
        omega
/-- the first products' places in a row, and the products as bits -/
def LyA (z : Sig) (F : Int → Int) (c k left : Nat) : Prop := (∀ i : Nat, i < c → ∃ j : Nat, j < k ∧ zP z (j : Int) ≠ -1 ∧ F (i : Int) = zP z (j : Int)) ∧ (∀ j : Nat, j < k → zP z (j : Int) ≠ -1 → ∃ i : Nat, i < c ∧ F (i : Int) = zP z (j : Int)) ∧ (∀ i i' : Nat, i < c → i' < c → F (i : Int) = F (i' : Int) → i = i') ∧ c = (rkL z k).length ∧ (∀ j, left.testBit j = true ↔ j < k ∧ zP z (j : Int) ≠ -1)
theorem LyA.init {z : Sig} {F : Int → Int} : LyA z F 0 0 0 := ⟨fun i hi => absurd hi (Nat.not_lt_zero _), fun j hj => absurd hj (Nat.not_lt_zero _), fun i i' hi => absurd hi (Nat.not_lt_zero _), rfl, fun j => ⟨fun h => absurd h (by rw [Nat.zero_testBit]; exact Bool.false_ne_true), fun h => absurd h.1 (Nat.not_lt_zero _)⟩⟩
theorem LyA.skip {z : Sig} {F : Int → Int} {c k left : Nat} (h : LyA z F c k left) (hp : zP z (k : Int) = -1) : LyA z F c (k + 1) left := by
  obtain ⟨h1, h2, h3, h4, h5⟩ := h
  refine ⟨fun i hi => ?_, fun j hj hn => ?_, h3, by rw [rkL_f hp]; exact h4, fun j => ?_⟩
  · obtain ⟨j, j1, j2⟩ := h1 i hi
    exact ⟨j, by omega, j2⟩
  · by_cases e : j = k
    · subst e; exact absurd hp hn
    · exact h2 j (by omega) hn
  · rw [h5 j]
    refine ⟨fun h => ⟨by omega, h.2⟩, fun h => ⟨?_, h.2⟩⟩
    by_cases e : j = k
    · subst e; exact absurd hp h.2
    · omega
theorem LyA.put {z : Sig} {F : Int → Int} {c k left : Nat} (hW : Wf z) (hk : k < 20) (h : LyA z F c k left) (hp : zP z (k : Int) ≠ -1) : LyA z (upd1 F (c : Int) (zP z (k : Int))) (c + 1) (k + 1) (left ||| 2 ^ k) := by
  obtain ⟨h1, h2, h3, h4, h5⟩ := h
  have un : ∀ i : Nat, i < c → upd1 F (c : Int) (zP z (k : Int)) (i : Int) = F (i : Int) := fun i hi => upd1_ne _ _ (by omega)
  have nk : ∀ i : Nat, i < c → F (i : Int) ≠ zP z (k : Int) := fun i hi e => by
    obtain ⟨j, j1, j2, j3⟩ := h1 i hi
    have := hW.2.2.2.1 j k (by omega) hk (by rw [← j3, e]) j2
    omega
  refine ⟨fun i hi => ?_, fun j hj hn => ?_, fun i i' hi hi' e => ?_, by rw [rkL_t hp, insL_len, h4], fun j => ?_⟩
  · by_cases e : i = c
    · subst e; exact ⟨k, by omega, hp, upd1_eq _ _ _⟩
    · rw [un i (by omega)]
      obtain ⟨j, j1, j2⟩ := h1 i (by omega)
      exact ⟨j, by omega, j2⟩
  · by_cases e : j = k
    · subst e; exact ⟨c, by omega, upd1_eq _ _ _⟩
    · obtain ⟨i, i1, i2⟩ := h2 j (by omega) hn
      exact ⟨i, by omega, by rw [un i i1]; exact i2⟩
  · by_cases e1 : i = c
    · by_cases e2 : i' = c
      · omega
      · subst e1
        rw [upd1_eq, un i' (by omega)] at e
        exact absurd e.symm (nk i' (by omega))
    · by_cases e2 : i' = c
      · subst e2
        rw [upd1_eq, un i (by omega)] at e
        exact absurd e (nk i (by omega))
      · rw [un i (by omega), un i' (by omega)] at e
        exact h3 i i' (by omega) (by omega) e
  · rw [Nat.testBit_or, Nat.testBit_two_pow]
    simp only [Bool.or_eq_true, decide_eq_true_eq]
    rw [h5 j]
    refine ⟨fun h => ?_, fun h => ?_⟩
    · rcases h with h | h
      · exact ⟨by omega, h.2⟩
      · subst h; exact ⟨by omega, hp⟩
    · by_cases e : j = k
      · exact Or.inr e.symm
      · exact Or.inl ⟨by omega, h.2⟩
theorem LyA.cle {z : Sig} {F : Int → Int} {c k left : Nat} (h : LyA z F c k left) : c ≤ k := by
  rw [h.2.2.2.1]; exact rkL_le z k
theorem lt_20 {m : Nat} (h : ∀ j, m.testBit j = true → j < 20) : m < 1048576 := by
  refine Nat.lt_pow_two_of_testBit (n := 20) m fun i hi => ?_
  cases e : m.testBit i
  · rfl
  · have := h i e; omega
/-- n places are left, t given out -/
def LyB (z : Sig) (F : Int → Int) (n t left : Nat) : Prop := n + t = (rkL z 20).length ∧ (∀ i : Nat, i < n → ∃ j : Nat, t ≤ j ∧ j < (rkL z 20).length ∧ F (i : Int) = zP z (((spL z 20).getD j 0 : Nat) : Int)) ∧ (∀ j : Nat, t ≤ j → j < (rkL z 20).length → ∃ i : Nat, i < n ∧ F (i : Int) = zP z (((spL z 20).getD j 0 : Nat) : Int)) ∧ (∀ i i' : Nat, i < n → i' < n → F (i : Int) = F (i' : Int) → i = i') ∧ (∀ k, left.testBit k = true ↔ ∃ j, t ≤ j ∧ j < (rkL z 20).length ∧ (rkL z 20).getD j 0 = k)
theorem LyA.fin {z : Sig} {F : Int → Int} {c left : Nat} (h : LyA z F c 20 left) : LyB z F c 0 left := by
  obtain ⟨h1, h2, h3, h4, h5⟩ := h
  have hl := rk_sp_len z 20
  refine ⟨h4, fun i hi => ?_, fun j _ hj => ?_, h3, fun k => ?_⟩
  · obtain ⟨j, j1, j2, j3⟩ := h1 i hi
    obtain ⟨x, x1, x2⟩ := sp_onto z 20 j j1 j2
    exact ⟨x, by omega, by omega, by rw [x2]; exact j3⟩
  · have hm := spL_mem z 20 j (by omega)
    exact h2 _ hm.1 hm.2
  · rw [h5 k]
    refine ⟨fun h => ?_, fun ⟨j, _, j1, j2⟩ => ?_⟩
    · obtain ⟨x, x1, x2⟩ := rk_onto z 20 k h.1 h.2
      exact ⟨x, by omega, x1, x2⟩
    · have hm := rkL_mem z 20 j j1
      rw [j2] at hm
      exact hm
theorem LyB.b20 {z : Sig} {F : Int → Int} {n t left : Nat} (h : LyB z F n t left) : left < 1048576 ∧ n + t ≤ 20 := by
  refine ⟨lt_20 fun j hj => ?_, by rw [h.1]; exact rkL_le z 20⟩
  obtain ⟨x, -, x1, x2⟩ := (h.2.2.2.2 j).mp hj
  have := (rkL_mem z 20 x x1).1
  omega
theorem LyB.pl {z : Sig} {F : Int → Int} {n t left : Nat} (hW : Wf z) (h : LyB z F n t left) {i : Nat} (hi : i < n) : (0 ≤ F (i : Int) ∧ F (i : Int) ≤ 700) ∧ 0 ≤ dst (zN z) (zG z) 0 (F (i : Int)) ∧ dst (zN z) (zG z) 0 (F (i : Int)) ≤ 66 := by
  obtain ⟨j, j1, j2, j3⟩ := h.2.1 i hi
  have hl := rk_sp_len z 20
  obtain ⟨m1, m2⟩ := spL_mem z 20 j (by omega)
  have hp := hW.plI (x := (((spL z 20).getD j 0 : Nat) : Int)) (by omega)
  have hC := hW.1
  rw [j3]
  rcases hp with hp | hp
  · exact absurd hp m2
  · refine ⟨by omega, dst_b ⟨by omega, by omega⟩ ⟨by omega, by omega⟩ ⟨by omega, by omega, by omega⟩ ⟨by omega, by omega, by omega⟩ (by omega) (by omega)⟩
theorem mn_new {z : Sig} {F : Int → Int} {i s : Nat} (h : ∀ j : Nat, j < i → ¬ ltP z (F (j : Int)) (F (s : Int))) (hl : ltP z (F (i : Int)) (F (s : Int))) : ∀ j : Nat, j < i + 1 → ¬ ltP z (F (j : Int)) (F (i : Int)) := by
  intro j hj h1
  by_cases e : j = i
  · subst e; unfold ltP at h1; omega
  · refine h j (by omega) ?_
    unfold ltP at *
    omega
theorem mn_old {z : Sig} {F : Int → Int} {i s : Nat} (h : ∀ j : Nat, j < i → ¬ ltP z (F (j : Int)) (F (s : Int))) (hl : ¬ ltP z (F (i : Int)) (F (s : Int))) : ∀ j : Nat, j < i + 1 → ¬ ltP z (F (j : Int)) (F (s : Int)) := by
  intro j hj
  by_cases e : j = i
  · subst e; exact hl
  · exact h j (by omega)
theorem LyB.spot {z : Sig} {F : Int → Int} {n t left s : Nat} (hW : Wf z) (h : LyB z F n t left) (hs : s < n) (hm : ∀ j : Nat, j < n → ¬ ltP z (F (j : Int)) (F (s : Int))) : F (s : Int) = zP z (((spL z 20).getD t 0 : Nat) : Int) := by
  obtain ⟨j, j1, j2, j3⟩ := h.2.1 s hs
  have hl := rk_sp_len z 20
  by_cases e : j = t
  · rw [← e]; exact j3
  · obtain ⟨i, i1, i2⟩ := h.2.2.1 t (Nat.le_refl _) (by omega)
    have h1 := sp_srt hW 20 (Nat.le_refl _) t j (by omega) (by omega)
    rw [← i2, ← j3] at h1
    exact absurd h1 (hm i i1)
/-- the product with the greatest turnover among the first, of those that are left -/
def PdI (z : Sig) (left k : Nat) (pd : Int) : Prop := (pd = -1 ∧ ∀ j, j < k → ¬ left.testBit j = true) ∨ ∃ p : Nat, pd = (p : Int) ∧ p < k ∧ left.testBit p = true ∧ ∀ j, j < k → left.testBit j = true → ztv z (j : Int) < ztv z (p : Int) ∨ (ztv z (j : Int) = ztv z (p : Int) ∧ p ≤ j)
theorem PdI.init {z : Sig} {left : Nat} : PdI z left 0 (-1) := Or.inl ⟨rfl, fun j hj => absurd hj (Nat.not_lt_zero _)⟩
theorem PdI.b {z : Sig} {left k : Nat} {pd : Int} (h : PdI z left k pd) : -1 ≤ pd ∧ pd < k ∨ pd = -1 := by
  rcases h with h | ⟨p, h1, h2, -⟩
  · exact Or.inr h.1
  · exact Or.inl ⟨by omega, by omega⟩
theorem PdI.no {z : Sig} {left k : Nat} {pd : Int} (h : PdI z left k pd) (hb : ¬ left.testBit k = true) : PdI z left (k + 1) pd := by
  rcases h with ⟨h1, h2⟩ | ⟨p, h1, h2, h3, h4⟩
  · refine Or.inl ⟨h1, fun j hj => ?_⟩
    by_cases e : j = k
    · subst e; exact hb
    · exact h2 j (by omega)
  · refine Or.inr ⟨p, h1, by omega, h3, fun j hj hbj => ?_⟩
    by_cases e : j = k
    · subst e; exact absurd hbj hb
    · exact h4 j (by omega) hbj
theorem PdI.first {z : Sig} {left k : Nat} {pd : Int} (h : PdI z left k pd) (hb : left.testBit k = true) (hp : pd < 0) : PdI z left (k + 1) (k : Int) := by
  rcases h with ⟨h1, h2⟩ | ⟨p, h1, -⟩
  · refine Or.inr ⟨k, rfl, by omega, hb, fun j hj hbj => ?_⟩
    by_cases e : j = k
    · subst e; omega
    · exact absurd hbj (h2 j (by omega))
  · omega
theorem PdI.more {z : Sig} {left k : Nat} {pd : Int} (h : PdI z left k pd) (hb : left.testBit k = true) (hp : 0 ≤ pd) (ht : ztv z pd < ztv z (k : Int)) : PdI z left (k + 1) (k : Int) := by
  rcases h with ⟨h1, -⟩ | ⟨p, h1, h2, h3, h4⟩
  · omega
  · rw [h1] at ht
    refine Or.inr ⟨k, rfl, by omega, hb, fun j hj hbj => ?_⟩
    by_cases e : j = k
    · subst e; omega
    · have := h4 j (by omega) hbj
      omega
theorem PdI.less {z : Sig} {left k : Nat} {pd : Int} (h : PdI z left k pd) (hp : 0 ≤ pd) (ht : ¬ ztv z pd < ztv z (k : Int)) : PdI z left (k + 1) pd := by
  rcases h with ⟨h1, -⟩ | ⟨p, h1, h2, h3, h4⟩
  · omega
  · rw [h1] at ht
    refine Or.inr ⟨p, h1, by omega, h3, fun j hj hbj => ?_⟩
    by_cases e : j = k
    · subst e; omega
    · exact h4 j (by omega) hbj
theorem LyB.prod {z : Sig} {F : Int → Int} {n t left : Nat} {pd : Int} (h : LyB z F n t left) (hn : 0 < n) (hp : PdI z left 20 pd) : pd = (((rkL z 20).getD t 0 : Nat) : Int) ∧ (rkL z 20).getD t 0 < 20 ∧ left.testBit ((rkL z 20).getD t 0) = true := by
  have h0 := h.1
  have hm := (rkL_mem z 20 t (by omega)).1
  have hb : left.testBit ((rkL z 20).getD t 0) = true := (h.2.2.2.2 _).mpr ⟨t, Nat.le_refl _, by omega, rfl⟩
  refine ⟨?_, hm, hb⟩
  rcases hp with ⟨-, h2⟩ | ⟨p, h1, h2, h3, h4⟩
  · exact absurd hb (h2 _ hm)
  · obtain ⟨j, j1, j2, j3⟩ := (h.2.2.2.2 p).mp h3
    by_cases e : j = t
    · subst e; rw [h1, j3]
    · have h5 := rk_srt z 20 t j (by omega) j2
      rw [j3] at h5
      have h6 := h4 _ hm hb
      unfold rkR at h5
      omega
theorem LyB.next {z : Sig} {F : Int → Int} {n t left s : Nat} (hW : Wf z) (h : LyB z F n t left) (hs : s < n) (he : F (s : Int) = zP z (((spL z 20).getD t 0 : Nat) : Int)) : LyB z (upd1 F (s : Int) (F ((n - 1 : Nat) : Int))) (n - 1) (t + 1) (left - 2 ^ (rkL z 20).getD t 0) := by
  obtain ⟨h1, h2, h3, h4, h5⟩ := h
  have hl := rk_sp_len z 20
  have hne : ∀ a b, a < b → b < (rkL z 20).length → zP z (((spL z 20).getD a 0 : Nat) : Int) ≠ zP z (((spL z 20).getD b 0 : Nat) : Int) := fun a b h6 h7 e => by
    have := sp_srt hW 20 (Nat.le_refl _) a b h6 (by omega)
    unfold ltP at this
    rw [e] at this
    omega
  have hrv : ∀ i : Nat, i < n - 1 → ∃ i' : Nat, i' < n ∧ i' ≠ s ∧ upd1 F (s : Int) (F ((n - 1 : Nat) : Int)) (i : Int) = F (i' : Int) ∧ (i = s → i' = n - 1) ∧ (i ≠ s → i' = i) := fun i hi => by
    by_cases e : i = s
    · exact ⟨n - 1, by omega, by omega, by rw [e, upd1_eq], fun _ => rfl, fun h9 => absurd e h9⟩
    · exact ⟨i, by omega, e, upd1_ne _ _ (by omega), fun h9 => absurd h9 e, fun _ => rfl⟩
  refine ⟨by omega, fun i hi => ?_, fun j hj1 hj2 => ?_, fun i i' hi hi' e => ?_, fun k => ?_⟩
  · obtain ⟨i', i1, i2, i3, -⟩ := hrv i hi
    obtain ⟨j, j1, j2, j3⟩ := h2 i' i1
    refine ⟨j, ?_, j2, by rw [i3]; exact j3⟩
    rcases Nat.eq_or_lt_of_le j1 with e | e
    · subst e
      exact absurd (h4 i' s i1 hs (by rw [j3, he])) i2
    · omega
  · obtain ⟨i, i1, i2⟩ := h3 j (by omega) hj2
    have hns : i ≠ s := fun e => by
      rw [e, he] at i2
      exact hne t j (by omega) hj2 i2
    by_cases e : i = n - 1
    · exact ⟨s, by omega, by rw [upd1_eq, ← e]; exact i2⟩
    · exact ⟨i, by omega, by rw [upd1_ne _ _ (by omega)]; exact i2⟩
  · obtain ⟨a, a1, a2, a3, a4, a5⟩ := hrv i hi
    obtain ⟨b, b1, b2, b3, b4, b5⟩ := hrv i' hi'
    rw [a3, b3] at e
    have := h4 a b a1 b1 e
    by_cases e1 : i = s
    · by_cases e2 : i' = s
      · omega
      · have := a4 e1; have := b5 e2; omega
    · by_cases e2 : i' = s
      · have := a5 e1; have := b4 e2; omega
      · have := a5 e1; have := b5 e2; omega
  · have hb : left.testBit ((rkL z 20).getD t 0) = true := (h5 _).mpr ⟨t, Nat.le_refl _, by omega, rfl⟩
    rw [tb_sub hb, Bool.and_eq_true, h5 k]
    simp only [Bool.not_eq_true', decide_eq_false_iff_not]
    refine ⟨fun ⟨⟨j, j1, j2, j3⟩, h7⟩ => ⟨j, ?_, j2, j3⟩, fun ⟨j, j1, j2, j3⟩ => ⟨⟨j, by omega, j2, j3⟩, fun e => ?_⟩⟩
    · rcases Nat.eq_or_lt_of_le j1 with e | e
      · subst e; exact absurd j3.symm h7
      · omega
    · have h8 := rk_srt z 20 t j (by omega) j2
      rw [j3, e] at h8
      unfold rkR at h8
      omega
theorem up2_at {f : Nat → Int → Int} {a : Nat} {k v : Int} : up2 f a k v a = upd1 (f a) k v := by
  funext j
  unfold up2 upd1
  by_cases h : j = k
  · rw [if_pos ⟨rfl, h⟩, if_pos h]
  · rw [if_neg (fun e => h e.2), if_neg h]
theorem asg_ne {P : Int → Int} {rk sp : List Nat} {t : Nat} {a b : Int} (ha : (asg P rk sp t).2 ((rk.getD t 0 : Nat) : Int) = a) (hb : P ((sp.getD t 0 : Nat) : Int) = b) (h : ¬ a = b) : (asg P rk sp t).1 + 1 = (asg P rk sp (t + 1)).1 := by
  show _ = (asg P rk sp t).1 + (if (asg P rk sp t).2 ((rk.getD t 0 : Nat) : Int) = P ((sp.getD t 0 : Nat) : Int) then 0 else 1)
  rw [ha, hb, if_neg h]
theorem asg_eq {P : Int → Int} {rk sp : List Nat} {t : Nat} {a b : Int} (ha : (asg P rk sp t).2 ((rk.getD t 0 : Nat) : Int) = a) (hb : P ((sp.getD t 0 : Nat) : Int) = b) (h : a = b) : (asg P rk sp t).1 + 0 = (asg P rk sp (t + 1)).1 := by
  show _ = (asg P rk sp t).1 + (if (asg P rk sp t).2 ((rk.getD t 0 : Nat) : Int) = P ((sp.getD t 0 : Nat) : Int) then 0 else 1)
  rw [ha, hb, if_pos h]
theorem LR.lay {S : Sto} {q : Nat → Nat} {z : Sig} {f : Nat → Int → Int} {F : Int → Int} (hT : Top S q) (h : LR S q z) (hf : ∀ c, c ≠ q 81 → c ≠ q 86 → f c = sI S c) (hP : f (q 81) = F) : LR (wI S f) q (zuP z F) := by
  have e : ∀ i, i ∈ tix → i ≠ 81 → i ≠ 86 → f (q i) = sI S (q i) := fun i hi h1 h2 => hf _ (hT.ne i 81 hi (by decide) h1) (hT.ne i 86 hi (by decide) h2)
  obtain ⟨h1, h2, h3, h4, h5⟩ := h
  refine ⟨?_, ⟨hP, (e 84 (by decide) (by decide) (by decide)).trans h2.2.1, (e 85 (by decide) (by decide) (by decide)).trans h2.2.2⟩, ?_, ?_, h5⟩
  · unfold LRq
    rw [show sI (wI S f) (q 80) = sI S (q 80) from e 80 (by decide) (by decide) (by decide)]
    exact h1
  · unfold LRo
    rw [show sI (wI S f) (q 83) = sI S (q 83) from e 83 (by decide) (by decide) (by decide)]
    exact h3
  · intro p hp
    rw [show sI (wI S f) (q 82) = sI S (q 82) from e 82 (by decide) (by decide) (by decide)]
    exact h4 p hp
theorem lo_lay {S : Sto} {q : Nat → Nat} {f : Nat → Int → Int} (hf : ∀ c, c ≠ q 81 → c ≠ q 86 → f c = sI S c) : Lo S q f := fun c hc => hf c (hc 81 (by omega) (by omega)) (hc 86 (by omega) (by omega))
