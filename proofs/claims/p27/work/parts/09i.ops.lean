/-! ===== what each call answers, and the state behind it: its number of failure, its answer, the state ===== -/
abbrev Ans : Type := Int × Int × Sig
def tkI (P : Int → Int) (p to : Int) : Nat → Int
  | 0 => 0
  | n + 1 => if tkI P p to n = 1 ∨ ((n : Int) ≠ p ∧ P (n : Int) = to) then 1 else 0
theorem tkI_b (P : Int → Int) (p to : Int) (n : Nat) : tkI P p to n = 0 ∨ tkI P p to n = 1 := by
  cases n with
  | zero => exact Or.inl rfl
  | succ n => unfold tkI; split <;> omega
def zuP (z : Sig) (F : Int → Int) : Sig := (z.1, z.2.1, F, zdu z, zst z, zbt z, zmn z, zpr z, zqt z)
def oPut (z : Sig) (p a i : Int) : Ans :=
  if ¬ (0 ≤ p ∧ p ≤ 19) ∨ ¬ (0 ≤ a ∧ a ≤ zA z - 1) ∨ ¬ (1 ≤ i ∧ i ≤ zN z) then (1, 0, z)
  else if tkI (zP z) p (100 * a + i) 20 = 1 ∨ 0 < zb z then (2, 0, z)
  else (0, zP z p, zuP z (upd1 (zP z) p (100 * a + i)))
/-- products by turnover, and by the distance of their places from the start -/
def rkL (z : Sig) : Nat → List Nat
  | 0 => []
  | n + 1 => if zP z (n : Int) = -1 then rkL z n else insL (fun x => decide (ztv z (x : Int) < ztv z (n : Int))) (rkL z n) n
def spL (z : Sig) : Nat → List Nat
  | 0 => []
  | n + 1 => if zP z (n : Int) = -1 then spL z n else insL (fun x => decide (dst (zN z) (zG z) 0 (zP z (n : Int)) < dst (zN z) (zG z) 0 (zP z (x : Int)) ∨ (dst (zN z) (zG z) 0 (zP z (x : Int)) = dst (zN z) (zG z) 0 (zP z (n : Int)) ∧ zP z (n : Int) < zP z (x : Int)))) (spL z n) n
def asg (P : Int → Int) (rk sp : List Nat) : Nat → Int × (Int → Int)
  | 0 => (0, P)
  | k + 1 => ((asg P rk sp k).1 + (if (asg P rk sp k).2 ((rk.getD k 0 : Nat) : Int) = P ((sp.getD k 0 : Nat) : Int) then 0 else 1), upd1 (asg P rk sp k).2 ((rk.getD k 0 : Nat) : Int) (P ((sp.getD k 0 : Nat) : Int)))
def oLay (z : Sig) : Ans :=
  if 0 < zb z then (1, 0, z)
  else (0, (asg (zP z) (rkL z 20) (spL z 20) (rkL z 20).length).1, zuP z (asg (zP z) (rkL z 20) (spL z 20) (rkL z 20).length).2)
theorem rk_sp_len (z : Sig) (n : Nat) : (spL z n).length = (rkL z n).length := by
  induction n with
  | zero => rfl
  | succ n ih =>
    unfold rkL spL
    split
    · exact ih
    · rw [insL_len, insL_len, ih]
theorem rkL_le (z : Sig) (n : Nat) : (rkL z n).length ≤ n := by
  induction n with
  | zero => exact Nat.le_refl _
  | succ n ih =>
    unfold rkL
    split
    · omega
    · rw [insL_len]; omega
theorem insL_mem {b : Nat → Bool} {l : List Nat} {v : Nat} : ∀ j, j < (insL b l v).length → (insL b l v).getD j 0 = v ∨ ∃ i, i < l.length ∧ (insL b l v).getD j 0 = l.getD i 0 := by
  intro j hj
  rw [insL_len] at hj
  have hl := insPosN_le (fun j => b (l.getD j 0)) l.length
  rcases Nat.lt_trichotomy j (insPosN (fun j => b (l.getD j 0)) l.length) with h1 | h1 | h1
  · exact Or.inr ⟨j, by omega, insL_lo h1⟩
  · rw [h1]; exact Or.inl insL_eq
  · exact Or.inr ⟨j - 1, by omega, insL_hi h1⟩
theorem rkL_mem (z : Sig) (n : Nat) : ∀ j, j < (rkL z n).length → (rkL z n).getD j 0 < n ∧ zP z (((rkL z n).getD j 0 : Nat) : Int) ≠ -1 := by
  induction n with
  | zero => intro j hj; exact absurd hj (Nat.not_lt_zero _)
  | succ n ih =>
    intro j hj
    by_cases hp : zP z (n : Int) = -1
    · have e : rkL z (n + 1) = rkL z n := if_pos hp
      rw [e] at hj ⊢
      have := ih j hj
      exact ⟨by omega, this.2⟩
    · have e : rkL z (n + 1) = insL (fun x => decide (ztv z (x : Int) < ztv z (n : Int))) (rkL z n) n := if_neg hp
      rw [e] at hj ⊢
      rcases insL_mem j hj with h | ⟨i, h1, h2⟩
      · rw [h]; exact ⟨by omega, hp⟩
      · rw [h2]
        have := ih i h1
        exact ⟨by omega, this.2⟩
theorem spL_mem (z : Sig) (n : Nat) : ∀ j, j < (spL z n).length → (spL z n).getD j 0 < n ∧ zP z (((spL z n).getD j 0 : Nat) : Int) ≠ -1 := by
  induction n with
  | zero => intro j hj; exact absurd hj (Nat.not_lt_zero _)
  | succ n ih =>
    intro j hj
    by_cases hp : zP z (n : Int) = -1
    · have e : spL z (n + 1) = spL z n := if_pos hp
      rw [e] at hj ⊢
      have := ih j hj
      exact ⟨by omega, this.2⟩
    · have e : spL z (n + 1) = insL (fun x => decide (dst (zN z) (zG z) 0 (zP z (n : Int)) < dst (zN z) (zG z) 0 (zP z (x : Int)) ∨ (dst (zN z) (zG z) 0 (zP z (x : Int)) = dst (zN z) (zG z) 0 (zP z (n : Int)) ∧ zP z (n : Int) < zP z (x : Int)))) (spL z n) n := if_neg hp
      rw [e] at hj ⊢
      rcases insL_mem j hj with h | ⟨i, h1, h2⟩
      · rw [h]; exact ⟨by omega, hp⟩
      · rw [h2]
        have := ih i h1
        exact ⟨by omega, this.2⟩
def oPl (z : Sig) (p : Int) : Ans := if 0 ≤ p ∧ p ≤ 19 then (0, zP z p, z) else (1, 0, z)
def oTv (z : Sig) (p : Int) : Ans := if 0 ≤ p ∧ p ≤ 19 then (0, ztv z p, z) else (1, 0, z)
def oDi (z : Sig) (x y : Int) : Ans :=
  if ¬ (0 ≤ x ∧ x ≤ 19) ∨ ¬ (0 ≤ y ∧ y ≤ 19) then (1, 0, z)
  else if zP z x = -1 ∨ zP z y = -1 then (2, 0, z)
  else (0, dst (zN z) (zG z) (zP z x) (zP z y), z)
def zord (z : Sig) (t : Int) : Sig := (z.1, (zo z + 1, zb z, zw z, za z), zP z, upd1 (zdu z) (zo z : Int) t, upd1 (zst z) (zo z : Int) 0, upd1 (zbt z) (zo z : Int) (-1), upd1 (zmn z) (zo z : Int) 0, zpr z, zqt z)
def oOrd (z : Sig) (t : Int) : Ans :=
  if ¬ (0 ≤ t ∧ t ≤ 999) then (1, 0, z)
  else if zo z = 40 then (2, 0, z)
  else (0, (zo z : Int), zord z t)
def zlin (z : Sig) (o : Nat) (p c : Int) : Sig := (z.1, z.2.1, zP z, zdu z, zst z, zbt z, upd1 (zmn z) (o : Int) (zmn z (o : Int) + 1), upd1 (zpr z) (5 * (o : Int) + zmn z (o : Int)) p, upd1 (zqt z) (5 * (o : Int) + zmn z (o : Int)) c)
def oLin (z : Sig) (o p c : Int) : Ans :=
  if ¬ (0 ≤ o ∧ o ≤ (zo z : Int) - 1) ∨ ¬ (0 ≤ p ∧ p ≤ 19) then (1, 0, z)
  else if ¬ (1 ≤ c ∧ c ≤ 99) then (2, 0, z)
  else if zst z o ≠ 0 ∨ zmn z o = 5 ∨ zC z ≤ zmn z o ∨ zW z o.toNat / 2 ^ p.toNat % 2 = 1 ∨ zP z p = -1 then (3, 0, z)
  else (0, zmn z o + 1, zlin z o.toNat p c)
abbrev isOr (z : Sig) (o : Int) : Prop := 0 ≤ o ∧ o ≤ (zo z : Int) - 1
abbrev isBa (z : Sig) (b : Int) : Prop := 0 ≤ b ∧ b ≤ (zb z : Int) - 1
def oOs (z : Sig) : Ans := (0, (zo z : Int), z)
def oBs (z : Sig) : Ans := (0, (zb z : Int), z)
def oWk (z : Sig) : Ans := (0, zw z, z)
def oSt (z : Sig) (o : Int) : Ans := if isOr z o then (0, zst z o, z) else (1, 0, z)
def oBt (z : Sig) (o : Int) : Ans := if isOr z o then (0, zbt z o, z) else (1, 0, z)
def oLa (z : Sig) (o : Int) : Ans := if isOr z o then (0, zto z (zW z o.toNat), z) else (1, 0, z)
def canI (z : Sig) (l : Int) : Nat → Int
  | 0 => if zb z = 0 then 1 else 0
  | n + 1 => if canI z l n = 1 ∧ (zst z (n : Int) = 2 ∨ zmn z (n : Int) ≤ l) then 1 else 0
theorem canI_b (z : Sig) (l : Int) (n : Nat) : canI z l n = 0 ∨ canI z l n = 1 := by
  cases n with
  | zero => unfold canI; split <;> omega
  | succ n => unfold canI; split <;> omega
def oCap (z : Sig) (l : Int) : Ans :=
  if ¬ (1 ≤ l ∧ l ≤ 9) then (1, 0, z)
  else if canI z l (zo z) = 0 then (2, 0, z)
  else (0, zC z, ((zA z, zN z, zG z, l), z.2))
/-- the orders that a wave takes -/
abbrev isT (z : Sig) (t : Int) (o : Nat) : Prop := zst z (o : Int) = 0 ∧ 0 < zmn z (o : Int) ∧ zdu z (o : Int) ≤ t
def tkN (z : Sig) (t : Int) : Nat → Int
  | 0 => 0
  | n + 1 => tkN z t n + (if isT z t n then 1 else 0)
theorem tkN_b (z : Sig) (t : Int) (n : Nat) : 0 ≤ tkN z t n ∧ tkN z t n ≤ n := by
  induction n with
  | zero => show 0 ≤ (0 : Int) ∧ (0 : Int) ≤ ((0 : Nat) : Int); omega
  | succ n ih => unfold tkN; split <;> omega
/-- how many it takes, their states, their batches -/
def tkW (z : Sig) (t : Int) : Nat → Nat × (Int → Int) × (Int → Int)
  | 0 => (0, zst z, zbt z)
  | n + 1 => if isT z t n then ((tkW z t n).1 + 1, upd1 (tkW z t n).2.1 (n : Int) 1, upd1 (tkW z t n).2.2 (n : Int) ((tkW z t n).1 : Int)) else tkW z t n
theorem tkW_n (z : Sig) (t : Int) (n : Nat) : (((tkW z t n).1 : Nat) : Int) = tkN z t n := by
  induction n with
  | zero => rfl
  | succ n ih =>
    unfold tkW tkN
    split <;> omega
theorem tkW_at (z : Sig) (t : Int) (n : Nat) : ∀ j : Int, (n : Int) ≤ j → (tkW z t n).2.1 j = zst z j ∧ (tkW z t n).2.2 j = zbt z j := by
  induction n with
  | zero => intro j _; exact ⟨rfl, rfl⟩
  | succ n ih =>
    intro j hj
    have := ih j (by omega)
    unfold tkW
    split
    · refine ⟨?_, ?_⟩
      · show upd1 _ _ _ j = _
        unfold upd1
        rw [if_neg (by omega)]
        exact this.1
      · show upd1 _ _ _ j = _
        unfold upd1
        rw [if_neg (by omega)]
        exact this.2
    · exact this
def zwv (z : Sig) (t : Int) : Sig := (z.1, (zo z, (tkW z t (zo z)).1, zw z, za z), zP z, zdu z, (tkW z t (zo z)).2.1, (tkW z t (zo z)).2.2, zmn z, zpr z, zqt z)
/-- batches are put together as long as that saves -/
def jnF (z : Sig) : Nat → Sig
  | 0 => z
  | n + 1 => if 0 < (zj z).1 then jnF (zjo z (zj z).2.1 (zj z).2.2) n else z
def zjn (z : Sig) : Sig := jnF z (zb z)
def oPw (z : Sig) (t : Int) : Ans :=
  if ¬ (0 ≤ t ∧ t ≤ 999) then (1, 0, z)
  else if 0 < zb z ∨ tkN z t (zo z) = 0 then (2, 0, z)
  else (0, ((zb (zjn (zwv z t)) : Nat) : Int), zjn (zwv z t))
theorem zj_pos {z : Sig} (h : 0 < (zj z).1) : 0 < zb z := by
  rcases zj_in (z := z) with ⟨e, -⟩ | ⟨x, y, h3, h4, -, -⟩ <;> omega
theorem zjn_step {z : Sig} (h : 0 < (zj z).1) : zjn z = zjn (zjo z (zj z).2.1 (zj z).2.2) := by
  have h1 := zj_pos h
  obtain ⟨n, hn⟩ : ∃ n, zb z = n + 1 := ⟨zb z - 1, by omega⟩
  unfold zjn
  rw [hn]
  show (if 0 < (zj z).1 then jnF (zjo z (zj z).2.1 (zj z).2.2) n else z) = _
  rw [if_pos h]
  show _ = jnF _ (zb z - 1)
  rw [hn]
  rfl
theorem zjn_end {z : Sig} (h : ¬ 0 < (zj z).1) : zjn z = z := by
  unfold zjn
  cases zb z with
  | zero => rfl
  | succ n => exact if_neg h
def pkS (st bt : Int → Int) (b : Int) (n : Nat) : Int → Int := fun j => if 0 ≤ j ∧ j < n then (if bt j = b then 2 else st j) else st j
theorem pkS_0 (st bt : Int → Int) (b : Int) : pkS st bt b 0 = st := by
  funext j
  unfold pkS
  rw [if_neg (by omega)]
theorem pkS_step (st bt : Int → Int) (b : Int) (n : Nat) : upd1 (pkS st bt b n) (n : Int) (if bt (n : Int) = b then 2 else st (n : Int)) = pkS st bt b (n + 1) := by
  funext j
  unfold upd1 pkS
  by_cases h : j = (n : Int)
  · subst h
    rw [if_pos rfl, if_pos (show 0 ≤ (n : Int) ∧ (n : Int) < ((n + 1 : Nat) : Int) by omega)]
  · rw [if_neg h]
    by_cases h2 : 0 ≤ j ∧ j < (n : Int)
    · rw [if_pos h2, if_pos (show 0 ≤ j ∧ j < ((n + 1 : Nat) : Int) by omega)]
    · rw [if_neg h2, if_neg (by omega)]
theorem pkS_at (st bt : Int → Int) (b : Int) (n : Nat) : pkS st bt b n (n : Int) = st (n : Int) := by
  unfold pkS
  rw [if_neg (by omega)]
/-- what the orders of a batch would have taken alone -/
def alI (z : Sig) (b : Int) : Nat → Int
  | 0 => 0
  | n + 1 => alI z b n + (if zbt z (n : Int) = b then zto z (zW z n) else 0)
def zpk (z : Sig) (b : Int) : Sig := (z.1, (zo z, zb z - 1, zw z + zto z (zpd z b), za z + alI z b (zo z)), zP z, zdu z, pkS (zst z) (zbt z) b (zo z), clo (mrg (zbt z) (-1) b (zo z)) b (zo z), zmn z, zpr z, zqt z)
def oPk (z : Sig) (b : Int) : Ans := if isBa z b then (0, zto z (zpd z b), zpk z b) else (1, 0, z)
def oLn (z : Sig) (b : Int) : Ans := if isBa z b then (0, zln z b, z) else (1, 0, z)
def oLo (z : Sig) (b : Int) : Ans := if isBa z b then (0, zto z (zpd z b), z) else (1, 0, z)
def oLt (z : Sig) (b : Int) : Ans := if isBa z b then (if 7 < cntb (zpd z b) 20 then (2, 0, z) else (0, zto z (zpd z b), z)) else (1, 0, z)
def oTh (z : Sig) (b : Int) : Ans := if isBa z b then (0, zth z b, z) else (1, 0, z)
def oSs (z : Sig) (b : Int) : Ans := if isBa z b then (0, (cntb (zpd z b) 20 : Int), z) else (1, 0, z)
def oSa (z : Sig) (b k : Int) : Ans := if isBa z b then (if 0 ≤ k ∧ k ≤ (cntb (zpd z b) 20 : Int) - 1 then (0, rout (zN z) (zG z) (zP z) (zpd z b) k.toNat, z) else (1, 0, z)) else (1, 0, z)
def oIa (z : Sig) (a : Int) : Ans := if 0 ≤ a ∧ a ≤ zA z - 1 then (0, ciA z a (zb z), z) else (1, 0, z)
theorem Wf.plI {z : Sig} (h : Wf z) {x : Int} (hx : 0 ≤ x ∧ x ≤ 19) : zP z x = -1 ∨ (0 ≤ zP z x ∧ zP z x / 100 ≤ 5 ∧ zP z x / 100 < zA z ∧ zP z x ≤ 520 ∧ 1 ≤ zP z x % 100 ∧ zP z x % 100 ≤ zN z) := by
  have h1 := h.2.2.1 x.toNat (by omega)
  rw [show ((x.toNat : Nat) : Int) = x by omega] at h1
  have h2 := h.1
  rcases h1 with h1 | ⟨a, b, c, d⟩
  · exact Or.inl h1
  · exact Or.inr ⟨a, by omega, b, by omega, c, d⟩
theorem tkI_t {P : Int → Int} {p to : Int} {n : Nat} (h : tkI P p to n = 1 ∨ ((n : Int) ≠ p ∧ P (n : Int) = to)) : 1 = tkI P p to (n + 1) := by
  unfold tkI
  rw [if_pos h]
theorem tkI_f {P : Int → Int} {p to : Int} {n : Nat} (h : ¬ (tkI P p to n = 1 ∨ ((n : Int) ≠ p ∧ P (n : Int) = to))) : 0 = tkI P p to (n + 1) := by
  unfold tkI
  rw [if_neg h]
theorem canI_t {z : Sig} {l : Int} {n : Nat} (h : canI z l n = 1 ∧ (zst z (n : Int) = 2 ∨ zmn z (n : Int) ≤ l)) : 1 = canI z l (n + 1) := by
  show _ = (if canI z l n = 1 ∧ (zst z (n : Int) = 2 ∨ zmn z (n : Int) ≤ l) then (1 : Int) else 0)
  rw [if_pos h]
theorem canI_f {z : Sig} {l : Int} {n : Nat} (h : ¬ (canI z l n = 1 ∧ (zst z (n : Int) = 2 ∨ zmn z (n : Int) ≤ l))) : 0 = canI z l (n + 1) := by
  show _ = (if canI z l n = 1 ∧ (zst z (n : Int) = 2 ∨ zmn z (n : Int) ≤ l) then (1 : Int) else 0)
  rw [if_neg h]
theorem Wf.okBI {z : Sig} (h : Wf z) {b : Int} (hb : 0 ≤ b ∧ b ≤ (zb z : Int) - 1) : okM (zN z) (zP z) (zpd z b) := by
  have h1 := h.lnB (b := b.toNat) (by omega)
  rw [show ((b.toNat : Nat) : Int) = b by omega] at h1
  exact h.okB h1
theorem ci_t {z : Sig} {a : Int} {n : Nat} (h : 0 < zfr z (n : Int) a) : ciA z a n + 1 = ciA z a (n + 1) := by
  show _ = ciA z a n + (if 0 < zfr z (n : Int) a then 1 else 0)
  rw [if_pos h]
theorem ci_f {z : Sig} {a : Int} {n : Nat} (h : ¬ 0 < zfr z (n : Int) a) : ciA z a n + 0 = ciA z a (n + 1) := by
  show _ = ciA z a n + (if 0 < zfr z (n : Int) a then 1 else 0)
  rw [if_neg h]
theorem ls_t {z : Sig} {b : Int} {n : Nat} (h : 0 < zfr z b (n : Int)) : (n : Int) = lsA z b (n + 1) := by
  show _ = (if 0 < zfr z b (n : Int) then (n : Int) else lsA z b n)
  rw [if_pos h]
theorem ls_f {z : Sig} {b : Int} {n : Nat} (h : ¬ 0 < zfr z b (n : Int)) : lsA z b n = lsA z b (n + 1) := by
  show _ = (if 0 < zfr z b (n : Int) then (n : Int) else lsA z b n)
  rw [if_neg h]
theorem wt_t {z : Sig} {b : Int} {n : Nat} (h : 0 < zfr z b (n : Int)) : wtA z b n + 1 = wtA z b (n + 1) := by
  show _ = wtA z b n + (if 0 < zfr z b (n : Int) then 1 else 0)
  rw [if_pos h]
theorem wt_f {z : Sig} {b : Int} {n : Nat} (h : ¬ 0 < zfr z b (n : Int)) : wtA z b n + 0 = wtA z b (n + 1) := by
  show _ = wtA z b n + (if 0 < zfr z b (n : Int) then 1 else 0)
  rw [if_neg h]
theorem zth_eq {z : Sig} {b : Int} {n : Nat} {e : Int} (hn : zA z = (n : Int)) (h : (wtA z b n % 2 = 1 ∧ e = 2 * zfr z b (lsA z b n)) ∨ (¬ wtA z b n % 2 = 1 ∧ e = zN z + 1)) : 2 * lsA z b n * zG z + (wtA z b n - 1) * (zN z + 1) + e = zth z b := by
  unfold zth
  rw [show (zA z).toNat = n by omega]
  rcases h with ⟨h1, h2⟩ | ⟨h1, h2⟩
  · rw [if_pos h1, h2]
  · rw [if_neg h1, h2]
