/-! ===== batches put together, batches gone ===== -/
theorem prd_congr {bt bt' : Int → Int} {W W' : Nat → Nat} {b b' : Int} : ∀ n, (∀ o : Nat, o < n → (bt (o : Int) = b ↔ bt' (o : Int) = b') ∧ W o = W' o) → prd bt W b n = prd bt' W' b' n := by
  intro n
  induction n with
  | zero => intro _; rfl
  | succ n ih =>
    intro h
    have h1 := ih (fun o ho => h o (by omega))
    obtain ⟨h2, h3⟩ := h n (by omega)
    show prd bt W b n ||| (if bt (n : Int) = b then W n else 0) = prd bt' W' b' n ||| (if bt' (n : Int) = b' then W' n else 0)
    rw [h1, h3]
    by_cases e : bt (n : Int) = b
    · rw [if_pos e, if_pos (h2.1 e)]
    · rw [if_neg e, if_neg (fun e2 => e (h2.2 e2))]
theorem cln_two {bt bt' mn : Int → Int} {b c y : Int} (hcy : c ≠ y) : ∀ n, (∀ o : Nat, o < n → (bt' (o : Int) = b ↔ (bt (o : Int) = c ∨ bt (o : Int) = y))) → cln bt' mn b n = cln bt mn c n + cln bt mn y n := by
  intro n
  induction n with
  | zero => intro _; rfl
  | succ n ih =>
    intro h
    have h1 := ih (fun o ho => h o (by omega))
    have h2 := h n (by omega)
    show cln bt' mn b n + (if bt' (n : Int) = b then mn (n : Int) else 0) = (cln bt mn c n + (if bt (n : Int) = c then mn (n : Int) else 0)) + (cln bt mn y n + (if bt (n : Int) = y then mn (n : Int) else 0))
    rw [h1]
    by_cases e1 : bt (n : Int) = c
    · have e2 : ¬ bt (n : Int) = y := fun e => hcy (e1.symm.trans e)
      rw [if_pos (h2.2 (Or.inl e1)), if_pos e1, if_neg e2]; omega
    · by_cases e2 : bt (n : Int) = y
      · rw [if_pos (h2.2 (Or.inr e2)), if_neg e1, if_pos e2]; omega
      · rw [if_neg (fun e => (h2.1 e).elim e1 e2), if_neg e1, if_neg e2]; omega
theorem prd_two {bt bt' : Int → Int} {W : Nat → Nat} {b c y : Int} : ∀ n, (∀ o : Nat, o < n → (bt' (o : Int) = b ↔ (bt (o : Int) = c ∨ bt (o : Int) = y))) → prd bt' W b n = prd bt W c n ||| prd bt W y n := by
  intro n
  induction n with
  | zero => intro _; show 0 = 0 ||| 0; rfl
  | succ n ih =>
    intro h
    have h1 := ih (fun o ho => h o (by omega))
    have h2 := h n (by omega)
    show prd bt' W b n ||| (if bt' (n : Int) = b then W n else 0) = (prd bt W c n ||| (if bt (n : Int) = c then W n else 0)) ||| (prd bt W y n ||| (if bt (n : Int) = y then W n else 0))
    rw [h1]
    apply Nat.eq_of_testBit_eq
    intro i
    by_cases e1 : bt (n : Int) = c
    · by_cases e2 : bt (n : Int) = y
      · rw [if_pos (h2.2 (Or.inl e1)), if_pos e1, if_pos e2]
        simp only [Nat.testBit_or]
        cases (prd bt W c n).testBit i <;> cases (prd bt W y n).testBit i <;> cases (W n).testBit i <;> rfl
      · rw [if_pos (h2.2 (Or.inl e1)), if_pos e1, if_neg e2]
        simp only [Nat.testBit_or, Nat.zero_testBit]
        cases (prd bt W c n).testBit i <;> cases (prd bt W y n).testBit i <;> cases (W n).testBit i <;> rfl
    · by_cases e2 : bt (n : Int) = y
      · rw [if_pos (h2.2 (Or.inr e2)), if_neg e1, if_pos e2]
        simp only [Nat.testBit_or, Nat.zero_testBit]
        cases (prd bt W c n).testBit i <;> cases (prd bt W y n).testBit i <;> cases (W n).testBit i <;> rfl
      · rw [if_neg (fun e => (h2.1 e).elim e1 e2), if_neg e1, if_neg e2]
        simp only [Nat.testBit_or, Nat.zero_testBit]
        cases (prd bt W c n).testBit i <;> cases (prd bt W y n).testBit i <;> rfl
/-- the number that batch b behind had before: all behind y move up -/
def ri (y b : Nat) : Nat := if b < y then b else b + 1
theorem jbt {bt : Int → Int} {x y : Int} {N : Nat} (hxy : x < y) {o : Nat} (ho : o < N) : clo (mrg bt x y N) y N (o : Int) = if bt (o : Int) = y then x else if y < bt (o : Int) then bt (o : Int) - 1 else bt (o : Int) := by
  have h1 : (0 : Int) ≤ (o : Int) ∧ (o : Int) < (N : Int) := by omega
  have h2 : mrg bt x y N (o : Int) = if bt (o : Int) = y then x else bt (o : Int) := if_pos h1
  have h3 : clo (mrg bt x y N) y N (o : Int) = if y < mrg bt x y N (o : Int) then mrg bt x y N (o : Int) - 1 else mrg bt x y N (o : Int) := if_pos h1
  rw [h3, h2]
  by_cases e : bt (o : Int) = y
  · rw [if_pos e, if_neg (by omega), if_pos e]
  · rw [if_neg e, if_neg e]
/-- the orders of batch b behind, where x and y were put together, or y is gone -/
theorem jbt_iff {bt : Int → Int} {x : Int} {y b : Nat} {N : Nat} (hxy : x < (y : Int)) {o : Nat} (ho : o < N) : clo (mrg bt x y N) y N (o : Int) = (b : Int) ↔ (bt (o : Int) = ((ri y b : Nat) : Int) ∨ ((b : Int) = x ∧ bt (o : Int) = (y : Int))) := by
  rw [jbt hxy ho]
  unfold ri
  (repeat' split) <;> omega
theorem zjo_bt (z : Sig) (x y : Int) {o : Nat} (ho : o < zo z) (hxy : x < y) : zbt (zjo z x y) (o : Int) = if zbt z (o : Int) = y then x else if y < zbt z (o : Int) then zbt z (o : Int) - 1 else zbt z (o : Int) := jbt hxy ho
theorem zjo_ln (z : Sig) {x y b : Nat} (hxy : x < y) : zln (zjo z x y) (b : Int) = if b = x then zln z (x : Int) + zln z (y : Int) else zln z ((ri y b : Nat) : Int) := by
  by_cases e : b = x
  · rw [if_pos e]
    subst e
    refine cln_two (by omega) _ (fun o ho => ?_)
    have := jbt_iff (bt := zbt z) (x := (b : Int)) (y := y) (b := b) (N := zo z) (by omega) ho
    rw [show ri y b = b by unfold ri; rw [if_pos hxy]] at this
    exact this.trans ⟨fun h => h.imp id (fun h => h.2), fun h => h.imp id (fun h => ⟨rfl, h⟩)⟩
  · rw [if_neg e]
    refine cln_congr _ (fun o ho => ⟨?_, fun _ => rfl⟩)
    have := jbt_iff (bt := zbt z) (x := (x : Int)) (y := y) (b := b) (N := zo z) (by omega) ho
    exact this.trans ⟨fun h => h.elim id (fun h => absurd h.1 (by omega)), fun h => Or.inl h⟩
theorem zjo_pd (z : Sig) {x y b : Nat} (hxy : x < y) : zpd (zjo z x y) (b : Int) = if b = x then zpd z (x : Int) ||| zpd z (y : Int) else zpd z ((ri y b : Nat) : Int) := by
  by_cases e : b = x
  · rw [if_pos e]
    subst e
    refine prd_two _ (fun o ho => ?_)
    have := jbt_iff (bt := zbt z) (x := (b : Int)) (y := y) (b := b) (N := zo z) (by omega) ho
    rw [show ri y b = b by unfold ri; rw [if_pos hxy]] at this
    exact this.trans ⟨fun h => h.imp id (fun h => h.2), fun h => h.imp id (fun h => ⟨rfl, h⟩)⟩
  · rw [if_neg e]
    refine prd_congr _ (fun o ho => ⟨?_, rfl⟩)
    have := jbt_iff (bt := zbt z) (x := (x : Int)) (y := y) (b := b) (N := zo z) (by omega) ho
    exact this.trans ⟨fun h => h.elim id (fun h => absurd h.1 (by omega)), fun h => Or.inl h⟩
theorem zpk_ln (z : Sig) (y b : Nat) : zln (zpk z y) (b : Int) = zln z ((ri y b : Nat) : Int) := by
  refine cln_congr _ (fun o ho => ⟨?_, fun _ => rfl⟩)
  have := jbt_iff (bt := zbt z) (x := -1) (y := y) (b := b) (N := zo z) (by omega) ho
  exact this.trans ⟨fun h => h.elim id (fun h => absurd h.1 (by omega)), fun h => Or.inl h⟩
theorem zpk_pd (z : Sig) (y b : Nat) : zpd (zpk z y) (b : Int) = zpd z ((ri y b : Nat) : Int) := by
  refine prd_congr _ (fun o ho => ⟨?_, rfl⟩)
  have := jbt_iff (bt := zbt z) (x := -1) (y := y) (b := b) (N := zo z) (by omega) ho
  exact this.trans ⟨fun h => h.elim id (fun h => absurd h.1 (by omega)), fun h => Or.inl h⟩
theorem zsv_pos {z : Sig} {a b : Nat} (h : 0 < zsv z a b) : zln z (a : Int) + zln z (b : Int) ≤ zC z := by
  unfold zsv at h
  by_cases e : zln z (a : Int) + zln z (b : Int) ≤ zC z
  · exact e
  · rw [if_neg e] at h; omega
theorem ri_lt {y b n : Nat} (hy : y < n) (hb : b < n - 1) : ri y b < n := by unfold ri; split <;> omega
theorem Wf.jo' {z : Sig} (h : Wf z) {x y : Nat} (hxy : x < y) (hy : y < zb z) (hc : zln z (x : Int) + zln z (y : Int) ≤ zC z) : Wf (zjo z x y) := by
  obtain ⟨a1, a2, a3, a4, a5, a6, a7, a8, a9⟩ := h
  refine ⟨a1, ⟨a2.1, ?_⟩, a3, a4, fun o ho => ?_, a6, fun b hb => ?_, a8, a9⟩
  · show zb z - 1 ≤ zo z; omega
  · have ho : o < zo z := ho
    obtain ⟨b1, b2, b3, b4, b5, b6, b7⟩ := a5 o ho
    have e := zjo_bt z (x : Int) (y : Int) ho (by omega)
    have eb : ((zb (zjo z (x : Int) (y : Int)) : Nat) : Int) = (zb z : Int) - 1 := by show (((zb z - 1 : Nat)) : Int) = _; omega
    refine ⟨b1, b2, ?_, ?_, b5, b6, b7⟩
    · rw [e, eb]; (repeat' split) <;> omega
    · rw [e]
      show _ ↔ zst z (o : Int) = 1
      rw [← b4]
      (repeat' split) <;> omega
  · have hb : b < zb z - 1 := hb
    rw [zjo_ln z hxy]
    by_cases e : b = x
    · rw [if_pos e]
      refine ⟨hc, ?_⟩
      obtain ⟨-, o, h2, h3⟩ := a7 x (by omega)
      refine ⟨o, h2, ?_⟩
      rw [zjo_bt z _ _ h2 (by omega), h3]
      (repeat' split) <;> omega
    · rw [if_neg e]
      obtain ⟨h1, o, h2, h3⟩ := a7 (ri y b) (ri_lt hy hb)
      refine ⟨h1, o, h2, ?_⟩
      rw [zjo_bt z _ _ h2 (by omega), h3]
      unfold ri
      (repeat' split) <;> omega
theorem Wf.jo {z : Sig} (h : Wf z) (hp : 0 < (zj z).1) : Wf (zjo z (zj z).2.1 (zj z).2.2) := by
  rcases zj_in (z := z) with ⟨e, -⟩ | ⟨x, y, h1, h2, e, h3⟩
  · omega
  · rw [e]
    exact h.jo' h1 h2 (zsv_pos h3)
/-- how many orders a batch has -/
def nIn (bt : Int → Int) (b : Int) : Nat → Nat
  | 0 => 0
  | n + 1 => nIn bt b n + (if bt (n : Int) = b then 1 else 0)
theorem nIn_pos {bt : Int → Int} {b : Int} : ∀ n, (∃ o : Nat, o < n ∧ bt (o : Int) = b) → 0 < nIn bt b n := by
  intro n
  induction n with
  | zero => rintro ⟨o, ho, -⟩; omega
  | succ n ih =>
    rintro ⟨o, ho, e⟩
    unfold nIn
    by_cases e2 : o = n
    · subst e2; rw [if_pos e]; omega
    · have := ih ⟨o, by omega, e⟩; omega
theorem dn_pk {st bt : Int → Int} {b : Int} {N : Nat} (hb : 0 ≤ b) : ∀ n, n ≤ N → (∀ o : Nat, o < n → (0 ≤ bt (o : Int) ↔ st (o : Int) = 1)) → dn (pkS st bt b N) n = dn st n + nIn bt b n := by
  intro n
  induction n with
  | zero => intro _ _; rfl
  | succ n ih =>
    intro hn h
    have h1 := ih (by omega) (fun o ho => h o (by omega))
    have h2 := h n (by omega)
    have e : pkS st bt b N (n : Int) = if bt (n : Int) = b then 2 else st (n : Int) := if_pos (by omega)
    show dn (pkS st bt b N) n + (if pkS st bt b N (n : Int) = 2 then 1 else 0) = (dn st n + (if st (n : Int) = 2 then 1 else 0)) + (nIn bt b n + (if bt (n : Int) = b then 1 else 0))
    rw [h1, e]
    by_cases e1 : bt (n : Int) = b
    · rw [if_pos e1, if_pos rfl, if_pos e1, if_neg (by omega)]; omega
    · rw [if_neg e1, if_neg e1]; omega
theorem alI_b {z : Sig} (h : Wf z) (b : Int) : ∀ n, n ≤ zo z → 0 ≤ alI z b n ∧ alI z b n ≤ 660 * (nIn (zbt z) b n : Int) := by
  intro n
  induction n with
  | zero => intro _; show 0 ≤ (0 : Int) ∧ (0 : Int) ≤ 660 * ((0 : Nat) : Int); omega
  | succ n ih =>
    intro hn
    have h1 := ih (by omega)
    have h2 := zto_b h (h.okW (o := n) (by omega))
    unfold alI nIn
    split <;> omega
theorem nIn_le (bt : Int → Int) (b : Int) (n : Nat) : nIn bt b n ≤ n := by
  induction n with
  | zero => exact Nat.le_refl _
  | succ n ih => unfold nIn; split <;> omega
theorem Wf.pk {z : Sig} (h : Wf z) {y : Nat} (hy : y < zb z) : Wf (zpk z y) := by
  have hto := zto_b h (h.okB (h.lnB hy))
  have hal := alI_b h (y : Int) (zo z) (Nat.le_refl _)
  obtain ⟨a1, a2, a3, a4, a5, a6, a7, a8, a9⟩ := h
  have hdn := dn_pk (st := zst z) (bt := zbt z) (b := (y : Int)) (N := zo z) (by omega) (zo z) (Nat.le_refl _) (fun o ho => (a5 o ho).2.2.2.1)
  have hps := nIn_pos (zo z) (a7 y hy).2
  refine ⟨a1, ⟨a2.1, ?_⟩, a3, a4, fun o ho => ?_, a6, fun b hb => ?_, ?_, ?_⟩
  · show zb z - 1 ≤ zo z; omega
  · have ho : o < zo z := ho
    obtain ⟨b1, b2, b3, b4, b5, b6, b7⟩ := a5 o ho
    have e : zbt (zpk z (y : Int)) (o : Int) = if zbt z (o : Int) = (y : Int) then -1 else if (y : Int) < zbt z (o : Int) then zbt z (o : Int) - 1 else zbt z (o : Int) := jbt (by omega) ho
    have e2 : zst (zpk z (y : Int)) (o : Int) = if zbt z (o : Int) = (y : Int) then 2 else zst z (o : Int) := if_pos (by omega)
    have eb : ((zb (zpk z (y : Int)) : Nat) : Int) = (zb z : Int) - 1 := by show (((zb z - 1 : Nat)) : Int) = _; omega
    rw [e, e2, eb]
    refine ⟨b1, ?_, ?_, ?_, b5, fun hne => ?_, fun hne => ?_⟩
    · split
      · exact Or.inr (Or.inr rfl)
      · exact b2
    · (repeat' split) <;> omega
    · (repeat' split) <;> omega
    · show zmn z (o : Int) ≤ zC z
      split at hne
      · exact absurd rfl hne
      · exact b6 hne
    · show 0 < zmn z (o : Int)
      split at hne
      · exact b7 (by omega)
      · exact b7 hne
  · have hb : b < zb z - 1 := hb
    rw [zpk_ln]
    obtain ⟨h1, o, h2, h3⟩ := a7 (ri y b) (ri_lt hy hb)
    refine ⟨h1, o, h2, ?_⟩
    show clo (mrg (zbt z) (-1) (y : Int) (zo z)) (y : Int) (zo z) (o : Int) = _
    rw [jbt (by omega) h2, h3]
    unfold ri
    (repeat' split) <;> omega
  · show 0 ≤ zw z + zto z (zpd z (y : Int)) ∧ zw z + zto z (zpd z (y : Int)) ≤ 660 * ((dn (pkS (zst z) (zbt z) (y : Int) (zo z)) (zo z) : Nat) : Int)
    rw [hdn]; omega
  · show 0 ≤ za z + alI z (y : Int) (zo z) ∧ za z + alI z (y : Int) (zo z) ≤ 660 * ((dn (pkS (zst z) (zbt z) (y : Int) (zo z)) (zo z) : Nat) : Int)
    rw [hdn]; omega
theorem Wf.jnf {z : Sig} (h : Wf z) : ∀ n, Wf (jnF z n) := by
  intro n
  induction n generalizing z with
  | zero => exact h
  | succ n ih =>
    show Wf (if 0 < (zj z).1 then jnF (zjo z (zj z).2.1 (zj z).2.2) n else z)
    split
    · next hp => exact ih (h.jo hp)
    · exact h
theorem Wf.pw {z : Sig} (h : Wf z) (t : Int) (hz : zb z = 0) : Wf (zjn (zwv z t)) := (h.wv t hz).jnf _
theorem tkN_t {z : Sig} {t : Int} {n : Nat} (h : zst z (n : Int) = 0 ∧ 0 < zmn z (n : Int) ∧ zdu z (n : Int) ≤ t) : tkN z t n + 1 = tkN z t (n + 1) := by
  show _ = tkN z t n + (if isT z t n then 1 else 0)
  rw [if_pos h]
theorem tkN_f {z : Sig} {t : Int} {n : Nat} (h : ¬ (zst z (n : Int) = 0 ∧ 0 < zmn z (n : Int) ∧ zdu z (n : Int) ≤ t)) : tkN z t n + 0 = tkN z t (n + 1) := by
  show _ = tkN z t n + (if isT z t n then 1 else 0)
  rw [if_neg h]