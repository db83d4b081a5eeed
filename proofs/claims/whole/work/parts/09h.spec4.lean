/-! ===== joins ===== -/
theorem Wf.bt {z : Sig} (h : Wf z) {o : Nat} (ho : o < zo z) : -1 ≤ zbt z (o : Int) ∧ zbt z (o : Int) ≤ 100 := by
  have h1 := (h.2.2.2.2.1 o ho).2.2.1
  have h2 := h.2.1
  omega
/-- the state after two batches are put together -/
def zjo (z : Sig) (fi se : Int) : Sig := (z.1, (zo z, zb z - 1, zw z, za z), zP z, zdu z, zst z, clo (mrg (zbt z) fi se (zo z)) se (zo z), zmn z, zpr z, zqt z)
def zj (z : Sig) : Int × Int × Int := jout (zsv z) (zb z) (zb z)
theorem zjb_end {z : Sig} {a t : Nat} (ha : a < zb z) (ht : a + 1 + t = zb z) : zjb z a t = jout (zsv z) (zb z) (a + 1) := by
  show jin _ _ _ t = jin _ _ _ (zb z - (a + 1))
  rw [show t = zb z - (a + 1) by omega]
theorem zj_in {z : Sig} : ((zj z).1 = 0 ∧ (zj z).2 = (-1, -1)) ∨ ∃ x y : Nat, x < y ∧ y < zb z ∧ zj z = (zsv z x y, (x : Int), (y : Int)) ∧ 0 < zsv z x y := by
  unfold zj
  cases hb : zb z with
  | zero => exact Or.inl ⟨rfl, rfl⟩
  | succ n =>
    have h1 := zjb_in (z := z) n (zb z - (n + 1)) (by omega)
    have e := zjb_end (z := z) (a := n) (t := zb z - (n + 1)) (by omega) (by omega)
    rw [e, hb] at h1
    exact h1
theorem saving_eq {z : Sig} {a b : Nat} (h : zln z (a : Int) + zln z (b : Int) ≤ zC z) : zto z (zpd z (a : Int)) + zto z (zpd z (b : Int)) - zto z (zpd z (a : Int) ||| zpd z (b : Int)) = zsv z a b := by
  unfold zsv
  rw [if_pos h]
theorem saving_0 {z : Sig} {a b : Nat} (h : ¬ zln z (a : Int) + zln z (b : Int) ≤ zC z) : zsv z a b = 0 := by
  unfold zsv
  rw [if_neg h]
theorem zjb_0 {z : Sig} (hW : Wf z) {a t : Nat} (h : zsv z a (a + 1 + t) = 0) : zjb z a (t + 1) = zjb z a t := zjb_f (by have := (zjb_b hW a t).1; omega)
theorem sgM_row {S : Sto} {q : Nat → Nat} (hT : Top S q) (i : Nat) (F : Int → Int) (hi : i ∈ tix := by decide) (hn : (i < 80 || 87 < i) = true := by decide) : sgM (wI S (row1 (sI S) (q i) F)) q = sgM S q := by
  simp only [Bool.or_eq_true, decide_eq_true_eq] at hn
  have e : ∀ j, j ∈ tix → 80 ≤ j → j ≤ 87 → row1 (sI S) (q i) F (q j) = sI S (q j) := fun j hj h1 h2 => funext fun k => row1_ne _ _ _ (hT.ne j i hj hi (by omega))
  show ((row1 (sI S) (q i) F (q 80) 1, row1 (sI S) (q i) F (q 80) 2, row1 (sI S) (q i) F (q 80) 3, row1 (sI S) (q i) F (q 80) 4), ((row1 (sI S) (q i) F (q 80) 6).toNat, (row1 (sI S) (q i) F (q 80) 13).toNat, row1 (sI S) (q i) F (q 80) 14, sJ S (q 80) 15), row1 (sI S) (q i) F (q 81), row1 (sI S) (q i) F (q 82), row1 (sI S) (q i) F (q 83), row1 (sI S) (q i) F (q 84), row1 (sI S) (q i) F (q 85), row1 (sI S) (q i) F (q 86), row1 (sI S) (q i) F (q 87)) = _
  rw [e 80 (by decide) (by omega) (by omega), e 81 (by decide) (by omega) (by omega), e 82 (by decide) (by omega) (by omega), e 83 (by decide) (by omega) (by omega), e 84 (by decide) (by omega) (by omega), e 85 (by decide) (by omega) (by omega), e 86 (by decide) (by omega) (by omega), e 87 (by decide) (by omega) (by omega)]
  rfl
theorem Cn.row {S : Sto} {q : Nat → Nat} (hT : Top S q) (i : Nat) (F : Int → Int) (hC : Cn S q) (hi : i ∈ tix := by decide) (hn : (i < 80 || 87 < i) = true := by decide) : Cn (wI S (row1 (sI S) (q i) F)) q := by
  have hs := sgM_row hT i F hi hn
  simp only [Bool.or_eq_true, decide_eq_true_eq] at hn
  unfold Cn
  rw [hs]
  exact ⟨(row1_ne _ _ _ (hT.ne 80 i (by decide) hi (by omega))).trans hC.1, (row1_ne _ _ _ (hT.ne 80 i (by decide) hi (by omega))).trans hC.2⟩
theorem up2_self {α : Type} (f : Nat → Int → α) (a : Nat) (k : Int) {v : α} (h : f a k = v) : up2 f a k v = f := by
  funext b j
  unfold up2
  split
  · next e => rw [e.1, e.2, h]
  · rfl
/-- new batches' numbers, and how many -/
theorem MP.bn {S : Sto} {q : Nat → Nat} {f : Nat → Int → Int} (hT : Top S q) (hC : Cn S q) (h : KeptM S q f) (F : Int → Int) (n : Nat) : MP S q (wI S (up2 (row1 f (q 84) F) (q 80) 13 (n : Int))) (sI S (q 80) 0) ((sgM S q).1, (zo (sgM S q), n, zw (sgM S q), za (sgM S q)), zP (sgM S q), zdu (sgM S q), zst (sgM S q), F, zmn (sgM S q), zpr (sgM S q), zqt (sgM S q)) := by
  have e : ∀ i, i ∈ tix → i ≠ 80 → i ≠ 84 → noM i = true → up2 (row1 f (q 84) F) (q 80) 13 (n : Int) (q i) = sI S (q i) := by
    intro i hi h1 h2 h3
    rw [up2_row _ _ _ (hT.ne i 80 hi (by decide) h1)]
    funext j
    rw [row1_ne _ _ _ (hT.ne i 84 hi (by decide) h2)]
    exact h.at hT i j hi h3
  have e0 : ∀ k : Int, k ≠ 13 → k ≠ 16 → up2 (row1 f (q 84) F) (q 80) 13 (n : Int) (q 80) k = sI S (q 80) k := by
    intro k h1 h2
    rw [up2_nk _ _ _ _ h1, row1_ne _ _ _ (hT.ne 80 84)]
    exact h.at0 hT k h2
  have h84 : up2 (row1 f (q 84) F) (q 80) 13 (n : Int) (q 84) = F := by
    rw [up2_row _ _ _ (hT.ne 84 80)]
    funext j
    exact row1_same _ _ _ _
  have hr := MP.rows (S := S) (q := q) (f := up2 (row1 f (q 84) F) (q 80) 13 (n : Int)) (z := ((sgM S q).1, (zo (sgM S q), n, zw (sgM S q), za (sgM S q)), zP (sgM S q), zdu (sgM S q), zst (sgM S q), F, zmn (sgM S q), zpr (sgM S q), zqt (sgM S q))) hT (fun a ha => by
    rw [up2_row _ _ _ (fun e9 => ha ⟨80, by omega, by omega, e9⟩)]
    funext j
    rw [row1_ne _ _ _ (fun e9 => ha ⟨84, by omega, by omega, e9⟩)]
    refine h a j ?_
    rintro (e9 | e9 | e9 | e9)
    · exact ha ⟨80, by omega, by omega, e9.1⟩
    · exact ha ⟨88, by omega, by omega, e9⟩
    · exact ha ⟨89, by omega, by omega, e9⟩
    · exact ha ⟨90, by omega, by omega, e9⟩) ⟨e0 1 (by decide) (by decide), e0 2 (by decide) (by decide), e0 3 (by decide) (by decide), e0 4 (by decide) (by decide)⟩ ⟨(e0 6 (by decide) (by decide)).trans hC.1, up2_same _ _ _ _, e0 14 (by decide) (by decide), rfl⟩
    ⟨e 81 (by decide) (by decide) (by decide) (by decide), e 82 (by decide) (by decide) (by decide) (by decide), e 83 (by decide) (by decide) (by decide) (by decide), h84, e 85 (by decide) (by decide) (by decide) (by decide), e 86 (by decide) (by decide) (by decide) (by decide), e 87 (by decide) (by decide) (by decide) (by decide)⟩
  rw [e0 0 (by decide) (by decide)] at hr
  exact hr
theorem MP.bt {S : Sto} {q : Nat → Nat} {f : Nat → Int → Int} (hT : Top S q) (hC : Cn S q) (h : KeptM S q f) (F : Int → Int) : MP S q (wI S (row1 f (q 84) F)) (sI S (q 80) 0) ((sgM S q).1, (sgM S q).2.1, zP (sgM S q), zdu (sgM S q), zst (sgM S q), F, zmn (sgM S q), zpr (sgM S q), zqt (sgM S q)) := by
  have h1 := MP.bn hT hC h F (zb (sgM S q))
  rw [up2_self _ _ _ ((row1_ne _ _ _ (hT.ne 80 84)).trans ((h.at0 hT 13).trans hC.2))] at h1
  exact h1
theorem zj_r {z : Sig} (h : Wf z) : -1 ≤ (zj z).2.2 ∧ (zj z).2.2 ≤ 100 ∧ -1 ≤ (zj z).2.1 ∧ (zj z).2.1 ≤ 100 := by
  have h2 := h.2.1
  rcases zj_in (z := z) with ⟨-, e⟩ | ⟨x, y, h3, h4, e, -⟩
  · rw [e]; dsimp only; omega
  · rw [e]; dsimp only; omega
theorem mrg_r {z : Sig} (h : Wf z) (o : Nat) (ho : o < zo z) (n : Nat) : -1 ≤ mrg (zbt z) (zj z).2.1 (zj z).2.2 n (o : Int) ∧ mrg (zbt z) (zj z).2.1 (zj z).2.2 n (o : Int) ≤ 100 := by
  have h1 := h.bt ho
  have h2 := zj_r h
  unfold mrg
  (repeat' split) <;> omega
theorem jo_fin {S : Sto} {q : Nat → Nat} {f : Nat → Int → Int} {o : Nat} (hT : Top S q) (hC : Cn S q) (h : KeptM S q f) (hW : Wf (sgM S q)) (hb : 0 < (zj (sgM S q)).1) (ho : o = zo (sgM S q)) : MP S q (wI S (up2 (row1 (row1 f (q 84) (mrg (sI S (q 84)) (zj (sgM S q)).2.1 (zj (sgM S q)).2.2 o)) (q 84) (clo (row1 f (q 84) (mrg (sI S (q 84)) (zj (sgM S q)).2.1 (zj (sgM S q)).2.2 o) (q 84)) (zj (sgM S q)).2.2 (zo (sgM (wI S (row1 f (q 84) (mrg (sI S (q 84)) (zj (sgM S q)).2.1 (zj (sgM S q)).2.2 o))) q)))) (q 80) 13 (((zb (sgM (wI S (row1 f (q 84) (mrg (sI S (q 84)) (zj (sgM S q)).2.1 (zj (sgM S q)).2.2 o))) q) : Nat) : Int) - 1))) (sI S (q 80) 0) (zjo (sgM S q) (zj (sgM S q)).2.1 (zj (sgM S q)).2.2) := by
  subst ho
  have h1 := MP.bt hT hC h (mrg (sI S (q 84)) (zj (sgM S q)).2.1 (zj (sgM S q)).2.2 (zo (sgM S q)))
  rw [h1.2.2.2.2.2.2.2.1]
  have e1 : row1 f (q 84) (mrg (sI S (q 84)) (zj (sgM S q)).2.1 (zj (sgM S q)).2.2 (zo (sgM S q))) (q 84) = mrg (sI S (q 84)) (zj (sgM S q)).2.1 (zj (sgM S q)).2.2 (zo (sgM S q)) := funext fun j => row1_same _ _ _ _
  rw [e1, row1_row1]
  have hz : 0 < zb (sgM S q) := by
    rcases zj_in (z := sgM S q) with ⟨e, -⟩ | ⟨x, y, h3, h4, -, -⟩
    · omega
    · omega
  have e2 : (((zb (sgM S q) : Nat) : Int) - 1) = ((zb (sgM S q) - 1 : Nat) : Int) := by omega
  show MP S q (wI S (up2 _ _ _ (((zb (sgM S q) : Nat) : Int) - 1))) _ _
  rw [e2]
  exact MP.bn hT hC h _ _
theorem jo_none {S : Sto} {q : Nat → Nat} {f : Nat → Int → Int} {o : Nat} (hT : Top S q) (hC : Cn S q) (h : KeptM S q f) (hb : ¬ 0 < (zj (sgM S q)).1) (ho : 0 < (zj (sgM S q)).1 ∨ o = 0) : MP S q (wI S (row1 f (q 84) (mrg (sI S (q 84)) (zj (sgM S q)).2.1 (zj (sgM S q)).2.2 o))) (sI S (q 80) 0) (sgM S q) := by
  have e : o = 0 := by rcases ho with h | h; exact absurd h hb; exact h
  have e84 : f (q 84) = sI S (q 84) := funext fun k => h.at hT 84 k
  rw [e, mrg_0, ← e84, row1_self]
  exact MP.kept hT hC h
