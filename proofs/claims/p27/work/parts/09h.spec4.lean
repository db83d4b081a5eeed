/-! ===== joins ===== -/
theorem Wf.bt {z : Sig} (h : Wf z) {o : Nat} (ho : o < zo z) : -1 ≤ zbt z (o : Int) ∧ zbt z (o : Int) ≤ 100 := by
  have h1 := (h.2.2.2.2.1 o ho).2.2.1
  have h2 := h.2.1
  omega
/-- the state after two batches are put together -/
def zjo (z : Sig) (fi se : Int) : Sig := (z.1, (zo z, zb z - 1, zw z, za z), zP z, zdu z, zst z, clo (mrg (zbt z) fi se (zo z)) se (zo z), zmn z, zpr z, zqt z)
def zj (z : Sig) : Int × Int × Int := jout (zsv z) (zb z) (zb z)
theorem zjb_end {z : Sig} {a t : Nat} (ha : a < zb z) (ht : a + 1 + t = zb z) : zjb z a t = jout (zsv z) (zb z) (a + 1) := by
  show jin _ _ _ t = jin _ _ _ (zb z - (a + 1))
  rw [show t = zb z - (a + 1) by omega]
theorem zj_in {z : Sig} : ((zj z).1 = 0 ∧ (zj z).2 = (-1, -1)) ∨ ∃ x y : Nat, x < y ∧ y < zb z ∧ zj z = (zsv z x y, (x : Int), (y : Int)) ∧ 0 < zsv z x y := by
  unfold zj
  cases hb : zb z with
  | zero => exact Or.inl ⟨rfl, rfl⟩
  | succ n =>
    have h1 := zjb_in (z := z) n (zb z - (n + 1)) (by omega)
    have e := zjb_end (z := z) (a := n) (t := zb z - (n + 1)) (by omega) (by omega)
    rw [e, hb] at h1
    exact h1
theorem saving_eq {z : Sig} {a b : Nat} (h : zln z (a : Int) + zln z (b : Int) ≤ zC z) : zto z (zpd z (a : Int)) + zto z (zpd z (b : Int)) - zto z (zpd z (a : Int) ||| zpd z (b : Int)) = zsv z a b := by
  unfold zsv
  rw [if_pos h]
theorem saving_0 {z : Sig} {a b : Nat} (h : ¬ zln z (a : Int) + zln z (b : Int) ≤ zC z) : zsv z a b = 0 := by
  unfold zsv
  rw [if_neg h]
theorem zjb_0 {z : Sig} (hW : Wf z) {a t : Nat} (h : zsv z a (a + 1 + t) = 0) : zjb z a (t + 1) = zjb z a t := zjb_f (by have := (zjb_b hW a t).1; omega)
theorem up2_self {α : Type} (f : Nat → Int → α) (a : Nat) (k : Int) {v : α} (h : f a k = v) : up2 f a k v = f := by
  funext b j
  unfold up2
  split
  · next e => rw [e.1, e.2, h]
  · rfl
theorem zj_r {z : Sig} (h : Wf z) : -1 ≤ (zj z).2.2 ∧ (zj z).2.2 ≤ 100 ∧ -1 ≤ (zj z).2.1 ∧ (zj z).2.1 ≤ 100 := by
  have h2 := h.2.1
  rcases zj_in (z := z) with ⟨-, e⟩ | ⟨x, y, h3, h4, e, -⟩
  · rw [e]; dsimp only; omega
  · rw [e]; dsimp only; omega
theorem mrg_r {z : Sig} (h : Wf z) (o : Nat) (ho : o < zo z) (n : Nat) : -1 ≤ mrg (zbt z) (zj z).2.1 (zj z).2.2 n (o : Int) ∧ mrg (zbt z) (zj z).2.1 (zj z).2.2 n (o : Int) ≤ 100 := by
  have h1 := h.bt ho
  have h2 := zj_r h
  unfold mrg
  (repeat' split) <;> omega