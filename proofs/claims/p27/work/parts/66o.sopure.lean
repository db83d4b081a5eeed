/-! ===== how many batches come into an aisle, as the law counts ===== -/
def iF (z : Sig) (b a : Int) : Nat → Nat
  | 0 => 0
  | k + 1 => if iF z b a k = 1 ∨ (0 ≤ zP z (k : Int) ∧ zP z (k : Int) / 100 = a ∧ (zpd z b).testBit k = true) then 1 else 0
theorem iF_le (z : Sig) (b a : Int) (k : Nat) : iF z b a k ≤ 1 := by
  cases k with
  | zero => exact Nat.zero_le _
  | succ k => unfold iF; split <;> omega
theorem iF_skip {z : Sig} {b a : Int} {k : Nat} (h : ¬ (0 ≤ zP z (k : Int) ∧ zP z (k : Int) / 100 = a)) : iF z b a (k + 1) = iF z b a k := by
  have h1 := iF_le z b a k
  show (if iF z b a k = 1 ∨ _ then 1 else 0) = _
  by_cases e : iF z b a k = 1
  · rw [if_pos (Or.inl e), e]
  · rw [if_neg (fun h9 => h9.elim e (fun h8 => h ⟨h8.1, h8.2.1⟩))]; omega
theorem iF_or {z : Sig} {b a : Int} {k : Nat} (h : 0 ≤ zP z (k : Int) ∧ zP z (k : Int) / 100 = a) : iF z b a k ||| (zpd z b / 2 ^ k % 2) = iF z b a (k + 1) := by
  have h1 := iF_le z b a k
  show _ = (if iF z b a k = 1 ∨ _ then 1 else 0)
  have h3 : zpd z b / 2 ^ k % 2 = 0 ∨ zpd z b / 2 ^ k % 2 = 1 := by omega
  rcases h3 with e3 | e3
  · have hb : ¬ (zpd z b).testBit k = true := by rw [tb_0 e3]; exact Bool.false_ne_true
    rw [e3, Nat.or_zero]
    by_cases e : iF z b a k = 1
    · rw [if_pos (Or.inl e), e]
    · rw [if_neg (fun h9 => h9.elim e (fun h8 => hb h8.2.2))]; omega
  · have hb : (zpd z b).testBit k = true := tb_1 (by omega)
    rw [e3, if_pos (Or.inr ⟨h.1, h.2, hb⟩)]
    have h4 : iF z b a k = 0 ∨ iF z b a k = 1 := by omega
    rcases h4 with e | e <;> rw [e] <;> rfl
theorem iF_ex {z : Sig} {b a : Int} : ∀ n, iF z b a n = 1 → ∃ k : Nat, k < n ∧ (0 ≤ zP z (k : Int) ∧ zP z (k : Int) / 100 = a ∧ (zpd z b).testBit k = true) := by
  intro n
  induction n with
  | zero => intro h; cases h
  | succ n ih =>
    intro h
    by_cases e : iF z b a n = 1
    · obtain ⟨k, k1, k2⟩ := ih e
      exact ⟨k, by omega, k2⟩
    · by_cases e2 : 0 ≤ zP z (n : Int) ∧ zP z (n : Int) / 100 = a ∧ (zpd z b).testBit n = true
      · exact ⟨n, by omega, e2⟩
      · have e3 : iF z b a (n + 1) = 0 := if_neg (fun h9 => h9.elim e e2)
        omega
theorem iF_has {z : Sig} {b a : Int} : ∀ n (k : Nat), k < n → 0 ≤ zP z (k : Int) → zP z (k : Int) / 100 = a → (zpd z b).testBit k = true → iF z b a n = 1 := by
  intro n
  induction n with
  | zero => intro k hk; omega
  | succ n ih =>
    intro k hk h1 h2 h3
    by_cases e : k = n
    · subst e; exact if_pos (Or.inr ⟨h1, h2, h3⟩)
    · exact if_pos (Or.inl (ih k (by omega) h1 h2 h3))
theorem iF_end {z : Sig} {b a : Int} (hm : okM (zN z) (zP z) (zpd z b)) : ((iF z b a 20 : Nat) : Int) = if 0 < zfr z b a then 1 else 0 := by
  have h1 := iF_le z b a 20
  by_cases e : 0 < zfr z b a
  · rw [if_pos e]
    obtain ⟨k, k1, k2, k3⟩ := frp_ex 20 e
    have h2 := iF_has 20 k k1 (hm.1 k k1 k2).1 k3 k2
    omega
  · rw [if_neg e]
    by_cases e2 : iF z b a 20 = 1
    · obtain ⟨k, k1, k2, k3, k4⟩ := iF_ex 20 e2
      exact absurd (frp_pos 20 k k1 k4 k3 (hm.1 k k1 k4).2.2.1) e
    · omega
theorem ciA_st {z : Sig} {a : Int} {b : Nat} (hm : okM (zN z) (zP z) (zpd z (b : Int))) : ciA z a b + ((iF z (b : Int) a 20 : Nat) : Int) = ciA z a (b + 1) := by
  rw [iF_end hm]
  rfl
theorem ho_Dx {z : Sig} {x y : Nat} (hx : x < 20) (hy : y < 20) (h : zP z (x : Int) = -1 ∨ zP z (y : Int) = -1) : oDi z (x : Int) (y : Int) = (2, 0, z) := by
  unfold oDi
  rw [if_neg (by omega), if_pos h]
theorem ho_Di {z : Sig} {x y : Nat} (hx : x < 20) (hy : y < 20) (h : ¬ (zP z (x : Int) = -1 ∨ zP z (y : Int) = -1)) : oDi z (x : Int) (y : Int) = (0, dst (zN z) (zG z) (zP z (x : Int)) (zP z (y : Int)), z) := by
  unfold oDi
  rw [if_neg (by omega), if_neg h]
theorem shr_0 {w a : Int} {op : CmpOp} (ha : inR a) (h : a = 0) : Op.cmpValue (FP.dcmp (shr w a) FP.dconst1) op = iI 0 := by
  have e : shr w a = FP.dconst1 := if_pos h
  have h1 := shr_cmp (w := w) ha op
  rw [e] at h1
  rw [e]
  exact h1
theorem shr_1 {w a : Int} {op : CmpOp} (ha : inR a) (h : ¬ a = 0) : Op.cmpValue (FP.dcmp (shr w a) (FP.ddiv (FP.i2d (iI w)) (FP.i2d (iI a)))) op = iI 0 := by
  have e : shr w a = FP.ddiv (FP.i2d (iI w)) (FP.i2d (iI a)) := if_neg h
  have h1 := shr_cmp (w := w) ha op
  rw [e] at h1
  rw [e]
  exact h1
theorem zst_b {z : Sig} (h : Wf z) {o : Nat} (ho : o < zo z) : (0 ≤ zst z (o : Int) ∧ zst z (o : Int) ≤ 2) ∧ -1 ≤ zbt z (o : Int) ∧ zbt z (o : Int) ≤ 100 := by
  have h1 := (h.2.2.2.2.1 o ho).2.1
  have h2 := h.bt ho
  exact ⟨by omega, h2⟩
theorem ztv_bb {z : Sig} (h : Wf z) (p : Int) : 0 ≤ ztv z p ∧ ztv z p ≤ 495 * (zo z : Int) := tv_b h.wq p (zo z) (Nat.le_refl _)
