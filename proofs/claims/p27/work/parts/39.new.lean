/-! ===== new objects: their fields ===== -/
theorem vpf {S : Sto} {a j t : Nat} {ts : List Nat} (h : ts[j]? = some t) : vp_V (flds S a ts) j = fld S a j t := by
  unfold vp_V
  rw [List.getD_eq_getElem?_getD, flds_get, h]
  rfl
theorem fld0 {S : Sto} {a j : Nat} (h : ∀ k, sI S a k = 0) : fld S a j 0 = .int 0 := by
  rw [show fld S a j 0 = .int (iI (sI S a j)) from rfl, h]
  exact congrArg Value.int iI_0.symm
theorem fld1 {S : Sto} {a j : Nat} (h : ∀ k, sP S a k = none) : fld S a j 1 = .null := by
  rw [show fld S a j 1 = va_rf (sP S a j) from rfl, h]
  rfl
theorem fld2 {S : Sto} {a j : Nat} (h : ∀ k, sJ S a k = 0) : fld S a j 2 = .long 0 := by
  rw [show fld S a j 2 = .long (lI (sJ S a j)) from rfl, h]
  rfl
theorem nf_Jx4a65c : ∀ (S : Sto) (a j : Nat), (∀ k, sI S a k = 0) → (∀ k, sP S a k = none) → (∀ k, sJ S a k = 0) → j < 3 → defaultValue (tyJx4a65c j) = vp_V (flds S a (tyF 0)) j := by
  intro S a j h1 h2 h3 hj
  rcases (show j = 0 ∨ j = 1 ∨ j = 2 by omega) with e | e | e <;> subst e
  · exact (show defaultValue (tyJx4a65c 0) = .int 0 from rfl).trans ((vpf (show (tyF 0)[0]? = some 0 from rfl)).trans (fld0 h1)).symm
  · exact (show defaultValue (tyJx4a65c 1) = .null from rfl).trans ((vpf (show (tyF 0)[1]? = some 1 from rfl)).trans (fld1 h2)).symm
  · exact (show defaultValue (tyJx4a65c 2) = .int 0 from rfl).trans ((vpf (show (tyF 0)[2]? = some 0 from rfl)).trans (fld0 h1)).symm
theorem nf_X0 : ∀ (S : Sto) (a j : Nat), (∀ k, sI S a k = 0) → (∀ k, sP S a k = none) → (∀ k, sJ S a k = 0) → j < 6 → defaultValue (tyX0 j) = vp_V (flds S a (tyF 1)) j := by
  intro S a j h1 h2 h3 hj
  rcases (show j = 0 ∨ j = 1 ∨ j = 2 ∨ j = 3 ∨ j = 4 ∨ j = 5 by omega) with e | e | e | e | e | e <;> subst e
  · exact (show defaultValue (tyX0 0) = .int 0 from rfl).trans ((vpf (show (tyF 1)[0]? = some 0 from rfl)).trans (fld0 h1)).symm
  · exact (show defaultValue (tyX0 1) = .long 0 from rfl).trans ((vpf (show (tyF 1)[1]? = some 2 from rfl)).trans (fld2 h3)).symm
  · exact (show defaultValue (tyX0 2) = .int 0 from rfl).trans ((vpf (show (tyF 1)[2]? = some 0 from rfl)).trans (fld0 h1)).symm
  · exact (show defaultValue (tyX0 3) = .int 0 from rfl).trans ((vpf (show (tyF 1)[3]? = some 0 from rfl)).trans (fld0 h1)).symm
  · exact (show defaultValue (tyX0 4) = .int 0 from rfl).trans ((vpf (show (tyF 1)[4]? = some 0 from rfl)).trans (fld0 h1)).symm
  · exact (show defaultValue (tyX0 5) = .null from rfl).trans ((vpf (show (tyF 1)[5]? = some 1 from rfl)).trans (fld1 h2)).symm
theorem nf_X1 : ∀ (S : Sto) (a j : Nat), (∀ k, sI S a k = 0) → (∀ k, sP S a k = none) → (∀ k, sJ S a k = 0) → j < 4 → defaultValue (tyX1 j) = vp_V (flds S a (tyF 2)) j := by
  intro S a j h1 h2 h3 hj
  rcases (show j = 0 ∨ j = 1 ∨ j = 2 ∨ j = 3 by omega) with e | e | e | e <;> subst e
  · exact (show defaultValue (tyX1 0) = .int 0 from rfl).trans ((vpf (show (tyF 2)[0]? = some 0 from rfl)).trans (fld0 h1)).symm
  · exact (show defaultValue (tyX1 1) = .null from rfl).trans ((vpf (show (tyF 2)[1]? = some 1 from rfl)).trans (fld1 h2)).symm
  · exact (show defaultValue (tyX1 2) = .int 0 from rfl).trans ((vpf (show (tyF 2)[2]? = some 0 from rfl)).trans (fld0 h1)).symm
  · exact (show defaultValue (tyX1 3) = .int 0 from rfl).trans ((vpf (show (tyF 2)[3]? = some 0 from rfl)).trans (fld0 h1)).symm
theorem nf_X2 : ∀ (S : Sto) (a j : Nat), (∀ k, sI S a k = 0) → (∀ k, sP S a k = none) → (∀ k, sJ S a k = 0) → j < 5 → defaultValue (tyX2 j) = vp_V (flds S a (tyF 3)) j := by
  intro S a j h1 h2 h3 hj
  rcases (show j = 0 ∨ j = 1 ∨ j = 2 ∨ j = 3 ∨ j = 4 by omega) with e | e | e | e | e <;> subst e
  · exact (show defaultValue (tyX2 0) = .null from rfl).trans ((vpf (show (tyF 3)[0]? = some 1 from rfl)).trans (fld1 h2)).symm
  · exact (show defaultValue (tyX2 1) = .null from rfl).trans ((vpf (show (tyF 3)[1]? = some 1 from rfl)).trans (fld1 h2)).symm
  · exact (show defaultValue (tyX2 2) = .int 0 from rfl).trans ((vpf (show (tyF 3)[2]? = some 0 from rfl)).trans (fld0 h1)).symm
  · exact (show defaultValue (tyX2 3) = .null from rfl).trans ((vpf (show (tyF 3)[3]? = some 1 from rfl)).trans (fld1 h2)).symm
  · exact (show defaultValue (tyX2 4) = .null from rfl).trans ((vpf (show (tyF 3)[4]? = some 1 from rfl)).trans (fld1 h2)).symm
theorem nf_X3 : ∀ (S : Sto) (a j : Nat), (∀ k, sI S a k = 0) → (∀ k, sP S a k = none) → (∀ k, sJ S a k = 0) → j < 7 → defaultValue (tyX3 j) = vp_V (flds S a (tyF 4)) j := by
  intro S a j h1 h2 h3 hj
  rcases (show j = 0 ∨ j = 1 ∨ j = 2 ∨ j = 3 ∨ j = 4 ∨ j = 5 ∨ j = 6 by omega) with e | e | e | e | e | e | e <;> subst e
  · exact (show defaultValue (tyX3 0) = .int 0 from rfl).trans ((vpf (show (tyF 4)[0]? = some 0 from rfl)).trans (fld0 h1)).symm
  · exact (show defaultValue (tyX3 1) = .int 0 from rfl).trans ((vpf (show (tyF 4)[1]? = some 0 from rfl)).trans (fld0 h1)).symm
  · exact (show defaultValue (tyX3 2) = .int 0 from rfl).trans ((vpf (show (tyF 4)[2]? = some 0 from rfl)).trans (fld0 h1)).symm
  · exact (show defaultValue (tyX3 3) = .null from rfl).trans ((vpf (show (tyF 4)[3]? = some 1 from rfl)).trans (fld1 h2)).symm
  · exact (show defaultValue (tyX3 4) = .null from rfl).trans ((vpf (show (tyF 4)[4]? = some 1 from rfl)).trans (fld1 h2)).symm
  · exact (show defaultValue (tyX3 5) = .null from rfl).trans ((vpf (show (tyF 4)[5]? = some 1 from rfl)).trans (fld1 h2)).symm
  · exact (show defaultValue (tyX3 6) = .null from rfl).trans ((vpf (show (tyF 4)[6]? = some 1 from rfl)).trans (fld1 h2)).symm
theorem nf_X4 : ∀ (S : Sto) (a j : Nat), (∀ k, sI S a k = 0) → (∀ k, sP S a k = none) → (∀ k, sJ S a k = 0) → j < 3 → defaultValue (tyX4 j) = vp_V (flds S a (tyF 5)) j := by
  intro S a j h1 h2 h3 hj
  rcases (show j = 0 ∨ j = 1 ∨ j = 2 by omega) with e | e | e <;> subst e
  · exact (show defaultValue (tyX4 0) = .null from rfl).trans ((vpf (show (tyF 5)[0]? = some 1 from rfl)).trans (fld1 h2)).symm
  · exact (show defaultValue (tyX4 1) = .null from rfl).trans ((vpf (show (tyF 5)[1]? = some 1 from rfl)).trans (fld1 h2)).symm
  · exact (show defaultValue (tyX4 2) = .null from rfl).trans ((vpf (show (tyF 5)[2]? = some 1 from rfl)).trans (fld1 h2)).symm
theorem nf_X5 : ∀ (S : Sto) (a j : Nat), (∀ k, sI S a k = 0) → (∀ k, sP S a k = none) → (∀ k, sJ S a k = 0) → j < 7 → defaultValue (tyX5 j) = vp_V (flds S a (tyF 6)) j := by
  intro S a j h1 h2 h3 hj
  rcases (show j = 0 ∨ j = 1 ∨ j = 2 ∨ j = 3 ∨ j = 4 ∨ j = 5 ∨ j = 6 by omega) with e | e | e | e | e | e | e <;> subst e
  · exact (show defaultValue (tyX5 0) = .null from rfl).trans ((vpf (show (tyF 6)[0]? = some 1 from rfl)).trans (fld1 h2)).symm
  · exact (show defaultValue (tyX5 1) = .null from rfl).trans ((vpf (show (tyF 6)[1]? = some 1 from rfl)).trans (fld1 h2)).symm
  · exact (show defaultValue (tyX5 2) = .null from rfl).trans ((vpf (show (tyF 6)[2]? = some 1 from rfl)).trans (fld1 h2)).symm
  · exact (show defaultValue (tyX5 3) = .null from rfl).trans ((vpf (show (tyF 6)[3]? = some 1 from rfl)).trans (fld1 h2)).symm
  · exact (show defaultValue (tyX5 4) = .int 0 from rfl).trans ((vpf (show (tyF 6)[4]? = some 0 from rfl)).trans (fld0 h1)).symm
  · exact (show defaultValue (tyX5 5) = .int 0 from rfl).trans ((vpf (show (tyF 6)[5]? = some 0 from rfl)).trans (fld0 h1)).symm
  · exact (show defaultValue (tyX5 6) = .int 0 from rfl).trans ((vpf (show (tyF 6)[6]? = some 0 from rfl)).trans (fld0 h1)).symm
theorem cntb_le (m n : Nat) : cntb m n ≤ n := by
  induction n with
  | zero => exact Nat.le_refl _
  | succ n ih => unfold cntb; split <;> omega
