/-! ===== laying out: the class's rows ===== -/
abbrev lcF (S : Sto) (q : Nat → Nat) (R Q : Int → Int) : Nat → Int → Int := row1 (row1 (sI S) (q 9) R) (q 8) Q
theorem lcF_9 {S : Sto} {q : Nat → Nat} (hT : Top S q) (R Q : Int → Int) (j : Int) : lcF S q R Q (q 9) j = R j := (row1_ne _ _ _ (hT.ne 9 8)).trans (row1_same _ _ _ _)
theorem lcF_8 {S : Sto} {q : Nat → Nat} (R Q : Int → Int) (j : Int) : lcF S q R Q (q 8) j = Q j := row1_same _ _ _ _
theorem lcF_at {S : Sto} {q : Nat → Nat} (hT : Top S q) (R Q : Int → Int) (i : Nat) (j : Int) (hi : i ∈ tix := by decide) (h1 : i ≠ 9 := by decide) (h2 : i ≠ 8 := by decide) : lcF S q R Q (q i) j = sI S (q i) j := (row1_ne _ _ _ (hT.ne i 8 hi (by decide) h2)).trans (row1_ne _ _ _ (hT.ne i 9 hi (by decide) h1))
theorem lac_rk {S : Sto} {q : Nat → Nat} {z : Sig} {n k : Nat} {R Q : Int → Int} (hT : Top S q) (hk : k = (rkL z n).length) (hn : n < 20) (h : HldR R (rkL z n)) (hp : ¬ zP z (n : Int) = -1) (e7 : ∀ p : Nat, p < 20 → sI S (q 7) (p : Int) = ztv z (p : Int)) : ∃ R', wI S (row1 (lcF S q R Q) (q 9) (insAt (lcF S q R Q (q 9)) (insPosN (fun j => decide (lcF S q R Q (q 7) (lcF S q R Q (q 9) (j : Int)) < lcF S q R Q (q 7) (n : Int))) k) k (n : Int))) = wI S (lcF S q R' Q) ∧ HldR R' (rkL z (n + 1)) := by
  have e1 : lcF S q R Q (q 9) = R := funext fun j => lcF_9 hT R Q j
  have e2 : lcF S q R Q (q 7) = sI S (q 7) := funext fun j => lcF_at hT R Q 7 j
  rw [e1, e2, hk]
  refine ⟨insAt R (insPosN (fun j => decide (sI S (q 7) (R (j : Int)) < sI S (q 7) (n : Int))) (rkL z n).length) (rkL z n).length (n : Int), ?_, h.put hp (fun j hj => ?_)⟩
  · rw [row1_comm _ _ _ (hT.ne 8 9), row1_row1]
  · rw [e7 n hn, h j hj, e7 _ (Nat.lt_trans (rkL_mem z n j hj).1 hn)]
theorem lac_sp {S : Sto} {q : Nat → Nat} {z : Sig} {n k : Nat} {R Q : Int → Int} (hT : Top S q) (hk : k = (spL z n).length) (h : HldP Q (zP z) (spL z n)) (hp : ¬ zP z (n : Int) = -1) (e1 : sI S (q 1) 1 = zN z) (e2 : sI S (q 1) 2 = zG z) : ∃ Q', wI S (row1 (lcF S q R Q) (q 8) (insAt (lcF S q R Q (q 8)) (insPosN (fun j => decide (dst (sI (wI S (lcF S q R Q)) (q 1) 1) (sI (wI S (lcF S q R Q)) (q 1) 2) 0 (zP z (n : Int)) < dst (sI (wI S (lcF S q R Q)) (q 1) 1) (sI (wI S (lcF S q R Q)) (q 1) 2) 0 (lcF S q R Q (q 8) (j : Int)) ∨ (dst (sI (wI S (lcF S q R Q)) (q 1) 1) (sI (wI S (lcF S q R Q)) (q 1) 2) 0 (lcF S q R Q (q 8) (j : Int)) = dst (sI (wI S (lcF S q R Q)) (q 1) 1) (sI (wI S (lcF S q R Q)) (q 1) 2) 0 (zP z (n : Int)) ∧ zP z (n : Int) < lcF S q R Q (q 8) (j : Int)))) k) k (zP z (n : Int)))) = wI S (lcF S q R Q') ∧ HldP Q' (zP z) (spL z (n + 1)) := by
  have a1 : lcF S q R Q (q 8) = Q := funext fun j => lcF_8 R Q j
  have a2 : sI (wI S (lcF S q R Q)) (q 1) 1 = zN z := (lcF_at hT R Q 1 1).trans e1
  have a3 : sI (wI S (lcF S q R Q)) (q 1) 2 = zG z := (lcF_at hT R Q 1 2).trans e2
  rw [a1, a2, a3, hk]
  refine ⟨insAt Q (insPosN (fun j => decide (dst (zN z) (zG z) 0 (zP z (n : Int)) < dst (zN z) (zG z) 0 (Q (j : Int)) ∨ (dst (zN z) (zG z) 0 (Q (j : Int)) = dst (zN z) (zG z) 0 (zP z (n : Int)) ∧ zP z (n : Int) < Q (j : Int)))) (spL z n).length) (spL z n).length (zP z (n : Int)), ?_, h.put hp (fun j _ => rfl)⟩
  rw [row1_row1]
