/-! ===== the law's rows, new ===== -/
theorem ini_li {S : Sto} {q : Nat → Nat} {t : Nat} {x y d : Int} (hT : Top S q) (hCR : CR S q t (zz x y d)) (h80 : sI S (q 80) 0 = 6 ∧ sI S (q 80) 1 = 0 ∧ sI S (q 80) 2 = 0 ∧ sI S (q 80) 3 = 0 ∧ sI S (q 80) 4 = 0 ∧ sI S (q 80) 5 = x ∧ sI S (q 80) 6 = y ∧ sI S (q 80) 7 = d) (h81 : ∀ i : Nat, 81 ≤ i → i ≤ 85 → sI S (q i) = fun _ => 0) : LI (wI S (row1 (sI S) (q 81) (fil 20))) q t (zz x y d) (zz x y d) (row1 (sI S) (q 81) (fil 20) (q 87)) := by
  have hr : ∀ i, i ∈ tix → i ≠ 81 → row1 (sI S) (q 81) (fil 20) (q i) = sI S (q i) := fun i hi h1 => funext fun j => row1_ne _ _ _ (hT.ne i 81 hi (by decide) h1)
  refine ⟨hT, hCR.lo hT (fun c hc => funext fun j => row1_ne _ _ _ (hc 81 (by omega) (by omega))), ⟨?_, ⟨funext fun j => row1_same _ _ _ _, (hr 84 (by decide) (by decide)).trans (h81 84 (by omega) (by omega)), (hr 85 (by decide) (by decide)).trans (h81 85 (by omega) (by omega))⟩, fun o ho => absurd ho (Nat.not_lt_zero _), fun p hp => ?_, Nat.zero_le _, by show (6 : Int) ≤ 6; decide⟩, rfl⟩
  · unfold LRq
    rw [show sI (wI S (row1 (sI S) (q 81) (fil 20))) (q 80) = sI S (q 80) from hr 80 (by decide) (by decide)]
    exact h80
  · show row1 (sI S) (q 81) (fil 20) (q 82) (p : Int) = 0
    rw [hr 82 (by decide) (by decide), h81 82 (by omega) (by omega)]
theorem wth_id {x m : Int} (h : 1 ≤ x ∧ x ≤ m) : wth x m = x := by
  unfold wth maxI minI
  (repeat' split) <;> omega
