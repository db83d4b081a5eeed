/-! ===== laying out: the reference's rows ===== -/
/-- a row holds a list of products; another holds their places -/
def HldR (F : Int → Int) (l : List Nat) : Prop := ∀ j : Nat, j < l.length → F (j : Int) = ((l.getD j 0 : Nat) : Int)
def HldP (F P : Int → Int) (l : List Nat) : Prop := ∀ j : Nat, j < l.length → F (j : Int) = P ((l.getD j 0 : Nat) : Int)
theorem rkL_s {z : Sig} {n : Nat} (h : zP z (n : Int) = -1) : rkL z (n + 1) = rkL z n := if_pos h
theorem spL_s {z : Sig} {n : Nat} (h : zP z (n : Int) = -1) : spL z (n + 1) = spL z n := if_pos h
theorem rkL_p {z : Sig} {n : Nat} (h : ¬ zP z (n : Int) = -1) : rkL z (n + 1) = insL (fun x => decide (ztv z (x : Int) < ztv z (n : Int))) (rkL z n) n := if_neg h
theorem spL_p {z : Sig} {n : Nat} (h : ¬ zP z (n : Int) = -1) : spL z (n + 1) = insL (fun x => decide (dst (zN z) (zG z) 0 (zP z (n : Int)) < dst (zN z) (zG z) 0 (zP z (x : Int)) ∨ (dst (zN z) (zG z) 0 (zP z (x : Int)) = dst (zN z) (zG z) 0 (zP z (n : Int)) ∧ zP z (n : Int) < zP z (x : Int)))) (spL z n) n := if_neg h
theorem HldR.put {z : Sig} {F : Int → Int} {n : Nat} (h : HldR F (rkL z n)) (hp : ¬ zP z (n : Int) = -1) {b2 : Nat → Bool} (hb : ∀ j : Nat, j < (rkL z n).length → b2 j = decide (ztv z (F (j : Int)) < ztv z (n : Int))) : HldR (insAt F (insPosN b2 (rkL z n).length) (rkL z n).length (n : Int)) (rkL z (n + 1)) := by
  rw [rkL_p hp]
  exact ins_rep (b := fun x => decide (ztv z (x : Int) < ztv z (n : Int))) (h := fun x => (x : Int)) h (fun j hj => by rw [hb j hj, h j hj])
theorem HldP.put {z : Sig} {F : Int → Int} {n : Nat} (h : HldP F (zP z) (spL z n)) (hp : ¬ zP z (n : Int) = -1) {b2 : Nat → Bool} (hb : ∀ j : Nat, j < (spL z n).length → b2 j = decide (dst (zN z) (zG z) 0 (zP z (n : Int)) < dst (zN z) (zG z) 0 (F (j : Int)) ∨ (dst (zN z) (zG z) 0 (F (j : Int)) = dst (zN z) (zG z) 0 (zP z (n : Int)) ∧ zP z (n : Int) < F (j : Int)))) : HldP (insAt F (insPosN b2 (spL z n).length) (spL z n).length (zP z (n : Int))) (zP z) (spL z (n + 1)) := by
  rw [spL_p hp]
  exact ins_rep (b := fun x => decide (dst (zN z) (zG z) 0 (zP z (n : Int)) < dst (zN z) (zG z) 0 (zP z (x : Int)) ∨ (dst (zN z) (zG z) 0 (zP z (x : Int)) = dst (zN z) (zG z) 0 (zP z (n : Int)) ∧ zP z (n : Int) < zP z (x : Int)))) (h := fun x => zP z (x : Int)) h (fun j hj => by rw [hb j hj, h j hj])
theorem row1_comm (f : Nat → Int → Int) {a b : Nat} (F G : Int → Int) (h : a ≠ b) : row1 (row1 f a F) b G = row1 (row1 f b G) a F := by
  funext c j
  unfold row1
  by_cases e1 : c = a
  · have e2 : ¬ c = b := fun e => h (e1.symm.trans e)
    rw [if_neg e2, if_pos e1, if_pos e1]
  · by_cases e2 : c = b
    · rw [if_pos e2, if_neg e1, if_pos e2]
    · rw [if_neg e2, if_neg e1, if_neg e1, if_neg e2]
theorem asg_b {z : Sig} {rk sp : List Nat} (k : Nat) : 0 ≤ (asg (zP z) rk sp k).1 ∧ (asg (zP z) rk sp k).1 ≤ k := by
  induction k with
  | zero => show 0 ≤ (0 : Int) ∧ (0 : Int) ≤ ((0 : Nat) : Int); omega
  | succ k ih => unfold asg; dsimp only; split <;> omega
theorem asg_t {P : Int → Int} {rk sp : List Nat} {k : Nat} (h : (asg P rk sp k).2 ((rk.getD k 0 : Nat) : Int) = P ((sp.getD k 0 : Nat) : Int)) : (asg P rk sp k).1 + 0 = (asg P rk sp (k + 1)).1 := by
  show _ = (asg P rk sp k).1 + (if (asg P rk sp k).2 ((rk.getD k 0 : Nat) : Int) = P ((sp.getD k 0 : Nat) : Int) then 0 else 1)
  rw [if_pos h]
theorem asg_f {P : Int → Int} {rk sp : List Nat} {k : Nat} (h : ¬ (asg P rk sp k).2 ((rk.getD k 0 : Nat) : Int) = P ((sp.getD k 0 : Nat) : Int)) : (asg P rk sp k).1 + 1 = (asg P rk sp (k + 1)).1 := by
  show _ = (asg P rk sp k).1 + (if (asg P rk sp k).2 ((rk.getD k 0 : Nat) : Int) = P ((sp.getD k 0 : Nat) : Int) then 0 else 1)
  rw [if_neg h]
theorem lay_pl {z : Sig} (h : Wf z) {Q : Int → Int} {n : Nat} (hn : n ≤ 20) (hQ : HldP Q (zP z) (spL z n)) : ∀ j : Nat, j < (rkL z n).length → isPl (Q (j : Int)) ∧ Q (j : Int) % 100 ≤ zN z := by
  intro j hj
  rw [← rk_sp_len] at hj
  have h1 := spL_mem z n j hj
  have h2 := h.plI (x := (((spL z n).getD j 0 : Nat) : Int)) (by omega)
  have hN := h.1.2.2.2.1
  rw [hQ j hj]
  unfold isPl
  rcases h2 with h2 | h2
  · exact absurd h2 h1.2
  · omega
