/-! ===== a batch picked, order by order ===== -/
def zpkk (z : Sig) (b : Int) (k : Nat) : Sig := (z.1, (zo z, zb z, zw z + zto z (zpd z b), za z + alI z b k), zP z, zdu z, pkS (zst z) (zbt z) b k, mjk (zbt z) (-1) b k, zmn z, zpr z, zqt z)
def zpks (z : Sig) (b : Int) (k : Nat) : Sig := sst (ssa (zpkk z b k) (za z + alI z b k + zto z (zW z k))) (upd1 (pkS (zst z) (zbt z) b k) (k : Int) 2)
theorem zpkk_0 (z : Sig) (b : Int) : zpkk z b 0 = ssw z (zw z + zto z (zpd z b)) := by
  unfold zpkk
  rw [pkS_0, mjk_0, show alI z b 0 = 0 from rfl, Int.add_zero]
  rfl
theorem zpkk_t {z : Sig} {b : Int} {k : Nat} (h : zbt z (k : Int) = b) : zpkk z b (k + 1) = sbt (zpks z b k) (upd1 (mjk (zbt z) (-1) b k) (k : Int) (-1)) := by
  unfold zpkk zpks
  rw [← mjk_step (v := -1) (by rw [if_pos h]), ← pkS_step, if_pos h, show alI z b (k + 1) = alI z b k + (if zbt z (k : Int) = b then zto z (zW z k) else 0) from rfl, if_pos h, Int.add_assoc]
  rfl
theorem zpkk_f {z : Sig} {b v : Int} {k : Nat} (h : ¬ zbt z (k : Int) = b) (hv : v = if b < zbt z (k : Int) then zbt z (k : Int) - 1 else zbt z (k : Int)) : zpkk z b (k + 1) = sbt (zpkk z b k) (upd1 (mjk (zbt z) (-1) b k) (k : Int) v) := by
  have e : upd1 (mjk (zbt z) (-1) b k) (k : Int) v = mjk (zbt z) (-1) b (k + 1) := mjk_step (by rw [if_neg h]; exact hv)
  rw [e]
  unfold zpkk
  rw [pkS_sk h, show alI z b (k + 1) = alI z b k + (if zbt z (k : Int) = b then zto z (zW z k) else 0) from rfl, if_neg h, Int.add_zero]
  rfl
theorem zpkk_end {z : Sig} {b : Int} (h : -1 < b) : snb (zpkk z b (zo z)) (zb z - 1) = zpk z b := by
  unfold zpkk
  rw [mjk_end h]
  rfl
theorem zpks_tv {z : Sig} {b : Int} {k : Nat} (hk : k < zo z) (hst : zst z (k : Int) ≠ 2) (p : Int) : ztv (zpks z b k) p = ztv (zpkk z b k) p + tvi (zpr z) (zqt z) p k (zmn z (k : Int)).toNat :=
  tv_upd (st := pkS (zst z) (zbt z) b k) (by rw [pkS_at]; exact hst) (zo z) hk
section
variable {S : Sto} {q : Nat → Nat} {z : Sig} {f : Nat → Int → Int}
theorem LRn.row82 (hT : Top S q) (h : LRn (wI S f) q z) (i v : Int) : LRn (wI S (up2 f (q 82) i v)) q z := by
  unfold LRn LRq LRp LRo
  rw [show sI (wI S (up2 f (q 82) i v)) (q 80) = f (q 80) from up2_row _ _ _ (hT.ne 80 82), show sI (wI S (up2 f (q 82) i v)) (q 81) = f (q 81) from up2_row _ _ _ (hT.ne 81 82), show sI (wI S (up2 f (q 82) i v)) (q 83) = f (q 83) from up2_row _ _ _ (hT.ne 83 82), show sI (wI S (up2 f (q 82) i v)) (q 84) = f (q 84) from up2_row _ _ _ (hT.ne 84 82), show sI (wI S (up2 f (q 82) i v)) (q 85) = f (q 85) from up2_row _ _ _ (hT.ne 85 82)]
  exact h
theorem t_put {T pr qt : Int → Int} {k i p9 : Nat} (hp : pr ((5 * k + i : Nat) : Int) = (p9 : Int)) (h : ∀ p : Nat, p < 20 → f (q 82) (p : Int) = T (p : Int) + tvi pr qt (p : Int) k i) : ∀ p : Nat, p < 20 → up2 f (q 82) (p9 : Int) (T (p9 : Int) + tvi pr qt (p9 : Int) k i + qt ((5 * k + i : Nat) : Int)) (q 82) (p : Int) = T (p : Int) + tvi pr qt (p : Int) k (i + 1) := by
  intro p hp20
  have e : tvi pr qt (p : Int) k (i + 1) = tvi pr qt (p : Int) k i + (if pr ((5 * k + i : Nat) : Int) = (p : Int) then qt ((5 * k + i : Nat) : Int) else 0) := rfl
  rw [e, hp]
  by_cases h1 : p = p9
  · subst h1
    rw [up2_same, if_pos rfl, Int.add_assoc]
  · rw [up2_nk _ _ _ _ (by omega), if_neg (by omega), Int.add_zero]
    exact h p hp20
theorem LR.pk_eq {b : Int} {k : Nat} (hT : Top S q) (h : LR (wI S f) q (zpks z b k)) (hb : zbt z (k : Int) = b) : LR (wI S (up2 f (q 83) ((4 * k + 2 : Nat) : Int) (-1))) q (zpkk z b (k + 1)) := by
  rw [zpkk_t hb]
  exact (h.n.bt hT k (-1)).lr (h.t.up hT 83 _ _ (fun p _ => rfl))
theorem LR.pk_ne {b v : Int} {k : Nat} (hT : Top S q) (h : LR (wI S f) q (zpkk z b k)) (hb : ¬ zbt z (k : Int) = b) (hv : v = if b < zbt z (k : Int) then zbt z (k : Int) - 1 else zbt z (k : Int)) : LR (wI S (up2 f (q 83) ((4 * k + 2 : Nat) : Int) v)) q (zpkk z b (k + 1)) := by
  rw [zpkk_f hb hv]
  exact (h.n.bt hT k v).lr (h.t.up hT 83 _ _ (fun p _ => rfl))
theorem LR.pk_end {b : Int} (hT : Top S q) (h : LR (wI S f) q (zpkk z b (zo z))) (hb : -1 < b) (h0 : 0 < zb z) : LR (wI S (up2 f (q 80) 2 ((zb z : Int) - 1))) q (zpk z b) := by
  rw [← zpkk_end hb]
  exact (h.n.nb hT (zb z - 1) (by omega)).lr (h.t.up hT 80 _ _ (fun p _ => rfl))
theorem LR.pk_0 {b : Int} (hT : Top S q) (h : LR (wI S f) q z) : LR (wI S (up2 f (q 80) 3 (zw z + zto z (zpd z b)))) q (zpkk z b 0) := by
  rw [zpkk_0]
  exact (h.n.sw hT _).lr (h.t.up hT 80 _ _ (fun p _ => rfl))
theorem LR.pk_s {b : Int} {k : Nat} (hT : Top S q) (h : LR (wI S f) q (zpkk z b k)) : LRn (wI S (up2 (up2 f (q 80) 4 (za z + alI z b k + zto z (zW z k))) (q 83) ((4 * k + 1 : Nat) : Int) 2)) q (zpks z b k) ∧ ∀ p : Nat, p < 20 → up2 (up2 f (q 80) 4 (za z + alI z b k + zto z (zW z k))) (q 83) ((4 * k + 1 : Nat) : Int) 2 (q 82) (p : Int) = ztv (zpkk z b k) (p : Int) + tvi (zpr z) (zqt z) (p : Int) k 0 := by
  refine ⟨(h.n.sa hT _).st hT k 2, fun p hp => ?_⟩
  rw [up2_row _ _ _ (hT.ne 82 83), up2_row _ _ _ (hT.ne 82 80)]
  exact (h.t p hp).trans (Int.add_zero _).symm
end
theorem alI_b2 {z : Sig} (h : Wf z) (b : Int) : ∀ n, n ≤ zo z → 0 ≤ alI z b n ∧ alI z b n ≤ 660 * n := by
  intro n
  induction n with
  | zero => intro _; show (0 : Int) ≤ 0 ∧ (0 : Int) ≤ 660 * ((0 : Nat) : Int); omega
  | succ n ih =>
    intro hn
    have h1 := ih (by omega)
    have h2 := zto_b h (h.okW (show n < zo z by omega))
    show 0 ≤ alI z b n + (if zbt z (n : Int) = b then zto z (zW z n) else 0) ∧ alI z b n + (if zbt z (n : Int) = b then zto z (zW z n) else 0) ≤ _
    split <;> omega
theorem Wf.wab {z : Sig} (h : Wf z) : 0 ≤ zw z ∧ zw z ≤ 660 * (zo z : Int) ∧ 0 ≤ za z ∧ za z ≤ 660 * (zo z : Int) := by
  have h1 := h.2.2.2.2.2.2.2.1
  have h2 := h.2.2.2.2.2.2.2.2
  have h3 := dn_le (zst z) (zo z)
  omega
theorem zpkk_tvb {z : Sig} (h : Wf z) (b : Int) (k p : Nat) : 0 ≤ ztv (zpkk z b k) (p : Int) ∧ ztv (zpkk z b k) (p : Int) ≤ 495 * (zo z : Int) :=
  tv_b (z := zpkk z b k) h.wq (p : Int) (zo z) (Nat.le_refl _)
