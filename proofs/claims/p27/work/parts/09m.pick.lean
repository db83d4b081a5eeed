/-! ===== the reference picks a batch ===== -/
theorem lI_add (x y : Int) : lI x + lI y = lI (x + y) := by unfold lI; exact (Int64.ofInt_add x y).symm
theorem up2_up2 {α : Type} (f : Nat → Int → α) (a : Nat) (k : Int) (v w : α) : up2 (up2 f a k v) a k w = up2 f a k w := by
  funext b j
  unfold up2
  split <;> rfl
theorem pkS_sk {st bt : Int → Int} {b : Int} {o : Nat} (h : ¬ bt (o : Int) = b) : pkS st bt b (o + 1) = pkS st bt b o := by
  rw [← pkS_step, if_neg h]
  funext j
  unfold upd1
  split
  · next e => rw [e, pkS_at]
  · rfl
theorem mrg_sk {bt : Int → Int} {x b : Int} {o : Nat} (h : ¬ bt (o : Int) = b) : mrg bt x b (o + 1) = mrg bt x b o := by
  rw [← mrg_step, if_neg h]
  funext j
  unfold upd1
  split
  · next e => rw [e, mrg_at]
  · rfl
/-- the state while the orders are gone through -/
def zpq (z : Sig) (b : Int) (o : Nat) (w x : Int) : Sig := (z.1, (zo z, zb z, w, x), zP z, zdu z, pkS (zst z) (zbt z) b o, mrg (zbt z) (-1) b o, zmn z, zpr z, zqt z)
theorem Wf.wlq {z : Sig} (h : Wf z) (b : Int) (o : Nat) (w x : Int) : Wl (zpq z b o w x) := h.wl
theorem al_t {z : Sig} {b : Int} {n : Nat} (h : zbt z (n : Int) = b) : alI z b n + zto z (zW z n) = alI z b (n + 1) := by
  show _ = alI z b n + (if zbt z (n : Int) = b then zto z (zW z n) else 0)
  rw [if_pos h]
theorem al_f {z : Sig} {b : Int} {n : Nat} (h : ¬ zbt z (n : Int) = b) : alI z b n = alI z b (n + 1) := by
  show _ = alI z b n + (if zbt z (n : Int) = b then zto z (zW z n) else 0)
  rw [if_neg h, Int.add_zero]
/-- the state before its batch is closed up -/
theorem mrg_bnd {z : Sig} (h : Wf z) (b : Int) {N o : Nat} (ho : o < zo z) : -1 ≤ mrg (zbt z) (-1) b N (o : Int) ∧ mrg (zbt z) (-1) b N (o : Int) ≤ 100 := by
  have h1 := h.bt ho
  unfold mrg
  (repeat' split) <;> omega