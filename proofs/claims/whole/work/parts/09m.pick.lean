/-! ===== the reference picks a batch ===== -/
theorem lI_add (x y : Int) : lI x + lI y = lI (x + y) := by unfold lI; exact (Int64.ofInt_add x y).symm
theorem up2_up2 {α : Type} (f : Nat → Int → α) (a : Nat) (k : Int) (v w : α) : up2 (up2 f a k v) a k w = up2 f a k w := by
  funext b j
  unfold up2
  split <;> rfl
def PkM (T : Sto) (q : Nat → Nat) (b : Int) (o : Nat) (f : Nat → Int → Int) : Prop := (∀ a j, ¬ MSc q a j → a ≠ q 83 → a ≠ q 84 → f a j = sI T a j) ∧ f (q 83) = pkS (sI T (q 83)) (sI T (q 84)) b o ∧ f (q 84) = mrg (sI T (q 84)) (-1) b o
theorem PkM.init {T : Sto} {q : Nat → Nat} {b : Int} {f : Nat → Int → Int} (hT : Top T q) (h : KeptM T q f) : PkM T q b 0 f := by
  refine ⟨fun a j h1 _ _ => h a j h1, ?_, ?_⟩
  · rw [pkS_0]; exact funext fun j => h.at hT 83 j
  · rw [mrg_0]; exact funext fun j => h.at hT 84 j
theorem pkS_sk {st bt : Int → Int} {b : Int} {o : Nat} (h : ¬ bt (o : Int) = b) : pkS st bt b (o + 1) = pkS st bt b o := by
  rw [← pkS_step, if_neg h]
  funext j
  unfold upd1
  split
  · next e => rw [e, pkS_at]
  · rfl
theorem mrg_sk {bt : Int → Int} {x b : Int} {o : Nat} (h : ¬ bt (o : Int) = b) : mrg bt x b (o + 1) = mrg bt x b o := by
  rw [← mrg_step, if_neg h]
  funext j
  unfold upd1
  split
  · next e => rw [e, mrg_at]
  · rfl
theorem PkM.skip {T : Sto} {q : Nat → Nat} {b : Int} {o : Nat} {f : Nat → Int → Int} (h : PkM T q b o f) (hb : ¬ sI T (q 84) (o : Int) = b) : PkM T q b (o + 1) f := by
  refine ⟨h.1, ?_, ?_⟩
  · rw [pkS_sk hb]; exact h.2.1
  · rw [mrg_sk hb]; exact h.2.2
theorem PkM.kept {S T : Sto} {q : Nat → Nat} {b : Int} {o : Nat} {f h : Nat → Int → Int} (hT : Top T q) (hf : PkM T q b o f) (hS : sI S = f) (hk : KeptM S q h) : PkM T q b o h := by
  have e : ∀ i, i ∈ tix → noM i = true → h (q i) = f (q i) := fun i hi hn => funext fun j => by rw [hk _ j (nMSc (S := T) hT i j hi hn), hS]
  refine ⟨fun a j h1 h2 h3 => by rw [hk a j h1, hS]; exact hf.1 a j h1 h2 h3, ?_, ?_⟩
  · rw [e 83 (by decide) (by decide)]; exact hf.2.1
  · rw [e 84 (by decide) (by decide)]; exact hf.2.2
theorem PkM.put {T : Sto} {q : Nat → Nat} {b : Int} {o : Nat} {f : Nat → Int → Int} (hT : Top T q) (h : PkM T q b o f) (hb : sI T (q 84) (o : Int) = b) : PkM T q b (o + 1) (up2 (up2 f (q 83) (o : Int) 2) (q 84) (o : Int) (-1)) := by
  refine ⟨fun a j h1 h2 h3 => ?_, ?_, ?_⟩
  · rw [up2_ne _ _ _ _ h3, up2_ne _ _ _ _ h2]
    exact h.1 a j h1 h2 h3
  · rw [up2_row _ _ _ (hT.ne 83 84), up2_to_row1]
    funext j
    rw [row1_same, h.2.1, ← pkS_step, if_pos hb]
  · rw [up2_to_row1]
    funext j
    rw [row1_same, up2_row _ _ _ (hT.ne 84 83), h.2.2, ← mrg_step, if_pos hb]
/-- the state while the orders are gone through -/
def zpq (z : Sig) (b : Int) (o : Nat) (w x : Int) : Sig := (z.1, (zo z, zb z, w, x), zP z, zdu z, pkS (zst z) (zbt z) b o, mrg (zbt z) (-1) b o, zmn z, zpr z, zqt z)
theorem isMod_of {q : Nat → Nat} {a : Nat} {j : Int} (h : MSc q a j) : isMod q a := by
  rcases h with e | e | e | e
  · exact ⟨80, by omega, by omega, e.1⟩
  · exact ⟨88, by omega, by omega, e⟩
  · exact ⟨89, by omega, by omega, e⟩
  · exact ⟨90, by omega, by omega, e⟩
theorem PkM.mp {T : Sto} {q : Nat → Nat} {b : Int} {o : Nat} {f : Nat → Int → Int} (hT : Top T q) (hC : Cn T q) (h00 : sI T (q 80) 0 = 0) (h : PkM T q b o f) (w x : Int) : MP T q (uI (uJ (wI T f) (q 80) 15 x) (q 80) 14 w) 0 (zpq (sgM T q) b o w x) := by
  have e : ∀ i, i ∈ tix → noM i = true → i ≠ 80 → i ≠ 83 → i ≠ 84 → up2 f (q 80) 14 w (q i) = sI T (q i) := fun i hi hn h0 h3 h4 => by
    rw [up2_row _ _ _ (hT.ne i 80 hi (by decide) h0)]
    exact funext fun j => h.1 _ j (nMSc (S := T) hT i j hi hn) (hT.ne i 83 hi (by decide) h3) (hT.ne i 84 hi (by decide) h4)
  have e0 : ∀ k : Int, k ≠ 14 → k ≠ 16 → up2 f (q 80) 14 w (q 80) k = sI T (q 80) k := fun k hk h16 => by
    rw [up2_nk _ _ _ _ hk]
    exact h.1 _ _ (nMSc0 (S := T) hT k h16) (hT.ne 80 83) (hT.ne 80 84)
  refine MP.rowsG (f := up2 f (q 80) 14 w) (g := up2 (sJ T) (q 80) 15 x) (fun a ha => ?_) (fun a ha => up2_row _ _ _ ha) ?_ ⟨e0 1 (by decide) (by decide), e0 2 (by decide) (by decide), e0 3 (by decide) (by decide), e0 4 (by decide) (by decide)⟩ ⟨(e0 6 (by decide) (by decide)).trans hC.1, (e0 13 (by decide) (by decide)).trans hC.2, up2_same _ _ _ _, up2_same _ _ _ _⟩ ⟨e 81 (by decide) (by decide) (by decide) (by decide) (by decide), e 82 (by decide) (by decide) (by decide) (by decide) (by decide), ?_, ?_, e 85 (by decide) (by decide) (by decide) (by decide) (by decide), e 86 (by decide) (by decide) (by decide) (by decide) (by decide), e 87 (by decide) (by decide) (by decide) (by decide) (by decide)⟩
  · rw [up2_row _ _ _ (fun e9 => ha ⟨80, by omega, by omega, e9⟩)]
    exact funext fun j => h.1 a j (fun hm => ha (isMod_of hm)) (fun e9 => ha ⟨83, by omega, by omega, e9⟩) (fun e9 => ha ⟨84, by omega, by omega, e9⟩)
  · rw [e0 0 (by decide) (by decide)]; exact h00
  · rw [up2_row _ _ _ (hT.ne 83 80)]; exact h.2.1
  · rw [up2_row _ _ _ (hT.ne 84 80)]; exact h.2.2
theorem PkM.mp0 {T : Sto} {q : Nat → Nat} {b : Int} {o : Nat} {f : Nat → Int → Int} (hT : Top T q) (hC : Cn T q) (h00 : sI T (q 80) 0 = 0) (h : PkM T q b o f) (x : Int) : MP T q (uJ (wI T f) (q 80) 15 x) 0 (zpq (sgM T q) b o (zw (sgM T q)) x) := by
  have h1 := PkM.mp hT hC h00 h (sI T (q 80) 14) x
  have e : f (q 80) 14 = sI T (q 80) 14 := h.1 _ _ (nMSc0 (S := T) hT 14) (hT.ne 80 83) (hT.ne 80 84)
  have e2 : uI (uJ (wI T f) (q 80) 15 x) (q 80) 14 (sI T (q 80) 14) = uJ (wI T f) (q 80) 15 x := by
    show wI (uJ (wI T f) (q 80) 15 x) (up2 f (q 80) 14 (sI T (q 80) 14)) = wI (uJ (wI T f) (q 80) 15 x) f
    rw [up2_self _ _ _ e]
  rw [e2] at h1
  exact h1
theorem Wf.wlq {z : Sig} (h : Wf z) (b : Int) (o : Nat) (w x : Int) : Wl (zpq z b o w x) := h.wl
theorem al_t {z : Sig} {b : Int} {n : Nat} (h : zbt z (n : Int) = b) : alI z b n + zto z (zW z n) = alI z b (n + 1) := by
  show _ = alI z b n + (if zbt z (n : Int) = b then zto z (zW z n) else 0)
  rw [if_pos h]
theorem al_f {z : Sig} {b : Int} {n : Nat} (h : ¬ zbt z (n : Int) = b) : alI z b n = alI z b (n + 1) := by
  show _ = alI z b n + (if zbt z (n : Int) = b then zto z (zW z n) else 0)
  rw [if_neg h, Int.add_zero]
/-- the state before its batch is closed up -/
theorem mrg_bnd {z : Sig} (h : Wf z) (b : Int) {N o : Nat} (ho : o < zo z) : -1 ≤ mrg (zbt z) (-1) b N (o : Int) ∧ mrg (zbt z) (-1) b N (o : Int) ≤ 100 := by
  have h1 := h.bt ho
  unfold mrg
  (repeat' split) <;> omega
theorem PkM.fin {T : Sto} {q : Nat → Nat} {b : Nat} {f : Nat → Int → Int} {w x : Int} (hT : Top T q) (hW : Wf (sgM T q)) (hC : Cn T q) (h00 : sI T (q 80) 0 = 0) (h : PkM T q (b : Int) (zo (sgM T q)) f) (hb : b < zb (sgM T q)) (hw : w = zw (sgM T q) + zto (sgM T q) (zpd (sgM T q) (b : Int))) (hx : x = za (sgM T q) + alI (sgM T q) (b : Int) (zo (sgM T q))) : MP T q (wI (uI (uJ (wI T f) (q 80) 15 x) (q 80) 14 w) (up2 (row1 (up2 f (q 80) 14 w) (q 84) (clo (up2 f (q 80) 14 w (q 84)) (b : Int) (zo (sgM (uI (uJ (wI T f) (q 80) 15 x) (q 80) 14 w) q)))) (q 80) 13 (((zb (sgM (uI (uJ (wI T f) (q 80) 15 x) (q 80) 14 w) q) : Nat) : Int) - 1))) 0 (zpk (sgM T q) (b : Int)) := by
  have h1 := PkM.mp hT hC h00 h w x
  have hT1 := h1.top hT
  have hs := h1.2.2.2.2.2.2.2.1
  have hC1 := h1.2.2.2.2.2.2.2.2
  rw [hs]
  have e84 : up2 f (q 80) 14 w (q 84) = mrg (sI T (q 84)) (-1) (b : Int) (zo (sgM T q)) := by rw [up2_row _ _ _ (hT.ne 84 80)]; exact h.2.2
  rw [e84]
  have h2 := MP.bn (S := uI (uJ (wI T f) (q 80) 15 x) (q 80) 14 w) hT1 hC1 (KeptM.refl) (clo (mrg (sI T (q 84)) (-1) (b : Int) (zo (sgM T q))) (b : Int) (zo (sgM T q))) (zb (sgM T q) - 1)
  have h3 := h1.trans h2
  rw [hs, h1.2.2.2.2.2.2.1] at h3
  have e2 : ((zb (sgM T q) - 1 : Nat) : Int) = ((zb (sgM T q) : Nat) : Int) - 1 := by omega
  rw [e2, hw, hx] at h3
  rw [hw, hx]
  exact h3
