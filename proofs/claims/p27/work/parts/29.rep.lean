/-! ===== the class's cells hold a state ===== -/
/-- where its lists' arrays, its orders, their quantities, its batches, their routes lie -/
abbrev Shp : Type := (Nat × Nat × Nat × Nat) × (Nat → Nat) × (Nat → Nat) × (Nat → Nat) × (Nat → Nat)
abbrev w4 (w : Shp) : Nat := w.1.1
abbrev k4 (w : Shp) : Nat := w.1.2.1
abbrev w5 (w : Shp) : Nat := w.1.2.2.1
abbrev k5 (w : Shp) : Nat := w.1.2.2.2
abbrev wo (w : Shp) : Nat → Nat := w.2.1
abbrev wq (w : Shp) : Nat → Nat := w.2.2.1
abbrev wb (w : Shp) : Nat → Nat := w.2.2.2.1
abbrev wr (w : Shp) : Nat → Nat := w.2.2.2.2
/-- how much of p the order o asks for -/
def qv (z : Sig) (p : Int) (o : Nat) : Int := tvi (zpr z) (zqt z) p o (zmn z (o : Int)).toNat
/-- the warehouse, and what the object itself holds -/
def Whs (S : Sto) (q : Nat → Nat) (z : Sig) : Prop := sI S (q 1) 0 = zA z ∧ sI S (q 1) 1 = zN z ∧ sI S (q 1) 2 = zG z ∧ sI S (q 6) = zP z ∧ (∀ p : Nat, p < 20 → sI S (q 7) (p : Int) = ztv z (p : Int)) ∧ sI S (q 0) 4 = zC z ∧ sI S (q 0) 5 = zw z ∧ sI S (q 0) 6 = za z
/-- the book of n orders -/
def Bok (S : Sto) (q : Nat → Nat) (t : Nat) (w : Shp) (n : Nat) : Prop := Lst S t (q 4) (w4 w) (k4 w) n ∧ (∀ o : Nat, o < n → sP S (w4 w) (o : Int) = some (wo w o) ∧ At0 S (wo w o) 2 ∧ sP S (wo w o) 1 = some (wq w o) ∧ At0 S (wq w o) 20 ∧ sN S (wq w o) = 20) ∧ (∀ o o' : Nat, o < n → o' < n → wo w o = wo w o' → o = o') ∧ (∀ o o' : Nat, o < n → o' < n → wq w o = wq w o' → o = o') ∧ (∀ o : Nat, o < n → ∀ i ∈ tix, wq w o ≠ q i)
def OrV (S : Sto) (w : Shp) (z : Sig) (n : Nat) : Prop := ∀ o : Nat, o < n → sI S (wo w o) 0 = zdu z (o : Int) ∧ sI S (wo w o) 2 = ((zW z o : Nat) : Int) ∧ sI S (wo w o) 3 = zst z (o : Int) ∧ ∀ p : Nat, p < 20 → sI S (wq w o) (p : Int) = qv z (p : Int) o
/-- the list of n batches -/
def Bts (S : Sto) (q : Nat → Nat) (t : Nat) (w : Shp) (n : Nat) : Prop := Lst S t (q 5) (w5 w) (k5 w) n ∧ (∀ b : Nat, b < n → sP S (w5 w) (b : Int) = some (wb w b) ∧ At0 S (wb w b) 1) ∧ (∀ b b' : Nat, b < n → b' < n → wb w b = wb w b' → b = b') ∧ (0 < k4 w → 0 < k5 w → w4 w ≠ w5 w)
/-- the orders of a batch, as bits -/
def obs (z : Sig) (b : Nat) (M : Nat) : Prop := M < 2 ^ 40 ∧ ∀ o : Nat, o < 40 → (M.testBit o = true ↔ o < zo z ∧ zbt z (o : Int) = (b : Int))
def BtV (S : Sto) (w : Shp) (z : Sig) (n : Nat) : Prop := (∀ b : Nat, b < n → (0 ≤ sI S (wb w b) 0 ∧ sI S (wb w b) 0 < 40) ∧ sI S (wb w b) 2 = ((zpd z (b : Int) : Nat) : Int) ∧ sI S (wb w b) 3 = zln z (b : Int) ∧ sI S (wb w b) 4 = zto z (zpd z (b : Int)) ∧ ∃ M : Nat, sJ S (wb w b) 1 = (M : Int) ∧ obs z b M) ∧ (∀ b b' : Nat, b < n → b' < n → sI S (wb w b) 0 = sI S (wb w b') 0 → b = b')
/-- the routes of the first n batches -/
def RtV (S : Sto) (q : Nat → Nat) (w : Shp) (z : Sig) (n : Nat) : Prop := ∀ b : Nat, b < n → sP S (wb w b) 5 = some (wr w b) ∧ At0 S (wr w b) 20 ∧ sN S (wr w b) = cntb (zpd z (b : Int)) 20 ∧ (∀ j : Nat, j < cntb (zpd z (b : Int)) 20 → sI S (wr w b) (j : Int) = rout (zN z) (zG z) (zP z) (zpd z (b : Int)) j) ∧ (∀ o : Nat, o < zo z → wr w b ≠ wq w o) ∧ ∀ i ∈ tix, wr w b ≠ q i
def CRw (S : Sto) (q : Nat → Nat) (t : Nat) (w : Shp) (z : Sig) : Prop := Whs S q z ∧ Bok S q t w (zo z) ∧ OrV S w z (zo z) ∧ Bts S q t w (zb z) ∧ BtV S w z (zb z) ∧ RtV S q w z (zb z) ∧ sI S (q 29) 9 = 0
/-- the class holds the state z -/
def CR (S : Sto) (q : Nat → Nat) (t : Nat) (z : Sig) : Prop := ∃ w, CRw S q t w z
/-! what was there is there -/
def Gro (S u : Sto) : Prop := ∀ x ∈ sL S, x ∈ sL u ∧ sK u x = sK S x ∧ sN u x = sN S x
theorem Gro.refl {S : Sto} : Gro S S := fun _ h => ⟨h, rfl, rfl⟩
theorem Gro.trans {S u v : Sto} (h : Gro S u) (h' : Gro u v) : Gro S v := fun x hx => ⟨(h' x (h x hx).1).1, (h' x (h x hx).1).2.1.trans (h x hx).2.1, (h' x (h x hx).1).2.2.trans (h x hx).2.2⟩
theorem Gro.at {S u : Sto} (h : Gro S u) {a k : Nat} (ha : At0 S a k) : At0 u a k := ⟨(h a ha.1).1, (h a ha.1).2.1.trans ha.2⟩
theorem Gro.ln {S u : Sto} (h : Gro S u) {a k n : Nat} (ha : At0 S a k) (hn : sN S a = n) : sN u a = n := (h a ha.1).2.2.trans hn
theorem Gro.same {S u : Sto} (h1 : sL u = sL S) (h2 : sK u = sK S) (h3 : sN u = sN S) : Gro S u := fun x hx => ⟨by rw [h1]; exact hx, by rw [h2], by rw [h3]⟩
theorem Ext.gro {S u : Sto} (h : Ext S u) : Gro S u := fun x hx => ⟨(h x hx).1, (h x hx).2.1, (h x hx).2.2.1⟩
theorem Lst.fr {S u : Sto} {t L E cap n : Nat} (h : Lst S t L E cap n) (hm : Gro S u) (h1 : sP u L 1 = sP S L 1) (h2 : sI u L 2 = sI S L 2) : Lst u t L E cap n := by
  refine ⟨hm.at h.1, h1.trans h.2.1, h2.trans h.2.2.1, h.2.2.2.1, h.2.2.2.2.1, ?_⟩
  rcases h.2.2.2.2.2 with e | ⟨e1, e2, e3⟩
  · exact Or.inl e
  · exact Or.inr ⟨hm.at e1, hm.ln e1 e2, e3⟩
theorem Bok.fr {S u : Sto} {q : Nat → Nat} {t n : Nat} {w : Shp} (h : Bok S q t w n) (hm : Gro S u) (h1 : sP u (q 4) 1 = sP S (q 4) 1) (h2 : sI u (q 4) 2 = sI S (q 4) 2) (h3 : ∀ o : Nat, o < n → sP u (w4 w) (o : Int) = sP S (w4 w) (o : Int)) (h4 : ∀ o : Nat, o < n → sP u (wo w o) 1 = sP S (wo w o) 1) : Bok u q t w n :=
  ⟨h.1.fr hm h1 h2, fun o ho => ⟨(h3 o ho).trans (h.2.1 o ho).1, hm.at (h.2.1 o ho).2.1, (h4 o ho).trans (h.2.1 o ho).2.2.1, hm.at (h.2.1 o ho).2.2.2.1, hm.ln (h.2.1 o ho).2.2.2.1 (h.2.1 o ho).2.2.2.2⟩, h.2.2.1, h.2.2.2.1, h.2.2.2.2⟩
theorem OrV.fr {S u : Sto} {w : Shp} {z : Sig} {n : Nat} (h : OrV S w z n) (h1 : ∀ o : Nat, o < n → sI u (wo w o) = sI S (wo w o) ∧ sI u (wq w o) = sI S (wq w o)) : OrV u w z n := fun o ho => by
  obtain ⟨e1, e2⟩ := h1 o ho
  rw [e1, e2]
  exact h o ho
theorem Bts.fr {S u : Sto} {q : Nat → Nat} {t n : Nat} {w : Shp} (h : Bts S q t w n) (hm : Gro S u) (h1 : sP u (q 5) 1 = sP S (q 5) 1) (h2 : sI u (q 5) 2 = sI S (q 5) 2) (h3 : ∀ b : Nat, b < n → sP u (w5 w) (b : Int) = sP S (w5 w) (b : Int)) : Bts u q t w n :=
  ⟨h.1.fr hm h1 h2, fun b hb => ⟨(h3 b hb).trans (h.2.1 b hb).1, hm.at (h.2.1 b hb).2⟩, h.2.2.1, h.2.2.2⟩
theorem BtV.fr {S u : Sto} {w : Shp} {z : Sig} {n : Nat} (h : BtV S w z n) (h1 : ∀ b : Nat, b < n → sI u (wb w b) = sI S (wb w b) ∧ sJ u (wb w b) = sJ S (wb w b)) : BtV u w z n := by
  refine ⟨fun b hb => ?_, fun b b' hb hb' e => ?_⟩
  · obtain ⟨e1, e2⟩ := h1 b hb
    rw [e1, e2]
    exact h.1 b hb
  · rw [(h1 b hb).1, (h1 b' hb').1] at e
    exact h.2 b b' hb hb' e
theorem RtV.fr {S u : Sto} {q : Nat → Nat} {w : Shp} {z : Sig} {n : Nat} (h : RtV S q w z n) (hm : Gro S u) (h1 : ∀ b : Nat, b < n → sP u (wb w b) 5 = sP S (wb w b) 5 ∧ sI u (wr w b) = sI S (wr w b)) : RtV u q w z n := fun b hb => by
  obtain ⟨e1, e2⟩ := h1 b hb
  obtain ⟨a1, a2, a3, a4, a5, a6⟩ := h b hb
  exact ⟨e1.trans a1, hm.at a2, hm.ln a2 a3, fun j hj => by rw [e2]; exact a4 j hj, a5, a6⟩
/-- an object of a kind that none of the system's own cells is -/
theorem Top.nq {S : Sto} {q : Nat → Nat} (h : Top S q) {x k : Nat} (hx : At0 S x k) (hk : (k == 1 || k == 2 || k == 21) = true) {i : Nat} (hi : i ∈ tix) : x ≠ q i := by
  have h1 : ∀ i ∈ tix, ∃ t ∈ tkd, t.1 = i ∧ ¬ (t.2 == 1 || t.2 == 2 || t.2 == 21) = true := by decide +kernel
  obtain ⟨t, h2, h3, h4⟩ := h1 i hi
  intro e
  have h5 := (h.1 t h2).2
  rw [h3, ← e, hx.2] at h5
  rw [h5] at hk
  exact h4 hk
/-- the cells that the class writes without being asked, and those of the others -/
def scI (i : Nat) : Bool := i == 2 || i == 3 || i == 8 || i == 9 || i == 10 || i == 11 || i == 12 || i == 13 || 20 ≤ i
def isSc (q : Nat → Nat) (x : Nat) : Prop := ∃ i, i ∈ tix ∧ scI i = true ∧ x = q i
theorem Top.nsc {S : Sto} {q : Nat → Nat} (h : Top S q) (i : Nat) (hi : i ∈ tix := by decide) (hn : scI i = false := by decide) : ¬ isSc q (q i) := by
  intro ⟨j, hj, h1, h2⟩
  have := h.2.2.1 i hi j hj h2
  rw [this, h1] at hn
  cases hn
/-- nothing but such cells has changed -/
def Fra (S : Sto) (q : Nat → Nat) (u : Sto) : Prop := Gro S u ∧ (∀ x ∈ sL S, ¬ isSc q x → sI u x = sI S x ∧ sP u x = sP S x ∧ sJ u x = sJ S x) ∧ sI u (q 29) 9 = 0
theorem CRw.ns {S : Sto} {q : Nat → Nat} {t : Nat} {w : Shp} {z : Sig} (h : CRw S q t w z) (hT : Top S q) : (∀ o : Nat, o < zo z → ¬ isSc q (wo w o) ∧ ¬ isSc q (wq w o)) ∧ (∀ b : Nat, b < zb z → ¬ isSc q (wb w b) ∧ ¬ isSc q (wr w b)) ∧ (At0 S (w4 w) 21 → ¬ isSc q (w4 w)) ∧ (At0 S (w5 w) 21 → ¬ isSc q (w5 w)) := by
  obtain ⟨-, hB, -, hC, -, hR, -⟩ := h
  refine ⟨fun o ho => ⟨?_, ?_⟩, fun b hb => ⟨?_, ?_⟩, fun ha => ?_, fun ha => ?_⟩
  · rintro ⟨i, hi, -, e⟩
    exact hT.nq (hB.2.1 o ho).2.1 rfl hi e
  · rintro ⟨i, hi, -, e⟩
    exact hB.2.2.2.2 o ho i hi e
  · rintro ⟨i, hi, -, e⟩
    exact hT.nq (hC.2.1 b hb).2 rfl hi e
  · rintro ⟨i, hi, -, e⟩
    exact (hR b hb).2.2.2.2.2 i hi e
  · rintro ⟨i, hi, -, e⟩
    exact hT.nq ha rfl hi e
  · rintro ⟨i, hi, -, e⟩
    exact hT.nq ha rfl hi e
theorem CRw.fra {S u : Sto} {q : Nat → Nat} {t : Nat} {w : Shp} {z : Sig} (h : CRw S q t w z) (hT : Top S q) (hF : Fra S q u) : CRw u q t w z := by
  obtain ⟨n1, n2, n3, n4⟩ := h.ns hT
  obtain ⟨hW, hB, hO, hC, hV, hR, hZ⟩ := h
  obtain ⟨hm, hs, hz⟩ := hF
  have e0 := hs _ (hT.mem 0) (hT.nsc 0)
  have e1 := hs _ (hT.mem 1) (hT.nsc 1)
  have e4 := hs _ (hT.mem 4) (hT.nsc 4)
  have e5 := hs _ (hT.mem 5) (hT.nsc 5)
  have e6 := hs _ (hT.mem 6) (hT.nsc 6)
  have e7 := hs _ (hT.mem 7) (hT.nsc 7)
  have a4 : ∀ o : Nat, o < zo z → sP u (w4 w) (o : Int) = sP S (w4 w) (o : Int) := fun o ho => by
    have hc := hB.1.2.2.2.1
    have ha := (hB.1.arr (by omega)).1
    rw [(hs _ ha.1 (n3 ha)).2.1]
  have a5 : ∀ b : Nat, b < zb z → sP u (w5 w) (b : Int) = sP S (w5 w) (b : Int) := fun b hb => by
    have hc := hC.1.2.2.2.1
    have ha := (hC.1.arr (by omega)).1
    rw [(hs _ ha.1 (n4 ha)).2.1]
  refine ⟨?_, hB.fr hm (by rw [e4.2.1]) (by rw [e4.1]) a4 (fun o ho => by rw [(hs _ (hB.2.1 o ho).2.1.1 (n1 o ho).1).2.1]), hO.fr (fun o ho => ⟨(hs _ (hB.2.1 o ho).2.1.1 (n1 o ho).1).1, (hs _ (hB.2.1 o ho).2.2.2.1.1 (n1 o ho).2).1⟩), hC.fr hm (by rw [e5.2.1]) (by rw [e5.1]) a5, hV.fr (fun b hb => ⟨(hs _ (hC.2.1 b hb).2.1 (n2 b hb).1).1, (hs _ (hC.2.1 b hb).2.1 (n2 b hb).1).2.2⟩), hR.fr hm (fun b hb => ⟨by rw [(hs _ (hC.2.1 b hb).2.1 (n2 b hb).1).2.1], (hs _ (hR b hb).2.1.1 (n2 b hb).2).1⟩), hz⟩
  unfold Whs
  rw [e0.1, e1.1, e6.1, e7.1]
  exact hW
/-- a state's new store: nothing of the reference has changed -/
def OutM (S : Sto) (q : Nat → Nat) (u : Sto) : Prop := ∀ i : Nat, 80 ≤ i → i ≤ 88 → sI u (q i) = sI S (q i) ∧ sJ u (q i) = sJ S (q i)
theorem OutM.refl {S : Sto} {q : Nat → Nat} : OutM S q S := fun _ _ _ => ⟨rfl, rfl⟩
theorem OutM.trans {S u v : Sto} {q : Nat → Nat} (h : OutM S q u) (h' : OutM u q v) : OutM S q v := fun i h1 h2 => ⟨(h' i h1 h2).1.trans (h i h1 h2).1, (h' i h1 h2).2.trans (h i h1 h2).2⟩
/-- a call of the class: the state behind it, the reference's cells unchanged -/
def CP (S : Sto) (q : Nat → Nat) (t : Nat) (u : Sto) (z : Sig) : Prop := Gro S u ∧ Top u q ∧ OutM S q u ∧ CR u q t z
theorem CP.refl {S : Sto} {q : Nat → Nat} {t : Nat} {z : Sig} (hT : Top S q) (h : CR S q t z) : CP S q t S z := ⟨Gro.refl, hT, OutM.refl, h⟩
theorem tix_mod93 : ∀ i : Nat, 80 ≤ i → i ≤ 88 → i ∈ tix := by
  intro i h1 h2
  have : ∀ j : Nat, j < 9 → 80 + j ∈ tix := by decide
  have h3 := this (i - 80) (by omega)
  rw [show 80 + (i - 80) = i by omega] at h3
  exact h3
/-- after the router's work -/
theorem Kept.fra {S : Sto} {q : Nat → Nat} {f : Nat → Int → Int} (hT : Top S q) (h : Kept S q f) : Fra S q (wI S f) := by
  refine ⟨Gro.same rfl rfl rfl, fun x hx hn => ⟨funext fun j => h.1 x j fun hs => hn ?_, rfl, rfl⟩, h.2⟩
  rcases hs with ⟨e, -⟩ | e | ⟨i, hi, e⟩ | e
  · exact ⟨2, by decide, by decide, e⟩
  · exact ⟨10, by decide, by decide, e⟩
  · exact ⟨20 + i, tix_way i hi, by unfold scI; simp, e⟩
  · exact ⟨12, by decide, by decide, e⟩
theorem Kept.out {S : Sto} {q : Nat → Nat} {f : Nat → Int → Int} (hT : Top S q) (h : Kept S q f) : OutM S q (wI S f) := fun i h1 h2 => ⟨funext fun j => h.1 _ j (nRSc hT i j (tix_mod93 i h1 h2) (by simp [noR]; omega)), rfl⟩
theorem Top.wI {S : Sto} {q : Nat → Nat} (h : Top S q) (f : Nat → Int → Int) : Top (wI S f) q := h
theorem CP.kept {S : Sto} {q : Nat → Nat} {t : Nat} {z : Sig} {f : Nat → Int → Int} (hT : Top S q) (h : CR S q t z) (hK : Kept S q f) : CP S q t (wI S f) z := by
  obtain ⟨w, hw⟩ := h
  exact ⟨Gro.same rfl rfl rfl, hT, hK.out hT, w, hw.fra hT (hK.fra hT)⟩
