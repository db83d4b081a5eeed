/-! ===== routes are noted ===== -/
abbrev setR (w : Shp) (e : Nat → Nat) : Shp := (w.1, wo w, wq w, wb w, e)
def setE (e : Nat → Nat) (b a : Nat) : Nat → Nat := fun x => if x = b then a else e x
theorem setE_b (e : Nat → Nat) (b a : Nat) : setE e b a b = a := if_pos rfl
theorem setE_n (e : Nat → Nat) {b a x : Nat} (h : x ≠ b) : setE e b a x = e x := if_neg h
theorem best_fra {S : Sto} {q : Nat → Nat} {a n : Nat} {f : Nat → Int → Int} (hT : Top S q) (ha : a ∉ sL S) (hK : ∀ b j, b ≠ a → ¬ RSc q b j → f b j = sI S b j) (hz : f (q 29) 9 = 0) : Fra S q (wI (nw S a 20 n) f) ∧ OutM S q (wI (nw S a 20 n) f) ∧ Top (wI (nw S a 20 n) f) q := by
  have hx := Ext.nw (S := S) ha 20 n
  have hT2 : Top (nw S a 20 n) q := hT.ext hx
  have hI : ∀ x ∈ sL S, (∀ j, ¬ RSc q x j) → f x = sI S x := fun x hx1 hn => funext fun j => hK x j (fun e => ha (e ▸ hx1)) (hn j)
  refine ⟨⟨fun x hx1 => ⟨(hx x hx1).1, (hx x hx1).2.1, (hx x hx1).2.2.1⟩, fun x hx1 hn => ⟨hI x hx1 (fun j hs => hn ?_), (hx x hx1).2.2.2.2.1, (hx x hx1).2.2.2.2.2⟩, hz⟩, fun i h1 h2 => ⟨hI _ (hT.mem i (tix_mod93 i h1 h2)) (fun j => nRSc hT i j (tix_mod93 i h1 h2) (by simp [noR]; omega)), (hx _ (hT.mem i (tix_mod93 i h1 h2))).2.2.2.2.2⟩, hT2⟩
  rcases hs with ⟨e, -⟩ | e | ⟨i, hi, e⟩ | e
  · exact ⟨2, by decide, by decide, e⟩
  · exact ⟨10, by decide, by decide, e⟩
  · exact ⟨20 + i, tix_way i hi, by unfold scI; simp, e⟩
  · exact ⟨12, by decide, by decide, e⟩
theorem rt_put {S : Sto} {q : Nat → Nat} {t a b : Nat} {w : Shp} {z : Sig} {e : Nat → Nat} {f : Nat → Int → Int} (hT : Top S q) (h : CRj S q t w z) (hb : b < zb z) (ha : a ∉ sL S) (hK : ∀ b j, b ≠ a → ¬ RSc q b j → f b j = sI S b j) (hz : f (q 29) 9 = 0) (hrt : ∀ x : Nat, x < (sll S q (zpd z (b : Int))).length → f a (x : Int) = rout (sI S (q 1) 1) (sI S (q 1) 2) (sI S (q 6)) (zpd z (b : Int)) x) (hR : RtV S q (setR w e) z b) :
    CRj (uP (wI (nw S a 20 (sll S q (zpd z (b : Int))).length) f) (wb w b) 5 (some a)) q t w z ∧ Gro S (uP (wI (nw S a 20 (sll S q (zpd z (b : Int))).length) f) (wb w b) 5 (some a)) ∧ OutM S q (uP (wI (nw S a 20 (sll S q (zpd z (b : Int))).length) f) (wb w b) 5 (some a)) ∧ Top (uP (wI (nw S a 20 (sll S q (zpd z (b : Int))).length) f) (wb w b) 5 (some a)) q ∧ RtV (uP (wI (nw S a 20 (sll S q (zpd z (b : Int))).length) f) (wb w b) 5 (some a)) q (setR w (setE e b a)) z (b + 1) := by
  obtain ⟨hF, hO, hT1⟩ := best_fra (n := (sll S q (zpd z (b : Int))).length) hT ha hK hz
  have hC1 := h.fra hT hF
  obtain ⟨c1, c2, c3, c4, c5, c6⟩ := hC1
  obtain ⟨e10, e11, e12, e6, -⟩ := h.1
  have hab := (c4.2.1 b hb).2
  have hlen : (sll S q (zpd z (b : Int))).length = cntb (zpd z (b : Int)) 20 := sl_len _ _ _
  have hqb : ∀ i ∈ tix, q i ≠ wb w b := fun i hi e9 => hT1.nq hab rfl hi e9.symm
  have hPn : ∀ x : Nat, x ≠ wb w b → up2 (sP (wI (nw S a 20 (sll S q (zpd z (b : Int))).length) f)) (wb w b) 5 (some a) x = sP (wI (nw S a 20 (sll S q (zpd z (b : Int))).length) f) x := fun x hx => up2_row _ _ _ hx
  have hG : Gro S (uP (wI (nw S a 20 (sll S q (zpd z (b : Int))).length) f) (wb w b) 5 (some a)) := hF.1
  have hG2 : Gro (wI (nw S a 20 (sll S q (zpd z (b : Int))).length) f) (uP (wI (nw S a 20 (sll S q (zpd z (b : Int))).length) f) (wb w b) 5 (some a)) := Gro.same rfl rfl rfl
  refine ⟨⟨c1, c2.fr hG2 ?_ rfl (fun o ho => ?_) (fun o ho => ?_), c3, c4.fr hG2 ?_ rfl (fun b2 hb2 => ?_), c5, c6⟩, hG, hO, hT1.mono hG2 (fun i hi k => ?_), fun b2 hb2 => ?_⟩
  · exact congrFun (hPn _ (hqb 4 (by decide))) 1
  · have hc := c2.1.2.2.2.1
    exact congrFun (hPn _ (kind_ne (c2.1.arr (by omega)).1 hab (by decide))) _
  · exact congrFun (hPn _ (kind_ne (c2.2.1 o ho).2.1 hab (by decide))) _
  · exact congrFun (hPn _ (hqb 5 (by decide))) 1
  · have hc := c4.1.2.2.2.1
    exact congrFun (hPn _ (kind_ne (c4.1.arr (by omega)).1 hab (by decide))) _
  · have : ∀ i ∈ [0, 1, 2, 3, 11, 13, 80], i ∈ tix := by decide
    exact congrFun (hPn _ (hqb i (this i hi))) k
  · by_cases eb : b2 = b
    · subst eb
      show up2 _ (wb w b2) 5 (some a) (wb w b2) 5 = some (setE e b2 a b2) ∧ At0 _ (setE e b2 a b2) 20 ∧ sN _ (setE e b2 a b2) = _ ∧ (∀ j : Nat, j < cntb (zpd z (b2 : Int)) 20 → f (setE e b2 a b2) (j : Int) = _) ∧ (∀ o : Nat, o < zo z → setE e b2 a b2 ≠ wq w o) ∧ ∀ i ∈ tix, setE e b2 a b2 ≠ q i
      rw [setE_b]
      refine ⟨up2_same _ _ _ _, nw_at (S := S) (a := a) (kd := 20) (n := (sll S q (zpd z (b2 : Int))).length), ?_, fun j hj => ?_, fun o ho e9 => ha ?_, fun i hi e9 => ha ?_⟩
      · exact (nw_ln (S := S) (a := a) (kd := 20) (n := (sll S q (zpd z (b2 : Int))).length)).trans hlen
      · rw [hrt j (by omega), e11, e12, e6]
      · rw [e9]; exact (h.2.1.2.1 o ho).2.2.2.1.1
      · rw [e9]; exact hT.mem i hi
    · obtain ⟨r1, r2, r3, r4, r5, r6⟩ := hR b2 (by omega)
      have hx := Ext.nw (S := S) ha 20 (sll S q (zpd z (b : Int))).length
      have hne2 : wb w b2 ≠ wb w b := fun e9 => eb (h.2.2.2.1.2.2.1 b2 b (by omega) hb e9)
      have hnr : f (e b2) = sI S (e b2) := (hF.2.1 _ r2.1 (by rintro ⟨i, hi, -, e9⟩; exact r6 i hi e9)).1
      show up2 _ (wb w b) 5 (some a) (wb w b2) 5 = some (setE e b a b2) ∧ At0 _ (setE e b a b2) 20 ∧ sN _ (setE e b a b2) = _ ∧ (∀ j : Nat, j < cntb (zpd z (b2 : Int)) 20 → f (setE e b a b2) (j : Int) = _) ∧ (∀ o : Nat, o < zo z → setE e b a b2 ≠ wq w o) ∧ ∀ i ∈ tix, setE e b a b2 ≠ q i
      rw [setE_n e eb]
      refine ⟨?_, hG.at r2, hG.ln r2 r3, fun j hj => by rw [hnr]; exact r4 j hj, r5, r6⟩
      exact (up2_ne _ _ _ _ hne2).trans ((congrFun (hx _ (h.2.2.2.1.2.1 b2 (by omega)).2.1).2.2.2.2.1 5).trans r1)
