/-! ===== both sides, call after call ===== -/
theorem mod_sc {q : Nat → Nat} {x : Nat} (h : isMod q x) : isSc q x := by
  obtain ⟨i, h1, h2, h3⟩ := h
  exact ⟨i, tix_mod93 i h1 (by omega), by unfold scI; simp; omega, h3⟩
theorem nmod29 {S : Sto} {q : Nat → Nat} (hT : Top S q) : ¬ isMod q (q 29) := by
  rintro ⟨i, h1, h2, h3⟩
  have := hT.2.2.1 29 (by decide) i (tix_mod93 i h1 (by omega)) h3
  omega
theorem MP.fra {S u : Sto} {q : Nat → Nat} {c : Int} {z : Sig} (h : MP S q u c z) (hT : Top S q) (h0 : sI S (q 29) 9 = 0) : Fra S q u := by
  obtain ⟨h1, h2, h3, h4, h5, h6, -⟩ := h
  refine ⟨Gro.same h1 h2 h3, fun x hx hn => ⟨h5 x fun e => hn (mod_sc e), by rw [h4], h6 x fun e => hn ⟨80, by decide, by decide, e⟩⟩, ?_⟩
  rw [h5 _ (nmod29 hT)]
  exact h0
theorem CR.mp {S u : Sto} {q : Nat → Nat} {t : Nat} {c : Int} {z z' : Sig} (h : CR S q t z') (hT : Top S q) (hm : MP S q u c z) : CR u q t z' := by
  obtain ⟨w, hw⟩ := h
  exact ⟨w, hw.fra hT (hm.fra hT hw.2.2.2.2.2.2)⟩
/-- what lies with the reference -/
def OutN (S : Sto) (q : Nat → Nat) (u : Sto) : Prop := ∀ i : Nat, 80 ≤ i → i ≤ 92 → sI u (q i) = sI S (q i) ∧ sJ u (q i) = sJ S (q i)
theorem OutN.sg {S u : Sto} {q : Nat → Nat} (h : OutN S q u) : sgM u q = sgM S q ∧ (Cn S q → Cn u q) := by
  have e : ∀ i : Nat, 80 ≤ i → i ≤ 92 → sI u (q i) = sI S (q i) := fun i h1 h2 => (h i h1 h2).1
  have hs : sgM u q = sgM S q := by
    unfold sgM
    rw [e 80 (by omega) (by omega), (h 80 (by omega) (by omega)).2, e 81 (by omega) (by omega), e 82 (by omega) (by omega), e 83 (by omega) (by omega), e 84 (by omega) (by omega), e 85 (by omega) (by omega), e 86 (by omega) (by omega), e 87 (by omega) (by omega)]
  refine ⟨hs, fun hc => ?_⟩
  unfold Cn
  rw [hs, e 80 (by omega) (by omega)]
  exact hc
theorem CP.outN {S u : Sto} {q : Nat → Nat} {t : Nat} {z : Sig} (h : CP S q t u z) : OutN S q u := fun i h1 h2 => h.2.2.1 i h1 (by omega)
/-- one of the law's own methods has asked the class -/
def CQ (S : Sto) (q : Nat → Nat) (t : Nat) (u : Sto) (z : Sig) : Prop := Gro S u ∧ Top u q ∧ OutN S q u ∧ CR u q t z
theorem CP.cq {S u : Sto} {q : Nat → Nat} {t : Nat} {z : Sig} (h : CP S q t u z) : CQ S q t u z := ⟨h.1, h.2.1, h.outN, h.2.2.2⟩
theorem Top.uJ93 {S : Sto} {q : Nat → Nat} (h : Top S q) (v : Int) : Top (uJ S (q 93) 0 v) q := h
theorem CP.out {S u : Sto} {q : Nat → Nat} {t : Nat} {z : Sig} (h : CP S q t u z) (v : Int) : CQ S q t (uJ u (q 93) 0 v) z ∧ sJ (uJ u (q 93) 0 v) (q 93) 0 = v := by
  obtain ⟨h1, h2, h3, w, hw⟩ := h
  refine ⟨⟨h1.trans (Gro.same rfl rfl rfl), h2, fun i i1 i2 => ?_, w, hw.fra h2 ⟨Gro.same rfl rfl rfl, fun x hx hn => ⟨rfl, rfl, ?_⟩, hw.2.2.2.2.2.2⟩⟩, up2_same _ _ _ _⟩
  · obtain ⟨e1, e2⟩ := h3 i i1 (by omega)
    refine ⟨e1, ?_⟩
    rw [← e2]
    exact up2_row _ _ _ fun e => by
      have := h2.2.2.1 i (tix_mod93 i i1 (by omega)) 93 (by decide) e
      omega
  · exact up2_row _ _ _ fun e => hn ⟨93, by decide, by decide, e⟩
/-- both hold the same state -/
def Bth (S : Sto) (q : Nat → Nat) (t : Nat) (z : Sig) : Prop := Top S q ∧ CR S q t z ∧ sgM S q = z ∧ Cn S q ∧ Wf z
/-- between the two calls -/
def Mid (S : Sto) (q : Nat → Nat) (t : Nat) (z z' : Sig) : Prop := Top S q ∧ CR S q t z' ∧ sgM S q = z ∧ Cn S q ∧ Wf z
theorem Bth.mid {S u : Sto} {q : Nat → Nat} {t : Nat} {z z' : Sig} (h : Bth S q t z) (hc : CQ S q t u z') : Mid u q t z z' := ⟨hc.2.1, hc.2.2.2, (hc.2.2.1.sg).1.trans h.2.2.1, hc.2.2.1.sg.2 h.2.2.2.1, h.2.2.2.2⟩
theorem Mid.both {S u : Sto} {q : Nat → Nat} {t : Nat} {c : Int} {z z' : Sig} (h : Mid S q t z z') (hm : MP S q u c z') (hW : Wf z') : Bth u q t z' := ⟨hm.top h.1, h.2.1.mp h.1 hm, hm.2.2.2.2.2.2.2.1, hm.2.2.2.2.2.2.2.2, hW⟩
theorem Mid.out {S u : Sto} {q : Nat → Nat} {t : Nat} {c : Int} {z z' : Sig} (h : Mid S q t z z') (hm : MP S q u c z') : sJ u (q 93) 0 = sJ S (q 93) 0 := by
  rw [hm.2.2.2.2.2.1 (q 93) (h.1.ne 93 80)]
