/-! ===== the answers' states ===== -/
/-- the class has answered -/
def PC (A : Ans) (S : Sto) (q : Nat → Nat) (t : Nat) : Option Value → Sto → Prop := fun v u => ∃ r z', A = (0, r, z') ∧ v = some (.int (iI r)) ∧ CP S q t u z'
theorem wf_oPut {z : Sig} (h : Wf z) (p a i : Int) : Wf (oPut z p a i).2.2 := by
  unfold oPut
  split
  · exact h
  · next h1 =>
    split
    · exact h
    · next h2 => exact h.put (by omega) (by omega) (by omega) (fun e => h2 (Or.inl e))
theorem wf_oLay {z : Sig} (h : Wf z) : Wf (oLay z).2.2 := by
  unfold oLay
  split
  · exact h
  · exact h.lay
theorem wf_oPl {z : Sig} (h : Wf z) (p : Int) : Wf (oPl z p).2.2 := by unfold oPl; split <;> exact h
theorem wf_oTv {z : Sig} (h : Wf z) (p : Int) : Wf (oTv z p).2.2 := by unfold oTv; split <;> exact h
theorem wf_oDi {z : Sig} (h : Wf z) (x y : Int) : Wf (oDi z x y).2.2 := by
  unfold oDi
  split
  · exact h
  · split <;> exact h
theorem wf_oOrd {z : Sig} (h : Wf z) (t : Int) : Wf (oOrd z t).2.2 := by
  unfold oOrd
  split
  · exact h
  · next h1 =>
    split
    · exact h
    · next h2 => exact h.ord (by omega) h2
theorem wf_oLin {z : Sig} (h : Wf z) (o p c : Int) : Wf (oLin z o p c).2.2 := by
  unfold oLin
  split
  · exact h
  · next h1 =>
    split
    · exact h
    · next h2 =>
      split
      · exact h
      · next h3 =>
        have ho : ((o.toNat : Nat) : Int) = o := Int.toNat_of_nonneg (by omega)
        refine h.lin (o := o.toNat) (p := p) (y := c) (by omega) (by omega) (by omega) ?_ ?_ ?_ ?_ ?_
        · rw [ho]
          exact Classical.byContradiction fun e => h3 (Or.inl e)
        · rw [ho]
          exact fun e => h3 (Or.inr (Or.inl e))
        · rw [ho]
          exact Int.not_le.mp fun e => h3 (Or.inr (Or.inr (Or.inl e)))
        · have h4 : ¬ zW z o.toNat / 2 ^ p.toNat % 2 = 1 := fun e => h3 (Or.inr (Or.inr (Or.inr (Or.inl e))))
          rw [Nat.testBit_eq_decide_div_mod_eq]
          exact decide_eq_false h4
        · exact fun e => h3 (Or.inr (Or.inr (Or.inr (Or.inr e))))
theorem wf_oSt {z : Sig} (h : Wf z) (o : Int) : Wf (oSt z o).2.2 := by unfold oSt; split <;> exact h
theorem wf_oBt {z : Sig} (h : Wf z) (o : Int) : Wf (oBt z o).2.2 := by unfold oBt; split <;> exact h
theorem wf_oLa {z : Sig} (h : Wf z) (o : Int) : Wf (oLa z o).2.2 := by unfold oLa; split <;> exact h
theorem wf_oCap {z : Sig} (h : Wf z) (x : Int) : Wf (oCap z x).2.2 := by
  unfold oCap
  split
  · exact h
  · next h1 =>
    split
    · exact h
    · next h2 => exact h.cap (by omega) h2
theorem wf_oPw {z : Sig} (h : Wf z) (t : Int) : Wf (oPw z t).2.2 := by
  unfold oPw
  split
  · exact h
  · split
    · exact h
    · next h2 => exact h.pw t (by omega)
theorem wf_oPk {z : Sig} (h : Wf z) (b : Int) : Wf (oPk z b).2.2 := by
  unfold oPk
  split
  · next h1 =>
    have hb : ((b.toNat : Nat) : Int) = b := Int.toNat_of_nonneg (by omega)
    have h2 := h.pk (y := b.toNat) (by omega)
    rw [hb] at h2
    exact h2
  · exact h
theorem wf_oLn {z : Sig} (h : Wf z) (b : Int) : Wf (oLn z b).2.2 := by unfold oLn; split <;> exact h
theorem wf_oLo {z : Sig} (h : Wf z) (b : Int) : Wf (oLo z b).2.2 := by unfold oLo; split <;> exact h
theorem wf_oLt {z : Sig} (h : Wf z) (b : Int) : Wf (oLt z b).2.2 := by
  unfold oLt
  split
  · split <;> exact h
  · exact h
theorem wf_oTh {z : Sig} (h : Wf z) (b : Int) : Wf (oTh z b).2.2 := by unfold oTh; split <;> exact h
theorem wf_oSs {z : Sig} (h : Wf z) (b : Int) : Wf (oSs z b).2.2 := by unfold oSs; split <;> exact h
theorem wf_oSa {z : Sig} (h : Wf z) (b k : Int) : Wf (oSa z b k).2.2 := by
  unfold oSa
  split
  · split <;> exact h
  · exact h
theorem wf_oIa {z : Sig} (h : Wf z) (a : Int) : Wf (oIa z a).2.2 := by unfold oIa; split <;> exact h
