/-! ===== the law's loop ===== -/
section
variable {p : Program} {l : Launch} {e : Env} {s : State} {m : MethodId} {below : List Frame} {meth : Method} {c : Code} {g : GG} {cells slots b0 L : Nat} {xs : Nat → Int32} {S : Sto} {lv : List (Nat × Value)}
theorem law_end (C : Cx p l s m #[Value.ref b0] meth c cL_law 22 RL ret g) (hgB : gB g = s.heap.size) (hc : cells ≤ 600128 ∧ slots ≤ 7301064) : Wk p l e room_1 s m #[Value.ref b0] below meth c (lw_Z below #[Value.ref b0] s) g 22 cells slots 1152 lv [] S := fun H locs ls hP hD hS hR hl => by
  refine lv_iconst (v := 1) C.1 C.2.1 dL_law_1152 rfl ?_
  refine va_forget (fun q hq => ?_) ?_
  · have h1 := hS.2.2 q hq
    rw [hgB] at h1
    exact h1
  · refine W.widen hc.1 hc.2 ?_
    refine W.base ?_
    exact lw_ret (Drawn.sameBut.refl s.drawn lw_cs) C.1 C.2.1 C.rett C.locks dL_law_1153
theorem law_loop (hnt : l.stackTraces = false) (C : Cx p l s m #[Value.ref b0] meth c cL_law 22 RL ret g) (hgB : gB g = s.heap.size) (hnc : Ncs s) (hX : va_X b0 L xs s s.heap) (hb : b0 < gB g) (hL : L ≤ 260) (q : Nat → Nat) : ∀ (n tn : Nat) (S : Sto) (z : Sig) (R : Int → Int), 91 ≤ n + tn → 1 ≤ tn → tn ≤ 90 → LI S q (gT g) z z R → Wf z → Wk p l e room_1 s m #[Value.ref b0] below meth c (lw_Z below #[Value.ref b0] s) g 22 (100 + 475 * tn) (10000 + 4890 * tn) 148 [(0, .ref b0), (1, .ref (q 80)), (3, .ref (q 0)), (4, .ref (q 81)), (5, .ref (q 82)), (6, .ref (q 83)), (7, .ref (q 84)), (8, .ref (q 85)), (9, .ref (q 86)), (10, .ref (q 87)), (11, .ref (q 88)), (12, .int (iI (tn : Int)))] [] S := by
  intro n
  induction n with
  | zero => intro tn S z R h1 h2 h3; omega
  | succ n ih =>
    intro tn S z R h1 h2 h3 hI hW
    refine KIload C dL_law_148 11 rfl ?_
    refine KBipush C dL_law_150 (by decide) ?_
    refine KIcmp_ge (tgt := 1152) C dL_law_152 (by decide) ⟨by omega, by omega⟩ ⟨by omega, by omega⟩ (fun h4 => ?_) (fun h4 => ?_)
    · exact law_end C hgB ⟨by omega, by omega⟩
    · refine sg_turn hnt C hnc ⟨by omega, by omega⟩ L xs hX hb hL tn (by omega) z R hI hW ?_
      intro e9 U z2 R2 v hv hI2 hW2
      refine sg_so hnt C hnc ⟨by omega, by omega⟩ e9 tn v hv (by omega) z2 R2 hI2 hW2 ?_
      intro U2 R3 hI3
      exact KWiden (by omega) (by omega) (ih (tn + 1) U2 z2 R3 (by omega) (by omega) (by omega) hI3 hW2)
end
