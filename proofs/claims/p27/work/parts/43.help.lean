/-! ===== the class's helpers ===== -/
theorem cntb_ne {m n : Nat} (h : 0 < cntb m n) : m ≠ 0 := by
  intro e
  rw [e, cntb_0] at h
  omega
theorem Wf.w0 {z : Sig} (h : Wf z) {o : Nat} (ho : o < zo z) : ((zW z o : Nat) : Int) ≠ 0 ↔ 0 < zmn z (o : Int) := by
  have h1 := h.mn ho
  constructor
  · intro h2
    rcases Nat.eq_zero_or_pos (cntb (zW z o) 20) with e | e
    · have := cntb_zero 20 (show zW z o < 2 ^ 20 from zW_lt h.wl ho) e
      omega
    · omega
  · intro h2
    have := cntb_ne (m := zW z o) (n := 20) (by omega)
    omega
theorem isT_iff {S : Sto} {w : Shp} {z : Sig} {n o : Nat} {t : Int} (hW : Wf z) (hO : OrV S w z n) (hn : n ≤ zo z) (ho : o < n) : (sI S (wo w o) 3 = 0 ∧ sI S (wo w o) 2 ≠ 0 ∧ sI S (wo w o) 0 ≤ t) ↔ isT z t o := by
  obtain ⟨h1, h2, h3, -⟩ := hO o ho
  rw [h1, h2, h3]
  have := hW.w0 (show o < zo z by omega)
  unfold isT
  rw [this]
/-- what is added to the turnovers -/
def adR (F G : Int → Int) (n : Nat) : Int → Int := fun j => if 0 ≤ j ∧ j < n then F j + G j else F j
theorem adR_0 (F G : Int → Int) : adR F G 0 = F := by
  funext j
  unfold adR
  rw [if_neg (by omega)]
theorem adR_step (F G : Int → Int) (n : Nat) : upd1 (adR F G n) (n : Int) (F (n : Int) + G (n : Int)) = adR F G (n + 1) := by
  funext j
  unfold upd1 adR
  by_cases h : j = (n : Int)
  · subst h
    rw [if_pos rfl, if_pos (show 0 ≤ (n : Int) ∧ (n : Int) < ((n + 1 : Nat) : Int) by omega)]
  · rw [if_neg h]
    by_cases h2 : 0 ≤ j ∧ j < (n : Int)
    · rw [if_pos h2, if_pos (show 0 ≤ j ∧ j < ((n + 1 : Nat) : Int) by omega)]
    · rw [if_neg h2, if_neg (by omega)]
theorem adR_at (F G : Int → Int) (n : Nat) : adR F G n (n : Int) = F (n : Int) := by
  unfold adR
  rw [if_neg (by omega)]
theorem qv_b {z : Sig} (h : Wf z) {o : Nat} (ho : o < zo z) (p : Int) : 0 ≤ qv z p o ∧ qv z p o ≤ 495 := by
  have h1 := h.wl.2 o ho
  have h2 := tvi_b (pr := zpr z) (qt := zqt z) (p := p) (o := o) (zmn z (o : Int)).toNat (fun i hi => h.wq.2 o i ho (by omega))
  unfold qv
  omega
theorem ztv_b {z : Sig} (h : Wf z) (p : Int) : 0 ≤ ztv z p ∧ ztv z p ≤ 20000 := by
  have h1 := tv_b h.wq p (zo z) (Nat.le_refl _)
  have h2 := h.2.1
  unfold ztv
  omega
theorem thr_good2_RX5_66 : ∀ w ∈ Cond.classLink RX5 62 "java/lang/IndexOutOfBoundsException" :: Cond.initialized "java/lang/IndexOutOfBoundsException" :: vx_atS RX5 66 "java/lang/IndexOutOfBoundsException" ["java/lang/RuntimeException", "java/lang/Exception"], vx_ot w = true := by decide +kernel
theorem fit_java_lang_IndexOutOfBoundsException : Bundle.fit "java/lang/IndexOutOfBoundsException" = true := by decide +kernel
theorem fit_java_lang_IllegalStateException : Bundle.fit "java/lang/IllegalStateException" = true := by decide +kernel
theorem fit_java_lang_IllegalArgumentException : Bundle.fit "java/lang/IllegalArgumentException" = true := by decide +kernel
