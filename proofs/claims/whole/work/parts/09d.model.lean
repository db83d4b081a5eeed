/-! ===== the reference's route rows ===== -/
theorem dst_0 {N G x y z : Int} (h : x / 100 - y / 100 = 0) (hz : absI (x % 100 - y % 100) = z) : dst N G x y = z := by
  unfold dst
  rw [if_pos (by rw [h]; rfl), hz]
theorem dst_1 {N G x y a b : Int} (h : ¬ x / 100 - y / 100 = 0) (ha : absI (x / 100 - y / 100) = a) (hb : minI (x % 100 + y % 100) (2 * (N + 1) - (x % 100 + y % 100)) = b) : dst N G x y = a * G + b := by
  unfold dst
  have h1 := absI_b (x / 100 - y / 100)
  rw [if_neg (by omega), ha, hb]
def CfM (S : Sto) (q : Nat → Nat) : Prop := 1 ≤ sI S (q 80) 1 ∧ sI S (q 80) 1 ≤ 6 ∧ 1 ≤ sI S (q 80) 2 ∧ sI S (q 80) 2 ≤ 20 ∧ 1 ≤ sI S (q 80) 3 ∧ sI S (q 80) 3 ≤ 9
theorem CfM.of {S T : Sto} {q : Nat → Nat} (h : CfM S q) (e1 : sI T (q 80) 1 = sI S (q 80) 1) (e2 : sI T (q 80) 2 = sI S (q 80) 2) (e3 : sI T (q 80) 3 = sI S (q 80) 3) : CfM T q := by
  unfold CfM
  rw [e1, e2, e3]
  exact h
abbrev slm (S : Sto) (q : Nat → Nat) (m : Nat) : List Nat := sl (sI S (q 81)) m 20
abbrev dmM (S : Sto) (q : Nat → Nat) (m : Nat) : Nat → Nat → Int := dd (sI S (q 80) 2) (sI S (q 80) 3) (sI S (q 81)) (slm S q m)
def LayA (S : Sto) (q : Nat → Nat) (m p : Nat) (f : Nat → Int → Int) : Prop := (∀ a j, ¬ (a = q 80 ∧ j = 16) → a ≠ q 88 → f a j = sI S a j) ∧ f (q 80) 16 = ((sl (sI S (q 81)) m p).length : Int) ∧ ∀ j : Nat, j < (sl (sI S (q 81)) m p).length → f (q 88) (j : Int) = (((sl (sI S (q 81)) m p).getD j 0 : Nat) : Int)
theorem LayA.init {S : Sto} {q : Nat → Nat} {m : Nat} : LayA S q m 0 (up2 (sI S) (q 80) 16 0) := by
  refine ⟨fun a j h1 h2 => ?_, up2_same _ _ _ _, fun j hj => absurd hj (Nat.not_lt_zero _)⟩
  unfold up2
  rw [if_neg h1]
theorem LayA.skip {S : Sto} {q : Nat → Nat} {m p : Nat} {f : Nat → Int → Int} (h : LayA S q m p f) (hb : ¬ m.testBit p = true) : LayA S q m (p + 1) f := by
  have e : sl (sI S (q 81)) m (p + 1) = sl (sI S (q 81)) m p := by
    show (if m.testBit p = true then _ else _) = _
    rw [if_neg hb]
  unfold LayA
  rw [e]
  exact h
theorem LayA.put {S : Sto} {q : Nat → Nat} {m p : Nat} {f : Nat → Int → Int} (hT : Top S q) (h : LayA S q m p f) (hb : m.testBit p = true) : LayA S q m (p + 1) (up2 (row1 f (q 88) (insAt (f (q 88)) (insPosN (fun j => decide (sI S (q 81) (p : Int) < sI S (q 81) (f (q 88) (j : Int)))) (sl (sI S (q 81)) m p).length) (sl (sI S (q 81)) m p).length (p : Int))) (q 80) 16 ((sl (sI S (q 81)) m p).length + 1)) := by
  have e : sl (sI S (q 81)) m (p + 1) = insL (fun x => decide (sI S (q 81) (p : Int) < sI S (q 81) (x : Int))) (sl (sI S (q 81)) m p) p := by
    show (if m.testBit p = true then _ else _) = _
    rw [if_pos hb]
  refine ⟨fun a j h1 h2 => ?_, ?_, ?_⟩
  · have h3 : up2 (row1 f (q 88) (insAt (f (q 88)) (insPosN (fun j => decide (sI S (q 81) (p : Int) < sI S (q 81) (f (q 88) (j : Int)))) (sl (sI S (q 81)) m p).length) (sl (sI S (q 81)) m p).length (p : Int))) (q 80) 16 ((sl (sI S (q 81)) m p).length + 1) a j = f a j := by
      unfold up2
      rw [if_neg h1, row1_ne _ _ _ h2]
    rw [h3]
    exact h.1 a j h1 h2
  · rw [up2_same, e, insL_len]
    rfl
  · rw [e]
    intro j hj
    have hne : q 88 ≠ q 80 := hT.ne 88 80
    rw [up2_ne _ _ _ _ hne, row1_same]
    exact ins_rep (h := fun x => (x : Int)) h.2.2 (fun j hj => by rw [h.2.2 j hj]) j hj
/-- the reference's rows for n stops -/
def Lm (S : Sto) (q : Nat → Nat) (m : Nat) : Prop := sI S (q 80) 16 = ((slm S q m).length : Int) ∧ ∀ j : Nat, j < (slm S q m).length → sI S (q 88) (j : Int) = (((slm S q m).getD j 0 : Nat) : Int)
theorem pt_9 (P : Int → Int) (l : List Nat) : pt P l 9 = 0 := rfl
theorem pt_n {P : Int → Int} {l : List Nat} {j : Nat} (h : j ≠ 9) : pt P l j = P ((l.getD j 0 : Nat) : Int) := if_neg h
/-- the table of the reference for the sets below b: from every point that isn't in the set, and from home -/
def OnM (n : Nat) (d : Nat → Nat → Int) (F : Int → Int) (b : Nat) : Prop := ∀ left src : Nat, left < b → (src < n ∧ left.testBit src = false ∨ src = 9) → F ((10 * left + src : Nat) : Int) = tr d n left src
def OnMR (n : Nat) (d : Nat → Nat → Int) (F : Int → Int) (left j : Nat) : Prop := OnM n d F left ∧ ∀ src : Nat, src < j → (src < n ∧ left.testBit src = false ∨ src = 9) → F ((10 * left + src : Nat) : Int) = tr d n left src
theorem OnM.of {n : Nat} {d : Nat → Nat → Int} {F G : Int → Int} {b : Nat} (e : ∀ j, G j = F j) (h : OnM n d F b) : OnM n d G b := fun left src h1 h2 => (e _).trans (h left src h1 h2)
theorem OnMR.put {n : Nat} {d : Nat → Nat → Int} {F : Int → Int} {left j : Nat} {v : Int} (hj : j < 10) (hn : n ≤ 9) (h : OnMR n d F left j) (hv : (j < n ∧ left.testBit j = false ∨ j = 9) → v = tr d n left j) : OnMR n d (upd1 F ((10 * left + j : Nat) : Int) v) left (j + 1) := by
  have hne : ∀ a b : Nat, (a ≠ left ∨ b ≠ j) → b < 10 → ((10 * a + b : Nat) : Int) ≠ ((10 * left + j : Nat) : Int) := by
    intro a b h1 h2 h3
    omega
  refine ⟨fun a b h1 h2 => ?_, fun src h1 h2 => ?_⟩
  · unfold upd1
    rw [if_neg (hne a b (Or.inl (by omega)) (by omega))]
    exact h.1 a b h1 h2
  · unfold upd1
    by_cases e : src = j
    · subst e; rw [if_pos rfl]; exact hv h2
    · rw [if_neg (hne left src (Or.inr e) (by omega))]
      exact h.2 src (by omega) h2
theorem OnMR.done {n : Nat} {d : Nat → Nat → Int} {F : Int → Int} {left : Nat} (hn : n ≤ 9) (h : OnMR n d F left 10) : OnM n d F (left + 1) := by
  intro a b h1 h2
  by_cases e : a = left
  · subst e; exact h.2 b (by omega) h2
  · exact h.1 a b (by omega) h2
theorem OnM.get {n : Nat} {d : Nat → Nat → Int} {F : Int → Int} {left k : Nat} (h : OnM n d F left) (hk : k < n) (hb : left.testBit k = true) : F ((10 * (left - 2 ^ k) + k : Nat) : Int) = tr d n (left - 2 ^ k) k := by
  have h1 := tb_ge hb
  have h2 := Nat.two_pow_pos k
  refine h (left - 2 ^ k) k (by omega) (Or.inl ⟨hk, ?_⟩)
  rw [tb_sub hb]
  simp
/-- the least so far in wayOn -/
def wB (d : Nat → Nat → Int) (n left src k : Nat) : Int := if left = 0 then d src 9 else mnb 1000000000 left (fun k => d src k + tr d n (left - 2 ^ k) k) k
theorem wB_f {d : Nat → Nat → Int} {n left src k : Nat} (h : ¬ left.testBit k = true) : wB d n left src k = wB d n left src (k + 1) := by
  unfold wB
  rw [mnb_f h]
theorem wB_t {d : Nat → Nat → Int} {n left src k : Nat} (h : left.testBit k = true) : wB d n left src (k + 1) = minI (wB d n left src k) (d src k + tr d n (left - 2 ^ k) k) := by
  have h0 : left ≠ 0 := by intro e; rw [e, Nat.zero_testBit] at h; cases h
  unfold wB
  rw [if_neg h0, if_neg h0, mnb_t h]
theorem wB_end {d : Nat → Nat → Int} {n left src : Nat} (hd : okD d n) (hs : src < n ∨ src = 9) (hl : left < 2 ^ n) : wB d n left src n = tr d n left src := by
  unfold wB
  by_cases h0 : left = 0
  · rw [if_pos h0, h0]; rfl
  · rw [if_neg h0, tr_step d n h0]
    obtain ⟨j, h1, h2, h3⟩ := step_ex hd hs hl h0
    exact mnb_B h1 h2 (by omega) h3
theorem wB_b {d : Nat → Nat → Int} {n left src k : Nat} (hd : okD d n) (hs : src < n ∨ src = 9) (hk : k ≤ n) : 0 ≤ wB d n left src k ∧ wB d n left src k ≤ 1000000000 := by
  unfold wB
  have h9 := hd.2 src 9 hs (Or.inr rfl)
  split
  · omega
  · have h1 := mnb_le 1000000000 left (fun k => d src k + tr d n (left - 2 ^ k) k) k
    refine ⟨?_, h1⟩
    rcases mnb_mem 1000000000 left (fun k => d src k + tr d n (left - 2 ^ k) k) k with h | ⟨i, i1, i2, i3⟩
    · omega
    · rw [i3]
      have h2 := hd.2 src i hs (Or.inl (by omega))
      have h3 := tr_nn hd (left - 2 ^ i) i (Or.inl (by omega))
      omega
/-- what the reference's routes leave -/
def MSc (q : Nat → Nat) (a : Nat) (j : Int) : Prop := (a = q 80 ∧ j = 16) ∨ a = q 88 ∨ a = q 89 ∨ a = q 90
def KeptM (S : Sto) (q : Nat → Nat) (f : Nat → Int → Int) : Prop := ∀ a j, ¬ MSc q a j → f a j = sI S a j
def noM (i : Nat) : Bool := i != 80 && i != 88 && i != 89 && i != 90
theorem nMSc {S : Sto} {q : Nat → Nat} (hT : Top S q) (i : Nat) (j : Int) (hi : i ∈ tix := by decide) (hn : noM i = true := by decide) : ¬ MSc q (q i) j := by
  simp only [noM, Bool.and_eq_true, bne_iff_ne] at hn
  intro h
  rcases h with h | h | h | h
  · exact hT.ne i 80 hi (by decide) (by omega) h.1
  · exact hT.ne i 88 hi (by decide) (by omega) h
  · exact hT.ne i 89 hi (by decide) (by omega) h
  · exact hT.ne i 90 hi (by decide) (by omega) h
theorem nMSc0 {S : Sto} {q : Nat → Nat} (hT : Top S q) (j : Int) (hj : j ≠ 16 := by decide) : ¬ MSc q (q 80) j := by
  intro h
  rcases h with h | h | h | h
  · exact hj h.2
  · exact hT.ne 80 88 (by decide) (by decide) (by decide) h
  · exact hT.ne 80 89 (by decide) (by decide) (by decide) h
  · exact hT.ne 80 90 (by decide) (by decide) (by decide) h
theorem KeptM.at {S : Sto} {q : Nat → Nat} {f : Nat → Int → Int} (h : KeptM S q f) (hT : Top S q) (i : Nat) (j : Int) (hi : i ∈ tix := by decide) (hn : noM i = true := by decide) : f (q i) j = sI S (q i) j := h _ _ (nMSc hT i j hi hn)
theorem KeptM.at0 {S : Sto} {q : Nat → Nat} {f : Nat → Int → Int} (h : KeptM S q f) (hT : Top S q) (j : Int) (hj : j ≠ 16 := by decide) : f (q 80) j = sI S (q 80) j := h _ _ (nMSc0 hT j hj)
theorem okM_okDm {S : Sto} {q : Nat → Nat} {m : Nat} (hC : CfM S q) (h : okM (sI S (q 80) 2) (sI S (q 81)) m) : okD (dmM S q m) (slm S q m).length := okM_okD ⟨hC.2.2.1, hC.2.2.2.1⟩ ⟨hC.2.2.2.2.1, hC.2.2.2.2.2⟩ h
theorem mEnv {S : Sto} {q : Nat → Nat} {f : Nat → Int → Int} (m : Nat) (e81 : f (q 81) = sI S (q 81)) (e2 : f (q 80) 2 = sI S (q 80) 2) (e3 : f (q 80) 3 = sI S (q 80) 3) : slm (wI S f) q m = slm S q m ∧ dmM (wI S f) q m = dmM S q m := by
  refine ⟨?_, ?_⟩
  · show sl (f (q 81)) m 20 = _
    rw [e81]
  · show dd (f (q 80) 2) (f (q 80) 3) (f (q 81)) (sl (f (q 81)) m 20) = _
    rw [e81, e2, e3]
theorem LayA.row89 {S : Sto} {q : Nat → Nat} {m : Nat} {f : Nat → Int → Int} (hT : Top S q) (hC : CfM S q) (hmm : okM (sI S (q 80) 2) (sI S (q 81)) m) (h : LayA S q m 20 f) (F : Int → Int) : CfM (wI S (row1 f (q 89) F)) q ∧ okM (sI (wI S (row1 f (q 89) F)) (q 80) 2) (sI (wI S (row1 f (q 89) F)) (q 81)) m ∧ Lm (wI S (row1 f (q 89) F)) q m ∧ slm (wI S (row1 f (q 89) F)) q m = slm S q m ∧ dmM (wI S (row1 f (q 89) F)) q m = dmM S q m := by
  have e80 : ∀ k : Int, k ≠ 16 → row1 f (q 89) F (q 80) k = sI S (q 80) k := fun k hk => (row1_ne _ _ _ (hT.ne 80 89)).trans (h.1 _ _ (fun z => hk z.2) (hT.ne 80 88))
  have e81 : row1 f (q 89) F (q 81) = sI S (q 81) := funext fun k => (row1_ne _ _ _ (hT.ne 81 89)).trans (h.1 _ _ (fun z => hT.ne 81 80 (by decide) (by decide) (by decide) z.1) (hT.ne 81 88))
  obtain ⟨k1, k2⟩ := mEnv (f := row1 f (q 89) F) m e81 (e80 2 (by decide)) (e80 3 (by decide))
  refine ⟨hC.of (e80 1 (by decide)) (e80 2 (by decide)) (e80 3 (by decide)), ?_, ?_, k1, k2⟩
  · show okM (row1 f (q 89) F (q 80) 2) (row1 f (q 89) F (q 81)) m
    rw [e81, e80 2 (by decide)]
    exact hmm
  · unfold Lm
    rw [k1]
    exact ⟨(row1_ne _ _ _ (hT.ne 80 89)).trans h.2.1, fun j hj => (row1_ne _ _ _ (hT.ne 88 89)).trans (h.2.2 j hj)⟩
theorem LayA.kept {S : Sto} {q : Nat → Nat} {m p : Nat} {f : Nat → Int → Int} (h : LayA S q m p f) (F : Int → Int) : KeptM S q (row1 f (q 89) F) := fun a j hn => (row1_ne _ _ _ (fun e => hn (Or.inr (Or.inr (Or.inl e))))).trans (h.1 a j (fun e => hn (Or.inl e)) (fun e => hn (Or.inr (Or.inl e))))
