/-! ===== more of the reference's words ===== -/
/-- j is a next stop as good as the best -/
def sat (d : Nat → Nat → Int) (n left at_ j : Nat) : Prop := left.testBit j = true ∧ d at_ j + tr d n (left - 2 ^ j) j = tr d n left at_
/-- w is the first such from k on; -1: none -/
def isNx (d : Nat → Nat → Int) (n left at_ k : Nat) (w : Int) : Prop := (w = -1 ∧ ∀ i, k ≤ i → i < n → ¬ sat d n left at_ i) ∨ ∃ i : Nat, w = (i : Int) ∧ k ≤ i ∧ i < n ∧ sat d n left at_ i ∧ ∀ j, k ≤ j → j < i → ¬ sat d n left at_ j
theorem isNx.init {d : Nat → Nat → Int} {n left at_ : Nat} : isNx d n left at_ n (-1) := Or.inl ⟨rfl, fun i h1 h2 => by omega⟩
theorem isNx.yes {d : Nat → Nat → Int} {n left at_ k : Nat} {w : Int} (hk : k < n) (hs : sat d n left at_ k) : isNx d n left at_ k (k : Int) := Or.inr ⟨k, rfl, Nat.le_refl _, hk, hs, fun j h1 h2 => by omega⟩
theorem isNx.no {d : Nat → Nat → Int} {n left at_ k : Nat} {w : Int} (h : isNx d n left at_ (k + 1) w) (hs : ¬ sat d n left at_ k) : isNx d n left at_ k w := by
  rcases h with ⟨h1, h2⟩ | ⟨i, h1, h2, h3, h4, h5⟩
  · refine Or.inl ⟨h1, fun i h3 h4 => ?_⟩
    by_cases e : i = k
    · subst e; exact hs
    · exact h2 i (by omega) h4
  · refine Or.inr ⟨i, h1, by omega, h3, h4, fun j h6 h7 => ?_⟩
    by_cases e : j = k
    · subst e; exact hs
    · exact h5 j (by omega) h7
theorem isNx.rt {d : Nat → Nat → Int} {n i : Nat} {w : Int} (hd : okD d n) (hi : i < n) (h : isNx d n (rtS d n i).2 (rtS d n i).1 0 w) : w = ((rtS d n (i + 1)).1 : Int) := by
  obtain ⟨b1, b2, b3, b4⟩ := rtS_bit hd hi
  have hs : sat d n (rtS d n i).2 (rtS d n i).1 (rtS d n (i + 1)).1 := ⟨b2, b3⟩
  have hn : ∀ j, j < (rtS d n (i + 1)).1 → ¬ sat d n (rtS d n i).2 (rtS d n i).1 j := fun j hj hsj => by
    have := b4 j hj hsj.1
    have := hsj.2
    omega
  rcases h with ⟨h1, h2⟩ | ⟨j, h1, h2, h3, h4, h5⟩
  · exact absurd hs (h2 _ (Nat.zero_le _) b1)
  · rcases Nat.lt_trichotomy j (rtS d n (i + 1)).1 with h6 | h6 | h6
    · exact absurd h4 (hn j h6)
    · rw [h1, h6]
    · exact absurd hs (h5 _ (Nat.zero_le _) h6)
/-- the farthest position of the set m in an aisle, among the first products; 0: none -/
def fr (P : Int → Int) (m : Nat) (ai : Int) : Nat → Int
  | 0 => 0
  | p + 1 => if m.testBit p = true ∧ P (p : Int) / 100 = ai ∧ fr P m ai p < P (p : Int) % 100 then P (p : Int) % 100 else fr P m ai p
theorem fr_b (P : Int → Int) (m : Nat) (ai : Int) (n : Nat) : 0 ≤ fr P m ai n ∧ fr P m ai n ≤ 99 := by
  induction n with
  | zero => show 0 ≤ (0 : Int) ∧ (0 : Int) ≤ 99; omega
  | succ n ih => unfold fr; split <;> omega
theorem fr_t {P : Int → Int} {m : Nat} {ai : Int} {p : Nat} (h1 : m.testBit p = true) (h2 : P (p : Int) / 100 = ai) (h3 : fr P m ai p < P (p : Int) % 100) : P (p : Int) % 100 = fr P m ai (p + 1) := by
  unfold fr
  rw [if_pos ⟨h1, h2, h3⟩]
theorem fr_f {P : Int → Int} {m : Nat} {ai : Int} {p : Nat} (h : ¬ m.testBit p = true ∨ ¬ P (p : Int) / 100 = ai ∨ P (p : Int) % 100 ≤ fr P m ai p) : fr P m ai p = fr P m ai (p + 1) := by
  show _ = (if m.testBit p = true ∧ P (p : Int) / 100 = ai ∧ fr P m ai p < P (p : Int) % 100 then P (p : Int) % 100 else fr P m ai p)
  rw [if_neg]
  rintro ⟨a, b, c⟩
  rcases h with h | h | h
  · exact h a
  · exact h b
  · omega
def zfr (z : Sig) (b ai : Int) : Int := fr (zP z) (zpd z b) ai 20
/-- the last aisle with places, and how many have places, among the first -/
def lsA (z : Sig) (b : Int) : Nat → Int
  | 0 => 0
  | a + 1 => if 0 < zfr z b (a : Int) then (a : Int) else lsA z b a
def wtA (z : Sig) (b : Int) : Nat → Int
  | 0 => 0
  | a + 1 => wtA z b a + (if 0 < zfr z b (a : Int) then 1 else 0)
theorem lsA_b (z : Sig) (b : Int) (a : Nat) : 0 ≤ lsA z b a ∧ lsA z b a ≤ a ∧ 0 ≤ wtA z b a ∧ wtA z b a ≤ a := by
  induction a with
  | zero => show 0 ≤ (0 : Int) ∧ (0 : Int) ≤ ((0 : Nat) : Int) ∧ 0 ≤ (0 : Int) ∧ (0 : Int) ≤ ((0 : Nat) : Int); omega
  | succ a ih => unfold lsA wtA; split <;> omega
def zth (z : Sig) (b : Int) : Int := 2 * lsA z b (zA z).toNat * zG z + (wtA z b (zA z).toNat - 1) * (zN z + 1) + (if wtA z b (zA z).toNat % 2 = 1 then 2 * zfr z b (lsA z b (zA z).toNat) else zN z + 1)
/-- how many of the first batches have places in an aisle -/
def ciA (z : Sig) (ai : Int) : Nat → Int
  | 0 => 0
  | b + 1 => ciA z ai b + (if 0 < zfr z (b : Int) ai then 1 else 0)
theorem ciA_b (z : Sig) (ai : Int) (n : Nat) : 0 ≤ ciA z ai n ∧ ciA z ai n ≤ n := by
  induction n with
  | zero => show 0 ≤ (0 : Int) ∧ (0 : Int) ≤ ((0 : Nat) : Int); omega
  | succ n ih => unfold ciA; split <;> omega
/-- a cell of the reference -/
def isMod (q : Nat → Nat) (a : Nat) : Prop := ∃ i, 80 ≤ i ∧ i ≤ 92 ∧ a = q i
theorem tix_mod : ∀ i : Nat, 80 ≤ i → i ≤ 92 → i ∈ tix := by
  intro i h1 h2
  have : ∀ j : Nat, j < 13 → 80 + j ∈ tix := by decide
  have h3 := this (i - 80) (by omega)
  rw [show 80 + (i - 80) = i by omega] at h3
  exact h3
/-- a call of the reference: what it throws, the state behind it, nothing else changed -/
def MP (S : Sto) (q : Nat → Nat) (u : Sto) (code : Int) (z : Sig) : Prop := sL u = sL S ∧ sK u = sK S ∧ sN u = sN S ∧ sP u = sP S ∧ (∀ a, ¬ isMod q a → sI u a = sI S a) ∧ (∀ a, a ≠ q 80 → sJ u a = sJ S a) ∧ sI u (q 80) 0 = code ∧ sgM u q = z ∧ Cn u q
theorem MP.top {S u : Sto} {q : Nat → Nat} {c : Int} {z : Sig} (h : MP S q u c z) (hT : Top S q) : Top u q := hT.mono (fun b hb => ⟨h.1 ▸ hb, by rw [h.2.1], by rw [h.2.2.1]⟩) (fun i _ k => by rw [h.2.2.2.1])
theorem MP.trans {S u w : Sto} {q : Nat → Nat} {c c' : Int} {z z' : Sig} (h : MP S q u c z) (h' : MP u q w c' z') : MP S q w c' z' := ⟨h'.1.trans h.1, h'.2.1.trans h.2.1, h'.2.2.1.trans h.2.2.1, h'.2.2.2.1.trans h.2.2.2.1, fun a ha => (h'.2.2.2.2.1 a ha).trans (h.2.2.2.2.1 a ha), fun a ha => (h'.2.2.2.2.2.1 a ha).trans (h.2.2.2.2.2.1 a ha), h'.2.2.2.2.2.2.1, h'.2.2.2.2.2.2.2.1, h'.2.2.2.2.2.2.2.2⟩
theorem MP.thr {S : Sto} {q : Nat → Nat} (hT : Top S q) (hC : Cn S q) (c : Int) : MP S q (uI S (q 80) 0 c) c (sgM S q) := by
  have e : ∀ i, i ∈ tix → i ≠ 80 → up2 (sI S) (q 80) 0 c (q i) = sI S (q i) := fun i hi hn => up2_row _ _ _ (hT.ne i 80 hi (by decide) hn)
  have e2 : ∀ k : Int, k ≠ 0 → up2 (sI S) (q 80) 0 c (q 80) k = sI S (q 80) k := fun k hk => up2_nk _ _ _ _ hk
  have hs : sgM (uI S (q 80) 0 c) q = sgM S q := by
    show ((up2 (sI S) (q 80) 0 c (q 80) 1, up2 (sI S) (q 80) 0 c (q 80) 2, up2 (sI S) (q 80) 0 c (q 80) 3, up2 (sI S) (q 80) 0 c (q 80) 4), ((up2 (sI S) (q 80) 0 c (q 80) 6).toNat, (up2 (sI S) (q 80) 0 c (q 80) 13).toNat, up2 (sI S) (q 80) 0 c (q 80) 14, sJ S (q 80) 15), up2 (sI S) (q 80) 0 c (q 81), up2 (sI S) (q 80) 0 c (q 82), up2 (sI S) (q 80) 0 c (q 83), up2 (sI S) (q 80) 0 c (q 84), up2 (sI S) (q 80) 0 c (q 85), up2 (sI S) (q 80) 0 c (q 86), up2 (sI S) (q 80) 0 c (q 87)) = _
    rw [e2 1 (by decide), e2 2 (by decide), e2 3 (by decide), e2 4 (by decide), e2 6 (by decide), e2 13 (by decide), e2 14 (by decide), e 81 (by decide) (by decide), e 82 (by decide) (by decide), e 83 (by decide) (by decide), e 84 (by decide) (by decide), e 85 (by decide) (by decide), e 86 (by decide) (by decide), e 87 (by decide) (by decide)]
    rfl
  refine ⟨rfl, rfl, rfl, rfl, fun a ha => up2_row _ _ _ (fun e9 => ha ⟨80, by omega, by omega, e9⟩), fun _ _ => rfl, up2_same _ _ _ _, hs, ?_⟩
  unfold Cn
  rw [hs]
  exact ⟨(e2 6 (by decide)).trans hC.1, (e2 13 (by decide)).trans hC.2⟩
theorem MP.kept {S : Sto} {q : Nat → Nat} {f : Nat → Int → Int} (hT : Top S q) (hC : Cn S q) (h : KeptM S q f) : MP S q (wI S f) (sI S (q 80) 0) (sgM S q) := by
  refine ⟨rfl, rfl, rfl, rfl, fun a ha => funext fun j => h a j ?_, fun _ _ => rfl, h.at0 hT 0, sgM_kept hT h, hC.kept hT h⟩
  rintro (e | e | e | e)
  · exact ha ⟨80, by omega, by omega, e.1⟩
  · exact ha ⟨88, by omega, by omega, e⟩
  · exact ha ⟨89, by omega, by omega, e⟩
  · exact ha ⟨90, by omega, by omega, e⟩
theorem MP.refl {S : Sto} {q : Nat → Nat} (hC : Cn S q) : MP S q S (sI S (q 80) 0) (sgM S q) := ⟨rfl, rfl, rfl, rfl, fun _ _ => rfl, fun _ _ => rfl, rfl, rfl, hC⟩
/-- what a state is after a change of the reference's rows -/
theorem MP.rows {S : Sto} {q : Nat → Nat} {f : Nat → Int → Int} {z : Sig} (hT : Top S q) (hf : ∀ a, ¬ isMod q a → f a = sI S a) (h0 : f (q 80) 1 = zA z ∧ f (q 80) 2 = zN z ∧ f (q 80) 3 = zG z ∧ f (q 80) 4 = zC z) (h1 : f (q 80) 6 = ((zo z : Nat) : Int) ∧ f (q 80) 13 = ((zb z : Nat) : Int) ∧ f (q 80) 14 = zw z ∧ sJ S (q 80) 15 = za z) (h2 : f (q 81) = zP z ∧ f (q 82) = zdu z ∧ f (q 83) = zst z ∧ f (q 84) = zbt z ∧ f (q 85) = zmn z ∧ f (q 86) = zpr z ∧ f (q 87) = zqt z) : MP S q (wI S f) (f (q 80) 0) z := by
  have hs : sgM (wI S f) q = z := by
    show ((f (q 80) 1, f (q 80) 2, f (q 80) 3, f (q 80) 4), ((f (q 80) 6).toNat, (f (q 80) 13).toNat, f (q 80) 14, sJ S (q 80) 15), f (q 81), f (q 82), f (q 83), f (q 84), f (q 85), f (q 86), f (q 87)) = _
    rw [h0.1, h0.2.1, h0.2.2.1, h0.2.2.2, h1.1, h1.2.1, h1.2.2.1, h1.2.2.2, h2.1, h2.2.1, h2.2.2.1, h2.2.2.2.1, h2.2.2.2.2.1, h2.2.2.2.2.2.1, h2.2.2.2.2.2.2]
    rfl
  refine ⟨rfl, rfl, rfl, rfl, hf, fun _ _ => rfl, rfl, hs, ?_⟩
  unfold Cn
  rw [hs]
  exact ⟨h1.1, h1.2.1⟩
theorem isNx.b {d : Nat → Nat → Int} {n left at_ k : Nat} {w : Int} (h : isNx d n left at_ k w) : -1 ≤ w ∧ w < (n : Int) ∨ w = -1 := by
  rcases h with ⟨h1, -⟩ | ⟨i, h1, h2, h3, -, -⟩
  · exact Or.inr h1
  · exact Or.inl ⟨by omega, by omega⟩
theorem isNx.no' {d : Nat → Nat → Int} {n left at_ kk : Nat} {w : Int} (hk : 0 < kk) (h : isNx d n left at_ kk w) (hs : ¬ sat d n left at_ (kk - 1)) : isNx d n left at_ (kk - 1) w := by
  obtain ⟨k, rfl⟩ : ∃ k, kk = k + 1 := ⟨kk - 1, by omega⟩
  exact h.no hs
theorem rtS_out {d : Nat → Nat → Int} {n : Nat} (hd : okD d n) : ∀ i, i ≤ n → ((rtS d n i).1 < n ∧ (rtS d n i).2.testBit (rtS d n i).1 = false) ∨ (rtS d n i).1 = 9 := by
  intro i hi
  cases i with
  | zero => exact Or.inr rfl
  | succ i =>
    obtain ⟨b1, b2, -, -⟩ := rtS_bit hd (i := i) (by omega)
    refine Or.inl ⟨b1, ?_⟩
    show ((rtS d n i).2 - 2 ^ (rtS d n (i + 1)).1).testBit (rtS d n (i + 1)).1 = false
    rw [tb_sub b2]
    simp
theorem OnM.get2 {n : Nat} {d : Nat → Nat → Int} {F : Int → Int} {left k b : Nat} (h : OnM n d F b) (hl : left < b) (hk : k < n) (hb : left.testBit k = true) : F ((10 * (left - 2 ^ k) + k : Nat) : Int) = tr d n (left - 2 ^ k) k := by
  refine h (left - 2 ^ k) k (Nat.lt_of_le_of_lt (Nat.sub_le _ _) hl) (Or.inl ⟨hk, ?_⟩)
  rw [tb_sub hb]
  simp
theorem mAll {S : Sto} {q : Nat → Nat} {m : Nat} {f : Nat → Int → Int} (hC : CfM S q) (hmm : okM (sI S (q 80) 2) (sI S (q 81)) m) (e81 : f (q 81) = sI S (q 81)) (e1 : f (q 80) 1 = sI S (q 80) 1) (e2 : f (q 80) 2 = sI S (q 80) 2) (e3 : f (q 80) 3 = sI S (q 80) 3) (hc : f (q 80) 16 = ((slm S q m).length : Int)) (hst : ∀ j : Nat, j < (slm S q m).length → f (q 88) (j : Int) = (((slm S q m).getD j 0 : Nat) : Int)) : CfM (wI S f) q ∧ okM (sI (wI S f) (q 80) 2) (sI (wI S f) (q 81)) m ∧ Lm (wI S f) q m ∧ slm (wI S f) q m = slm S q m ∧ dmM (wI S f) q m = dmM S q m := by
  obtain ⟨k1, k2⟩ := mEnv (f := f) m e81 e2 e3
  refine ⟨hC.of e1 e2 e3, ?_, ?_, k1, k2⟩
  · show okM (f (q 80) 2) (f (q 81)) m
    rw [e81, e2]
    exact hmm
  · unfold Lm
    rw [k1]
    exact ⟨hc, hst⟩
theorem KeptM.row90 {S : Sto} {q : Nat → Nat} {f : Nat → Int → Int} (h : KeptM S q f) (F : Int → Int) : KeptM S q (row1 f (q 90) F) := fun a j hn => (row1_ne _ _ _ (fun e => hn (Or.inr (Or.inr (Or.inr e))))).trans (h a j hn)
theorem upd1_next {F : Int → Int} {g : Nat → Int} {i : Nat} (h : ∀ x : Nat, x < i → F (x : Int) = g x) : ∀ x : Nat, x < i + 1 → upd1 F (i : Int) (g i) (x : Int) = g x := by
  intro x hx
  unfold upd1
  by_cases e : x = i
  · subst e; rw [if_pos rfl]
  · rw [if_neg (by omega)]; exact h x (by omega)
