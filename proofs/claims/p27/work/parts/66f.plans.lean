/-! ===== the law's rows, changed ===== -/
def LRn (S : Sto) (q : Nat → Nat) (z : Sig) : Prop := LRq S q z ∧ LRp S q z ∧ LRo S q z ∧ zo z ≤ 12 ∧ zC z ≤ 6
def LRt (S : Sto) (q : Nat → Nat) (z : Sig) : Prop := ∀ p : Nat, p < 20 → sI S (q 82) (p : Int) = ztv z (p : Int)
theorem LR.n {S : Sto} {q : Nat → Nat} {z : Sig} (h : LR S q z) : LRn S q z := ⟨h.1, h.2.1, h.2.2.1, h.2.2.2.2.1, h.2.2.2.2.2⟩
theorem LR.t {S : Sto} {q : Nat → Nat} {z : Sig} (h : LR S q z) : LRt S q z := h.2.2.2.1
theorem LRn.lr {S : Sto} {q : Nat → Nat} {z : Sig} (h : LRn S q z) (ht : LRt S q z) : LR S q z := ⟨h.1, h.2.1, h.2.2.1, ht, h.2.2.2.1, h.2.2.2.2⟩
/-- but for the law's rows all is as it was -/
def Lo (S : Sto) (q : Nat → Nat) (f : Nat → Int → Int) : Prop := ∀ c, (∀ i : Nat, 80 ≤ i → i ≤ 88 → c ≠ q i) → f c = sI S c
theorem Lo.refl {S : Sto} {q : Nat → Nat} : Lo S q (sI S) := fun _ _ => rfl
theorem Lo.kr {S : Sto} {q : Nat → Nat} {f h : Nat → Int → Int} (hf : Lo S q f) (hk : KR (wI S f) q h) : Lo S q h := fun c hc => (funext fun j => hk c j (hc 87 (by omega) (by omega)) (hc 88 (by omega) (by omega))).trans (hf c hc)
theorem Lo.up {S : Sto} {q : Nat → Nat} {f : Nat → Int → Int} (hf : Lo S q f) (i : Nat) (k v : Int) (h1 : 80 ≤ i := by decide) (h2 : i ≤ 88 := by decide) : Lo S q (up2 f (q i) k v) := fun c hc => (up2_row _ _ _ (hc i h1 h2)).trans (hf c hc)
theorem KR.trans {S : Sto} {q : Nat → Nat} {f h : Nat → Int → Int} (hf : KR S q f) (hk : KR (wI S f) q h) : KR S q h := fun c j c1 c2 => (hk c j c1 c2).trans (hf c j c1 c2)
theorem KR.refl {S : Sto} {q : Nat → Nat} : KR S q (sI S) := fun _ _ _ _ => rfl
theorem LRn.kr {S : Sto} {q : Nat → Nat} {z : Sig} {f : Nat → Int → Int} (hT : Top S q) (h : LRn S q z) (hk : KR S q f) : LRn (wI S f) q z := by
  unfold LRn LRq LRp LRo
  rw [show sI (wI S f) (q 80) = sI S (q 80) from hk.at hT 80, show sI (wI S f) (q 81) = sI S (q 81) from hk.at hT 81, show sI (wI S f) (q 83) = sI S (q 83) from hk.at hT 83, show sI (wI S f) (q 84) = sI S (q 84) from hk.at hT 84, show sI (wI S f) (q 85) = sI S (q 85) from hk.at hT 85]
  exact h
theorem LR.kr {S : Sto} {q : Nat → Nat} {z : Sig} {f : Nat → Int → Int} (hT : Top S q) (h : LR S q z) (hk : KR S q f) : LR (wI S f) q z :=
  (h.n.kr hT hk).lr (fun p hp => (congrFun (hk.at hT 82) _).trans (h.t p hp))
def sst (z : Sig) (F : Int → Int) : Sig := (z.1, z.2.1, zP z, zdu z, F, zbt z, zmn z, zpr z, zqt z)
def sbt (z : Sig) (F : Int → Int) : Sig := (z.1, z.2.1, zP z, zdu z, zst z, F, zmn z, zpr z, zqt z)
def snb (z : Sig) (n : Nat) : Sig := (z.1, (zo z, n, zw z, za z), zP z, zdu z, zst z, zbt z, zmn z, zpr z, zqt z)
def ssw (z : Sig) (v : Int) : Sig := (z.1, (zo z, zb z, v, za z), zP z, zdu z, zst z, zbt z, zmn z, zpr z, zqt z)
def ssa (z : Sig) (v : Int) : Sig := (z.1, (zo z, zb z, zw z, v), zP z, zdu z, zst z, zbt z, zmn z, zpr z, zqt z)
section
variable {S : Sto} {q : Nat → Nat} {z : Sig} {f : Nat → Int → Int}
theorem upd1_nat {F : Int → Int} {k o : Nat} {v : Int} : upd1 F (k : Int) v (o : Int) = if o = k then v else F (o : Int) := by
  unfold upd1
  by_cases e : o = k
  · rw [if_pos e, if_pos (by omega)]
  · rw [if_neg e, if_neg (by omega)]
theorem LRn.row83 (hT : Top S q) (h : LRn (wI S f) q z) (i v : Int) : LRq (wI S (up2 f (q 83) i v)) q z ∧ LRp (wI S (up2 f (q 83) i v)) q z ∧ zo z ≤ 12 ∧ zC z ≤ 6 := by
  unfold LRq LRp
  rw [show sI (wI S (up2 f (q 83) i v)) (q 80) = f (q 80) from up2_row _ _ _ (hT.ne 80 83), show sI (wI S (up2 f (q 83) i v)) (q 81) = f (q 81) from up2_row _ _ _ (hT.ne 81 83), show sI (wI S (up2 f (q 83) i v)) (q 84) = f (q 84) from up2_row _ _ _ (hT.ne 84 83), show sI (wI S (up2 f (q 83) i v)) (q 85) = f (q 85) from up2_row _ _ _ (hT.ne 85 83)]
  exact ⟨h.1, h.2.1, h.2.2.2⟩
theorem LRn.st (hT : Top S q) (h : LRn (wI S f) q z) (k : Nat) (v : Int) : LRn (wI S (up2 f (q 83) ((4 * k + 1 : Nat) : Int) v)) q (sst z (upd1 (zst z) (k : Int) v)) := by
  obtain ⟨h1, h2, h3⟩ := h.row83 hT ((4 * k + 1 : Nat) : Int) v
  refine ⟨h1, h2, fun o ho => ?_, h3⟩
  obtain ⟨a1, a2, a3, a4⟩ := h.2.2.1 o ho
  refine ⟨(up2_nk _ _ _ _ (by omega)).trans a1, ?_, (up2_nk _ _ _ _ (by omega)).trans a3, (up2_nk _ _ _ _ (by omega)).trans a4⟩
  show up2 f (q 83) _ v (q 83) _ = upd1 (zst z) (k : Int) v (o : Int)
  rw [upd1_nat]
  by_cases e : o = k
  · rw [if_pos e, e, up2_same]
  · rw [if_neg e, up2_nk _ _ _ _ (by omega)]; exact a2
theorem LRn.bt (hT : Top S q) (h : LRn (wI S f) q z) (k : Nat) (v : Int) : LRn (wI S (up2 f (q 83) ((4 * k + 2 : Nat) : Int) v)) q (sbt z (upd1 (zbt z) (k : Int) v)) := by
  obtain ⟨h1, h2, h3⟩ := h.row83 hT ((4 * k + 2 : Nat) : Int) v
  refine ⟨h1, h2, fun o ho => ?_, h3⟩
  obtain ⟨a1, a2, a3, a4⟩ := h.2.2.1 o ho
  refine ⟨(up2_nk _ _ _ _ (by omega)).trans a1, (up2_nk _ _ _ _ (by omega)).trans a2, ?_, (up2_nk _ _ _ _ (by omega)).trans a4⟩
  show up2 f (q 83) _ v (q 83) _ = upd1 (zbt z) (k : Int) v (o : Int)
  rw [upd1_nat]
  by_cases e : o = k
  · rw [if_pos e, e, up2_same]
  · rw [if_neg e, up2_nk _ _ _ _ (by omega)]; exact a3
theorem LRn.row80 (hT : Top S q) (h : LRn (wI S f) q z) (i v : Int) : LRp (wI S (up2 f (q 80) i v)) q z ∧ LRo (wI S (up2 f (q 80) i v)) q z ∧ zo z ≤ 12 ∧ zC z ≤ 6 := by
  unfold LRp LRo
  rw [show sI (wI S (up2 f (q 80) i v)) (q 81) = f (q 81) from up2_row _ _ _ (hT.ne 81 80), show sI (wI S (up2 f (q 80) i v)) (q 83) = f (q 83) from up2_row _ _ _ (hT.ne 83 80), show sI (wI S (up2 f (q 80) i v)) (q 84) = f (q 84) from up2_row _ _ _ (hT.ne 84 80), show sI (wI S (up2 f (q 80) i v)) (q 85) = f (q 85) from up2_row _ _ _ (hT.ne 85 80)]
  exact h.2
theorem LRn.nb (hT : Top S q) (h : LRn (wI S f) q z) (n : Nat) {v : Int} (hv : v = (n : Int)) : LRn (wI S (up2 f (q 80) 2 v)) q (snb z n) := by
  obtain ⟨h2, h3, h4⟩ := h.row80 hT 2 v
  obtain ⟨b0, b1, b2, b3, b4, b5, b6, b7⟩ := h.1
  exact ⟨⟨(up2_nk _ _ _ _ (by decide)).trans b0, (up2_nk _ _ _ _ (by decide)).trans b1, (up2_same _ _ _ _).trans hv, (up2_nk _ _ _ _ (by decide)).trans b3, (up2_nk _ _ _ _ (by decide)).trans b4, (up2_nk _ _ _ _ (by decide)).trans b5, (up2_nk _ _ _ _ (by decide)).trans b6, (up2_nk _ _ _ _ (by decide)).trans b7⟩, h2, h3, h4⟩
theorem LRn.sw (hT : Top S q) (h : LRn (wI S f) q z) (v : Int) : LRn (wI S (up2 f (q 80) 3 v)) q (ssw z v) := by
  obtain ⟨h2, h3, h4⟩ := h.row80 hT 3 v
  obtain ⟨b0, b1, b2, b3, b4, b5, b6, b7⟩ := h.1
  exact ⟨⟨(up2_nk _ _ _ _ (by decide)).trans b0, (up2_nk _ _ _ _ (by decide)).trans b1, (up2_nk _ _ _ _ (by decide)).trans b2, up2_same _ _ _ _, (up2_nk _ _ _ _ (by decide)).trans b4, (up2_nk _ _ _ _ (by decide)).trans b5, (up2_nk _ _ _ _ (by decide)).trans b6, (up2_nk _ _ _ _ (by decide)).trans b7⟩, h2, h3, h4⟩
theorem LRn.sa (hT : Top S q) (h : LRn (wI S f) q z) (v : Int) : LRn (wI S (up2 f (q 80) 4 v)) q (ssa z v) := by
  obtain ⟨h2, h3, h4⟩ := h.row80 hT 4 v
  obtain ⟨b0, b1, b2, b3, b4, b5, b6, b7⟩ := h.1
  exact ⟨⟨(up2_nk _ _ _ _ (by decide)).trans b0, (up2_nk _ _ _ _ (by decide)).trans b1, (up2_nk _ _ _ _ (by decide)).trans b2, (up2_nk _ _ _ _ (by decide)).trans b3, up2_same _ _ _ _, (up2_nk _ _ _ _ (by decide)).trans b5, (up2_nk _ _ _ _ (by decide)).trans b6, (up2_nk _ _ _ _ (by decide)).trans b7⟩, h2, h3, h4⟩
theorem LRt.up (hT : Top S q) {z' : Sig} (h : LRt (wI S f) q z) (i : Nat) (k v : Int) (he : ∀ p : Nat, p < 20 → ztv z' (p : Int) = ztv z (p : Int)) (hi : i ∈ tix := by decide) (hn : i ≠ 82 := by decide) : LRt (wI S (up2 f (q i) k v)) q z' := fun p hp => (congrFun (up2_row _ _ _ (hT.ne 82 i (by decide) hi hn.symm)) _).trans ((h p hp).trans (he p hp).symm)
end
/-! ===== the first step of a wave: each taken order a batch ===== -/
def zwk (z : Sig) (t : Int) (k : Nat) : Sig := (z.1, (zo z, (tkW z t k).1, zw z, za z), zP z, zdu z, (tkW z t k).2.1, (tkW z t k).2.2, zmn z, zpr z, zqt z)
theorem zwk_0 {z : Sig} {t : Int} (hz : zb z = 0) : zwk z t 0 = z := by
  have e : ((zo z, 0, zw z, za z) : Nat × Nat × Int × Int) = z.2.1 := by
    rw [show z.2.1 = (zo z, zb z, zw z, za z) from rfl, hz]
  show ((z.1, (zo z, 0, zw z, za z), zP z, zdu z, zst z, zbt z, zmn z, zpr z, zqt z) : Sig) = z
  rw [e]
theorem zwk_f {z : Sig} {t : Int} {k : Nat} (h : ¬ isT z t k) : zwk z t (k + 1) = zwk z t k := by
  have e : tkW z t (k + 1) = tkW z t k := if_neg h
  unfold zwk
  rw [e]
theorem zwk_t {z : Sig} {t : Int} {k : Nat} (h : isT z t k) : zwk z t (k + 1) = snb (sbt (sst (zwk z t k) (upd1 (tkW z t k).2.1 (k : Int) 1)) (upd1 (tkW z t k).2.2 (k : Int) ((tkW z t k).1 : Int))) ((tkW z t k).1 + 1) := by
  have e : tkW z t (k + 1) = ((tkW z t k).1 + 1, upd1 (tkW z t k).2.1 (k : Int) 1, upd1 (tkW z t k).2.2 (k : Int) ((tkW z t k).1 : Int)) := if_pos h
  unfold zwk
  rw [e]
  rfl
theorem zwk_tv {z : Sig} {t : Int} {k : Nat} (hk : k ≤ zo z) (p : Int) : ztv (zwk z t k) p = ztv z p := by
  show tv (tkW z t k).2.1 (zmn z) (zpr z) (zqt z) p (zo z) = tv (zst z) (zmn z) (zpr z) (zqt z) p (zo z)
  obtain ⟨h1, h2, -⟩ := tkW_in z t k
  refine tv_congr _ fun o ho => ⟨?_, fun _ => rfl⟩
  by_cases e : o < k
  · by_cases e2 : isT z t o
    · rw [(h1 o e e2).1]
      have := e2.1
      omega
    · rw [(h2 o e e2).1]
  · rw [(tkW_at z t k (o : Int) (by omega)).1]
theorem LR.tk {S : Sto} {q : Nat → Nat} {z : Sig} {f : Nat → Int → Int} {t : Int} {k : Nat} (hT : Top S q) (hk : k < zo z) (hi : isT z t k) (h : LR (wI S f) q (zwk z t k)) : LR (wI S (up2 (up2 (up2 f (q 83) ((4 * k + 1 : Nat) : Int) 1) (q 83) ((4 * k + 2 : Nat) : Int) (((tkW z t k).1 : Nat) : Int)) (q 80) 2 ((((tkW z t k).1 : Nat) : Int) + 1))) q (zwk z t (k + 1)) := by
  have h1 := ((h.n.st hT k 1).bt hT k ((tkW z t k).1 : Int)).nb hT ((tkW z t k).1 + 1) (v := (((tkW z t k).1 : Nat) : Int) + 1) (by omega)
  have h2 : LRt _ q (zwk z t (k + 1)) := ((h.t.up hT 83 ((4 * k + 1 : Nat) : Int) 1 (z' := zwk z t (k + 1)) (fun p _ => (zwk_tv (by omega) _).trans (zwk_tv (by omega) _).symm)).up hT 83 ((4 * k + 2 : Nat) : Int) ((tkW z t k).1 : Int) (z' := zwk z t (k + 1)) (fun p _ => rfl)).up hT 80 2 ((((tkW z t k).1 : Nat) : Int) + 1) (z' := zwk z t (k + 1)) (fun p _ => rfl)
  rw [zwk_t hi] at h2 ⊢
  exact LRn.lr h1 h2
/-! ===== the best pair, gone through by one number ===== -/
def pjk (z : Sig) : Nat → Int × Nat
  | 0 => (0, 0)
  | k + 1 => if k / zb z < k % zb z ∧ (pjk z k).1 < zsv z (k / zb z) (k % zb z) then (zsv z (k / zb z) (k % zb z), k) else pjk z k
theorem pjk_t {z : Sig} {k : Nat} (h1 : k / zb z < k % zb z) (h2 : (pjk z k).1 < zsv z (k / zb z) (k % zb z)) : pjk z (k + 1) = (zsv z (k / zb z) (k % zb z), k) := if_pos ⟨h1, h2⟩
theorem pjk_f {z : Sig} {k : Nat} (h : ¬ k / zb z < k % zb z ∨ ¬ (pjk z k).1 < zsv z (k / zb z) (k % zb z)) : pjk z (k + 1) = pjk z k := if_neg (fun e => by rcases h with h | h; exact h e.1; exact h e.2)
theorem pjk_b {z : Sig} (hW : Wf z) (k : Nat) : 0 ≤ (pjk z k).1 ∧ (pjk z k).1 ≤ 1320 ∧ (pjk z k).2 ≤ k := by
  induction k with
  | zero => exact ⟨Int.le_refl _, by show (0 : Int) ≤ 1320; decide, Nat.le_refl _⟩
  | succ k ih =>
    by_cases h : k / zb z < k % zb z ∧ (pjk z k).1 < zsv z (k / zb z) (k % zb z)
    · rw [pjk_t h.1 h.2]
      have := zsv_b hW (k / zb z) (k % zb z)
      dsimp only
      omega
    · have e : pjk z (k + 1) = pjk z k := if_neg h
      rw [e]; omega
def RPj (n : Nat) (p : Int × Nat) (acc : Int × Int × Int) : Prop := p.1 = acc.1 ∧ (0 < p.1 → ((p.2 / n : Nat) : Int) = acc.2.1 ∧ ((p.2 % n : Nat) : Int) = acc.2.2)
theorem pjk_zj {z : Sig} (hW : Wf z) (hb : 0 < zb z) : RPj (zb z) (pjk z (zb z * zb z)) (zj z) := by
  have step : ∀ a b, a < zb z → b < zb z → RPj (zb z) (pjk z (a * zb z + b)) (if b ≤ a then jout (zsv z) (zb z) a else jin (zsv z) a (jout (zsv z) (zb z) a) (b - (a + 1))) → RPj (zb z) (pjk z (a * zb z + (b + 1))) (if b + 1 ≤ a then jout (zsv z) (zb z) a else jin (zsv z) a (jout (zsv z) (zb z) a) (b + 1 - (a + 1))) := by
    intro a b ha hb2 h
    have e1 : (a * zb z + b) / zb z = a := by
      rw [Nat.mul_comm, Nat.mul_add_div hb, Nat.div_eq_of_lt hb2, Nat.add_zero]
    have e2 : (a * zb z + b) % zb z = b := by
      rw [Nat.mul_comm, Nat.mul_add_mod, Nat.mod_eq_of_lt hb2]
    rw [show a * zb z + (b + 1) = (a * zb z + b) + 1 by omega]
    by_cases hab : a < b
    · rw [if_neg (by omega)] at h
      rw [if_neg (by omega)]
      obtain ⟨t, rfl⟩ : ∃ t, b = a + 1 + t := ⟨b - (a + 1), by omega⟩
      rw [show a + 1 + t + 1 - (a + 1) = t + 1 by omega]
      rw [show a + 1 + t - (a + 1) = t by omega] at h
      by_cases hc : (jin (zsv z) a (jout (zsv z) (zb z) a) t).1 < zsv z a (a + 1 + t)
      · have e3 : jin (zsv z) a (jout (zsv z) (zb z) a) (t + 1) = (zsv z a (a + 1 + t), (a : Int), ((a + 1 + t : Nat) : Int)) := if_pos hc
        rw [pjk_t (by rw [e1, e2]; exact hab) (by rw [e1, e2, h.1]; exact hc), e1, e2, e3]
        exact ⟨rfl, fun _ => ⟨by dsimp only; rw [e1], by dsimp only; rw [e2]⟩⟩
      · have e3 : jin (zsv z) a (jout (zsv z) (zb z) a) (t + 1) = jin (zsv z) a (jout (zsv z) (zb z) a) t := if_neg hc
        rw [pjk_f (Or.inr (by rw [e1, e2, h.1]; exact hc)), e3]
        exact h
    · rw [if_pos (by omega)] at h
      rw [pjk_f (Or.inl (by rw [e1, e2]; exact hab))]
      by_cases hab2 : b + 1 ≤ a
      · rw [if_pos hab2]; exact h
      · rw [if_neg hab2, show b + 1 - (a + 1) = 0 by omega]
        exact h
  have inner : ∀ a, a < zb z → RPj (zb z) (pjk z (a * zb z)) (jout (zsv z) (zb z) a) → ∀ b, b ≤ zb z → RPj (zb z) (pjk z (a * zb z + b)) (if b ≤ a then jout (zsv z) (zb z) a else jin (zsv z) a (jout (zsv z) (zb z) a) (b - (a + 1))) := by
    intro a ha h b
    induction b with
    | zero => intro _; rw [if_pos (by omega)]; exact h
    | succ b ih => intro hb2; exact step a b ha (by omega) (ih (by omega))
  have outer : ∀ a, a ≤ zb z → RPj (zb z) (pjk z (a * zb z)) (jout (zsv z) (zb z) a) := by
    intro a
    induction a with
    | zero => intro _; rw [Nat.zero_mul]; exact ⟨rfl, fun h => absurd h (Int.lt_irrefl _)⟩
    | succ a ih =>
      intro ha
      have h := inner a (by omega) (ih (by omega)) (zb z) (Nat.le_refl _)
      rw [if_neg (by omega)] at h
      rw [Nat.succ_mul]
      exact h
  exact outer (zb z) (Nat.le_refl _)
/-! ===== two batches put together ===== -/
def mjk (bt : Int → Int) (fi se : Int) (n : Nat) : Int → Int := fun j => if 0 ≤ j ∧ j < n then (if bt j = se then fi else if se < bt j then bt j - 1 else bt j) else bt j
theorem mjk_0 (bt : Int → Int) (fi se : Int) : mjk bt fi se 0 = bt := by
  funext j
  unfold mjk
  rw [if_neg (by omega)]
theorem mjk_step {bt : Int → Int} {fi se v : Int} {n : Nat} (hv : v = if bt (n : Int) = se then fi else if se < bt (n : Int) then bt (n : Int) - 1 else bt (n : Int)) : upd1 (mjk bt fi se n) (n : Int) v = mjk bt fi se (n + 1) := by
  subst hv
  funext j
  unfold upd1 mjk
  by_cases h : j = (n : Int)
  · subst h
    rw [if_pos rfl, if_pos (show 0 ≤ (n : Int) ∧ (n : Int) < ((n + 1 : Nat) : Int) by omega)]
  · rw [if_neg h]
    by_cases h2 : 0 ≤ j ∧ j < (n : Int)
    · rw [if_pos h2, if_pos (show 0 ≤ j ∧ j < ((n + 1 : Nat) : Int) by omega)]
    · rw [if_neg h2, if_neg (by omega)]
theorem mjk_at (bt : Int → Int) (fi se : Int) (n : Nat) : mjk bt fi se n (n : Int) = bt (n : Int) := by
  unfold mjk
  rw [if_neg (by omega)]
theorem mjk_end {bt : Int → Int} {fi se : Int} (h : fi < se) (n : Nat) : mjk bt fi se n = clo (mrg bt fi se n) se n := by
  funext j
  unfold mjk clo mrg
  by_cases h2 : 0 ≤ j ∧ j < (n : Int)
  · simp only [if_pos h2]
    by_cases h3 : bt j = se
    · simp only [if_pos h3]
      rw [if_neg (by omega)]
    · simp only [if_neg h3]
  · simp only [if_neg h2]
def zmk (z : Sig) (fi se : Int) (k : Nat) : Sig := sbt z (mjk (zbt z) fi se k)
theorem zmk_0 (z : Sig) (fi se : Int) : zmk z fi se 0 = z := by
  unfold zmk
  rw [mjk_0]
  rfl
theorem zmk_end {z : Sig} {fi se : Int} (h : fi < se) : snb (zmk z fi se (zo z)) (zb z - 1) = zjo z fi se := by
  unfold zmk
  rw [mjk_end h]
  rfl
theorem LR.mg {S : Sto} {q : Nat → Nat} {z : Sig} {f : Nat → Int → Int} {fi se v : Int} {k : Nat} (hT : Top S q) (h : LR (wI S f) q (zmk z fi se k)) (hv : v = if zbt z (k : Int) = se then fi else if se < zbt z (k : Int) then zbt z (k : Int) - 1 else zbt z (k : Int)) : LR (wI S (up2 f (q 83) ((4 * k + 2 : Nat) : Int) v)) q (zmk z fi se (k + 1)) := by
  have h1 := h.n.bt hT k v
  have e : sbt (zmk z fi se k) (upd1 (zbt (zmk z fi se k)) (k : Int) v) = zmk z fi se (k + 1) := by
    show sbt z (upd1 (mjk (zbt z) fi se k) (k : Int) v) = sbt z (mjk (zbt z) fi se (k + 1))
    rw [mjk_step hv]
  rw [e] at h1
  exact h1.lr (h.t.up hT 83 _ _ (fun p _ => rfl))
theorem LR.mgE {S : Sto} {q : Nat → Nat} {z : Sig} {f : Nat → Int → Int} {fi se : Int} (hT : Top S q) (hlt : fi < se) (hb : 0 < zb z) (h : LR (wI S f) q (zmk z fi se (zo z))) : LR (wI S (up2 f (q 80) 2 ((zb z : Int) - 1))) q (zjo z fi se) := by
  rw [← zmk_end hlt]
  exact (h.n.nb hT (zb z - 1) (by omega)).lr (h.t.up hT 80 _ _ (fun p _ => rfl))
theorem LR.nb0 {S : Sto} {q : Nat → Nat} {z : Sig} {f : Nat → Int → Int} (hT : Top S q) (h : LR (wI S f) q z) : LR (wI S (up2 f (q 80) 2 ((zb z : Int) - 0))) q z := by
  have e : (zb z : Int) - 0 = f (q 80) 2 := by rw [show f (q 80) 2 = (zb z : Int) from h.1.2.2.1]; omega
  rw [e, up2_self f (q 80) 2 rfl]
  exact h
/-! sets of products in a route -/
theorem Wf.ds {z : Sig} (h : Wf z) {m : Nat} (hm : okM (zN z) (zP z) m) : ∀ a b : Nat, a < 20 → b < 20 → m.testBit a = true → m.testBit b = true → zP z (a : Int) = zP z (b : Int) → a = b := by
  intro a b ha hb h1 h2 e
  have := hm.1 a ha h1
  exact h.2.2.2.1 a b ha hb e (by omega)
theorem sl6_b {z : Sig} (h : Wf z) {b : Int} (h6 : zln z b ≤ 6) : (sl (zP z) (zpd z b) 20).length ≤ 6 := by
  rw [sl_len]
  have := zpd_cnt h.wl b
  omega
theorem sl6_bb {z : Sig} (h : Wf z) {a b : Int} (h6 : zln z a + zln z b ≤ 6) : (sl (zP z) (zpd z a ||| zpd z b) 20).length ≤ 6 := by
  rw [sl_len]
  have h1 := zpd_cnt h.wl a
  have h2 := zpd_cnt h.wl b
  have h3 := cntb_or (zpd z a) (zpd z b) 20
  omega
theorem sl6_w {z : Sig} (h : Wf z) {o : Nat} (ho : o < zo z) : (sl (zP z) (zW z o) 20).length ≤ 6 := by
  rw [sl_len]
  have h1 := zW_cnt h.wl ho
  have h2 := (h.wl.2 o ho).1
  omega
theorem tkW_pos {z : Sig} {t : Int} (h : 0 < tkN z t (zo z)) : 0 < zb (zwv z t) := by
  have := tkW_n z t (zo z)
  show 0 < (tkW z t (zo z)).1
  omega
