/-! ===== batches are put together: the class's cells ===== -/
/-- without the routes -/
def CRj (S : Sto) (q : Nat → Nat) (t : Nat) (w : Shp) (z : Sig) : Prop := Whs S q z ∧ Bok S q t w (zo z) ∧ OrV S w z (zo z) ∧ Bts S q t w (zb z) ∧ BtV S w z (zb z) ∧ sI S (q 29) 9 = 0
theorem CRw.j {S : Sto} {q : Nat → Nat} {t : Nat} {w : Shp} {z : Sig} (h : CRw S q t w z) : CRj S q t w z := ⟨h.1, h.2.1, h.2.2.1, h.2.2.2.1, h.2.2.2.2.1, h.2.2.2.2.2.2⟩
theorem CRj.w {S : Sto} {q : Nat → Nat} {t : Nat} {w : Shp} {z : Sig} (h : CRj S q t w z) (hR : RtV S q w z (zb z)) : CRw S q t w z := ⟨h.1, h.2.1, h.2.2.1, h.2.2.2.1, h.2.2.2.2.1, hR, h.2.2.2.2.2⟩
theorem Whs.fra {S u : Sto} {q : Nat → Nat} {z : Sig} (h : Whs S q z) (hT : Top S q) (hF : Fra S q u) : Whs u q z := by
  have e0 := hF.2.1 _ (hT.mem 0) (hT.nsc 0)
  have e1 := hF.2.1 _ (hT.mem 1) (hT.nsc 1)
  have e6 := hF.2.1 _ (hT.mem 6) (hT.nsc 6)
  have e7 := hF.2.1 _ (hT.mem 7) (hT.nsc 7)
  unfold Whs
  rw [e0.1, e1.1, e6.1, e7.1]
  exact h
theorem Bok.ns {S : Sto} {q : Nat → Nat} {t n : Nat} {w : Shp} (hB : Bok S q t w n) (hT : Top S q) {o : Nat} (ho : o < n) : ¬ isSc q (wo w o) ∧ ¬ isSc q (wq w o) := by
  refine ⟨?_, ?_⟩
  · rintro ⟨i, hi, -, e⟩
    exact hT.nq (hB.2.1 o ho).2.1 rfl hi e
  · rintro ⟨i, hi, -, e⟩
    exact hB.2.2.2.2 o ho i hi e
theorem Top.ns21 {S : Sto} {q : Nat → Nat} (hT : Top S q) {x k : Nat} (ha : At0 S x k) (hk : (k == 1 || k == 2 || k == 21) = true) : ¬ isSc q x := by
  rintro ⟨i, hi, -, e⟩
  exact hT.nq ha hk hi e
theorem Bok.fra {S u : Sto} {q : Nat → Nat} {t n : Nat} {w : Shp} (hB : Bok S q t w n) (hT : Top S q) (hF : Fra S q u) : Bok u q t w n := by
  have e4 := hF.2.1 _ (hT.mem 4) (hT.nsc 4)
  refine hB.fr hF.1 (by rw [e4.2.1]) (by rw [e4.1]) (fun o ho => ?_) (fun o ho => by rw [(hF.2.1 _ (hB.2.1 o ho).2.1.1 (hB.ns hT ho).1).2.1])
  have hc := hB.1.2.2.2.1
  have ha := (hB.1.arr (by omega)).1
  rw [(hF.2.1 _ ha.1 (hT.ns21 ha rfl)).2.1]
theorem OrV.fra {S u : Sto} {q : Nat → Nat} {t n : Nat} {w : Shp} {z : Sig} (h : OrV S w z n) (hB : Bok S q t w n) (hT : Top S q) (hF : Fra S q u) : OrV u w z n :=
  h.fr (fun o ho => ⟨(hF.2.1 _ (hB.2.1 o ho).2.1.1 (hB.ns hT ho).1).1, (hF.2.1 _ (hB.2.1 o ho).2.2.2.1.1 (hB.ns hT ho).2).1⟩)
theorem Bts.fra {S u : Sto} {q : Nat → Nat} {t n : Nat} {w : Shp} (hB : Bts S q t w n) (hT : Top S q) (hF : Fra S q u) : Bts u q t w n := by
  have e5 := hF.2.1 _ (hT.mem 5) (hT.nsc 5)
  refine hB.fr hF.1 (by rw [e5.2.1]) (by rw [e5.1]) (fun b hb => ?_)
  have hc := hB.1.2.2.2.1
  have ha := (hB.1.arr (by omega)).1
  rw [(hF.2.1 _ ha.1 (hT.ns21 ha rfl)).2.1]
theorem BtV.fra {S u : Sto} {q : Nat → Nat} {t n : Nat} {w : Shp} {z : Sig} (h : BtV S w z n) (hB : Bts S q t w n) (hT : Top S q) (hF : Fra S q u) : BtV u w z n :=
  h.fr (fun b hb => ⟨(hF.2.1 _ (hB.2.1 b hb).2.1 (hT.ns21 (hB.2.1 b hb).2 rfl)).1, (hF.2.1 _ (hB.2.1 b hb).2.1 (hT.ns21 (hB.2.1 b hb).2 rfl)).2.2⟩)
theorem CRj.fra {S u : Sto} {q : Nat → Nat} {t : Nat} {w : Shp} {z : Sig} (h : CRj S q t w z) (hT : Top S q) (hF : Fra S q u) : CRj u q t w z :=
  ⟨h.1.fra hT hF, h.2.1.fra hT hF, h.2.2.1.fra h.2.1 hT hF, h.2.2.2.1.fra hT hF, h.2.2.2.2.1.fra h.2.2.2.1 hT hF, hF.2.2⟩
theorem Fra.refl {S : Sto} {q : Nat → Nat} (hz : sI S (q 29) 9 = 0) : Fra S q S := ⟨Gro.refl, fun _ _ _ => ⟨rfl, rfl, rfl⟩, hz⟩
theorem Fra.trans {S u v : Sto} {q : Nat → Nat} (h : Fra S q u) (h' : Fra u q v) : Fra S q v := ⟨h.1.trans h'.1, fun x hx hn => ⟨(h'.2.1 x (h.1 x hx).1 hn).1.trans (h.2.1 x hx hn).1, (h'.2.1 x (h.1 x hx).1 hn).2.1.trans (h.2.1 x hx hn).2.1, (h'.2.1 x (h.1 x hx).1 hn).2.2.trans (h.2.1 x hx hn).2.2⟩, h'.2.2⟩
theorem Kept.refl {S : Sto} {q : Nat → Nat} (hz : sI S (q 29) 9 = 0) : Kept S q (sI S) := ⟨fun _ _ _ => rfl, hz⟩
theorem Kept.ob {S : Sto} {q : Nat → Nat} {f : Nat → Int → Int} (h : Kept S q f) (hT : Top S q) {x k : Nat} (hx : At0 S x k) (hk : (k == 1 || k == 2 || k == 21) = true) : f x = sI S x := funext fun j => h.1 x j fun hs => by
  rcases hs with ⟨e, -⟩ | e | ⟨i, hi, e⟩ | e
  · exact hT.nq hx hk (i := 2) (by decide) e
  · exact hT.nq hx hk (i := 10) (by decide) e
  · exact hT.nq hx hk (tix_way i hi) e
  · exact hT.nq hx hk (i := 12) (by decide) e
theorem Kept.sv {S : Sto} {q : Nat → Nat} {f : Nat → Int → Int} (h : Kept S q f) (hT : Top S q) {i : Nat} (hi : i < 40) : f (q (30 + i)) = sI S (q (30 + i)) := funext fun j => h.at hT (30 + i) j (tix_sav i hi) (by simp [noR]; omega)
/-- the saving of two numbers; 0 for one and the same -/
def svx (z : Sig) (a b : Nat) : Int := if a = b then 0 else zsv z a b
theorem zsv_comm (z : Sig) (a b : Nat) : zsv z a b = zsv z b a := by
  unfold zsv
  rw [Int.add_comm (zln z (a : Int)), Int.add_comm (zto z (zpd z (a : Int))), Nat.or_comm]
/-- the table of the savings holds the pairs of D -/
def Tab (S : Sto) (q : Nat → Nat) (w : Shp) (z : Sig) (n : Nat) (D : Nat → Nat → Prop) : Prop := ∀ a b : Nat, a < n → b < n → a ≠ b → D a b → sI S (q (30 + rwn S w a)) ((rwn S w b : Nat) : Int) = zsv z a b
theorem Tab.of {S : Sto} {q : Nat → Nat} {w : Shp} {z : Sig} {n : Nat} {D D' : Nat → Nat → Prop} (h : Tab S q w z n D) (hD : ∀ a b : Nat, a < n → b < n → a ≠ b → D' a b → D a b) : Tab S q w z n D' := fun a b ha hb hn hd => h a b ha hb hn (hD a b ha hb hn hd)
/-- what noting a saving leaves -/
def Ntd (S : Sto) (q : Nat → Nat) (w : Shp) (z : Sig) (n x y : Nat) (u : Sto) : Prop := Fra S q u ∧ OutM S q u ∧ Top u q ∧ ∀ D : Nat → Nat → Prop, Tab S q w z n D → Tab u q w z n (fun a b => D a b ∨ (a = x ∧ b = y) ∨ (a = y ∧ b = x))
theorem note_fin {S : Sto} {q : Nat → Nat} {t n x y : Nat} {w : Shp} {z : Sig} {f : Nat → Int → Int} (hT : Top S q) (hB : Bts S q t w n) (hV : BtV S w z n) (hx : x < n) (hy : y < n) (hK : Kept S q f) : Ntd S q w z n x y (wI S (up2 (up2 f (q (30 + rwn S w x)) ((rwn S w y : Nat) : Int) (svx z x y)) (q (30 + rwn S w y)) ((rwn S w x : Nat) : Int) (svx z x y))) := by
  have hrx := (hV.rw hx).2
  have hry := (hV.rw hy).2
  have hsv : ∀ i, i < 40 → scI (30 + i) = true := fun i _ => by unfold scI; simp; omega
  have hnx : ∀ a : Nat, ¬ isSc q a → a ≠ q (30 + rwn S w x) ∧ a ≠ q (30 + rwn S w y) := fun a ha => ⟨fun e => ha ⟨_, tix_sav _ hrx, hsv _ hrx, e⟩, fun e => ha ⟨_, tix_sav _ hry, hsv _ hry, e⟩⟩
  have hF0 := hK.fra hT
  have hrow : ∀ b : Nat, b < n → ∀ g : Nat → Int → Int, g (wb w b) = sI S (wb w b) → rwn (wI S g) w b = rwn S w b := fun b hb g e => by
    unfold rwn
    show (g (wb w b) 0).toNat = _
    rw [e]
  have hob : ∀ b : Nat, b < n → up2 (up2 f (q (30 + rwn S w x)) ((rwn S w y : Nat) : Int) (svx z x y)) (q (30 + rwn S w y)) ((rwn S w x : Nat) : Int) (svx z x y) (wb w b) = sI S (wb w b) := fun b hb => by
    have h1 := hnx (wb w b) (hT.ns21 (hB.2.1 b hb).2 rfl)
    rw [up2_row _ _ _ h1.2, up2_row _ _ _ h1.1, hK.ob hT (hB.2.1 b hb).2 rfl]
  refine ⟨⟨Gro.same rfl rfl rfl, fun a ha hn => ⟨?_, rfl, rfl⟩, ?_⟩, fun i h1 h2 => ⟨?_, rfl⟩, hT, fun D hD a b ha hb hne hd => ?_⟩
  · show up2 _ _ _ _ a = _
    rw [up2_row _ _ _ (hnx a hn).2, up2_row _ _ _ (hnx a hn).1]
    exact (hF0.2.1 a ha hn).1
  · show up2 _ _ _ _ (q 29) 9 = 0
    rw [up2_ne _ _ _ _ (hT.ne 29 _ (by decide) (tix_sav _ hry) (by omega)), up2_ne _ _ _ _ (hT.ne 29 _ (by decide) (tix_sav _ hrx) (by omega))]
    exact hK.2
  · show up2 _ _ _ _ (q i) = _
    rw [up2_row _ _ _ (hT.ne i _ (tix_mod93 i h1 h2) (tix_sav _ hry) (by omega)), up2_row _ _ _ (hT.ne i _ (tix_mod93 i h1 h2) (tix_sav _ hrx) (by omega))]
    exact (hK.out hT i h1 h2).1
  · rw [hrow a ha _ (hob a ha), hrow b hb _ (hob b hb)]
    have hra := (hV.rw ha).2
    show up2 _ _ _ _ (q (30 + rwn S w a)) ((rwn S w b : Nat) : Int) = _
    have key : ∀ c : Nat, c < n → (q (30 + rwn S w a) = q (30 + rwn S w c) ↔ a = c) := fun c hc => by
      constructor
      · intro e
        have := hT.2.2.1 _ (tix_sav _ hra) _ (tix_sav _ (hV.rw hc).2) e
        exact hV.ri ha hc (by omega)
      · intro e; rw [e]
    have key2 : ∀ c : Nat, c < n → (((rwn S w b : Nat) : Int) = ((rwn S w c : Nat) : Int) ↔ b = c) := fun c hc => by
      constructor
      · intro e; exact hV.ri hb hc (by omega)
      · intro e; rw [e]
    unfold up2
    have k1 := and_congr (key y hy) (key2 x hx)
    have k2 := and_congr (key x hx) (key2 y hy)
    by_cases e1 : a = y ∧ b = x
    · rw [if_pos (k1.mpr e1)]
      obtain ⟨e1, e2⟩ := e1
      subst e1 e2
      unfold svx
      rw [if_neg (fun e => hne e.symm), zsv_comm]
    · rw [if_neg (fun h9 => e1 (k1.mp h9))]
      by_cases e2 : a = x ∧ b = y
      · rw [if_pos (k2.mpr e2)]
        obtain ⟨e2, e3⟩ := e2
        subst e2 e3
        unfold svx
        rw [if_neg hne]
      · rw [if_neg (fun h9 => e2 (k2.mp h9)), hK.sv hT hra]
        rcases hd with hd | hd | hd
        · exact hD a b ha hb hne hd
        · exact absurd hd e2
        · exact absurd hd e1
/-- the batches behind the second move up -/
def shR (w : Shp) (y : Nat) : Shp := (w.1, wo w, wq w, fun b => wb w (ri y b), fun b => wr w (ri y b))
/-- the first batch takes the second in -/
abbrev abS (S : Sto) (a b : Nat) (M M2 m m2 : Nat) (x : Int) : Sto := uI (uI (uI (uJ S a 1 ((M ||| M2 : Nat) : Int)) a 2 ((m ||| m2 : Nat) : Int)) a 3 (sI S a 3 + sI S b 3)) a 4 (sI S a 4 + (sI S b 4 - x))
theorem ri_ne {x y b : Nat} (hxy : x < y) (h : b ≠ x) : ri y b ≠ x := by unfold ri; split <;> omega
theorem ri_x {x y : Nat} (hxy : x < y) : ri y x = x := by unfold ri; rw [if_pos hxy]
theorem ri_y {y b : Nat} : ri y b ≠ y := by unfold ri; split <;> omega
theorem ri_inj {y a b : Nat} (h : ri y a = ri y b) : a = b := by unfold ri at h; split at h <;> split at h <;> omega
theorem obs_jo {z : Sig} {x y M M2 : Nat} (hW : Wf z) (hxy : x < y) (h1 : obs z x M) (h2 : obs z y M2) : obs (zjo z x y) x (M ||| M2) := by
  refine ⟨Nat.or_lt_two_pow h1.1 h2.1, fun o ho => ?_⟩
  rw [Nat.testBit_or, Bool.or_eq_true, h1.2 o ho, h2.2 o ho]
  constructor
  · rintro (⟨a, b⟩ | ⟨a, b⟩)
    · refine ⟨a, ?_⟩
      rw [zjo_bt z x y a (by omega), b, if_neg (by omega), if_neg (by omega)]
    · refine ⟨a, ?_⟩
      rw [zjo_bt z x y a (by omega), b, if_pos rfl]
  · rintro ⟨a, b⟩
    have a' : o < zo z := a
    rw [zjo_bt z x y a' (by omega)] at b
    by_cases e : zbt z (o : Int) = (y : Int)
    · exact Or.inr ⟨a', e⟩
    · rw [if_neg e] at b
      split at b
      · omega
      · exact Or.inl ⟨a', b⟩
theorem obs_sh {z : Sig} {x y b M : Nat} (hxy : x < y) (hb : b ≠ x) (h : obs z (ri y b) M) : obs (zjo z x y) b M := by
  refine ⟨h.1, fun o ho => ?_⟩
  rw [h.2 o ho]
  constructor
  · rintro ⟨a, e⟩
    refine ⟨a, ?_⟩
    have hiff := (jbt_iff (bt := zbt z) (x := (x : Int)) (y := y) (b := b) (N := zo z) (by omega) a).mpr (Or.inl e)
    exact hiff
  · rintro ⟨a, e⟩
    have a' : o < zo z := a
    rcases (jbt_iff (bt := zbt z) (x := (x : Int)) (y := y) (b := b) (N := zo z) (by omega) a').mp e with h1 | ⟨h1, -⟩
    · exact ⟨a', h1⟩
    · omega
theorem join_fin {S u : Sto} {q : Nat → Nat} {t x y M M2 : Nat} {w : Shp} {z : Sig} (hT : Top S q) (hW : Wf z) (h : CRj S q t w z) (hxy : x < y) (hy : y < zb z) (hM : sJ S (wb w x) 1 = (M : Int) ∧ obs z x M) (hM2 : sJ S (wb w y) 1 = (M2 : Int) ∧ obs z y M2) (hs : 0 < zsv z x y) (hR : LRem (abS S (wb w x) (wb w y) M M2 (zpd z (x : Int)) (zpd z (y : Int)) (zsv z x y)) u t (q 5) (w5 w) (k5 w) (zb z) y) :
    CRj u q t (shR w y) (zjo z x y) ∧ Gro S u ∧ OutM S q u ∧ Top u q ∧ ∀ D : Nat → Nat → Prop, Tab S q w z (zb z) (fun _ _ => True) → Tab u q (shR w y) (zjo z x y) (zb z - 1) (fun a b => a ≠ x ∧ b ≠ x) := by
  obtain ⟨hWh, hB, hO, hBt, hV, hz⟩ := h
  obtain ⟨r1, r2, r3, r4, r5, r6, r7, r8, r9⟩ := hR
  have hx : x < zb z := by omega
  have hcap := hBt.1.2.2.2.1
  have hE := (hBt.1.arr (by omega)).1
  have hax := (hBt.2.1 x hx).2
  have hk5 : 0 < k5 w := by omega
  -- what the first batch's cell holds
  have hI : ∀ a : Nat, a ≠ q 5 → a ≠ wb w x → sI u a = sI S a := fun a h1 h2 => by
    rw [r8 a h1]
    exact (up2_row _ _ _ h2).trans ((up2_row _ _ _ h2).trans (up2_row _ _ _ h2))
  have hP : ∀ a : Nat, a ≠ w5 w → sP u a = sP S a := fun a h1 => r9 a h1
  have hJ : ∀ a : Nat, a ≠ wb w x → sJ u a = sJ S a := fun a h1 => by
    rw [r7]
    exact up2_row _ _ _ h1
  have hG : Gro S u := Gro.same r4 r5 r6
  have hqb : ∀ i ∈ tix, q i ≠ wb w x := fun i hi e => hT.nq hax rfl hi e.symm
  have hq5 : ∀ i ∈ tix, q i ≠ w5 w := fun i hi e => hT.nq hE rfl hi e.symm
  have hob5 : ∀ b : Nat, b < zb z → wb w b ≠ q 5 := fun b hb => hT.nq (hBt.2.1 b hb).2 rfl (by decide)
  have hwx5 : wb w x ≠ q 5 := hob5 x hx
  have hTu : Top u q := hT.mono hG (fun i hi k => by
    have : ∀ i ∈ [0, 1, 2, 3, 11, 13, 80], i ∈ tix := by decide
    rw [hP _ (hq5 i (this i hi))])
  have hoo : ∀ o : Nat, o < zo z → wo w o ≠ q 5 ∧ wo w o ≠ wb w x ∧ wo w o ≠ w5 w := fun o ho => ⟨hT.nq (hB.2.1 o ho).2.1 rfl (by decide), kind_ne (hB.2.1 o ho).2.1 hax (by decide), kind_ne (hB.2.1 o ho).2.1 hE (by decide)⟩
  have hqq : ∀ o : Nat, o < zo z → wq w o ≠ q 5 ∧ wq w o ≠ wb w x := fun o ho => ⟨hB.2.2.2.2 o ho 5 (by decide), kind_ne (hB.2.1 o ho).2.2.2.1 hax (by decide)⟩
  have hrow : ∀ b : Nat, ri y b < zb z → ri y b ≠ x → sI u (wb w (ri y b)) = sI S (wb w (ri y b)) ∧ sJ u (wb w (ri y b)) = sJ S (wb w (ri y b)) := fun b hb hn => by
    have hne : wb w (ri y b) ≠ wb w x := fun e => hn (hBt.2.2.1 _ _ hb hx e)
    exact ⟨hI _ (hob5 _ hb) hne, hJ _ hne⟩
  have hxr : sI u (wb w x) = sI (abS S (wb w x) (wb w y) M M2 (zpd z (x : Int)) (zpd z (y : Int)) (zsv z x y)) (wb w x) := r8 _ hwx5
  have x0 : sI u (wb w x) 0 = sI S (wb w x) 0 := by
    rw [hxr]
    exact (up2_nk _ _ _ _ (by decide)).trans ((up2_nk _ _ _ _ (by decide)).trans (up2_nk _ _ _ _ (by decide)))
  have x2 : sI u (wb w x) 2 = ((zpd z (x : Int) ||| zpd z (y : Int) : Nat) : Int) := by
    rw [hxr]
    exact (up2_nk _ _ _ _ (by decide)).trans ((up2_nk _ _ _ _ (by decide)).trans (up2_same _ _ _ _))
  have x3 : sI u (wb w x) 3 = sI S (wb w x) 3 + sI S (wb w y) 3 := by
    rw [hxr]
    exact (up2_nk _ _ _ _ (by decide)).trans (up2_same _ _ _ _)
  have x4 : sI u (wb w x) 4 = sI S (wb w x) 4 + (sI S (wb w y) 4 - zsv z x y) := by
    rw [hxr]
    exact up2_same _ _ _ _
  have x1 : sJ u (wb w x) 1 = ((M ||| M2 : Nat) : Int) := by
    rw [r7]
    exact up2_same _ _ _ _
  have hrw : ∀ b : Nat, b < zb z - 1 → rwn u (shR w y) b = rwn S w (ri y b) := fun b hb => by
    unfold rwn
    show (sI u (wb w (ri y b)) 0).toNat = _
    by_cases e : ri y b = x
    · rw [e, x0]
    · rw [(hrow b (ri_lt hy hb) e).1]
  have hzt : zto z (zpd z (x : Int)) + (zto z (zpd z (y : Int)) - zsv z x y) = zto z (zpd z (x : Int) ||| zpd z (y : Int)) := by
    rw [← saving_eq (zsv_pos hs)]
    omega
  refine ⟨⟨?_, ?_, ?_, ⟨r1, fun b hb => ?_, fun b b' hb hb' e => ?_, hBt.2.2.2⟩, ⟨fun b hb => ?_, fun b b' hb hb' e => ?_⟩, ?_⟩, hG, fun i h1 h2 => ⟨hI _ (hT.ne i 5 (tix_mod93 i h1 h2) (by decide) (by omega)) (hqb i (tix_mod93 i h1 h2)), hJ _ (hqb i (tix_mod93 i h1 h2))⟩, hTu, fun D hD a b ha hb hne hd => ?_⟩
  · unfold Whs
    rw [hI _ (hT.ne 0 5) (hqb 0 (by decide)), hI _ (hT.ne 1 5) (hqb 1 (by decide)), hI _ (hT.ne 6 5) (hqb 6 (by decide)), hI _ (hT.ne 7 5) (hqb 7 (by decide))]
    exact hWh
  · refine hB.fr hG (by rw [hP _ (hq5 4 (by decide))]) (by rw [hI _ (hT.ne 4 5) (hqb 4 (by decide))]) (fun o ho => ?_) (fun o ho => by rw [hP _ (hoo o ho).2.2])
    have hc4 := hB.1.2.2.2.1
    rw [hP _ (hBt.2.2.2 (by omega) hk5)]
  · exact hO.fr (fun o ho => ⟨hI _ (hoo o ho).1 (hoo o ho).2.1, hI _ (hqq o ho).1 (hqq o ho).2⟩)
  · have hb2 : b < zb z - 1 := hb
    refine ⟨?_, hG.at (hBt.2.1 _ (ri_lt hy hb2)).2⟩
    show sP u (w5 w) (b : Int) = some (wb w (ri y b))
    by_cases e : b < y
    · rw [r2 b e, show ri y b = b from if_pos e]
      exact (hBt.2.1 b (by omega)).1
    · rw [r3 b (by omega) hb2, show ri y b = b + 1 from if_neg e]
      exact (hBt.2.1 (b + 1) (by omega)).1
  · exact ri_inj (hBt.2.2.1 _ _ (ri_lt hy hb) (ri_lt hy hb') e)
  · have hb2 : b < zb z - 1 := hb
    have hrb := ri_lt hy hb2
    obtain ⟨v1, v2, v3, v4, M3, v5, v6⟩ := hV.1 (ri y b) hrb
    obtain ⟨a1, a2, a3, a4, -⟩ := hV.1 x hx
    obtain ⟨b1, b2, b3, b4, -⟩ := hV.1 y hy
    have eL := zjo_ln z (b := b) hxy
    have eP := zjo_pd z (b := b) hxy
    by_cases e : b = x
    · subst e
      rw [if_pos rfl] at eL eP
      show (0 ≤ sI u (wb w (ri y b)) 0 ∧ sI u (wb w (ri y b)) 0 < 40) ∧ sI u (wb w (ri y b)) 2 = _ ∧ sI u (wb w (ri y b)) 3 = _ ∧ sI u (wb w (ri y b)) 4 = _ ∧ ∃ M : Nat, sJ u (wb w (ri y b)) 1 = _ ∧ _
      rw [ri_x hxy, x0, x2, x3, x4, eL, eP, a3, b3, a4, b4]
      exact ⟨a1, rfl, rfl, hzt, M ||| M2, x1, obs_jo hW hxy hM.2 hM2.2⟩
    · rw [if_neg e] at eL eP
      obtain ⟨c1, c2⟩ := hrow b hrb (ri_ne hxy e)
      show (0 ≤ sI u (wb w (ri y b)) 0 ∧ sI u (wb w (ri y b)) 0 < 40) ∧ sI u (wb w (ri y b)) 2 = _ ∧ sI u (wb w (ri y b)) 3 = _ ∧ sI u (wb w (ri y b)) 4 = _ ∧ ∃ M : Nat, sJ u (wb w (ri y b)) 1 = _ ∧ _
      rw [c1, c2, eL, eP]
      exact ⟨v1, v2, v3, v4, M3, v5, obs_sh hxy e v6⟩
  · have hb2 : b < zb z - 1 := hb
    have hb2' : b' < zb z - 1 := hb'
    refine ri_inj (y := y) (hV.2 _ _ (ri_lt hy hb2) (ri_lt hy hb2') ?_)
    have e3 : sI u (wb w (ri y b)) 0 = sI u (wb w (ri y b')) 0 := e
    have e4 : ∀ c : Nat, c < zb z - 1 → sI u (wb w (ri y c)) 0 = sI S (wb w (ri y c)) 0 := fun c hc => by
      by_cases e5 : ri y c = x
      · rw [e5, x0]
      · rw [(hrow c (ri_lt hy hc) e5).1]
    rw [← e4 b hb2, ← e4 b' hb2', e3]
  · rw [hI _ (hT.ne 29 5) (hqb 29 (by decide))]; exact hz
  · rw [hrw a ha, hrw b hb]
    have hra := (hV.rw (ri_lt hy ha)).2
    rw [hI _ (hT.ne _ 5 (tix_sav _ hra) (by decide) (by omega)) (hqb _ (tix_sav _ hra)), hD _ _ (ri_lt hy ha) (ri_lt hy hb) (fun e => hne (ri_inj e)) trivial]
    unfold zsv
    rw [zjo_ln z hxy, zjo_ln z hxy, zjo_pd z hxy, zjo_pd z hxy, if_neg hd.1, if_neg hd.2, if_neg hd.1, if_neg hd.2]
    rfl
