/-! ===== orders are written ===== -/
theorem wnt_upd {pr : Int → Int} {o o9 k9 : Nat} {p : Int} : ∀ k, (∀ i : Nat, i < k → 5 * o9 + i ≠ 5 * o + k9) → wnt (upd1 pr ((5 * o + k9 : Nat) : Int) p) o9 k = wnt pr o9 k := by
  intro k h
  exact wnt_congr k (fun i hi => upd1_ne _ _ (by have := h i hi; omega))
theorem tvi_congr {pr pr' qt qt' : Int → Int} {p : Int} {o : Nat} : ∀ n, (∀ k : Nat, k < n → pr ((5 * o + k : Nat) : Int) = pr' ((5 * o + k : Nat) : Int) ∧ qt ((5 * o + k : Nat) : Int) = qt' ((5 * o + k : Nat) : Int)) → tvi pr qt p o n = tvi pr' qt' p o n := by
  intro n
  induction n with
  | zero => intro _; rfl
  | succ n ih =>
    intro h
    unfold tvi
    rw [ih (fun k hk => h k (by omega)), (h n (by omega)).1, (h n (by omega)).2]
theorem tv_congr {st st' mn mn' pr pr' qt qt' : Int → Int} {p : Int} : ∀ n, (∀ o : Nat, o < n → (st (o : Int) = 2 ↔ st' (o : Int) = 2) ∧ (st (o : Int) = 2 → tvi pr qt p o (mn (o : Int)).toNat = tvi pr' qt' p o (mn' (o : Int)).toNat)) → tv st mn pr qt p n = tv st' mn' pr' qt' p n := by
  intro n
  induction n with
  | zero => intro _; rfl
  | succ n ih =>
    intro h
    unfold tv
    rw [ih (fun o ho => h o (by omega))]
    obtain ⟨h1, h2⟩ := h n (by omega)
    by_cases e : st (n : Int) = 2
    · rw [if_pos e, if_pos (h1.mp e), h2 e]
    · rw [if_neg e, if_neg (fun h9 => e (h1.mpr h9))]
/-- a state with one more order -/
theorem ord_eq {z : Sig} (h : Wf z) (t : Int) : (∀ p, ztv (zord z t) p = ztv z p) ∧ (∀ o : Nat, o < zo z → zdu (zord z t) (o : Int) = zdu z (o : Int) ∧ zW (zord z t) o = zW z o ∧ zst (zord z t) (o : Int) = zst z (o : Int) ∧ ∀ p, qv (zord z t) p o = qv z p o) ∧ (∀ b : Nat, zpd (zord z t) (b : Int) = zpd z (b : Int) ∧ zln (zord z t) (b : Int) = zln z (b : Int)) ∧ (∀ b M : Nat, zo z < 40 → obs z b M → obs (zord z t) b M) := by
  have hne : ∀ (F : Int → Int) (v : Int) (o : Nat), o < zo z → upd1 F (zo z : Int) v (o : Int) = F (o : Int) := fun F v o ho => upd1_ne _ _ (by omega)
  have hW : ∀ o : Nat, o < zo z → zW (zord z t) o = zW z o := fun o ho => by
    unfold zW
    show wnt (zpr z) o (upd1 (zmn z) (zo z : Int) 0 (o : Int)).toNat = _
    rw [hne _ _ o ho]
  refine ⟨fun p => ?_, fun o ho => ⟨hne _ _ o ho, hW o ho, hne _ _ o ho, fun p => ?_⟩, fun b => ⟨?_, ?_⟩, fun b M h40 ho => ⟨ho.1, fun o ho9 => ?_⟩⟩
  · show tv (upd1 (zst z) (zo z : Int) 0) (upd1 (zmn z) (zo z : Int) 0) (zpr z) (zqt z) p (zo z) + (if upd1 (zst z) (zo z : Int) 0 (zo z : Int) = 2 then _ else 0) = _
    rw [upd1_eq, if_neg (by decide), Int.add_zero]
    exact tv_congr _ (fun o ho => ⟨by rw [hne _ _ o ho], fun _ => by rw [hne _ _ o ho]⟩)
  · show tvi (zpr z) (zqt z) p o (upd1 (zmn z) (zo z : Int) 0 (o : Int)).toNat = _
    rw [hne _ _ o ho]
    rfl
  · show prd (upd1 (zbt z) (zo z : Int) (-1)) (zW (zord z t)) (b : Int) (zo z) ||| (if upd1 (zbt z) (zo z : Int) (-1) (zo z : Int) = (b : Int) then _ else 0) = _
    rw [upd1_eq, if_neg (by omega), Nat.or_zero]
    exact prd_congr _ (fun o ho => ⟨by rw [hne _ _ o ho], hW o ho⟩)
  · show cln (upd1 (zbt z) (zo z : Int) (-1)) (upd1 (zmn z) (zo z : Int) 0) (b : Int) (zo z) + (if upd1 (zbt z) (zo z : Int) (-1) (zo z : Int) = (b : Int) then _ else 0) = _
    rw [upd1_eq, if_neg (by omega), Int.add_zero]
    exact cln_congr _ (fun o ho => ⟨by rw [hne _ _ o ho], fun _ => by rw [hne _ _ o ho]⟩)
  · rw [ho.2 o ho9]
    show o < zo z ∧ zbt z (o : Int) = (b : Int) ↔ o < zo z + 1 ∧ upd1 (zbt z) (zo z : Int) (-1) (o : Int) = (b : Int)
    by_cases e : o < zo z
    · rw [hne _ _ o e]
      constructor
      · rintro ⟨a, c⟩; exact ⟨by omega, c⟩
      · rintro ⟨a, c⟩; exact ⟨e, c⟩
    · constructor
      · rintro ⟨a, -⟩; exact absurd a e
      · rintro ⟨a, c⟩
        rw [show (o : Int) = (zo z : Int) by omega, upd1_eq] at c
        omega
theorem ord_fin {S v u : Sto} {q : Nat → Nat} {t a r : Nat} {w : Shp} {z : Sig} {x : Int} (hT : Top S q) (hW : Wf z) (h : CRw S q t w z) (h40 : zo z < 40) (hF : Fra S q v) (hO : OutM S q v) (hTv : Top v q) (haS : a ∉ sL S) (hrS : r ∉ sL S) (hav : At0 v a 2) (hrv : At0 v r 20 ∧ sN v r = 20) (har : sP v a 1 = some r) (h0 : sI v a 0 = x) (h2 : sI v a 2 = 0) (h3 : sI v a 3 = 0) (hr0 : ∀ j, sI v r j = 0) (hA : LAdd v u t (q 4) (w4 w) (zo z) a) (hnt : t ∉ sL u) : CP S q t u (zord z x) := by
  obtain ⟨n1, n2, n3, n4⟩ := ord_eq hW x
  have hc := h.fra hT hF
  obtain ⟨hWh, hB, hOr, hBt, hV, hR, hz⟩ := hc
  obtain ⟨E1, k, a1, a2, a3, a4, a5⟩ := hA
  have hG2 : Gro v u := fun x hx => ⟨(a4 x hx).1, (a4 x hx).2.1, (a4 x hx).2.2.1⟩
  have hI : ∀ x ∈ sL v, x ≠ q 4 → sI u x = sI v x := fun x hx hn => (a4 x hx).2.2.2.2.1 hn
  have hJ : ∀ x ∈ sL v, sJ u x = sJ v x := fun x hx => (a4 x hx).2.2.2.1
  have hE4 : ∀ x ∈ sL v, ¬ sK v x = 21 → x ≠ w4 w := fun x hx hk e => by
    rcases hB.1.2.2.2.2.2 with ⟨e1, -⟩ | ⟨e1, -, -⟩
    · exact hnt (by rw [← e1, ← e]; exact (a4 x hx).1)
    · exact hk (by rw [e]; exact e1.2)
  have hP : ∀ x ∈ sL v, ¬ sK v x = 21 → x ≠ q 4 → sP u x = sP v x := fun x hx hk hn => (a4 x hx).2.2.2.2.2 hn (hE4 x hx hk)
  have hqm : ∀ i ∈ tix, q i ∈ sL v := fun i hi => hTv.mem i hi
  have hqk : ∀ i ∈ tix, ¬ sK v (q i) = 21 := fun i hi e => hTv.nq (x := q i) ⟨hqm i hi, e⟩ rfl hi rfl
  have hTu : Top u q := by
    refine hTv.mono hG2 (fun i hi k9 => ?_)
    have h9 : ∀ i ∈ [0, 1, 2, 3, 11, 13, 80], i ∈ tix ∧ i ≠ 4 := by decide
    rw [hP _ (hqm i (h9 i hi).1) (hqk i (h9 i hi).1) (hTv.ne i 4 (h9 i hi).1 (by decide) (h9 i hi).2)]
  have hWI : ∀ i ∈ tix, i ≠ 4 → sI u (q i) = sI v (q i) := fun i hi hn => hI _ (hqm i hi) (hTv.ne i 4 hi (by decide) hn)
  have hoS : ∀ o : Nat, o < zo z → wo w o ∈ sL S ∧ wq w o ∈ sL S := fun o ho => ⟨(h.2.1.2.1 o ho).2.1.1, (h.2.1.2.1 o ho).2.2.2.1.1⟩
  have ha4 : a ≠ q 4 := hTv.nq hav rfl (by decide)
  have hrq : ∀ i ∈ tix, r ≠ q i := fun i hi e => hrS (e ▸ hT.mem i hi)
  have eo : ∀ o : Nat, o < zo z → (if o = zo z then a else wo w o) = wo w o ∧ (if o = zo z then r else wq w o) = wq w o := fun o ho => ⟨if_neg (by omega), if_neg (by omega)⟩
  have e1 : (if zo z = zo z then a else wo w (zo z)) = a := if_pos rfl
  have e2 : (if zo z = zo z then r else wq w (zo z)) = r := if_pos rfl
  have hb5 : ∀ b : Nat, b < zb z → wb w b ≠ q 4 := fun b hb => hTv.nq (hBt.2.1 b hb).2 rfl (by decide)
  refine ⟨hF.1.trans hG2, hTu, fun i i1 i2 => ⟨(hWI i (tix_mod93 i i1 i2) (by omega)).trans (hO i i1 i2).1, (hJ _ (hqm i (tix_mod93 i i1 i2))).trans (hO i i1 i2).2⟩, ((E1, k, w5 w, k5 w), (fun o => if o = zo z then a else wo w o), (fun o => if o = zo z then r else wq w o), wb w, wr w), ?_, ⟨a1, fun o ho => ?_, fun o o' ho ho' e => ?_, fun o o' ho ho' e => ?_, fun o ho i hi => ?_⟩, fun o ho => ?_, ⟨hBt.1.fr hG2 (by rw [hP _ (hqm 5 (by decide)) (hqk 5 (by decide)) (hTv.ne 5 4)]) (by rw [hWI 5 (by decide) (by decide)]), fun b hb => ⟨?_, hG2.at (hBt.2.1 b hb).2⟩, hBt.2.2.1, fun c1 c2 => ?_⟩, ⟨fun b hb => ?_, fun b b' hb hb' e => ?_⟩, fun b hb => ?_, by rw [hWI 29 (by decide) (by decide)]; exact hF.2.2⟩
  · unfold Whs
    rw [hWI 0 (by decide) (by decide), hWI 1 (by decide) (by decide), hWI 6 (by decide) (by decide), hWI 7 (by decide) (by decide)]
    obtain ⟨w1, w2, w3, w4', w5', w6, w7, w8⟩ := hWh
    exact ⟨w1, w2, w3, w4', fun p hp => (w5' p hp).trans (n1 _).symm, w6, w7, w8⟩
  · have ho2 : o < zo z + 1 := ho
    show sP u E1 (o : Int) = some (if o = zo z then a else wo w o) ∧ At0 u (if o = zo z then a else wo w o) 2 ∧ sP u (if o = zo z then a else wo w o) 1 = some (if o = zo z then r else wq w o) ∧ At0 u (if o = zo z then r else wq w o) 20 ∧ sN u (if o = zo z then r else wq w o) = 20
    by_cases e : o = zo z
    · subst e
      rw [e1, e2, hP a hav.1 (by rw [hav.2]; decide) ha4]
      exact ⟨a3, hG2.at hav, har, hG2.at hrv.1, hG2.ln hrv.1 hrv.2⟩
    · obtain ⟨b1, b2, b3, b4, b5⟩ := hB.2.1 o (by omega)
      rw [(eo o (by omega)).1, (eo o (by omega)).2, hP _ b2.1 (by rw [b2.2]; decide) (hTv.nq b2 rfl (by decide))]
      exact ⟨(a2 o (by omega)).trans b1, hG2.at b2, b3, hG2.at b4, hG2.ln b4 b5⟩
  · have e' : (if o = zo z then a else wo w o) = (if o' = zo z then a else wo w o') := e
    have ho2 : o < zo z + 1 := ho
    have ho2' : o' < zo z + 1 := ho'
    by_cases e3 : o = zo z
    · by_cases e4 : o' = zo z
      · omega
      · rw [if_pos e3, if_neg e4] at e'
        exact absurd (e'.symm ▸ (hoS o' (by omega)).1) haS
    · by_cases e4 : o' = zo z
      · rw [if_neg e3, if_pos e4] at e'
        exact absurd (e' ▸ (hoS o (by omega)).1) haS
      · rw [if_neg e3, if_neg e4] at e'
        exact hB.2.2.1 o o' (by omega) (by omega) e'
  · have e' : (if o = zo z then r else wq w o) = (if o' = zo z then r else wq w o') := e
    have ho2 : o < zo z + 1 := ho
    have ho2' : o' < zo z + 1 := ho'
    by_cases e3 : o = zo z
    · by_cases e4 : o' = zo z
      · omega
      · rw [if_pos e3, if_neg e4] at e'
        exact absurd (e'.symm ▸ (hoS o' (by omega)).2) hrS
    · by_cases e4 : o' = zo z
      · rw [if_neg e3, if_pos e4] at e'
        exact absurd (e' ▸ (hoS o (by omega)).2) hrS
      · rw [if_neg e3, if_neg e4] at e'
        exact hB.2.2.2.1 o o' (by omega) (by omega) e'
  · have ho2 : o < zo z + 1 := ho
    show (if o = zo z then r else wq w o) ≠ q i
    by_cases e3 : o = zo z
    · rw [if_pos e3]; exact hrq i hi
    · rw [if_neg e3]; exact hB.2.2.2.2 o (by omega) i hi
  · have ho2 : o < zo z + 1 := ho
    show sI u (if o = zo z then a else wo w o) 0 = _ ∧ sI u (if o = zo z then a else wo w o) 2 = _ ∧ sI u (if o = zo z then a else wo w o) 3 = _ ∧ ∀ p : Nat, p < 20 → sI u (if o = zo z then r else wq w o) (p : Int) = _
    by_cases e : o = zo z
    · subst e
      rw [e1, e2, hI a hav.1 ha4, hI r hrv.1.1 (hrq 4 (by decide)), h0, h2, h3]
      have em : zmn (zord z x) (zo z : Int) = 0 := upd1_eq _ _ _
      refine ⟨(upd1_eq _ _ _).symm, ?_, (upd1_eq _ _ _).symm, fun p _ => ?_⟩
      · unfold zW
        rw [em]
        rfl
      · unfold qv
        rw [em, hr0]
        rfl
    · obtain ⟨c1, c2, c3, c4⟩ := hOr o (by omega)
      obtain ⟨m1, m2, m3, m4⟩ := n2 o (by omega)
      obtain ⟨b1, b2, b3, b4, b5⟩ := hB.2.1 o (by omega)
      rw [(eo o (by omega)).1, (eo o (by omega)).2, hI _ b2.1 (hTv.nq b2 rfl (by decide)), hI _ b4.1 (hB.2.2.2.2 o (by omega) 4 (by decide)), m1, m2, m3]
      exact ⟨c1, c2, c3, fun p hp => by rw [m4]; exact c4 p hp⟩
  · have hb9 : b < zb z := hb
    have hc5 := hBt.1.2.2.2.1
    have hm5 := (hBt.1.arr (by omega)).1
    have hne : w5 w ≠ w4 w := by
      rcases hB.1.2.2.2.2.2 with ⟨e3, e4⟩ | ⟨-, -, e4⟩
      · intro e5; exact hnt (by rw [← e3, ← e5]; exact (a4 _ hm5.1).1)
      · exact fun e5 => hBt.2.2.2 (by omega) (by omega) e5.symm
    show sP u (w5 w) (b : Int) = some (wb w b)
    rw [(a4 _ hm5.1).2.2.2.2.2 (hTv.nq hm5 rfl (by decide)) hne]
    exact (hBt.2.1 b hb).1
  · have hk5 : 0 < k5 w := c2
    have hm5 := (hBt.1.arr hk5).1
    show E1 ≠ w5 w
    rcases a5 with e3 | e3
    · rw [e3]
      rcases hB.1.2.2.2.2.2 with ⟨e4, -⟩ | ⟨-, -, e4⟩
      · intro e5; exact hnt (by rw [← e4, e5]; exact (a4 _ hm5.1).1)
      · exact hBt.2.2.2 (by omega) hk5
    · intro e5; exact e3 (e5 ▸ hm5.1)
  · obtain ⟨v1, v2, v3, v4, M, v5, v6⟩ := hV.1 b hb
    have hm := (hBt.2.1 b hb).2
    show (0 ≤ sI u (wb w b) 0 ∧ sI u (wb w b) 0 < 40) ∧ sI u (wb w b) 2 = _ ∧ sI u (wb w b) 3 = _ ∧ sI u (wb w b) 4 = _ ∧ ∃ M : Nat, sJ u (wb w b) 1 = _ ∧ _
    rw [hI _ hm.1 (hb5 b hb), hJ _ hm.1, (n3 b).1, (n3 b).2]
    exact ⟨v1, v2, v3, v4, M, v5, n4 b M h40 v6⟩
  · have hm := (hBt.2.1 b hb).2
    have hm' := (hBt.2.1 b' hb').2
    refine hV.2 b b' hb hb' ?_
    have e9 : sI u (wb w b) 0 = sI u (wb w b') 0 := e
    rw [hI _ hm.1 (hb5 b hb), hI _ hm'.1 (hb5 b' hb')] at e9
    exact e9
  · obtain ⟨r1, r2, r3, r4, r5, r6⟩ := hR b hb
    have hm := (hBt.2.1 b hb).2
    have hrm : wr w b ∈ sL S := (h.2.2.2.2.2.1 b hb).2.1.1
    show sP u (wb w b) 5 = some (wr w b) ∧ At0 u (wr w b) 20 ∧ sN u (wr w b) = cntb (zpd (zord z x) (b : Int)) 20 ∧ (∀ j : Nat, j < cntb (zpd (zord z x) (b : Int)) 20 → sI u (wr w b) (j : Int) = rout (zN z) (zG z) (zP z) (zpd (zord z x) (b : Int)) j) ∧ (∀ o : Nat, o < zo z + 1 → wr w b ≠ (if o = zo z then r else wq w o)) ∧ ∀ i ∈ tix, wr w b ≠ q i
    rw [hP _ hm.1 (by rw [hm.2]; decide) (hb5 b hb), hI _ r2.1 (r6 4 (by decide)), (n3 b).1]
    refine ⟨r1, hG2.at r2, hG2.ln r2 r3, r4, fun o ho => ?_, r6⟩
    by_cases e : o = zo z
    · rw [if_pos e]; exact fun e9 => hrS (e9 ▸ hrm)
    · rw [if_neg e]; exact r5 o (by omega)
