/-! ===== a batch is taken ===== -/
/-- what holds before the last batch of z, with the order o alone, is there -/
def Tkp (S : Sto) (q : Nat → Nat) (t : Nat) (w : Shp) (z : Sig) (n o : Nat) : Prop := (Whs S q z ∧ Bok S q t w (zo z) ∧ OrV S w z (zo z) ∧ Bts S q t w n ∧ BtV S w z n ∧ sI S (q 29) 9 = 0) ∧ (∀ b : Nat, b < n → sI S (wb w b) 0 = (b : Int)) ∧ zb z = n + 1 ∧ zpd z (n : Int) = zW z o ∧ zln z (n : Int) = ((cntb (zW z o) 20 : Nat) : Int) ∧ obs z n (2 ^ o) ∧ n < 40 ∧ o < zo z ∧ zo z ≤ 40
theorem take_fin {S v u : Sto} {q : Nat → Nat} {t a n o : Nat} {w : Shp} {z : Sig} (hT : Top S q) (hp : Tkp S q t w z n o) (hF : Fra S q v) (hO : OutM S q v) (hTv : Top v q) (haS : a ∉ sL S) (hav : At0 v a 1) (h0 : sI v a 0 = (n : Int)) (h1 : sJ v a 1 = ((2 ^ o : Nat) : Int)) (h2 : sI v a 2 = ((zW z o : Nat) : Int)) (h3 : sI v a 3 = ((cntb (zW z o) 20 : Nat) : Int)) (h4 : sI v a 4 = zto z (zW z o)) (hA : LAdd v u t (q 5) (w5 w) n a) (hnt : t ∉ sL u) :
    (∃ w', CRj u q t w' z ∧ ∀ b : Nat, b < n + 1 → sI u (wb w' b) 0 = (b : Int)) ∧ Gro S u ∧ OutM S q u ∧ Top u q := by
  obtain ⟨⟨hWh, hB, hOr, hBt, hV, hz⟩, hrow, ez, ep, el, eo, hn40, hoz, ho40⟩ := hp
  have hWh1 := hWh.fra hT hF
  have hB1 := hB.fra hT hF
  have hOr1 := hOr.fra hB hT hF
  have hBt1 := hBt.fra hT hF
  have hV1 := hV.fra hBt hT hF
  obtain ⟨E1, k, a1, a2, a3, a4, a5⟩ := hA
  have hG2 : Gro v u := fun x hx => ⟨(a4 x hx).1, (a4 x hx).2.1, (a4 x hx).2.2.1⟩
  have hI : ∀ x ∈ sL v, x ≠ q 5 → sI u x = sI v x := fun x hx hn => (a4 x hx).2.2.2.2.1 hn
  have hJ : ∀ x ∈ sL v, sJ u x = sJ v x := fun x hx => (a4 x hx).2.2.2.1
  have hE5 : ∀ x ∈ sL v, ¬ sK v x = 21 → x ≠ w5 w := fun x hx hk e => by
    rcases hBt1.1.2.2.2.2.2 with ⟨e1, -⟩ | ⟨e1, -, -⟩
    · exact hnt (by rw [← e1, ← e]; exact (a4 x hx).1)
    · exact hk (by rw [e]; exact e1.2)
  have hP : ∀ x ∈ sL v, ¬ sK v x = 21 → x ≠ q 5 → sP u x = sP v x := fun x hx hk hn => (a4 x hx).2.2.2.2.2 hn (hE5 x hx hk)
  have hqm : ∀ i ∈ tix, q i ∈ sL v := fun i hi => hTv.mem i hi
  have hqk : ∀ i ∈ tix, ¬ sK v (q i) = 21 := fun i hi e => hTv.nq (x := q i) ⟨hqm i hi, e⟩ rfl hi rfl
  have hTu : Top u q := by
    refine hTv.mono hG2 (fun i hi k9 => ?_)
    have h9 : ∀ i ∈ [0, 1, 2, 3, 11, 13, 80], i ∈ tix ∧ i ≠ 5 := by decide
    rw [hP _ (hqm i (h9 i hi).1) (hqk i (h9 i hi).1) (hTv.ne i 5 (h9 i hi).1 (by decide) (h9 i hi).2)]
  have hob : ∀ b : Nat, b < n → wb w b ≠ q 5 := fun b hb => hTv.nq (hBt1.2.1 b hb).2 rfl (by decide)
  have hma : ∀ b : Nat, b < n → wb w b ≠ a := fun b hb e => haS (e ▸ (hBt.2.1 b hb).2.1)
  have ha5 : a ≠ q 5 := hTv.nq hav rfl (by decide)
  have hE1 : At0 u E1 21 := by
    have := a1.2.2.2.1
    exact (a1.arr (by omega)).1
  have hWI : ∀ i ∈ tix, i ≠ 5 → sI u (q i) = sI v (q i) := fun i hi hn => hI _ (hqm i hi) (hTv.ne i 5 hi (by decide) hn)
  have e1 : ∀ b : Nat, b < n → (if b = n then a else wb w b) = wb w b := fun b hb => if_neg (by omega)
  have e2 : (if n = n then a else wb w n) = a := if_pos rfl
  refine ⟨⟨((w4 w, k4 w, E1, k), wo w, wq w, fun b => if b = n then a else wb w b, wr w), ⟨?_, ?_, ?_, ⟨by rw [ez]; exact a1, fun b hb => ?_, fun b b' hb hb' e => ?_, fun c1 c2 => ?_⟩, ⟨fun b hb => ?_, fun b b' hb hb' e => ?_⟩, ?_⟩, fun b hb => ?_⟩, hF.1.trans hG2, fun i i1 i2 => ⟨(hWI i (tix_mod93 i i1 i2) (by omega)).trans (hO i i1 i2).1, (hJ _ (hqm i (tix_mod93 i i1 i2))).trans (hO i i1 i2).2⟩, hTu⟩
  · unfold Whs
    rw [hWI 0 (by decide) (by decide), hWI 1 (by decide) (by decide), hWI 6 (by decide) (by decide), hWI 7 (by decide) (by decide)]
    exact hWh1
  · refine hB1.fr hG2 (by rw [hP _ (hqm 4 (by decide)) (hqk 4 (by decide)) (hTv.ne 4 5)]) (by rw [hWI 4 (by decide) (by decide)]) (fun o9 ho9 => ?_) (fun o9 ho9 => ?_)
    · have hc := hB1.1.2.2.2.1
      have hm4 := (hB1.1.arr (by omega)).1
      have hne : w4 w ≠ w5 w := by
        rcases hBt1.1.2.2.2.2.2 with ⟨e3, e4⟩ | ⟨-, -, e4⟩
        · intro e5; exact hnt (by rw [← e3, ← e5]; exact (a4 _ hm4.1).1)
        · exact hBt1.2.2.2 (by omega) (by omega)
      rw [(a4 _ hm4.1).2.2.2.2.2 (hTv.nq hm4 rfl (by decide)) hne]
    · have h9 := (hB1.2.1 o9 ho9).2.1
      rw [hP _ h9.1 (by rw [h9.2]; decide) (hTv.nq h9 rfl (by decide))]
  · refine hOr1.fr (fun o9 ho9 => ⟨hI _ (hB1.2.1 o9 ho9).2.1.1 (hTv.nq (hB1.2.1 o9 ho9).2.1 rfl (by decide)), hI _ (hB1.2.1 o9 ho9).2.2.2.1.1 (hB1.2.2.2.2 o9 ho9 5 (by decide))⟩)
  · have hb2 : b < n + 1 := ez ▸ hb
    show sP u E1 (b : Int) = some (if b = n then a else wb w b) ∧ At0 u (if b = n then a else wb w b) 1
    by_cases e : b = n
    · subst e
      rw [e2]
      exact ⟨a3, hG2.at hav⟩
    · rw [e1 b (by omega)]
      exact ⟨(a2 b (by omega)).trans (hBt1.2.1 b (by omega)).1, hG2.at (hBt1.2.1 b (by omega)).2⟩
  · have hb2 : b < n + 1 := ez ▸ hb
    have hb2' : b' < n + 1 := ez ▸ hb'
    have e' : (if b = n then a else wb w b) = (if b' = n then a else wb w b') := e
    by_cases e3 : b = n
    · by_cases e4 : b' = n
      · omega
      · rw [if_pos e3, if_neg e4] at e'
        exact absurd e'.symm (hma b' (by omega))
    · by_cases e4 : b' = n
      · rw [if_neg e3, if_pos e4] at e'
        exact absurd e' (hma b (by omega))
      · rw [if_neg e3, if_neg e4] at e'
        exact hBt1.2.2.1 b b' (by omega) (by omega) e'
  · have hk4 : 0 < k4 w := c1
    have hm4 := (hB1.1.arr hk4).1
    show w4 w ≠ E1
    rcases a5 with e3 | e3
    · rw [e3]
      rcases hBt1.1.2.2.2.2.2 with ⟨e4, -⟩ | ⟨-, -, e4⟩
      · intro e5; exact hnt (by rw [← e4, ← e5]; exact (a4 _ hm4.1).1)
      · exact hBt1.2.2.2 hk4 (by omega)
    · intro e5; exact e3 (e5 ▸ hm4.1)
  · have hb2 : b < n + 1 := ez ▸ hb
    show (0 ≤ sI u (if b = n then a else wb w b) 0 ∧ sI u (if b = n then a else wb w b) 0 < 40) ∧ sI u (if b = n then a else wb w b) 2 = _ ∧ sI u (if b = n then a else wb w b) 3 = _ ∧ sI u (if b = n then a else wb w b) 4 = _ ∧ ∃ M : Nat, sJ u (if b = n then a else wb w b) 1 = _ ∧ _
    by_cases e : b = n
    · subst e
      rw [e2, hI a hav.1 ha5, hJ a hav.1, h0, h1, h2, h3, h4, ep, el]
      exact ⟨⟨by omega, by omega⟩, rfl, rfl, rfl, _, rfl, eo⟩
    · rw [e1 b (by omega), hI _ (hBt1.2.1 b (by omega)).2.1 (hob b (by omega)), hJ _ (hBt1.2.1 b (by omega)).2.1]
      exact hV1.1 b (by omega)
  · have hb2 : b < n + 1 := ez ▸ hb
    have hb2' : b' < n + 1 := ez ▸ hb'
    have hr : ∀ c : Nat, c < n + 1 → sI u (if c = n then a else wb w c) 0 = (c : Int) := fun c hc => by
      by_cases e3 : c = n
      · subst e3; rw [e2, hI a hav.1 ha5, h0]
      · rw [e1 c (by omega), hI _ (hBt1.2.1 c (by omega)).2.1 (hob c (by omega)), (hF.2.1 _ (hBt.2.1 c (by omega)).2.1 (hT.ns21 (hBt.2.1 c (by omega)).2 rfl)).1]
        exact hrow c (by omega)
    have e' : sI u (if b = n then a else wb w b) 0 = sI u (if b' = n then a else wb w b') 0 := e
    rw [hr b hb2, hr b' hb2'] at e'
    omega
  · rw [hWI 29 (by decide) (by decide)]; exact hF.2.2
  · show sI u (if b = n then a else wb w b) 0 = (b : Int)
    by_cases e3 : b = n
    · subst e3; rw [e2, hI a hav.1 ha5, h0]
    · rw [e1 b (by omega), hI _ (hBt1.2.1 b (by omega)).2.1 (hob b (by omega)), (hF.2.1 _ (hBt.2.1 b (by omega)).2.1 (hT.ns21 (hBt.2.1 b (by omega)).2 rfl)).1]
      exact hrow b (by omega)
/-- new cells are nobody's -/
theorem nw_fra {S : Sto} {q : Nat → Nat} (hT : Top S q) (hz : sI S (q 29) 9 = 0) {a : Nat} (ha : a ∉ sL S) (kd n : Nat) : Fra S q (nw S a kd n) ∧ OutM S q (nw S a kd n) ∧ Top (nw S a kd n) q := by
  have hx := Ext.nw (S := S) ha kd n
  exact ⟨⟨hx.gro, fun x hx1 _ => ⟨(hx x hx1).2.2.2.1, (hx x hx1).2.2.2.2.1, (hx x hx1).2.2.2.2.2⟩, by rw [(hx _ (hT.mem 29)).2.2.2.1]; exact hz⟩, fun i h1 h2 => ⟨(hx _ (hT.mem i (tix_mod93 i h1 h2))).2.2.2.1, (hx _ (hT.mem i (tix_mod93 i h1 h2))).2.2.2.2.2⟩, hT.ext hx⟩
/-- a new cell's own changes -/
theorem own_fra {S v u : Sto} {q : Nat → Nat} {a : Nat} (hT : Top S q) (hF : Fra S q v) (hO : OutM S q v) (hTv : Top v q) (ha : a ∉ sL S) (hG : Gro v u) (hI : ∀ x, x ≠ a → sI u x = sI v x) (hP : ∀ x, x ≠ a → sP u x = sP v x) (hJ : ∀ x, x ≠ a → sJ u x = sJ v x) : Fra S q u ∧ OutM S q u ∧ Top u q := by
  have hne : ∀ x ∈ sL S, x ≠ a := fun x hx e => ha (e ▸ hx)
  have hq : ∀ i ∈ tix, q i ≠ a := fun i hi => hne _ (hT.mem i hi)
  refine ⟨⟨hF.1.trans hG, fun x hx hn => ?_, by rw [hI _ (hq 29 (by decide))]; exact hF.2.2⟩, fun i h1 h2 => ?_, hTv.mono hG (fun i hi k => ?_)⟩
  · rw [hI x (hne x hx), hP x (hne x hx), hJ x (hne x hx)]
    exact hF.2.1 x hx hn
  · rw [hI _ (hq i (tix_mod93 i h1 h2)), hJ _ (hq i (tix_mod93 i h1 h2))]
    exact hO i h1 h2
  · have : ∀ i ∈ [0, 1, 2, 3, 11, 13, 80], i ∈ tix := by decide
    rw [hP _ (hq i (this i hi))]
theorem Kept.fra2 {S v : Sto} {q : Nat → Nat} {f : Nat → Int → Int} (hF : Fra S q v) (hO : OutM S q v) (hTv : Top v q) (hK : Kept v q f) : Fra S q (wI v f) ∧ OutM S q (wI v f) ∧ Top (wI v f) q := ⟨hF.trans (hK.fra hTv), hO.trans (hK.out hTv), hTv⟩
