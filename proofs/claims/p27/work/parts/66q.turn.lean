/-! ===== what a turn of the law changes ===== -/
theorem upd1_self (F : Int → Int) (k : Int) : upd1 F k (F k) = F := by
  funext j
  unfold upd1
  by_cases h : j = k
  · rw [if_pos h, h]
  · rw [if_neg h]
theorem put_no (z : Sig) (p : Int) : zuP z (upd1 (zP z) p (zP z p)) = z := by
  rw [upd1_self]
  rfl
section
variable {S : Sto} {q : Nat → Nat} {t : Nat} {zc z : Sig} {R : Int → Int}
theorem lo_1 (i : Nat) (k v : Int) (h1 : 80 ≤ i := by decide) (h2 : i ≤ 88 := by decide) : Lo S q (up2 (sI S) (q i) k v) := Lo.refl.up i k v h1 h2
theorem LI.put (h : LI S q t zc z R) (p : Nat) (v : Int) : LI (uI S (q 81) (p : Int) v) q t zc (zuP z (upd1 (zP z) (p : Int) v)) R :=
  ⟨h.1, h.2.1.lo h.1 (lo_1 81 _ _), h.2.2.1.lay h.1 (fun c c1 _ => up2_row _ _ _ c1) (by rw [up2_at, h.P]), (up2_row _ _ _ (h.1.ne 87 81)).trans h.2.2.2⟩
theorem LI.putn (h : LI S q t zc z R) (p : Nat) : LI (uI S (q 81) (p : Int) (zP z (p : Int))) q t zc z R := by
  have h9 := h.put p (zP z (p : Int))
  rw [put_no] at h9
  exact h9
theorem LR.ord (hT : Top S q) (hW : Wf z) (h : LR S q z) (h12 : zo z < 12) (v : Int) : LR (wI S (up2 (up2 (up2 (up2 (up2 (sI S) (q 83) ((4 * zo z : Nat) : Int) v) (q 83) ((4 * zo z + 1 : Nat) : Int) 0) (q 83) ((4 * zo z + 2 : Nat) : Int) (-1)) (q 83) ((4 * zo z + 3 : Nat) : Int) 0) (q 80) 1 ((zo z : Int) + 1))) q (zord z v) := by
  obtain ⟨⟨b0, b1, b2, b3, b4, b5, b6, b7⟩, hp, ho, ht, -, h6⟩ := h
  have r0 : ∀ i, i ∈ tix → i ≠ 80 → i ≠ 83 → up2 (up2 (up2 (up2 (up2 (sI S) (q 83) ((4 * zo z : Nat) : Int) v) (q 83) ((4 * zo z + 1 : Nat) : Int) 0) (q 83) ((4 * zo z + 2 : Nat) : Int) (-1)) (q 83) ((4 * zo z + 3 : Nat) : Int) 0) (q 80) 1 ((zo z : Int) + 1) (q i) = sI S (q i) := fun i hi h1 h2 => by
    have n1 := hT.ne i 80 hi (by decide) h1
    have n2 := hT.ne i 83 hi (by decide) h2
    rw [up2_row _ _ _ n1, up2_row _ _ _ n2, up2_row _ _ _ n2, up2_row _ _ _ n2, up2_row _ _ _ n2]
  have r8 : ∀ k : Int, k ≠ 1 → up2 (up2 (up2 (up2 (up2 (sI S) (q 83) ((4 * zo z : Nat) : Int) v) (q 83) ((4 * zo z + 1 : Nat) : Int) 0) (q 83) ((4 * zo z + 2 : Nat) : Int) (-1)) (q 83) ((4 * zo z + 3 : Nat) : Int) 0) (q 80) 1 ((zo z : Int) + 1) (q 80) k = sI S (q 80) k := fun k hk => by
    have n2 := hT.ne 80 83
    rw [up2_nk _ _ _ _ hk, up2_row _ _ _ n2, up2_row _ _ _ n2, up2_row _ _ _ n2, up2_row _ _ _ n2]
  refine ⟨⟨(r8 0 (by decide)).trans b0, (up2_same _ _ _ _).trans ?_, (r8 2 (by decide)).trans b2, (r8 3 (by decide)).trans b3, (r8 4 (by decide)).trans b4, (r8 5 (by decide)).trans b5, (r8 6 (by decide)).trans b6, (r8 7 (by decide)).trans b7⟩, ⟨(r0 81 (by decide) (by decide) (by decide)).trans hp.1, (r0 84 (by decide) (by decide) (by decide)).trans hp.2.1, (r0 85 (by decide) (by decide) (by decide)).trans hp.2.2⟩, fun o ho9 => ?_, fun p hp9 => ?_, ?_, h6⟩
  · show (zo z : Int) + 1 = ((zo z + 1 : Nat) : Int)
    omega
  · have ho9 : o < zo z + 1 := ho9
    show up2 _ _ _ _ _ _ = upd1 (zdu z) (zo z : Int) v (o : Int) ∧ up2 _ _ _ _ _ _ = upd1 (zst z) (zo z : Int) 0 (o : Int) ∧ up2 _ _ _ _ _ _ = upd1 (zbt z) (zo z : Int) (-1) (o : Int) ∧ up2 _ _ _ _ _ _ = upd1 (zmn z) (zo z : Int) 0 (o : Int)
    have n2 := hT.ne 83 80
    rw [up2_row _ _ _ n2, upd1_nat, upd1_nat, upd1_nat, upd1_nat]
    by_cases e : o = zo z
    · subst e
      rw [if_pos rfl, if_pos rfl, if_pos rfl, if_pos rfl]
      exact ⟨(up2_nk _ _ _ _ (by omega)).trans ((up2_nk _ _ _ _ (by omega)).trans ((up2_nk _ _ _ _ (by omega)).trans (up2_same _ _ _ _))), (up2_nk _ _ _ _ (by omega)).trans ((up2_nk _ _ _ _ (by omega)).trans (up2_same _ _ _ _)), (up2_nk _ _ _ _ (by omega)).trans (up2_same _ _ _ _), up2_same _ _ _ _⟩
    · rw [if_neg e, if_neg e, if_neg e, if_neg e]
      obtain ⟨a1, a2, a3, a4⟩ := ho o (by omega)
      have un : ∀ j : Int, j < ((4 * zo z : Nat) : Int) → up2 (up2 (up2 (up2 (sI S) (q 83) ((4 * zo z : Nat) : Int) v) (q 83) ((4 * zo z + 1 : Nat) : Int) 0) (q 83) ((4 * zo z + 2 : Nat) : Int) (-1)) (q 83) ((4 * zo z + 3 : Nat) : Int) 0 (q 83) j = sI S (q 83) j := fun j hj => by
        rw [up2_nk _ _ _ _ (by omega), up2_nk _ _ _ _ (by omega), up2_nk _ _ _ _ (by omega), up2_nk _ _ _ _ (by omega)]
      exact ⟨(un _ (by omega)).trans a1, (un _ (by omega)).trans a2, (un _ (by omega)).trans a3, (un _ (by omega)).trans a4⟩
  · rw [(ord_eq hW v).1]
    exact (congrFun (r0 82 (by decide) (by decide) (by decide)) _).trans (ht p hp9)
  · show zo z + 1 ≤ 12; omega
theorem LI.ord (h : LI S q t zc z R) (hW : Wf z) (h12 : zo z < 12) (v : Int) : LI (uI (uI (uI (uI (uI S (q 83) ((4 * zo z : Nat) : Int) v) (q 83) ((4 * zo z + 1 : Nat) : Int) 0) (q 83) ((4 * zo z + 2 : Nat) : Int) (-1)) (q 83) ((4 * zo z + 3 : Nat) : Int) 0) (q 80) 1 ((zo z : Int) + 1)) q t zc (zord z v) (up2 (up2 (up2 (up2 (up2 (sI S) (q 83) ((4 * zo z : Nat) : Int) v) (q 83) ((4 * zo z + 1 : Nat) : Int) 0) (q 83) ((4 * zo z + 2 : Nat) : Int) (-1)) (q 83) ((4 * zo z + 3 : Nat) : Int) 0) (q 80) 1 ((zo z : Int) + 1) (q 87)) :=
  h.lo (((((lo_1 83 _ _).up 83 _ _).up 83 _ _).up 83 _ _).up 80 _ _) (h.2.2.1.ord h.1 hW h12 v)
theorem LR.lin (hT : Top S q) (hW : Wf z) (h : LR S q z) {o p : Nat} (ho : o < zo z) (hst : zst z (o : Int) = 0) (h5 : zmn z (o : Int) ≠ 5) (hb : (zW z o).testBit p = false) (y : Int) : LR (wI S (up2 (up2 (up2 (sI S) (q 84) (5 * (o : Int) + zmn z (o : Int)) (p : Int)) (q 85) (5 * (o : Int) + zmn z (o : Int)) y) (q 83) ((4 * o + 3 : Nat) : Int) (zmn z (o : Int) + 1))) q (zlin z o (p : Int) y) := by
  obtain ⟨hq, hp, ho2, ht, h12, h6⟩ := h
  have n83 := hT.ne 84 83
  refine ⟨?_, ⟨?_, ?_, ?_⟩, fun o9 ho9 => ?_, fun p9 hp9 => ?_, h12, h6⟩
  · unfold LRq
    rw [show sI (wI S (up2 (up2 (up2 (sI S) (q 84) (5 * (o : Int) + zmn z (o : Int)) (p : Int)) (q 85) (5 * (o : Int) + zmn z (o : Int)) y) (q 83) ((4 * o + 3 : Nat) : Int) (zmn z (o : Int) + 1))) (q 80) = sI S (q 80) from (up2_row _ _ _ (hT.ne 80 83)).trans ((up2_row _ _ _ (hT.ne 80 85)).trans (up2_row _ _ _ (hT.ne 80 84)))]
    exact hq
  · exact ((up2_row _ _ _ (hT.ne 81 83)).trans ((up2_row _ _ _ (hT.ne 81 85)).trans (up2_row _ _ _ (hT.ne 81 84)))).trans hp.1
  · refine ((up2_row _ _ _ (hT.ne 84 83)).trans (up2_row _ _ _ (hT.ne 84 85))).trans ?_
    rw [up2_at, hp.2.1]
    rfl
  · refine (up2_row _ _ _ (hT.ne 85 83)).trans ?_
    rw [up2_at, up2_row _ _ _ (hT.ne 85 84), hp.2.2]
    rfl
  · have ho9 : o9 < zo z := ho9
    obtain ⟨a1, a2, a3, a4⟩ := ho2 o9 ho9
    have e83 : ∀ j, up2 (up2 (sI S) (q 84) (5 * (o : Int) + zmn z (o : Int)) (p : Int)) (q 85) (5 * (o : Int) + zmn z (o : Int)) y (q 83) j = sI S (q 83) j := fun j => by
      rw [up2_row _ _ _ (hT.ne 83 85), up2_row _ _ _ (hT.ne 83 84)]
    refine ⟨(up2_nk _ _ _ _ (by omega)).trans ((e83 _).trans a1), (up2_nk _ _ _ _ (by omega)).trans ((e83 _).trans a2), (up2_nk _ _ _ _ (by omega)).trans ((e83 _).trans a3), ?_⟩
    show up2 _ _ _ _ _ _ = upd1 (zmn z) (o : Int) (zmn z (o : Int) + 1) (o9 : Int)
    rw [upd1_nat]
    by_cases e : o9 = o
    · rw [if_pos e, e, up2_same]
    · rw [if_neg e, up2_nk _ _ _ _ (by omega), e83]
      exact a4
  · rw [(lin_eq hW ho hst h5 hb).2.2.2.2.1]
    exact (congrFun ((up2_row _ _ _ (hT.ne 82 83)).trans ((up2_row _ _ _ (hT.ne 82 85)).trans (up2_row _ _ _ (hT.ne 82 84)))) _).trans (ht p9 hp9)
theorem LI.lin (h : LI S q t zc z R) (hW : Wf z) {o p : Nat} (ho : o < zo z) (hst : zst z (o : Int) = 0) (h5 : zmn z (o : Int) ≠ 5) (hb : (zW z o).testBit p = false) (y : Int) : LI (uI (uI (uI S (q 84) (5 * (o : Int) + zmn z (o : Int)) (p : Int)) (q 85) (5 * (o : Int) + zmn z (o : Int)) y) (q 83) ((4 * o + 3 : Nat) : Int) (zmn z (o : Int) + 1)) q t zc (zlin z o (p : Int) y) (up2 (up2 (up2 (sI S) (q 84) (5 * (o : Int) + zmn z (o : Int)) (p : Int)) (q 85) (5 * (o : Int) + zmn z (o : Int)) y) (q 83) ((4 * o + 3 : Nat) : Int) (zmn z (o : Int) + 1) (q 87)) :=
  h.lo (((lo_1 84 _ _).up 85 _ _).up 83 _ _) (h.2.2.1.lin h.1 hW ho hst h5 hb y)
theorem LI.cap (h : LI S q t zc z R) {v : Int} (hv : v ≤ 6) : LI (uI S (q 80) 0 v) q t zc ((zA z, zN z, zG z, v), z.2) R := by
  refine ⟨h.1, h.2.1.lo h.1 (lo_1 80 _ _), ?_, (up2_row _ _ _ (h.1.ne 87 80)).trans h.2.2.2⟩
  obtain ⟨⟨b0, b1, b2, b3, b4, b5, b6, b7⟩, hp, ho, ht, h12, h6⟩ := h.2.2.1
  have r0 : ∀ i, i ∈ tix → i ≠ 80 → up2 (sI S) (q 80) 0 v (q i) = sI S (q i) := fun i hi h1 => up2_row _ _ _ (h.1.ne i 80 hi (by decide) h1)
  have r8 : ∀ k : Int, k ≠ 0 → up2 (sI S) (q 80) 0 v (q 80) k = sI S (q 80) k := fun k hk => up2_nk _ _ _ _ hk
  refine ⟨⟨up2_same _ _ _ _, (r8 1 (by decide)).trans b1, (r8 2 (by decide)).trans b2, (r8 3 (by decide)).trans b3, (r8 4 (by decide)).trans b4, (r8 5 (by decide)).trans b5, (r8 6 (by decide)).trans b6, (r8 7 (by decide)).trans b7⟩, ⟨(r0 81 (by decide) (by decide)).trans hp.1, (r0 84 (by decide) (by decide)).trans hp.2.1, (r0 85 (by decide) (by decide)).trans hp.2.2⟩, fun o ho9 => ?_, fun p hp9 => (congrFun (r0 82 (by decide) (by decide)) _).trans (ht p hp9), h12, hv⟩
  have e := r0 83 (by decide) (by decide)
  obtain ⟨a1, a2, a3, a4⟩ := ho o ho9
  exact ⟨(congrFun e _).trans a1, (congrFun e _).trans a2, (congrFun e _).trans a3, (congrFun e _).trans a4⟩
theorem LI.capn (h : LI S q t zc z R) : LI (uI S (q 80) 0 (zC z)) q t zc z R := h.cap h.l12.2
end
/-! a place that is free -/
def fpI (P : Int → Int) (p to b0 : Int) : Nat → Int
  | 0 => b0
  | k + 1 => if fpI P p to b0 k = 1 ∧ ((k : Int) = p ∨ ¬ P (k : Int) = to) then 1 else 0
theorem fpI_t {P : Int → Int} {p to b0 : Int} {k : Nat} (h : fpI P p to b0 k = 1 ∧ ((k : Int) = p ∨ ¬ P (k : Int) = to)) : 1 = fpI P p to b0 (k + 1) := (if_pos h).symm
theorem fpI_f {P : Int → Int} {p to b0 : Int} {k : Nat} (h : ¬ (fpI P p to b0 k = 1 ∧ ((k : Int) = p ∨ ¬ P (k : Int) = to))) : 0 = fpI P p to b0 (k + 1) := (if_neg h).symm
theorem fpI_b {P : Int → Int} {p to b0 : Int} (hb : b0 = 0 ∨ b0 = 1) (n : Nat) : fpI P p to b0 n = 0 ∨ fpI P p to b0 n = 1 := by
  cases n with
  | zero => exact hb
  | succ n => unfold fpI; split <;> omega
theorem fpI_tk {P : Int → Int} {p to b0 : Int} : ∀ n, fpI P p to b0 n = 1 ↔ b0 = 1 ∧ ¬ tkI P p to n = 1 := by
  intro n
  induction n with
  | zero => exact ⟨fun h => ⟨h, fun h9 => absurd h9 (show ¬ (0 : Int) = 1 by decide)⟩, fun h => h.1⟩
  | succ n ih =>
    have ht : tkI P p to (n + 1) = 1 ↔ (tkI P p to n = 1 ∨ ((n : Int) ≠ p ∧ P (n : Int) = to)) := by
      rw [show tkI P p to (n + 1) = if tkI P p to n = 1 ∨ ((n : Int) ≠ p ∧ P (n : Int) = to) then 1 else 0 from rfl]
      by_cases e : tkI P p to n = 1 ∨ ((n : Int) ≠ p ∧ P (n : Int) = to)
      · rw [if_pos e]; exact ⟨fun _ => e, fun _ => rfl⟩
      · rw [if_neg e]; exact ⟨fun h => absurd h (by decide), fun h => absurd h e⟩
    rw [ht]
    have hf : fpI P p to b0 (n + 1) = 1 ↔ (fpI P p to b0 n = 1 ∧ ((n : Int) = p ∨ ¬ P (n : Int) = to)) := by
      rw [show fpI P p to b0 (n + 1) = if fpI P p to b0 n = 1 ∧ ((n : Int) = p ∨ ¬ P (n : Int) = to) then 1 else 0 from rfl]
      by_cases e : fpI P p to b0 n = 1 ∧ ((n : Int) = p ∨ ¬ P (n : Int) = to)
      · rw [if_pos e]; exact ⟨fun _ => e, fun _ => rfl⟩
      · rw [if_neg e]; exact ⟨fun h => absurd h (by decide), fun h => absurd h e⟩
    rw [hf, ih]
    omega
theorem ho_put0 {z : Sig} {p : Nat} {a i b0 : Int} (hp : p < 20) (ha : 0 ≤ a ∧ a ≤ zA z - 1) (hi : 1 ≤ i ∧ i ≤ zN z) (hb : (b0 = 1 ∧ zb z = 0) ∨ (b0 = 0 ∧ 0 < zb z)) (hf : ¬ fpI (zP z) (p : Int) (100 * a + i) b0 20 = 1) : oPut z (p : Int) a i = (2, 0, z) := by
  have h1 : ¬ (b0 = 1 ∧ ¬ tkI (zP z) (p : Int) (100 * a + i) 20 = 1) := fun h9 => hf ((fpI_tk (P := zP z) (p := (p : Int)) (to := 100 * a + i) (b0 := b0) 20).mpr h9)
  unfold oPut
  rw [if_neg (by omega), if_pos (by omega)]
theorem ho_put1 {z : Sig} {p : Nat} {a i b0 : Int} (hp : p < 20) (ha : 0 ≤ a ∧ a ≤ zA z - 1) (hi : 1 ≤ i ∧ i ≤ zN z) (hb : (b0 = 1 ∧ zb z = 0) ∨ (b0 = 0 ∧ 0 < zb z)) (hf : fpI (zP z) (p : Int) (100 * a + i) b0 20 = 1) : oPut z (p : Int) a i = (0, zP z (p : Int), zuP z (upd1 (zP z) (p : Int) (100 * a + i))) := by
  have h1 := (fpI_tk (P := zP z) (p := (p : Int)) (to := 100 * a + i) (b0 := b0) 20).mp hf
  unfold oPut
  rw [if_neg (by omega), if_neg (by omega)]
theorem ho_Ord {z : Sig} {v : Nat} (h : v < 1000) (h12 : zo z < 12) : oOrd z (v : Int) = (0, (zo z : Int), zord z (v : Int)) := by
  unfold oOrd
  rw [if_neg (by omega), if_neg (by omega)]
def badL (z : Sig) (o p : Nat) : Prop := zst z (o : Int) ≠ 0 ∨ zmn z (o : Int) = 5 ∨ zC z ≤ zmn z (o : Int) ∨ zW z o / 2 ^ p % 2 = 1 ∨ zP z (p : Int) = -1
theorem ho_Lin1 {z : Sig} {o p : Nat} {c : Int} (ho : ¬ o < zo z) : oLin z (o : Int) (p : Int) c = (1, 0, z) := by
  unfold oLin
  rw [if_pos (Or.inl (by omega))]
theorem ho_Lin3 {z : Sig} {o p : Nat} {c : Int} (ho : o < zo z) (hp : p < 20) (hc : 1 ≤ c ∧ c ≤ 99) (h : badL z o p) : oLin z (o : Int) (p : Int) c = (3, 0, z) := by
  unfold oLin
  rw [if_neg (by omega), if_neg (by omega), if_pos]
  exact h
theorem ho_Lin0 {z : Sig} {o p : Nat} {c : Int} (ho : o < zo z) (hp : p < 20) (hc : 1 ≤ c ∧ c ≤ 99) (h : ¬ badL z o p) : oLin z (o : Int) (p : Int) c = (0, zmn z (o : Int) + 1, zlin z o (p : Int) c) := by
  unfold oLin
  rw [if_neg (by omega), if_neg (by omega), if_neg]
  · rfl
  · exact h
/-! some order is taken -/
def smI (z : Sig) (t : Int) : Nat → Int
  | 0 => 0
  | k + 1 => if smI z t k = 1 ∨ isT z t k then 1 else 0
theorem smI_t {z : Sig} {t : Int} {k : Nat} (h : smI z t k = 1 ∨ isT z t k) : 1 = smI z t (k + 1) := (if_pos h).symm
theorem smI_f {z : Sig} {t : Int} {k : Nat} (h : ¬ (smI z t k = 1 ∨ isT z t k)) : 0 = smI z t (k + 1) := (if_neg h).symm
theorem smI_b (z : Sig) (t : Int) (n : Nat) : smI z t n = 0 ∨ smI z t n = 1 := by
  cases n with
  | zero => exact Or.inl rfl
  | succ n => unfold smI; split <;> omega
theorem smI_tk (z : Sig) (t : Int) : ∀ n, smI z t n = 1 ↔ 0 < tkN z t n := by
  intro n
  induction n with
  | zero => exact ⟨fun h => absurd h (show ¬ (0 : Int) = 1 by decide), fun h => absurd h (Int.lt_irrefl _)⟩
  | succ n ih =>
    have hb := tkN_b z t n
    rw [show smI z t (n + 1) = if smI z t n = 1 ∨ isT z t n then 1 else 0 from rfl, show tkN z t (n + 1) = tkN z t n + (if isT z t n then 1 else 0) from rfl]
    by_cases e : isT z t n
    · rw [if_pos (Or.inr e), if_pos e]; exact ⟨fun _ => by omega, fun _ => rfl⟩
    · rw [if_neg e, Int.add_zero, ← ih]
      by_cases e2 : smI z t n = 1
      · rw [if_pos (Or.inl e2)]; exact ⟨fun _ => e2, fun _ => rfl⟩
      · rw [if_neg (fun h => h.elim e2 e)]; exact ⟨fun h => absurd h (by decide), fun h => absurd h e2⟩
theorem ho_Pw0 {z : Sig} {t : Int} (ht : 0 ≤ t ∧ t ≤ 999) (h : 0 < zb z ∨ tkN z t (zo z) = 0) : oPw z t = (2, 0, z) := by
  unfold oPw
  rw [if_neg (by omega), if_pos h]
theorem ho_Pw1 {z : Sig} {t : Int} (ht : 0 ≤ t ∧ t ≤ 999) (h : zb z = 0) (h2 : 0 < tkN z t (zo z)) : oPw z t = (0, ((zb (zjn (zwv z t)) : Nat) : Int), zjn (zwv z t)) := by
  unfold oPw
  rw [if_neg (by omega), if_neg (by omega)]
theorem ho_Pk1 {z : Sig} {b : Nat} (h : b = zb z) : oPk z (b : Int) = (1, 0, z) := if_neg (by omega)
theorem ho_Pk0 {z : Sig} {b : Nat} (h : b < zb z) : oPk z (b : Int) = (0, zto z (zpd z (b : Int)), zpk z (b : Int)) := if_pos ⟨by omega, by omega⟩
theorem ho_Lay1 {z : Sig} (h : 0 < zb z) : oLay z = (1, 0, z) := if_pos h
theorem ho_Lay0 {z : Sig} (h : ¬ 0 < zb z) : oLay z = (0, (asg (zP z) (rkL z 20) (spL z 20) (rkL z 20).length).1, zuP z (asg (zP z) (rkL z 20) (spL z 20) (rkL z 20).length).2) := if_neg h
theorem ho_Cap2 {z : Sig} {v : Int} (hv : 1 ≤ v ∧ v ≤ 9) (h : canI z v (zo z) = 0) : oCap z v = (2, 0, z) := by
  unfold oCap
  rw [if_neg (by omega), if_pos h]
theorem ho_Cap0 {z : Sig} {v : Int} (hv : 1 ≤ v ∧ v ≤ 9) (h : ¬ canI z v (zo z) = 0) : oCap z v = (0, zC z, ((zA z, zN z, zG z, v), z.2)) := by
  unfold oCap
  rw [if_neg (by omega), if_neg h]
theorem asg_bb (P : Int → Int) (rk sp : List Nat) (n : Nat) : 0 ≤ (asg P rk sp n).1 ∧ (asg P rk sp n).1 ≤ n := by
  induction n with
  | zero => exact ⟨Int.le_refl _, Int.le_refl _⟩
  | succ n ih =>
    show 0 ≤ (asg P rk sp n).1 + (if (asg P rk sp n).2 ((rk.getD n 0 : Nat) : Int) = P ((sp.getD n 0 : Nat) : Int) then 0 else 1) ∧ (asg P rk sp n).1 + (if (asg P rk sp n).2 ((rk.getD n 0 : Nat) : Int) = P ((sp.getD n 0 : Nat) : Int) then 0 else 1) ≤ _
    split <;> omega
