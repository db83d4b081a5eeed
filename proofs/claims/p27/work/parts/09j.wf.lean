/-! ===== what always holds, holds behind every call ===== -/
theorem cln_congr {bt bt' mn mn' : Int → Int} {b b' : Int} : ∀ n, (∀ o : Nat, o < n → (bt (o : Int) = b ↔ bt' (o : Int) = b') ∧ (bt (o : Int) = b → mn (o : Int) = mn' (o : Int))) → cln bt mn b n = cln bt' mn' b' n := by
  intro n
  induction n with
  | zero => intro _; rfl
  | succ n ih =>
    intro h
    have h1 := ih (fun o ho => h o (by omega))
    obtain ⟨h2, h3⟩ := h n (by omega)
    show cln bt mn b n + (if bt (n : Int) = b then mn (n : Int) else 0) = cln bt' mn' b' n + (if bt' (n : Int) = b' then mn' (n : Int) else 0)
    rw [h1]
    by_cases e : bt (n : Int) = b
    · rw [if_pos e, if_pos (h2.1 e), h3 e]
    · rw [if_neg e, if_neg (fun e2 => e (h2.2 e2))]
theorem dn_congr {st st' : Int → Int} : ∀ n, (∀ o : Nat, o < n → (st (o : Int) = 2 ↔ st' (o : Int) = 2)) → dn st n = dn st' n := by
  intro n
  induction n with
  | zero => intro _; rfl
  | succ n ih =>
    intro h
    have h1 := ih (fun o ho => h o (by omega))
    have h2 := h n (by omega)
    show dn st n + (if st (n : Int) = 2 then 1 else 0) = dn st' n + (if st' (n : Int) = 2 then 1 else 0)
    rw [h1]
    by_cases e : st (n : Int) = 2
    · rw [if_pos e, if_pos (h2.1 e)]
    · rw [if_neg e, if_neg (fun e2 => e (h2.2 e2))]
theorem wnt_congr {pr pr' : Int → Int} {o : Nat} : ∀ n, (∀ k : Nat, k < n → pr ((5 * o + k : Nat) : Int) = pr' ((5 * o + k : Nat) : Int)) → wnt pr o n = wnt pr' o n := by
  intro n
  induction n with
  | zero => intro _; rfl
  | succ n ih =>
    intro h
    show wnt pr o n ||| 2 ^ (pr ((5 * o + n : Nat) : Int)).toNat = wnt pr' o n ||| 2 ^ (pr' ((5 * o + n : Nat) : Int)).toNat
    rw [ih (fun k hk => h k (by omega)), h n (by omega)]
theorem upd1_eq (F : Int → Int) (k v : Int) : upd1 F k v k = v := if_pos rfl
theorem upd1_ne (F : Int → Int) {k j : Int} (v : Int) (h : j ≠ k) : upd1 F k v j = F j := if_neg h
theorem tkI_0 {P : Int → Int} {p to : Int} : ∀ n, ¬ tkI P p to n = 1 → ∀ o : Nat, o < n → (o : Int) ≠ p → P (o : Int) ≠ to := by
  intro n
  induction n with
  | zero => intro _ o ho; omega
  | succ n ih =>
    intro h o ho hop e
    have h1 : ¬ (tkI P p to n = 1 ∨ ((n : Int) ≠ p ∧ P (n : Int) = to)) := fun hh => h (by unfold tkI; rw [if_pos hh])
    by_cases e2 : o = n
    · subst e2; exact h1 (Or.inr ⟨hop, e⟩)
    · exact ih (fun hh => h1 (Or.inl hh)) o (by omega) hop e
/-- products laid elsewhere -/
theorem Wf.uP {z : Sig} (h : Wf z) {F : Int → Int} (h1 : ∀ p : Nat, p < 20 → F (p : Int) = -1 ∨ plOk z (F (p : Int))) (h2 : ∀ p p' : Nat, p < 20 → p' < 20 → F (p : Int) = F (p' : Int) → F (p : Int) ≠ -1 → p = p') (h3 : ∀ p : Nat, p < 20 → zP z (p : Int) ≠ -1 → F (p : Int) ≠ -1) : Wf (zuP z F) := by
  obtain ⟨a1, a2, a3, a4, a5, a6, a7, a8, a9⟩ := h
  refine ⟨a1, a2, h1, h2, a5, fun o k ho hk => ?_, a7, a8, a9⟩
  obtain ⟨b1, b2, b3, b4⟩ := a6 o k ho hk
  refine ⟨b1, ?_, b3, b4⟩
  have e : zpr z ((5 * o + k : Nat) : Int) = (((zpr z ((5 * o + k : Nat) : Int)).toNat : Nat) : Int) := by omega
  show F (zpr z ((5 * o + k : Nat) : Int)) ≠ -1
  rw [e] at b2 ⊢
  exact h3 _ (by omega) b2
theorem Wf.put {z : Sig} (h : Wf z) {p a i : Int} (hp : 0 ≤ p ∧ p ≤ 19) (ha : 0 ≤ a ∧ a ≤ zA z - 1) (hi : 1 ≤ i ∧ i ≤ zN z) (ht : ¬ tkI (zP z) p (100 * a + i) 20 = 1) : Wf (zuP z (upd1 (zP z) p (100 * a + i))) := by
  have hN := h.1.2.2.2.1
  have h3 := h.2.2.1
  have h4 := h.2.2.2.1
  have h0 := tkI_0 20 ht
  refine h.uP (fun p' hp' => ?_) (fun p1 p2 hp1 hp2 e hne => ?_) (fun p' hp' hne => ?_)
  · by_cases e : (p' : Int) = p
    · rw [e, upd1_eq]
      exact Or.inr ⟨by omega, by omega, by omega, by omega⟩
    · rw [upd1_ne _ _ e]
      exact h3 p' hp'
  · by_cases e1 : (p1 : Int) = p
    · by_cases e2 : (p2 : Int) = p
      · omega
      · rw [e1, upd1_eq, upd1_ne _ _ e2] at e
        exact absurd e.symm (h0 p2 hp2 e2)
    · by_cases e2 : (p2 : Int) = p
      · rw [e2, upd1_eq, upd1_ne _ _ e1] at e
        exact absurd e (h0 p1 hp1 e1)
      · rw [upd1_ne _ _ e1, upd1_ne _ _ e2] at e
        rw [upd1_ne _ _ e1] at hne
        exact h4 p1 p2 hp1 hp2 e hne
  · by_cases e : (p' : Int) = p
    · rw [e, upd1_eq]; omega
    · rw [upd1_ne _ _ e]; exact hne
theorem insL_perm (b : Nat → Bool) (l : List Nat) (v : Nat) : (insL b l v).Perm (v :: l) := by
  unfold insL
  refine List.perm_middle.trans ?_
  rw [List.take_append_drop]
theorem rkL_perm (z : Sig) (n : Nat) : (rkL z n).Perm (spL z n) := by
  induction n with
  | zero => exact List.Perm.refl _
  | succ n ih =>
    by_cases h : zP z (n : Int) = -1
    · rw [show rkL z (n + 1) = rkL z n from if_pos h, show spL z (n + 1) = spL z n from if_pos h]
      exact ih
    · have e1 : rkL z (n + 1) = insL (fun x => decide (ztv z (x : Int) < ztv z (n : Int))) (rkL z n) n := if_neg h
      have e2 : spL z (n + 1) = insL (fun x => decide (dst (zN z) (zG z) 0 (zP z (n : Int)) < dst (zN z) (zG z) 0 (zP z (x : Int)) ∨ (dst (zN z) (zG z) 0 (zP z (x : Int)) = dst (zN z) (zG z) 0 (zP z (n : Int)) ∧ zP z (n : Int) < zP z (x : Int)))) (spL z n) n := if_neg h
      rw [e1, e2]
      exact (insL_perm _ _ _).trans ((List.Perm.cons _ ih).trans (insL_perm _ _ _).symm)
theorem rkL_mem' (z : Sig) (n : Nat) : ∀ x, x ∈ rkL z n ↔ x < n ∧ ¬ zP z (x : Int) = -1 := by
  induction n with
  | zero => intro x; exact ⟨fun h => absurd h (by unfold rkL; exact List.not_mem_nil), fun h => absurd h.1 (Nat.not_lt_zero _)⟩
  | succ n ih =>
    intro x
    by_cases h : zP z (n : Int) = -1
    · rw [show rkL z (n + 1) = rkL z n from if_pos h, ih x]
      constructor
      · intro hx; exact ⟨by omega, hx.2⟩
      · intro hx
        refine ⟨?_, hx.2⟩
        by_cases e : x = n
        · subst e; exact absurd h hx.2
        · omega
    · have e1 : rkL z (n + 1) = insL (fun x => decide (ztv z (x : Int) < ztv z (n : Int))) (rkL z n) n := if_neg h
      rw [e1, (insL_perm _ _ _).mem_iff, List.mem_cons, ih x]
      constructor
      · rintro (hx | hx)
        · subst hx; exact ⟨by omega, h⟩
        · exact ⟨by omega, hx.2⟩
      · intro hx
        by_cases e : x = n
        · exact Or.inl e
        · exact Or.inr ⟨by omega, hx.2⟩
theorem rkL_nodup (z : Sig) (n : Nat) : (rkL z n).Nodup := by
  induction n with
  | zero => exact List.nodup_nil
  | succ n ih =>
    by_cases h : zP z (n : Int) = -1
    · rw [show rkL z (n + 1) = rkL z n from if_pos h]; exact ih
    · have e1 : rkL z (n + 1) = insL (fun x => decide (ztv z (x : Int) < ztv z (n : Int))) (rkL z n) n := if_neg h
      rw [e1, (insL_perm _ _ _).nodup_iff, List.nodup_cons]
      refine ⟨fun hm => ?_, ih⟩
      have := ((rkL_mem' z n n).1 hm).1
      omega
theorem spL_nodup (z : Sig) (n : Nat) : (spL z n).Nodup := (rkL_perm z n).nodup_iff.1 (rkL_nodup z n)
theorem getD_inj {l : List Nat} (h : l.Nodup) {i j : Nat} (hi : i < l.length) (hj : j < l.length) (e : l.getD i 0 = l.getD j 0) : i = j := by
  rw [List.getD_eq_getElem?_getD, List.getD_eq_getElem?_getD, List.getElem?_eq_getElem hi, List.getElem?_eq_getElem hj] at e
  exact (List.getElem_inj h).1 e
theorem mem_getD {l : List Nat} {x : Nat} (h : x ∈ l) : ∃ i, i < l.length ∧ l.getD i 0 = x := by
  obtain ⟨i, hi, e⟩ := List.getElem_of_mem h
  refine ⟨i, hi, ?_⟩
  rw [List.getD_eq_getElem?_getD, List.getElem?_eq_getElem hi]
  exact e
theorem asg_in {P : Int → Int} {rk sp : List Nat} (hr : rk.Nodup) : ∀ k, k ≤ rk.length → ∀ j, j < k → (asg P rk sp k).2 ((rk.getD j 0 : Nat) : Int) = P ((sp.getD j 0 : Nat) : Int) := by
  intro k
  induction k with
  | zero => intro _ j hj; omega
  | succ k ih =>
    intro hk j hj
    show upd1 (asg P rk sp k).2 ((rk.getD k 0 : Nat) : Int) (P ((sp.getD k 0 : Nat) : Int)) _ = _
    by_cases e : j = k
    · subst e; rw [upd1_eq]
    · rw [upd1_ne]
      · exact ih (by omega) j (by omega)
      · intro e2
        exact e (getD_inj hr (by omega) (by omega) (by omega))
theorem asg_out {P : Int → Int} {rk sp : List Nat} {p : Int} : ∀ k, (∀ j, j < k → ((rk.getD j 0 : Nat) : Int) ≠ p) → (asg P rk sp k).2 p = P p := by
  intro k
  induction k with
  | zero => intro _; rfl
  | succ k ih =>
    intro h
    show upd1 (asg P rk sp k).2 ((rk.getD k 0 : Nat) : Int) (P ((sp.getD k 0 : Nat) : Int)) p = _
    rw [upd1_ne _ _ (fun e => h k (by omega) e.symm)]
    exact ih (fun j hj => h j (by omega))
theorem Wf.lay {z : Sig} (h : Wf z) : Wf (zuP z (asg (zP z) (rkL z 20) (spL z 20) (rkL z 20).length).2) := by
  have hr := rkL_nodup z 20
  have hs := spL_nodup z 20
  have hl := rk_sp_len z 20
  have h3 := h.2.2.1
  have h4 := h.2.2.2.1
  have key : ∀ p : Nat, p < 20 → (zP z (p : Int) = -1 ∧ (asg (zP z) (rkL z 20) (spL z 20) (rkL z 20).length).2 (p : Int) = -1) ∨ ∃ j, j < (rkL z 20).length ∧ (rkL z 20).getD j 0 = p ∧ zP z (p : Int) ≠ -1 ∧ (asg (zP z) (rkL z 20) (spL z 20) (rkL z 20).length).2 (p : Int) = zP z (((spL z 20).getD j 0 : Nat) : Int) := by
    intro p hp
    by_cases e : zP z (p : Int) = -1
    · refine Or.inl ⟨e, ?_⟩
      rw [asg_out]
      · exact e
      · intro j hj e2
        have := (rkL_mem z 20 j hj).2
        rw [e2] at this
        exact this e
    · obtain ⟨j, h1, h2⟩ := mem_getD ((rkL_mem' z 20 p).2 ⟨hp, e⟩)
      refine Or.inr ⟨j, h1, h2, e, ?_⟩
      have := asg_in (P := zP z) (sp := spL z 20) hr (rkL z 20).length (Nat.le_refl _) j h1
      rw [h2] at this
      exact this
  refine h.uP (fun p hp => ?_) (fun p p' hp hp' e hne => ?_) (fun p hp hne => ?_)
  · rcases key p hp with ⟨-, e⟩ | ⟨j, h1, -, -, e⟩
    · exact Or.inl e
    · rw [e]
      have := spL_mem z 20 j (by omega)
      rcases h3 _ this.1 with h5 | h5
      · exact absurd h5 this.2
      · exact Or.inr h5
  · rcases key p hp with ⟨-, e1⟩ | ⟨j, h1, h1', -, e1⟩
    · exact absurd e1 hne
    · rcases key p' hp' with ⟨-, e2⟩ | ⟨j', h2, h2', -, e2⟩
      · rw [e, e2] at hne; exact absurd rfl hne
      · have m1 := spL_mem z 20 j (by omega)
        have m2 := spL_mem z 20 j' (by omega)
        rw [e1, e2] at e
        have e3 := h4 _ _ m1.1 m2.1 e m1.2
        have e4 := getD_inj hs (by omega) (by omega) e3
        rw [← h1', ← h2', e4]
  · rcases key p hp with ⟨e, -⟩ | ⟨j, h1, -, -, e⟩
    · exact absurd e hne
    · rw [e]
      exact (spL_mem z 20 j (by omega)).2
theorem Wf.ord {z : Sig} (h : Wf z) {t : Int} (ht : 0 ≤ t ∧ t ≤ 999) (ho : zo z ≠ 40) : Wf (zord z t) := by
  obtain ⟨a1, a2, a3, a4, a5, a6, a7, a8, a9⟩ := h
  have un : ∀ (F : Int → Int) (v : Int) (o : Nat), o < zo z → upd1 F (zo z : Int) v (o : Int) = F (o : Int) := fun F v o ho => upd1_ne _ _ (by omega)
  have hd : dn (upd1 (zst z) (zo z : Int) 0) (zo z + 1) = dn (zst z) (zo z) := by
    show dn _ (zo z) + (if upd1 (zst z) (zo z : Int) 0 (zo z : Int) = 2 then 1 else 0) = _
    rw [upd1_eq, if_neg (by omega)]
    exact dn_congr _ (fun o ho => by rw [un _ _ o ho])
  have hc : ∀ b : Nat, cln (upd1 (zbt z) (zo z : Int) (-1)) (upd1 (zmn z) (zo z : Int) 0) (b : Int) (zo z + 1) = zln z (b : Int) := by
    intro b
    show cln _ _ _ (zo z) + (if upd1 (zbt z) (zo z : Int) (-1) (zo z : Int) = (b : Int) then _ else 0) = _
    rw [upd1_eq, if_neg (by omega), Int.add_zero]
    exact cln_congr _ (fun o ho => by rw [un _ _ o ho, un _ _ o ho]; exact ⟨Iff.rfl, fun _ => rfl⟩)
  refine ⟨a1, ⟨?_, ?_⟩, a3, a4, fun o ho' => ?_, fun o k ho' hk => ?_, fun b hb => ?_, ?_, ?_⟩
  · show zo z + 1 ≤ 40; omega
  · show zb z ≤ zo z + 1; omega
  · have ho' : o < zo z + 1 := ho'
    show (0 ≤ upd1 (zmn z) (zo z : Int) 0 (o : Int) ∧ upd1 (zmn z) (zo z : Int) 0 (o : Int) ≤ 5) ∧ (upd1 (zst z) (zo z : Int) 0 (o : Int) = 0 ∨ upd1 (zst z) (zo z : Int) 0 (o : Int) = 1 ∨ upd1 (zst z) (zo z : Int) 0 (o : Int) = 2) ∧ (-1 ≤ upd1 (zbt z) (zo z : Int) (-1) (o : Int) ∧ upd1 (zbt z) (zo z : Int) (-1) (o : Int) < (zb z : Int)) ∧ (0 ≤ upd1 (zbt z) (zo z : Int) (-1) (o : Int) ↔ upd1 (zst z) (zo z : Int) 0 (o : Int) = 1) ∧ (0 ≤ upd1 (zdu z) (zo z : Int) t (o : Int) ∧ upd1 (zdu z) (zo z : Int) t (o : Int) ≤ 999) ∧ (upd1 (zst z) (zo z : Int) 0 (o : Int) ≠ 2 → upd1 (zmn z) (zo z : Int) 0 (o : Int) ≤ zC z) ∧ (upd1 (zst z) (zo z : Int) 0 (o : Int) ≠ 0 → 0 < upd1 (zmn z) (zo z : Int) 0 (o : Int))
    by_cases e : o = zo z
    · subst e
      rw [upd1_eq, upd1_eq, upd1_eq, upd1_eq]
      refine ⟨by omega, Or.inl rfl, by omega, by omega, ht, fun _ => by omega, fun h9 => absurd rfl h9⟩
    · have h1 : o < zo z := by omega
      rw [un _ _ o h1, un _ _ o h1, un _ _ o h1, un _ _ o h1]
      exact a5 o h1
  · have ho' : o < zo z + 1 := ho'
    have hk : (k : Int) < upd1 (zmn z) (zo z : Int) 0 (o : Int) := hk
    by_cases e : o = zo z
    · rw [e, upd1_eq] at hk; omega
    · rw [un _ _ o (by omega)] at hk
      exact a6 o k (by omega) hk
  · have hb : b < zb z := hb
    obtain ⟨h1, o, h2, h3⟩ := a7 b hb
    refine ⟨?_, o, ?_, ?_⟩
    · show cln (upd1 (zbt z) (zo z : Int) (-1)) (upd1 (zmn z) (zo z : Int) 0) (b : Int) (zo z + 1) ≤ zC z
      rw [hc b]; exact h1
    · show o < zo z + 1; omega
    · show upd1 (zbt z) (zo z : Int) (-1) (o : Int) = _
      rw [un _ _ o h2]; exact h3
  · show 0 ≤ zw z ∧ zw z ≤ 660 * ((dn (upd1 (zst z) (zo z : Int) 0) (zo z + 1) : Nat) : Int)
    rw [hd]; exact a8
  · show 0 ≤ za z ∧ za z ≤ 660 * ((dn (upd1 (zst z) (zo z : Int) 0) (zo z + 1) : Nat) : Int)
    rw [hd]; exact a9
theorem Wf.lin {z : Sig} (h : Wf z) {o : Nat} {p y : Int} (ho : o < zo z) (hp : 0 ≤ p ∧ p ≤ 19) (hy : 1 ≤ y ∧ y ≤ 99) (hst : zst z (o : Int) = 0) (h5 : zmn z (o : Int) ≠ 5) (hC : zmn z (o : Int) < zC z) (hb : (zW z o).testBit p.toNat = false) (hpl : zP z p ≠ -1) : Wf (zlin z o p y) := by
  obtain ⟨a1, a2, a3, a4, a5, a6, a7, a8, a9⟩ := h
  have m0 := (a5 o ho).1
  have hbt : zbt z (o : Int) = -1 := by
    have h1 := (a5 o ho).2.2.1
    have h2 := (a5 o ho).2.2.2.1
    omega
  have hc : ∀ b : Nat, cln (zbt z) (upd1 (zmn z) (o : Int) (zmn z (o : Int) + 1)) (b : Int) (zo z) = zln z (b : Int) := by
    intro b
    refine cln_congr _ (fun o' ho' => ⟨Iff.rfl, fun e => upd1_ne _ _ (fun e2 => ?_)⟩)
    rw [e2, hbt] at e
    omega
  have hix : 5 * (o : Int) + zmn z (o : Int) = ((5 * o + (zmn z (o : Int)).toNat : Nat) : Int) := by omega
  have un : ∀ (F : Int → Int) (v : Int) (o' k : Nat), (k : Int) < zmn z (o' : Int) → o' < zo z → upd1 F (5 * (o : Int) + zmn z (o : Int)) v ((5 * o' + k : Nat) : Int) = F ((5 * o' + k : Nat) : Int) := by
    intro F v o' k hk ho'
    have := (a5 o' ho').1
    refine upd1_ne _ _ (fun e => ?_)
    have e1 : o' = o := by omega
    subst e1
    omega
  refine ⟨a1, a2, a3, a4, fun o' ho' => ?_, fun o' k ho' hk => ?_, fun b hb' => ?_, a8, a9⟩
  · have h1 := a5 o' ho'
    show (0 ≤ upd1 (zmn z) (o : Int) (zmn z (o : Int) + 1) (o' : Int) ∧ upd1 (zmn z) (o : Int) (zmn z (o : Int) + 1) (o' : Int) ≤ 5) ∧ (zst z (o' : Int) = 0 ∨ zst z (o' : Int) = 1 ∨ zst z (o' : Int) = 2) ∧ (-1 ≤ zbt z (o' : Int) ∧ zbt z (o' : Int) < (zb z : Int)) ∧ (0 ≤ zbt z (o' : Int) ↔ zst z (o' : Int) = 1) ∧ (0 ≤ zdu z (o' : Int) ∧ zdu z (o' : Int) ≤ 999) ∧ (zst z (o' : Int) ≠ 2 → upd1 (zmn z) (o : Int) (zmn z (o : Int) + 1) (o' : Int) ≤ zC z) ∧ (zst z (o' : Int) ≠ 0 → 0 < upd1 (zmn z) (o : Int) (zmn z (o : Int) + 1) (o' : Int))
    by_cases e : o' = o
    · subst e
      rw [upd1_eq]
      exact ⟨by omega, h1.2.1, h1.2.2.1, h1.2.2.2.1, h1.2.2.2.2.1, fun _ => by omega, fun _ => by omega⟩
    · rw [upd1_ne _ _ (show (o' : Int) ≠ (o : Int) by omega)]
      exact h1
  · have ho' : o' < zo z := ho'
    have hk : (k : Int) < upd1 (zmn z) (o : Int) (zmn z (o : Int) + 1) (o' : Int) := hk
    show (0 ≤ upd1 (zpr z) (5 * (o : Int) + zmn z (o : Int)) p ((5 * o' + k : Nat) : Int) ∧ upd1 (zpr z) (5 * (o : Int) + zmn z (o : Int)) p ((5 * o' + k : Nat) : Int) < 20) ∧ zP z (upd1 (zpr z) (5 * (o : Int) + zmn z (o : Int)) p ((5 * o' + k : Nat) : Int)) ≠ -1 ∧ (1 ≤ upd1 (zqt z) (5 * (o : Int) + zmn z (o : Int)) y ((5 * o' + k : Nat) : Int) ∧ upd1 (zqt z) (5 * (o : Int) + zmn z (o : Int)) y ((5 * o' + k : Nat) : Int) ≤ 99) ∧ (wnt (upd1 (zpr z) (5 * (o : Int) + zmn z (o : Int)) p) o' k).testBit (upd1 (zpr z) (5 * (o : Int) + zmn z (o : Int)) p ((5 * o' + k : Nat) : Int)).toNat = false
    by_cases e : (k : Int) < zmn z (o' : Int)
    · have hw : wnt (upd1 (zpr z) (5 * (o : Int) + zmn z (o : Int)) p) o' k = wnt (zpr z) o' k := wnt_congr _ (fun i hi => un _ _ o' i (by omega) ho')
      rw [un _ _ o' k e ho', un _ _ o' k e ho', hw]
      exact a6 o' k ho' e
    · have e1 : o' = o := by
        by_cases e2 : o' = o
        · exact e2
        · rw [upd1_ne _ _ (show (o' : Int) ≠ (o : Int) by omega)] at hk
          exact absurd hk e
      subst e1
      rw [upd1_eq] at hk
      have e2 : (5 * (o' : Int) + zmn z (o' : Int)) = ((5 * o' + k : Nat) : Int) := by omega
      have hw : wnt (upd1 (zpr z) (5 * (o' : Int) + zmn z (o' : Int)) p) o' k = wnt (zpr z) o' k := wnt_congr _ (fun i hi => un _ _ o' i (by omega) ho')
      rw [hw, e2, upd1_eq, upd1_eq]
      refine ⟨by omega, hpl, hy, ?_⟩
      have e3 : zW z o' = wnt (zpr z) o' k := by
        unfold zW
        rw [show (zmn z (o' : Int)).toNat = k by omega]
      rw [← e3]
      exact hb
  · have h1 := a7 b hb'
    refine ⟨?_, h1.2⟩
    show cln (zbt z) (upd1 (zmn z) (o : Int) (zmn z (o : Int) + 1)) (b : Int) (zo z) ≤ zC z
    rw [hc b]
    exact h1.1
theorem canI_1 {z : Sig} {l : Int} : ∀ n, canI z l n = 1 → zb z = 0 ∧ ∀ o : Nat, o < n → zst z (o : Int) = 2 ∨ zmn z (o : Int) ≤ l := by
  intro n
  induction n with
  | zero =>
    intro h
    refine ⟨?_, fun o ho => absurd ho (Nat.not_lt_zero _)⟩
    by_cases e : zb z = 0
    · exact e
    · unfold canI at h
      rw [if_neg e] at h
      omega
  | succ n ih =>
    intro h
    by_cases e : canI z l n = 1 ∧ (zst z (n : Int) = 2 ∨ zmn z (n : Int) ≤ l)
    · obtain ⟨h1, h2⟩ := ih e.1
      refine ⟨h1, fun o ho => ?_⟩
      by_cases e2 : o = n
      · subst e2; exact e.2
      · exact h2 o (by omega)
    · unfold canI at h
      rw [if_neg e] at h
      omega
theorem Wf.cap {z : Sig} (h : Wf z) {l : Int} (hl : 1 ≤ l ∧ l ≤ 9) (hc : ¬ canI z l (zo z) = 0) : Wf ((zA z, zN z, zG z, l), z.2) := by
  have hc1 : canI z l (zo z) = 1 := by have := canI_b z l (zo z); omega
  obtain ⟨k1, k2⟩ := canI_1 _ hc1
  obtain ⟨a1, a2, a3, a4, a5, a6, a7, a8, a9⟩ := h
  refine ⟨⟨a1.1, a1.2.1, a1.2.2.1, a1.2.2.2.1, a1.2.2.2.2.1, a1.2.2.2.2.2.1, hl.1, hl.2⟩, a2, a3, a4, fun o ho => ?_, a6, fun b hb => ?_, a8, a9⟩
  · obtain ⟨b1, b2, b3, b4, b5, b6, b7⟩ := a5 o ho
    refine ⟨b1, b2, b3, b4, b5, fun hne => ?_, b7⟩
    rcases k2 o ho with h9 | h9
    · exact absurd h9 hne
    · exact h9
  · have : b < zb z := hb
    omega
theorem tkW_in (z : Sig) (t : Int) : ∀ n, (∀ o : Nat, o < n → isT z t o → (tkW z t n).2.1 (o : Int) = 1 ∧ 0 ≤ (tkW z t n).2.2 (o : Int) ∧ (tkW z t n).2.2 (o : Int) < ((tkW z t n).1 : Int)) ∧ (∀ o : Nat, o < n → ¬ isT z t o → (tkW z t n).2.1 (o : Int) = zst z (o : Int) ∧ (tkW z t n).2.2 (o : Int) = zbt z (o : Int)) ∧ (tkW z t n).1 ≤ n := by
  intro n
  induction n with
  | zero => exact ⟨fun o ho => absurd ho (Nat.not_lt_zero _), fun o ho => absurd ho (Nat.not_lt_zero _), Nat.le_refl _⟩
  | succ n ih =>
    obtain ⟨h1, h2, h3⟩ := ih
    by_cases e : isT z t n
    · have e1 : tkW z t (n + 1) = ((tkW z t n).1 + 1, upd1 (tkW z t n).2.1 (n : Int) 1, upd1 (tkW z t n).2.2 (n : Int) ((tkW z t n).1 : Int)) := if_pos e
      rw [e1]
      refine ⟨fun o ho hi => ?_, fun o ho hi => ?_, by dsimp only; omega⟩
      · dsimp only
        by_cases e2 : o = n
        · subst e2; rw [upd1_eq, upd1_eq]; omega
        · rw [upd1_ne _ _ (show (o : Int) ≠ (n : Int) by omega), upd1_ne _ _ (show (o : Int) ≠ (n : Int) by omega)]
          have := h1 o (by omega) hi
          omega
      · dsimp only
        by_cases e2 : o = n
        · subst e2; exact absurd e hi
        · rw [upd1_ne _ _ (show (o : Int) ≠ (n : Int) by omega), upd1_ne _ _ (show (o : Int) ≠ (n : Int) by omega)]
          exact h2 o (by omega) hi
    · have e1 : tkW z t (n + 1) = tkW z t n := if_neg e
      rw [e1]
      refine ⟨fun o ho hi => ?_, fun o ho hi => ?_, by omega⟩
      · by_cases e2 : o = n
        · subst e2; exact absurd hi e
        · exact h1 o (by omega) hi
      · by_cases e2 : o = n
        · subst e2; exact tkW_at z t o (o : Int) (Int.le_refl _)
        · exact h2 o (by omega) hi
/-- each taken order is a batch of its own -/
theorem tkW_ba {z : Sig} {t : Int} (h : Wf z) (hz : zb z = 0) : ∀ n, n ≤ zo z → (∀ b : Nat, b < (tkW z t n).1 → ∃ o : Nat, o < n ∧ isT z t o ∧ (tkW z t n).2.2 (o : Int) = (b : Int) ∧ cln (tkW z t n).2.2 (zmn z) (b : Int) n = zmn z (o : Int) ∧ prd (tkW z t n).2.2 (zW z) (b : Int) n = zW z o) ∧ (∀ b : Nat, (tkW z t n).1 ≤ b → cln (tkW z t n).2.2 (zmn z) (b : Int) n = 0 ∧ prd (tkW z t n).2.2 (zW z) (b : Int) n = 0) := by
  have hneg : ∀ o : Nat, o < zo z → zbt z (o : Int) = -1 := fun o ho => by
    have := (h.2.2.2.2.1 o ho).2.2.1
    omega
  have prd_congr : ∀ (bt bt' : Int → Int) (b : Int) (n : Nat), (∀ o : Nat, o < n → bt (o : Int) = bt' (o : Int)) → prd bt (zW z) b n = prd bt' (zW z) b n := by
    intro bt bt' b n
    induction n with
    | zero => intro _; rfl
    | succ n ih =>
      intro h
      show prd bt (zW z) b n ||| (if bt (n : Int) = b then zW z n else 0) = prd bt' (zW z) b n ||| (if bt' (n : Int) = b then zW z n else 0)
      rw [ih (fun o ho => h o (by omega)), h n (by omega)]
  intro n
  induction n with
  | zero => intro _; exact ⟨fun b hb => absurd hb (Nat.not_lt_zero _), fun b _ => ⟨rfl, rfl⟩⟩
  | succ n ih =>
    intro hn
    obtain ⟨h1, h2⟩ := ih (by omega)
    by_cases e : isT z t n
    · have e1 : tkW z t (n + 1) = ((tkW z t n).1 + 1, upd1 (tkW z t n).2.1 (n : Int) 1, upd1 (tkW z t n).2.2 (n : Int) ((tkW z t n).1 : Int)) := if_pos e
      rw [e1]
      dsimp only
      have hc : ∀ b : Nat, cln (upd1 (tkW z t n).2.2 (n : Int) ((tkW z t n).1 : Int)) (zmn z) (b : Int) n = cln (tkW z t n).2.2 (zmn z) (b : Int) n := fun b => cln_congr _ (fun o ho => by rw [upd1_ne _ _ (show (o : Int) ≠ (n : Int) by omega)]; exact ⟨Iff.rfl, fun _ => rfl⟩)
      have hp : ∀ b : Nat, prd (upd1 (tkW z t n).2.2 (n : Int) ((tkW z t n).1 : Int)) (zW z) (b : Int) n = prd (tkW z t n).2.2 (zW z) (b : Int) n := fun b => prd_congr _ _ _ _ (fun o ho => upd1_ne _ _ (show (o : Int) ≠ (n : Int) by omega))
      have hc1 : ∀ b : Nat, cln (upd1 (tkW z t n).2.2 (n : Int) ((tkW z t n).1 : Int)) (zmn z) (b : Int) (n + 1) = cln (tkW z t n).2.2 (zmn z) (b : Int) n + (if ((tkW z t n).1 : Int) = (b : Int) then zmn z (n : Int) else 0) := fun b => by
        show cln _ _ _ n + (if upd1 (tkW z t n).2.2 (n : Int) ((tkW z t n).1 : Int) (n : Int) = (b : Int) then _ else _) = _
        rw [hc b, upd1_eq]
      have hp1 : ∀ b : Nat, prd (upd1 (tkW z t n).2.2 (n : Int) ((tkW z t n).1 : Int)) (zW z) (b : Int) (n + 1) = prd (tkW z t n).2.2 (zW z) (b : Int) n ||| (if ((tkW z t n).1 : Int) = (b : Int) then zW z n else 0) := fun b => by
        show prd _ _ _ n ||| (if upd1 (tkW z t n).2.2 (n : Int) ((tkW z t n).1 : Int) (n : Int) = (b : Int) then _ else _) = _
        rw [hp b, upd1_eq]
      refine ⟨fun b hb => ?_, fun b hb => ?_⟩
      · by_cases e2 : b = (tkW z t n).1
        · obtain ⟨c1, c2⟩ := h2 b (by omega)
          refine ⟨n, by omega, e, by rw [upd1_eq, e2], ?_, ?_⟩
          · rw [hc1, c1, if_pos (by omega)]; omega
          · rw [hp1, c2, if_pos (by omega), Nat.zero_or]
        · obtain ⟨o, o1, o2, o3, o4, o5⟩ := h1 b (by omega)
          refine ⟨o, by omega, o2, ?_, ?_, ?_⟩
          · rw [upd1_ne _ _ (show (o : Int) ≠ (n : Int) by omega)]; exact o3
          · rw [hc1, o4, if_neg (by omega)]; omega
          · rw [hp1, o5, if_neg (by omega), Nat.or_zero]
      · obtain ⟨c1, c2⟩ := h2 b (by omega)
        exact ⟨by rw [hc1, c1, if_neg (by omega)]; rfl, by rw [hp1, c2, if_neg (by omega)]; rfl⟩
    · have e1 : tkW z t (n + 1) = tkW z t n := if_neg e
      rw [e1]
      have hb : (tkW z t n).2.2 (n : Int) = -1 := (tkW_at z t n (n : Int) (Int.le_refl _)).2.trans (hneg n (by omega))
      have hc1 : ∀ b : Nat, cln (tkW z t n).2.2 (zmn z) (b : Int) (n + 1) = cln (tkW z t n).2.2 (zmn z) (b : Int) n := fun b => by
        show cln _ _ _ n + (if (tkW z t n).2.2 (n : Int) = (b : Int) then _ else _) = _
        rw [hb, if_neg (by omega), Int.add_zero]
      have hp1 : ∀ b : Nat, prd (tkW z t n).2.2 (zW z) (b : Int) (n + 1) = prd (tkW z t n).2.2 (zW z) (b : Int) n := fun b => by
        show prd _ _ _ n ||| (if (tkW z t n).2.2 (n : Int) = (b : Int) then _ else _) = _
        rw [hb, if_neg (by omega), Nat.or_zero]
      refine ⟨fun b hb => ?_, fun b hb => ?_⟩
      · obtain ⟨o, o1, o2, o3, o4, o5⟩ := h1 b hb
        exact ⟨o, by omega, o2, o3, by rw [hc1, o4], by rw [hp1, o5]⟩
      · rw [hc1, hp1]; exact h2 b hb
theorem Wf.wv {z : Sig} (h : Wf z) (t : Int) (hz : zb z = 0) : Wf (zwv z t) := by
  obtain ⟨k1, k2, k3⟩ := tkW_in z t (zo z)
  obtain ⟨k4, -⟩ := tkW_ba (t := t) h hz (zo z) (Nat.le_refl _)
  obtain ⟨a1, a2, a3, a4, a5, a6, a7, a8, a9⟩ := h
  have hd : dn (tkW z t (zo z)).2.1 (zo z) = dn (zst z) (zo z) := dn_congr _ (fun o ho => by
    by_cases e : isT z t o
    · rw [(k1 o ho e).1]
      have := e.1
      omega
    · rw [(k2 o ho e).1])
  refine ⟨a1, ⟨a2.1, k3⟩, a3, a4, fun o ho => ?_, a6, fun b hb => ?_, ?_, ?_⟩
  · have ho : o < zo z := ho
    obtain ⟨b1, b2, b3, b4, b5, b6, b7⟩ := a5 o ho
    show (0 ≤ zmn z (o : Int) ∧ zmn z (o : Int) ≤ 5) ∧ ((tkW z t (zo z)).2.1 (o : Int) = 0 ∨ (tkW z t (zo z)).2.1 (o : Int) = 1 ∨ (tkW z t (zo z)).2.1 (o : Int) = 2) ∧ (-1 ≤ (tkW z t (zo z)).2.2 (o : Int) ∧ (tkW z t (zo z)).2.2 (o : Int) < ((tkW z t (zo z)).1 : Int)) ∧ (0 ≤ (tkW z t (zo z)).2.2 (o : Int) ↔ (tkW z t (zo z)).2.1 (o : Int) = 1) ∧ (0 ≤ zdu z (o : Int) ∧ zdu z (o : Int) ≤ 999) ∧ ((tkW z t (zo z)).2.1 (o : Int) ≠ 2 → zmn z (o : Int) ≤ zC z) ∧ ((tkW z t (zo z)).2.1 (o : Int) ≠ 0 → 0 < zmn z (o : Int))
    by_cases e : isT z t o
    · obtain ⟨c1, c2, c3⟩ := k1 o ho e
      obtain ⟨e1, e2, e3⟩ := e
      refine ⟨b1, by omega, by omega, by omega, b5, fun _ => b6 (by omega), fun _ => e2⟩
    · obtain ⟨c1, c2⟩ := k2 o ho e
      rw [c1, c2]
      exact ⟨b1, b2, by omega, b4, b5, b6, b7⟩
  · have hb : b < (tkW z t (zo z)).1 := hb
    obtain ⟨o, o1, o2, o3, o4, -⟩ := k4 b hb
    refine ⟨?_, o, o1, o3⟩
    show cln (tkW z t (zo z)).2.2 (zmn z) (b : Int) (zo z) ≤ zC z
    rw [o4]
    exact (a5 o o1).2.2.2.2.2.1 (by rw [o2.1]; omega)
  · show 0 ≤ zw z ∧ zw z ≤ 660 * ((dn (tkW z t (zo z)).2.1 (zo z) : Nat) : Int)
    rw [hd]; exact a8
  · show 0 ≤ za z ∧ za z ≤ 660 * ((dn (tkW z t (zo z)).2.1 (zo z) : Nat) : Int)
    rw [hd]; exact a9
