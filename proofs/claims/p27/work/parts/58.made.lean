/-! ===== what constructors leave ===== -/
def ExA (S u : Sto) (a : Nat) : Prop := Gro S u ∧ ∀ x ∈ sL S, x ≠ a → sI u x = sI S x ∧ sP u x = sP S x ∧ sJ u x = sJ S x
theorem ExA.refl {S : Sto} (a : Nat) : ExA S S a := ⟨Gro.refl, fun _ _ _ => ⟨rfl, rfl, rfl⟩⟩
theorem ExA.trans {S u v : Sto} {a : Nat} (h : ExA S u a) (h' : ExA u v a) : ExA S v a := ⟨h.1.trans h'.1, fun x hx hn => ⟨(h'.2 x (h.1 x hx).1 hn).1.trans (h.2 x hx hn).1, (h'.2 x (h.1 x hx).1 hn).2.1.trans (h.2 x hx hn).2.1, (h'.2 x (h.1 x hx).1 hn).2.2.trans (h.2 x hx hn).2.2⟩⟩
/-- the change of a cell that was made later -/
theorem ExA.new {S u v : Sto} {a b : Nat} (h : ExA S u a) (hb : b ∉ sL S) (h' : ExA u v b) : ExA S v a := ⟨h.1.trans h'.1, fun x hx hn => by
  have hxb : x ≠ b := fun e => hb (e ▸ hx)
  exact ⟨(h'.2 x (h.1 x hx).1 hxb).1.trans (h.2 x hx hn).1, (h'.2 x (h.1 x hx).1 hxb).2.1.trans (h.2 x hx hn).2.1, (h'.2 x (h.1 x hx).1 hxb).2.2.trans (h.2 x hx hn).2.2⟩⟩
theorem Ext.exA {S u : Sto} (h : Ext S u) (a : Nat) : ExA S u a := ⟨h.gro, fun x hx _ => (h x hx).2.2.2⟩
theorem exA_uP (S : Sto) (a : Nat) (k : Int) (v : Option Nat) : ExA S (uP S a k v) a := ⟨Gro.same rfl rfl rfl, fun _ _ hn => ⟨rfl, up2_row _ _ _ hn, rfl⟩⟩
theorem exA_uI (S : Sto) (a : Nat) (k v : Int) : ExA S (uI S a k v) a := ⟨Gro.same rfl rfl rfl, fun _ _ hn => ⟨up2_row _ _ _ hn, rfl, rfl⟩⟩
theorem exA_uJ (S : Sto) (a : Nat) (k v : Int) : ExA S (uJ S a k v) a := ⟨Gro.same rfl rfl rfl, fun _ _ hn => ⟨rfl, rfl, up2_row _ _ _ hn⟩⟩
/-- new cells, apart -/
def Frs (S u : Sto) (L : List Nat) : Prop := L.Nodup ∧ ∀ x ∈ L, x ∉ sL S ∧ x ∈ sL u
theorem Frs.app {S u v : Sto} {L M : List Nat} (h : Frs S u L) (hG : Gro S u) (hG2 : Gro u v) (h' : Frs u v M) : Frs S v (L ++ M) := by
  refine ⟨List.nodup_append.mpr ⟨h.1, h'.1, fun a ha b hb e => (h'.2 b hb).1 (e ▸ (h.2 a ha).2)⟩, fun x hx => ?_⟩
  rcases List.mem_append.mp hx with h1 | h1
  · exact ⟨(h.2 x h1).1, (hG2 x (h.2 x h1).2).1⟩
  · exact ⟨fun h2 => (h'.2 x h1).1 (hG x h2).1, (h'.2 x h1).2⟩
theorem Frs.mono {S u v : Sto} {L : List Nat} (h : Frs S u L) (hG : Gro u v) : Frs S v L := ⟨h.1, fun x hx => ⟨(h.2 x hx).1, (hG x (h.2 x hx).2).1⟩⟩
theorem Frs.nil {S u : Sto} : Frs S u [] := ⟨List.nodup_nil, fun _ h => absurd h List.not_mem_nil⟩
theorem Frs.nw {S : Sto} {a : Nat} (h : a ∉ sL S) (kd n : Nat) : Frs S (nw S a kd n) [a] := ⟨List.nodup_cons.mpr ⟨List.not_mem_nil, List.nodup_nil⟩, fun x hx => by rw [List.mem_singleton.mp hx]; exact ⟨h, (nw_at (kd := kd) (n := n)).1⟩⟩
theorem Frs.mna {S : Sto} {a n k : Nat} {r : Nat → Nat} (h1 : a ∉ sL S) (h2 : ∀ i, i < n → r i ∉ sL S) (h3 : ∀ i j, i < n → j < n → r i = r j → i = j) (h4 : ∀ i, i < n → r i ≠ a) : Frs S (mna S a n r k) (a :: rls n r) := by
  refine ⟨List.nodup_cons.mpr ⟨fun h => ?_, ?_⟩, fun x hx => ?_⟩
  · obtain ⟨i, i1, i2⟩ := rls_mem.mp h
    exact h4 i i1 i2
  · unfold rls
    rw [List.nodup_iff_pairwise_ne, List.pairwise_map]
    refine List.Pairwise.imp_of_mem ?_ (List.nodup_range (n := n))
    intro i j hi hj hn e
    exact hn (h3 i j (List.mem_range.mp hi) (List.mem_range.mp hj) e)
  · rcases List.mem_cons.mp hx with e | e
    · rw [e]; exact ⟨h1, List.mem_cons_self⟩
    · obtain ⟨i, i1, i2⟩ := rls_mem.mp e
      exact ⟨fun h => h2 i i1 (i2 ▸ h), List.mem_cons_of_mem _ (List.mem_append_right _ e)⟩
/-- the rows of whole numbers that a constructor made, one a field of a -/
def Arr (S u : Sto) (a : Nat) (fs : List (Nat × Nat)) (e : Nat → Nat) : Prop := ExA S u a ∧ (∀ i, i < fs.length → e i ∉ sL S ∧ At0 u (e i) 20 ∧ sN u (e i) = (fs.getD i (0, 0)).2 ∧ sP u a (((fs.getD i (0, 0)).1 : Nat) : Int) = some (e i) ∧ ∀ j, sI u (e i) j = 0) ∧ (∀ i j, i < fs.length → j < fs.length → e i = e j → i = j) ∧ sJ u a = sJ S a
theorem Arr.nil {S : Sto} {a : Nat} (e : Nat → Nat) : Arr S S a [] e := ⟨ExA.refl a, fun i hi => absurd hi (Nat.not_lt_zero _), fun i j hi => absurd hi (Nat.not_lt_zero _), rfl⟩
theorem Arr.put {S u : Sto} {a k n r ka : Nat} {fs : List (Nat × Nat)} {e : Nat → Nat} (ha : At0 S a ka) (h : Arr S u a fs e) (hr : r ∉ sL u) (hk : ∀ i, i < fs.length → (fs.getD i (0, 0)).1 ≠ k) : Arr S (uP (nw u r 20 n) a (k : Int) (some r)) a (fs ++ [(k, n)]) (fun i => if i = fs.length then r else e i) ∧ sI (uP (nw u r 20 n) a (k : Int) (some r)) a = sI u a := by
  obtain ⟨h1, h2, h3, h4⟩ := h
  have hau := (h1.1 a ha.1).1
  have hx := Ext.nw (S := u) hr 20 n
  have har : a ≠ r := fun e9 => hr (e9 ▸ hau)
  have hE : ExA u (uP (nw u r 20 n) a (k : Int) (some r)) a := (hx.exA a).trans (exA_uP _ _ _ _)
  refine ⟨⟨h1.trans hE, fun i hi => ?_, fun i j hi hj e9 => ?_, ?_⟩, nw_Ine (S := u) (a := r) (kd := 20) (n := n) har⟩
  · rw [List.length_append, List.length_singleton] at hi
    by_cases e9 : i = fs.length
    · subst e9
      dsimp only
      have hg : (fs ++ [(k, n)]).getD fs.length (0, 0) = (k, n) := by
        rw [List.getD_eq_getElem?_getD, List.getElem?_append_right (Nat.le_refl _), Nat.sub_self]
        rfl
      rw [if_pos rfl, hg]
      refine ⟨fun h9 => hr (h1.1 r h9).1, nw_at (S := u) (a := r) (kd := 20) (n := n), nw_ln (S := u) (a := r) (kd := 20) (n := n), up2_same _ _ _ _, fun j => nw_I (S := u) (a := r) (kd := 20) (n := n) j⟩
    · dsimp only
      have hg : (fs ++ [(k, n)]).getD i (0, 0) = fs.getD i (0, 0) := by
        rw [List.getD_eq_getElem?_getD, List.getElem?_append_left (by omega), ← List.getD_eq_getElem?_getD]
      rw [if_neg e9, hg]
      obtain ⟨b1, b2, b3, b4, b5⟩ := h2 i (by omega)
      have hia : e i ≠ a := fun e8 => b1 (e8 ▸ ha.1)
      refine ⟨b1, hE.1.at b2, hE.1.ln b2 b3, ?_, fun j => ?_⟩
      · refine (up2_nk _ _ _ _ (by have := hk i (by omega); omega)).trans ?_
        rw [show sP (nw u r 20 n) a = sP u a from nw_Pne (S := u) (a := r) (kd := 20) (n := n) har]
        exact b4
      · rw [(hE.2 (e i) b2.1 hia).1]; exact b5 j
  · rw [List.length_append, List.length_singleton] at hi hj
    dsimp only at e9
    by_cases e1 : i = fs.length
    · by_cases e2 : j = fs.length
      · omega
      · rw [if_pos e1, if_neg e2] at e9
        exact absurd (e9 ▸ (h2 j (by omega)).2.1.1) hr
    · by_cases e2 : j = fs.length
      · rw [if_neg e1, if_pos e2] at e9
        exact absurd (e9 ▸ (h2 i (by omega)).2.1.1) hr
      · rw [if_neg e1, if_neg e2] at e9
        exact h3 i j (by omega) (by omega) e9
  · exact (nw_Jne (S := u) (a := r) (kd := 20) (n := n) har).trans h4
theorem Arr.int {S u : Sto} {a ka : Nat} {fs : List (Nat × Nat)} {e : Nat → Nat} (ha : At0 S a ka) (h : Arr S u a fs e) (k v : Int) : Arr S (uI u a k v) a fs e ∧ sI (uI u a k v) a = upd1 (sI u a) k v := by
  obtain ⟨h1, h2, h3, h4⟩ := h
  refine ⟨⟨h1.trans (exA_uI _ _ _ _), fun i hi => ?_, h3, h4⟩, ?_⟩
  · obtain ⟨b1, b2, b3, b4, b5⟩ := h2 i hi
    have hia : e i ≠ a := fun e8 => b1 (e8 ▸ ha.1)
    exact ⟨b1, b2, b3, b4, fun j => (up2_ne _ _ _ _ hia).trans (b5 j)⟩
  · funext j
    show up2 (sI u) a k v a j = _
    unfold up2 upd1
    simp
theorem Arr.frs {S u : Sto} {a : Nat} {fs : List (Nat × Nat)} {e : Nat → Nat} (h : Arr S u a fs e) : Frs S u (rls fs.length e) := by
  obtain ⟨h1, h2, h3, h4⟩ := h
  refine ⟨?_, fun x hx => ?_⟩
  · unfold rls
    rw [List.nodup_iff_pairwise_ne, List.pairwise_map]
    refine List.Pairwise.imp_of_mem ?_ (List.nodup_range (n := fs.length))
    intro i j hi hj hn e9
    exact hn (h3 i j (List.mem_range.mp hi) (List.mem_range.mp hj) e9)
  · obtain ⟨i, i1, i2⟩ := rls_mem.mp hx
    rw [← i2]
    exact ⟨(h2 i i1).1, (h2 i i1).2.1.1⟩
/-- no product lies anywhere -/
def fil (n : Nat) : Int → Int := fun j => if 0 ≤ j ∧ j < (n : Int) then -1 else 0
theorem fil_step (n : Nat) : upd1 (fil n) (n : Int) (-1) = fil (n + 1) := by
  funext j
  unfold upd1 fil
  by_cases h : j = (n : Int)
  · rw [if_pos h, if_pos (by omega)]
  · rw [if_neg h]
    by_cases h2 : 0 ≤ j ∧ j < (n : Int)
    · rw [if_pos h2, if_pos (by omega)]
    · rw [if_neg h2, if_neg (by omega)]
theorem fil_0 : fil 0 = fun _ => 0 := by
  funext j
  unfold fil
  rw [if_neg (by omega)]
/-- the warehouse, new -/
def WH (S : Sto) (aw : Nat) (e : Nat → Nat) (x y d : Int) : Prop := At0 S aw 4 ∧ sI S aw 0 = x ∧ sI S aw 1 = y ∧ sI S aw 2 = d ∧ (∀ i, i < 4 → At0 S (e i) 20 ∧ sN S (e i) = 20 ∧ sP S aw ((3 + i : Nat) : Int) = some (e i)) ∧ sI S (e 0) = fil 20 ∧ ∀ j, sI S (e 1) j = 0
/-- the router, new -/
def RO (S : Sto) (ar b p wy o : Nat) (r : Nat → Nat) : Prop := At0 S ar 3 ∧ sP S ar 0 = some b ∧ sP S ar 1 = some p ∧ sP S ar 3 = some wy ∧ sP S ar 4 = some o ∧ (At0 S p 20 ∧ sN S p = 9) ∧ (At0 S wy 22 ∧ sN S wy = 10) ∧ (At0 S o 20 ∧ sN S o = 4608) ∧ ∀ i, i < 10 → At0 S (r i) 20 ∧ sN S (r i) = 10 ∧ sP S wy (i : Int) = some (r i) ∧ ∀ j, sI S (r i) j = 0
/-- an empty list -/
def LSn (S : Sto) (t L : Nat) : Prop := At0 S L 0 ∧ sP S L 1 = some t ∧ sI S L 2 = 0
/-- the wave, new -/
def WV (S : Sto) (t av b lb sv : Nat) (s : Nat → Nat) : Prop := At0 S av 5 ∧ sP S av 0 = some b ∧ sP S av 1 = some lb ∧ sP S av 2 = some sv ∧ LSn S t lb ∧ (At0 S sv 22 ∧ sN S sv = 40) ∧ ∀ i, i < 40 → At0 S (s i) 20 ∧ sN S (s i) = 40 ∧ sP S sv (i : Int) = some (s i)
theorem ExA.k {S u : Sto} {a ka x k : Nat} (h : ExA S u a) (ha : At0 S a ka) (hx : At0 S x k) (hk : k ≠ ka) : sI u x = sI S x ∧ sP u x = sP S x ∧ sJ u x = sJ S x := h.2 x hx.1 (kind_ne hx ha hk)
theorem WH.fr {S u : Sto} {a ka aw : Nat} {e : Nat → Nat} {x y d : Int} (h : WH S aw e x y d) (hE : ExA S u a) (ha : At0 S a ka) (h1 : ka ≠ 4) (h2 : ka ≠ 20) : WH u aw e x y d := by
  obtain ⟨b1, b2, b3, b4, b5, b6, b7⟩ := h
  obtain ⟨c1, c2, -⟩ := hE.k ha b1 h1.symm
  refine ⟨hE.1.at b1, by rw [c1]; exact b2, by rw [c1]; exact b3, by rw [c1]; exact b4, fun i hi => ?_, ?_, fun j => ?_⟩
  · obtain ⟨d1, d2, d3⟩ := b5 i hi
    exact ⟨hE.1.at d1, hE.1.ln d1 d2, by rw [c2]; exact d3⟩
  · rw [(hE.k ha (b5 0 (by omega)).1 h2.symm).1]; exact b6
  · rw [(hE.k ha (b5 1 (by omega)).1 h2.symm).1]; exact b7 j
theorem RO.fr {S u : Sto} {a ka ar b p wy o : Nat} {r : Nat → Nat} (h : RO S ar b p wy o r) (hE : ExA S u a) (ha : At0 S a ka) (h1 : ka ≠ 3) (h2 : ka ≠ 20) (h3 : ka ≠ 22) : RO u ar b p wy o r := by
  obtain ⟨b1, b2, b3, b4, b5, b6, b7, b8, b9⟩ := h
  obtain ⟨c1, c2, -⟩ := hE.k ha b1 h1.symm
  obtain ⟨-, d2, -⟩ := hE.k ha b7.1 h3.symm
  refine ⟨hE.1.at b1, by rw [c2]; exact b2, by rw [c2]; exact b3, by rw [c2]; exact b4, by rw [c2]; exact b5, ⟨hE.1.at b6.1, hE.1.ln b6.1 b6.2⟩, ⟨hE.1.at b7.1, hE.1.ln b7.1 b7.2⟩, ⟨hE.1.at b8.1, hE.1.ln b8.1 b8.2⟩, fun i hi => ?_⟩
  obtain ⟨f1, f2, f3, f4⟩ := b9 i hi
  exact ⟨hE.1.at f1, hE.1.ln f1 f2, by rw [d2]; exact f3, fun j => by rw [(hE.k ha f1 h2.symm).1]; exact f4 j⟩
theorem LSn.fr {S u : Sto} {a ka t L : Nat} (h : LSn S t L) (hE : ExA S u a) (ha : At0 S a ka) (h1 : ka ≠ 0) : LSn u t L := by
  obtain ⟨c1, c2, -⟩ := hE.k ha h.1 h1.symm
  exact ⟨hE.1.at h.1, by rw [c2]; exact h.2.1, by rw [c1]; exact h.2.2⟩
theorem WV.fr {S u : Sto} {a ka t av b lb sv : Nat} {s : Nat → Nat} (h : WV S t av b lb sv s) (hE : ExA S u a) (ha : At0 S a ka) (h1 : ka ≠ 5) (h2 : ka ≠ 20) (h3 : ka ≠ 22) (h4 : ka ≠ 0) : WV u t av b lb sv s := by
  obtain ⟨b1, b2, b3, b4, b5, b6, b7⟩ := h
  obtain ⟨c1, c2, -⟩ := hE.k ha b1 h1.symm
  obtain ⟨-, d2, -⟩ := hE.k ha b6.1 h3.symm
  refine ⟨hE.1.at b1, by rw [c2]; exact b2, by rw [c2]; exact b3, by rw [c2]; exact b4, b5.fr hE ha h4, ⟨hE.1.at b6.1, hE.1.ln b6.1 b6.2⟩, fun i hi => ?_⟩
  obtain ⟨f1, f2, f3⟩ := b7 i hi
  exact ⟨hE.1.at f1, hE.1.ln f1 f2, by rw [d2]; exact f3⟩
theorem wh_of {S T : Sto} {a : Nat} {e : Nat → Nat} {x y d : Int} (ha : At0 S a 4) (h : Arr S T a [(3, 20), (4, 20), (5, 20), (6, 20)] e) (h0 : sI T a 0 = x) (h1 : sI T a 1 = y) (h2 : sI T a 2 = d) : WH (wI T (row1 (sI T) (e 0) (fil 20))) a e x y d ∧ ExA S (wI T (row1 (sI T) (e 0) (fil 20))) a ∧ Frs S (wI T (row1 (sI T) (e 0) (fil 20))) (rls 4 e) := by
  have hf := h.frs
  obtain ⟨b1, b2, b3, b4⟩ := h
  have he : ∀ i, i < 4 → e i ∉ sL S ∧ At0 T (e i) 20 ∧ sN T (e i) = 20 ∧ sP T a ((3 + i : Nat) : Int) = some (e i) ∧ ∀ j, sI T (e i) j = 0 := fun i hi => by
    rcases (show i = 0 ∨ i = 1 ∨ i = 2 ∨ i = 3 by omega) with e9 | e9 | e9 | e9 <;> subst e9
    · exact b2 0 (by decide)
    · exact b2 1 (by decide)
    · exact b2 2 (by decide)
    · exact b2 3 (by decide)
  have hae : a ≠ e 0 := fun e9 => (he 0 (by omega)).1 (e9 ▸ ha.1)
  have hr : ∀ x, x ≠ e 0 → sI (wI T (row1 (sI T) (e 0) (fil 20))) x = sI T x := fun x hx => funext fun j => row1_ne _ _ _ hx
  refine ⟨⟨b1.1.at ha, by rw [hr a hae]; exact h0, by rw [hr a hae]; exact h1, by rw [hr a hae]; exact h2, fun i hi => ⟨(he i hi).2.1, (he i hi).2.2.1, (he i hi).2.2.2.1⟩, funext fun j => row1_same _ _ _ _, fun j => ?_⟩, ⟨b1.1, fun x hx hn => ?_⟩, hf⟩
  · rw [hr (e 1) (fun e9 => absurd (b3 1 0 (by decide) (by decide) e9) (by decide))]
    exact (he 1 (by omega)).2.2.2.2 j
  · have : x ≠ e 0 := fun e9 => (he 0 (by omega)).1 (e9 ▸ hx)
    rw [hr x this]
    exact b1.2 x hx hn
