/-! ===== the system, new ===== -/
theorem inj_of {q : Nat → Nat} : ∀ {L : List Nat}, (L.map q).Nodup → ∀ i ∈ L, ∀ j ∈ L, q i = q j → i = j
  | [], _, i, hi, _, _, _ => absurd hi List.not_mem_nil
  | x :: L, h, i, hi, j, hj, e => by
    rw [List.map_cons, List.nodup_cons] at h
    rcases List.mem_cons.mp hi with h1 | h1
    · rcases List.mem_cons.mp hj with h2 | h2
      · rw [h1, h2]
      · exact absurd (List.mem_map.mpr ⟨j, h2, by rw [← e, h1]⟩) h.1
    · rcases List.mem_cons.mp hj with h2 | h2
      · exact absurd (List.mem_map.mpr ⟨i, h1, by rw [e, h2]⟩) h.1
      · exact inj_of h.2 i h1 j h2 e
theorem ExA.ext {S u : Sto} (h : ∀ b, ExA S u b) : Ext S u := fun x hx => ⟨((h x).1 x hx).1, ((h x).1 x hx).2.1, ((h x).1 x hx).2.2, (h (x + 1)).2 x hx (by omega)⟩
theorem Ext.wh {S u : Sto} {aw : Nat} {e : Nat → Nat} {x y d : Int} (hE : Ext S u) (h : WH S aw e x y d) : WH u aw e x y d := by
  obtain ⟨b1, b2, b3, b4, b5, b6, b7⟩ := h
  have hG := hE.gro
  have hI : ∀ z ∈ sL S, sI u z = sI S z := fun z hz => (hE z hz).2.2.2.1
  have hP : ∀ z ∈ sL S, sP u z = sP S z := fun z hz => (hE z hz).2.2.2.2.1
  refine ⟨hG.at b1, by rw [hI _ b1.1]; exact b2, by rw [hI _ b1.1]; exact b3, by rw [hI _ b1.1]; exact b4, fun i hi => ?_, ?_, fun j => ?_⟩
  · obtain ⟨d1, d2, d3⟩ := b5 i hi
    exact ⟨hG.at d1, hG.ln d1 d2, by rw [hP _ b1.1]; exact d3⟩
  · rw [hI _ (b5 0 (by omega)).1.1]; exact b6
  · rw [hI _ (b5 1 (by omega)).1.1]; exact b7 j
theorem Ext.ro {S u : Sto} {ar b p wy o : Nat} {r : Nat → Nat} (hE : Ext S u) (h : RO S ar b p wy o r) : RO u ar b p wy o r := by
  obtain ⟨b1, b2, b3, b4, b5, b6, b7, b8, b9⟩ := h
  have hG := hE.gro
  have hI : ∀ z ∈ sL S, sI u z = sI S z := fun z hz => (hE z hz).2.2.2.1
  have hP : ∀ z ∈ sL S, sP u z = sP S z := fun z hz => (hE z hz).2.2.2.2.1
  refine ⟨hG.at b1, by rw [hP _ b1.1]; exact b2, by rw [hP _ b1.1]; exact b3, by rw [hP _ b1.1]; exact b4, by rw [hP _ b1.1]; exact b5, ⟨hG.at b6.1, hG.ln b6.1 b6.2⟩, ⟨hG.at b7.1, hG.ln b7.1 b7.2⟩, ⟨hG.at b8.1, hG.ln b8.1 b8.2⟩, fun i hi => ?_⟩
  obtain ⟨f1, f2, f3, f4⟩ := b9 i hi
  exact ⟨hG.at f1, hG.ln f1 f2, by rw [hP _ b7.1.1]; exact f3, fun j => by rw [hI _ f1.1]; exact f4 j⟩
theorem Ext.lsn {S u : Sto} {t L : Nat} (hE : Ext S u) (h : LSn S t L) : LSn u t L := by
  have e := hE L h.1.1
  exact ⟨hE.gro.at h.1, by rw [e.2.2.2.2.1]; exact h.2.1, by rw [e.2.2.2.1]; exact h.2.2⟩
theorem Ext.wv {S u : Sto} {t av b lb sv : Nat} {s : Nat → Nat} (hE : Ext S u) (h : WV S t av b lb sv s) : WV u t av b lb sv s := by
  obtain ⟨b1, b2, b3, b4, b5, b6, b7⟩ := h
  have hG := hE.gro
  have hP : ∀ z ∈ sL S, sP u z = sP S z := fun z hz => (hE z hz).2.2.2.2.1
  refine ⟨hG.at b1, by rw [hP _ b1.1]; exact b2, by rw [hP _ b1.1]; exact b3, by rw [hP _ b1.1]; exact b4, hE.lsn b5, ⟨hG.at b6.1, hG.ln b6.1 b6.2⟩, fun i hi => ?_⟩
  obtain ⟨f1, f2, f3⟩ := b7 i hi
  exact ⟨hG.at f1, hG.ln f1 f2, by rw [hP _ b6.1.1]; exact f3⟩
/-- the cells by their numbers -/
def syq (a aw ar av bk lb : Nat) (e : Nat → Nat) (p wy o : Nat) (r : Nat → Nat) (sv : Nat) (s : Nat → Nat) (g0 g1 g2 g3 g4 g5 g6 g7 g8 : Nat) : Nat → Nat := fun i =>
  if i = 0 then a else if i = 1 then aw else if i = 2 then ar else if i = 3 then av else if i = 4 then bk else if i = 5 then lb else if i < 10 then e (i - 6) else if i = 10 then p else if i = 11 then wy else if i = 12 then o else if i = 13 then sv else if i < 30 then r (i - 20) else if i < 70 then s (i - 30) else if i = 80 then g0 else if i = 81 then g1 else if i = 82 then g2 else if i = 83 then g3 else if i = 84 then g4 else if i = 85 then g5 else if i = 86 then g6 else if i = 87 then g7 else g8
def prm : List Nat := [80, 0, 1, 6, 7, 8, 9, 2, 10, 11, 20, 21, 22, 23, 24, 25, 26, 27, 28, 29, 12, 3, 5, 13, 30, 31, 32, 33, 34, 35, 36, 37, 38, 39, 40, 41, 42, 43, 44, 45, 46, 47, 48, 49, 50, 51, 52, 53, 54, 55, 56, 57, 58, 59, 60, 61, 62, 63, 64, 65, 66, 67, 68, 69, 4, 81, 82, 83, 84, 85, 86, 87, 88]
theorem tkd_eq : tkd = [(0, 6), (1, 4), (2, 3), (3, 5), (4, 0), (5, 0)] ++ (List.range 4).map (fun i => (6 + i, 20)) ++ [(10, 20), (11, 22), (12, 20), (13, 22)] ++ (List.range 10).map (fun i => (20 + i, 20)) ++ (List.range 40).map (fun i => (30 + i, 20)) ++ [(80, 20), (81, 20), (82, 20), (83, 20), (84, 20), (85, 20), (86, 20), (87, 20), (88, 20)] := by decide +kernel
theorem tln_eq : tln = (List.range 4).map (fun i => (6 + i, 20)) ++ [(10, 9), (11, 10), (12, 4608), (13, 40)] ++ (List.range 10).map (fun i => (20 + i, 10)) ++ (List.range 40).map (fun i => (30 + i, 40)) ++ [(80, 8), (81, 20), (82, 20), (83, 48), (84, 60), (85, 60), (86, 20), (87, 10), (88, 9)] := by decide +kernel
theorem tptr_eq : tptr = [(0, 0, 1), (0, 1, 2), (0, 2, 3), (0, 3, 4)] ++ (List.range 4).map (fun i => (1, ((3 + i : Nat) : Int), 6 + i)) ++ [(2, 0, 1), (2, 1, 10), (2, 3, 11), (2, 4, 12), (3, 0, 2), (3, 1, 5), (3, 2, 13)] := by decide +kernel
theorem fam {α : Type} {P : α → Prop} {n : Nat} {f : Nat → α} (h : ∀ i, i < n → P (f i)) : ∀ t ∈ (List.range n).map f, P t := fun t ht => by
  obtain ⟨i, h1, h2⟩ := List.mem_map.mp ht
  rw [← h2]
  exact h i (List.mem_range.mp h1)
theorem fnil {α : Type} {P : α → Prop} : ∀ t ∈ ([] : List α), P t := fun _ h => absurd h List.not_mem_nil
/-- the state that everything begins with -/
def zz (x y d : Int) : Sig := ((x, y, d, 6), (0, 0, 0, 0), fil 20, (fun _ => 0), (fun _ => 0), (fun _ => 0), (fun _ => 0), (fun _ => 0), (fun _ => 0))
theorem wf_zz {x y d : Int} (hx : 1 ≤ x ∧ x ≤ 6) (hy : 1 ≤ y ∧ y ≤ 20) (hd : 1 ≤ d ∧ d ≤ 9) : Wf (zz x y d) := by
  refine ⟨⟨hx.1, hx.2, hy.1, hy.2, hd.1, hd.2, by show (1 : Int) ≤ 6; decide, by show (6 : Int) ≤ 9; decide⟩, ⟨by show 0 ≤ 40; decide, Nat.le_refl 0⟩, fun p hp => Or.inl ?_, fun p p' hp hp' _ h9 => absurd ?_ h9, fun o ho => absurd ho (Nat.not_lt_zero _), fun o k ho => absurd ho (Nat.not_lt_zero _), fun b hb => absurd hb (Nat.not_lt_zero _), ⟨by show (0 : Int) ≤ 0; decide, by show (0 : Int) ≤ 660 * ((0 : Nat) : Int); decide⟩, ⟨by show (0 : Int) ≤ 0; decide, by show (0 : Int) ≤ 660 * ((0 : Nat) : Int); decide⟩⟩
  · show fil 20 (p : Int) = -1
    unfold fil
    rw [if_pos (by omega)]
  · show fil 20 (p : Int) = -1
    unfold fil
    rw [if_pos (by omega)]
theorem sys_of {u : Sto} {t a aw ar av bk lb p wy o sv g0 g1 g2 g3 g4 g5 g6 g7 g8 : Nat} {e r s : Nat → Nat} {x y d : Int} (ha : At0 u a 6) (hW : WH u aw e x y d) (hR : RO u ar aw p wy o r) (hV : WV u t av ar lb sv s) (hL : LSn u t bk) (hp : sP u a 0 = some aw ∧ sP u a 1 = some ar ∧ sP u a 2 = some av ∧ sP u a 3 = some bk) (hi : sI u a 4 = 6 ∧ sI u a 5 = 0 ∧ sI u a 6 = 0) (hM : (At0 u g0 20 ∧ sN u g0 = 8) ∧ (At0 u g1 20 ∧ sN u g1 = 20) ∧ (At0 u g2 20 ∧ sN u g2 = 20) ∧ (At0 u g3 20 ∧ sN u g3 = 48) ∧ (At0 u g4 20 ∧ sN u g4 = 60) ∧ (At0 u g5 20 ∧ sN u g5 = 60) ∧ (At0 u g6 20 ∧ sN u g6 = 20) ∧ (At0 u g7 20 ∧ sN u g7 = 10) ∧ (At0 u g8 20 ∧ sN u g8 = 9))
    (hN : ([g0] ++ ([a] ++ ((((((([aw] ++ rls 4 e) ++ [ar]) ++ ([p] ++ (wy :: rls 10 r) ++ [o])) ++ [av]) ++ ([lb] ++ (sv :: rls 40 s)) ++ [bk]) ++ [g1, g2, g3, g4, g5, g6, g7, g8])))).Nodup) :
    ∃ q : Nat → Nat, q 0 = a ∧ (q 80 = g0 ∧ q 81 = g1 ∧ q 82 = g2 ∧ q 83 = g3 ∧ q 84 = g4 ∧ q 85 = g5 ∧ q 86 = g6 ∧ q 87 = g7 ∧ q 88 = g8) ∧ Top u q ∧ CR u q t (zz x y d) := by
  obtain ⟨q, hq⟩ : ∃ q, q = syq a aw ar av bk lb e p wy o r sv s g0 g1 g2 g3 g4 g5 g6 g7 g8 := ⟨_, rfl⟩
  have q0 : q 0 = a := by rw [hq]; rfl
  have q1 : q 1 = aw := by rw [hq]; rfl
  have q2 : q 2 = ar := by rw [hq]; rfl
  have q3 : q 3 = av := by rw [hq]; rfl
  have q4 : q 4 = bk := by rw [hq]; rfl
  have q5 : q 5 = lb := by rw [hq]; rfl
  have q10 : q 10 = p := by rw [hq]; rfl
  have q11 : q 11 = wy := by rw [hq]; rfl
  have q12 : q 12 = o := by rw [hq]; rfl
  have q13 : q 13 = sv := by rw [hq]; rfl
  have q80 : q 80 = g0 := by rw [hq]; rfl
  have q81 : q 81 = g1 := by rw [hq]; rfl
  have q82 : q 82 = g2 := by rw [hq]; rfl
  have q83 : q 83 = g3 := by rw [hq]; rfl
  have q84 : q 84 = g4 := by rw [hq]; rfl
  have q85 : q 85 = g5 := by rw [hq]; rfl
  have q86 : q 86 = g6 := by rw [hq]; rfl
  have q87 : q 87 = g7 := by rw [hq]; rfl
  have q88 : q 88 = g8 := by rw [hq]; rfl
  have qe : ∀ i, i < 4 → q (6 + i) = e i := fun i h => by
    rw [hq]; unfold syq
    rw [if_neg (by omega), if_neg (by omega), if_neg (by omega), if_neg (by omega), if_neg (by omega), if_neg (by omega), if_pos (by omega), Nat.add_sub_cancel_left]
  have qr : ∀ i, i < 10 → q (20 + i) = r i := fun i h => by
    rw [hq]; unfold syq
    rw [if_neg (by omega), if_neg (by omega), if_neg (by omega), if_neg (by omega), if_neg (by omega), if_neg (by omega), if_neg (by omega), if_neg (by omega), if_neg (by omega), if_neg (by omega), if_neg (by omega), if_pos (by omega), Nat.add_sub_cancel_left]
  have qs : ∀ i, i < 40 → q (30 + i) = s i := fun i h => by
    rw [hq]; unfold syq
    rw [if_neg (by omega), if_neg (by omega), if_neg (by omega), if_neg (by omega), if_neg (by omega), if_neg (by omega), if_neg (by omega), if_neg (by omega), if_neg (by omega), if_neg (by omega), if_neg (by omega), if_neg (by omega), if_pos (by omega), Nat.add_sub_cancel_left]
  have hI : ∀ i ∈ tix, ∀ j ∈ tix, q i = q j → i = j := by
    have h1 : (prm.map q).Nodup := by rw [hq]; exact hN
    have h2 : ∀ i ∈ tix, i ∈ prm := by decide +kernel
    exact fun i hi j hj e => inj_of h1 i (h2 i hi) j (h2 j hj) e
  clear hq hN
  obtain ⟨m0, m1, m2, m3, m4, m5, m6, m7, m8⟩ := hM
  refine ⟨q, q0, ⟨q80, q81, q82, q83, q84, q85, q86, q87, q88⟩, ⟨?_, ?_, hI, ?_, fun i hi => ?_, fun i hi => ?_⟩, ?_⟩
  · rw [tkd_eq]
    simp only [List.forall_mem_append, List.forall_mem_cons, q0, q1, q2, q3, q4, q5, q10, q11, q12, q13, q80, q81, q82, q83, q84, q85, q86, q87, q88]
    refine ⟨⟨⟨⟨⟨⟨ha, hW.1, hR.1, hV.1, hL.1, hV.2.2.2.2.1.1, fnil⟩, fam fun i hi => ?_⟩, hR.2.2.2.2.2.1.1, hR.2.2.2.2.2.2.1.1, hR.2.2.2.2.2.2.2.1.1, hV.2.2.2.2.2.1.1, fnil⟩, fam fun i hi => ?_⟩, fam fun i hi => ?_⟩, m0.1, m1.1, m2.1, m3.1, m4.1, m5.1, m6.1, m7.1, m8.1, fnil⟩
    · show At0 u (q (6 + i)) 20
      rw [qe i hi]; exact (hW.2.2.2.2.1 i hi).1
    · show At0 u (q (20 + i)) 20
      rw [qr i hi]; exact (hR.2.2.2.2.2.2.2.2 i hi).1
    · show At0 u (q (30 + i)) 20
      rw [qs i hi]; exact (hV.2.2.2.2.2.2 i hi).1
  · rw [tln_eq]
    simp only [List.forall_mem_append, List.forall_mem_cons, q0, q1, q2, q3, q4, q5, q10, q11, q12, q13, q80, q81, q82, q83, q84, q85, q86, q87, q88]
    refine ⟨⟨⟨⟨fam fun i hi => ?_, hR.2.2.2.2.2.1.2, hR.2.2.2.2.2.2.1.2, hR.2.2.2.2.2.2.2.1.2, hV.2.2.2.2.2.1.2, fnil⟩, fam fun i hi => ?_⟩, fam fun i hi => ?_⟩, m0.2, m1.2, m2.2, m3.2, m4.2, m5.2, m6.2, m7.2, m8.2, fnil⟩
    · show sN u (q (6 + i)) = 20
      rw [qe i hi]; exact (hW.2.2.2.2.1 i hi).2.1
    · show sN u (q (20 + i)) = 10
      rw [qr i hi]; exact (hR.2.2.2.2.2.2.2.2 i hi).2.1
    · show sN u (q (30 + i)) = 40
      rw [qs i hi]; exact (hV.2.2.2.2.2.2 i hi).2.1
  · rw [tptr_eq]
    simp only [List.forall_mem_append, List.forall_mem_cons, q0, q1, q2, q3, q4, q5, q10, q11, q12, q13, q80, q81, q82, q83, q84, q85, q86, q87, q88]
    refine ⟨⟨⟨hp.1, hp.2.1, hp.2.2.1, hp.2.2.2, fnil⟩, fam fun i hi => ?_⟩, hR.2.1, hR.2.2.1, hR.2.2.2.1, hR.2.2.2.2.1, hV.2.1, hV.2.2.1, hV.2.2.2.1, fnil⟩
    · show sP u (q 1) ((3 + i : Nat) : Int) = some (q (6 + i))
      rw [qe i hi, q1]; exact (hW.2.2.2.2.1 i hi).2.2
  · rw [qr i hi, q11]; exact (hR.2.2.2.2.2.2.2.2 i hi).2.2.1
  · rw [qs i hi, q13]; exact (hV.2.2.2.2.2.2 i hi).2.2
  · have vac : ∀ {P : Nat → Prop} (o : Nat), o < 0 → P o := fun o h => absurd h (Nat.not_lt_zero _)
    have e7 : sI u (q 7) = sI u (e 1) := by rw [show q 7 = e 1 from qe 1 (by omega)]
    have e29 : q 29 = r 9 := qr 9 (by omega)
    refine ⟨((t, 0, t, 0), (fun _ => 0), (fun _ => 0), (fun _ => 0), (fun _ => 0)), ⟨by rw [q1]; exact hW.2.1, by rw [q1]; exact hW.2.2.1, by rw [q1]; exact hW.2.2.2.1, ?_, fun p _ => ?_, by rw [q0]; exact hi.1, by rw [q0]; exact hi.2.1, by rw [q0]; exact hi.2.2⟩, ⟨?_, vac, fun o _ h => absurd h (Nat.not_lt_zero _), fun o _ h => absurd h (Nat.not_lt_zero _), vac⟩, vac, ⟨?_, vac, fun o _ h => absurd h (Nat.not_lt_zero _), fun h => absurd h (Nat.not_lt_zero _)⟩, ⟨vac, fun o _ h => absurd h (Nat.not_lt_zero _)⟩, vac, ?_⟩
    · rw [show q 6 = e 0 from qe 0 (by omega)]; exact hW.2.2.2.2.2.1
    · rw [e7]; exact hW.2.2.2.2.2.2 _
    · rw [q4]; exact ⟨hL.1, hL.2.1, hL.2.2, Nat.le_refl _, Nat.zero_le _, Or.inl ⟨rfl, rfl⟩⟩
    · rw [q5]; exact ⟨hV.2.2.2.2.1.1, hV.2.2.2.2.1.2.1, hV.2.2.2.2.1.2.2, Nat.le_refl _, Nat.zero_le _, Or.inl ⟨rfl, rfl⟩⟩
    · rw [e29]; exact (hR.2.2.2.2.2.2.2.2 9 (by omega)).2.2.2 9
