/-- the model, new -/
def MOl : List (Nat × Nat) := [(5, 20), (7, 40), (8, 40), (9, 40), (10, 40), (11, 200), (12, 200), (17, 9), (18, 5120), (19, 9), (20, 20), (21, 20)]
def MO (S : Sto) (am : Nat) (m : Nat → Nat) (x y d : Int) : Prop := At0 S am 7 ∧ (∀ i, i < 12 → At0 S (m i) 20 ∧ sN S (m i) = (MOl.getD i (0, 0)).2 ∧ sP S am (((MOl.getD i (0, 0)).1 : Nat) : Int) = some (m i)) ∧ sI S (m 0) = fil 20 ∧ (∀ i, 1 ≤ i → i < 12 → sI S (m i) = fun _ => 0) ∧ (sI S am 1 = x ∧ sI S am 2 = y ∧ sI S am 3 = d ∧ sI S am 4 = 6 ∧ sI S am 6 = 0 ∧ sI S am 13 = 0 ∧ sI S am 14 = 0 ∧ sJ S am 15 = 0)
theorem mo_of {S T : Sto} {a : Nat} {e : Nat → Nat} {x y d : Int} (ha : At0 S a 7) (h : Arr S T a MOl e) (hz : ∀ k, sI S a k = 0) (hzj : ∀ k, sJ S a k = 0) (hF : sI T a = upd1 (upd1 (upd1 (upd1 (sI S a) 4 6) 1 x) 2 y) 3 d) : MO (wI T (row1 (sI T) (e 0) (fil 20))) a e x y d ∧ ExA S (wI T (row1 (sI T) (e 0) (fil 20))) a ∧ Frs S (wI T (row1 (sI T) (e 0) (fil 20))) (rls 12 e) := by
  have hf := h.frs
  obtain ⟨b1, b2, b3, b4⟩ := h
  have he : ∀ i, i < 12 → e i ∉ sL S ∧ At0 T (e i) 20 ∧ sN T (e i) = (MOl.getD i (0, 0)).2 ∧ sP T a (((MOl.getD i (0, 0)).1 : Nat) : Int) = some (e i) ∧ ∀ j, sI T (e i) j = 0 := fun i hi => b2 i hi
  have hae : a ≠ e 0 := fun e9 => (he 0 (by omega)).1 (e9 ▸ ha.1)
  have hr : ∀ x, x ≠ e 0 → sI (wI T (row1 (sI T) (e 0) (fil 20))) x = sI T x := fun x hx => funext fun j => row1_ne _ _ _ hx
  refine ⟨⟨b1.1.at ha, fun i hi => ⟨(he i hi).2.1, (he i hi).2.2.1, (he i hi).2.2.2.1⟩, funext fun j => row1_same _ _ _ _, fun i h1 hi => ?_, ?_⟩, ⟨b1.1, fun x hx hn => ?_⟩, hf⟩
  · rw [hr (e i) (fun e9 => absurd (b3 i 0 hi (by decide) e9) (by omega))]
    exact funext (he i hi).2.2.2.2
  · rw [hr a hae, hF]
    refine ⟨rfl, rfl, rfl, rfl, ?_, ?_, ?_, ?_⟩
    · exact (upd1_ne _ _ (by decide)).trans ((upd1_ne _ _ (by decide)).trans ((upd1_ne _ _ (by decide)).trans ((upd1_ne _ _ (by decide)).trans (hz 6))))
    · exact (upd1_ne _ _ (by decide)).trans ((upd1_ne _ _ (by decide)).trans ((upd1_ne _ _ (by decide)).trans ((upd1_ne _ _ (by decide)).trans (hz 13))))
    · exact (upd1_ne _ _ (by decide)).trans ((upd1_ne _ _ (by decide)).trans ((upd1_ne _ _ (by decide)).trans ((upd1_ne _ _ (by decide)).trans (hz 14))))
    · show sJ T a 15 = 0
      rw [b4]; exact hzj 15
  · have : x ≠ e 0 := fun e9 => (he 0 (by omega)).1 (e9 ▸ hx)
    rw [hr x this]
    exact b1.2 x hx hn
/-- the class's object, new -/
def MC (S u : Sto) (t a : Nat) (x y d : Int) : Prop := ∃ (aw : Nat) (e : Nat → Nat) (ar p wy o : Nat) (r : Nat → Nat) (av lb sv : Nat) (s : Nat → Nat) (bk : Nat), WH u aw e x y d ∧ RO u ar aw p wy o r ∧ WV u t av ar lb sv s ∧ LSn u t bk ∧ (sP u a 0 = some aw ∧ sP u a 1 = some ar ∧ sP u a 2 = some av ∧ sP u a 3 = some bk) ∧ (sI u a 4 = 6 ∧ sI u a 5 = 0 ∧ sI u a 6 = 0) ∧ ExA S u a ∧ Frs S u ((((([aw] ++ rls 4 e) ++ [ar]) ++ ([p] ++ (wy :: rls 10 r) ++ [o])) ++ [av]) ++ ([lb] ++ (sv :: rls 40 s)) ++ [bk])
