/-! ===== small changes of the state ===== -/
/-- only some of the system's own cells of numbers have changed -/
theorem CRw.own {S u : Sto} {q : Nat → Nat} {t : Nat} {w : Shp} {z z' : Sig} (hT : Top S q) (h : CRw S q t w z) (h1 : sL u = sL S) (h2 : sK u = sK S) (h3 : sN u = sN S) (h4 : sP u = sP S) (h5 : sJ u = sJ S) (h6 : ∀ x, (∀ i, i ∈ [0, 1, 6, 7, 8, 9] → x ≠ q i) → sI u x = sI S x) (hW : Whs u q z') (eo : zo z' = zo z) (eb : zb z' = zb z) (hO : OrV S w z' (zo z)) (hV : BtV S w z' (zb z)) (hR : RtV S q w z' (zb z)) : CP S q t u z' := by
  obtain ⟨-, hB, -, hBt, -, -, hz⟩ := h
  have hG : Gro S u := Gro.same h1 h2 h3
  have hm : ∀ i ∈ [0, 1, 6, 7, 8, 9], i ∈ tix := by decide
  have hI : ∀ i ∈ tix, i ∉ [0, 1, 6, 7, 8, 9] → sI u (q i) = sI S (q i) := fun i hi hn => h6 _ (fun j hj e => hn (by rw [hT.2.2.1 i hi j (hm j hj) e]; exact hj))
  have ho : ∀ x k : Nat, At0 S x k → (k == 1 || k == 2 || k == 21) = true → sI u x = sI S x := fun x k hx hk => h6 _ (fun j hj e => hT.nq hx hk (hm j hj) e)
  refine ⟨hG, hT.mono hG (fun i _ k => by rw [h4]), fun i i1 i2 => ⟨hI i (tix_mod93 i i1 i2) (by simp; omega), by rw [h5]⟩, w, hW, ?_, ?_, ?_, ?_, ?_, ?_⟩
  · rw [eo]
    exact hB.fr hG (by rw [h4]) (by rw [hI 4 (by decide) (by decide)]) (fun _ _ => by rw [h4]) (fun _ _ => by rw [h4])
  · rw [eo]
    exact hO.fr (fun o ho9 => ⟨ho _ 2 (hB.2.1 o ho9).2.1 rfl, h6 _ (fun j hj => hB.2.2.2.2 o ho9 j (hm j hj))⟩)
  · rw [eb]
    exact hBt.fr hG (by rw [h4]) (by rw [hI 5 (by decide) (by decide)]) (fun _ _ => by rw [h4])
  · rw [eb]
    exact hV.fr (fun b hb => ⟨ho _ 1 (hBt.2.1 b hb).2 rfl, by rw [h5]⟩)
  · rw [eb]
    exact hR.fr hG (fun b hb => ⟨by rw [h4], h6 _ (fun j hj => (hR b hb).2.2.2.2.2 j (hm j hj))⟩)
  · rw [hI 29 (by decide) (by decide)]; exact hz
theorem cap_fin {S : Sto} {q : Nat → Nat} {t : Nat} {w : Shp} {z : Sig} (hT : Top S q) (h : CRw S q t w z) (l : Int) : CP S q t (uI S (q 0) 4 l) ((zA z, zN z, zG z, l), z.2) := by
  refine CRw.own hT h rfl rfl rfl rfl rfl (fun x hx => up2_row _ _ _ (hx 0 (by decide))) ?_ rfl rfl h.2.2.1 ⟨h.2.2.2.2.1.1, h.2.2.2.2.1.2⟩ h.2.2.2.2.2.1
  obtain ⟨e10, e11, e12, e6, e7, e04, e05, e06⟩ := h.1
  exact ⟨(up2_ne _ _ _ _ (hT.ne 1 0)).trans e10, (up2_ne _ _ _ _ (hT.ne 1 0)).trans e11, (up2_ne _ _ _ _ (hT.ne 1 0)).trans e12, (up2_row _ _ _ (hT.ne 6 0)).trans e6, fun p hp => (up2_ne _ _ _ _ (hT.ne 7 0)).trans (e7 p hp), up2_same _ _ _ _, (up2_nk _ _ _ _ (by decide)).trans e05, (up2_nk _ _ _ _ (by decide)).trans e06⟩
theorem put_fin {S : Sto} {q : Nat → Nat} {t : Nat} {w : Shp} {z : Sig} (hT : Top S q) (h : CRw S q t w z) (hb : zb z = 0) (p x : Int) : CP S q t (uI S (q 6) p x) (zuP z (upd1 (zP z) p x)) := by
  refine CRw.own hT h rfl rfl rfl rfl rfl (fun y hy => up2_row _ _ _ (hy 6 (by decide))) ?_ rfl rfl h.2.2.1 ⟨fun b hb9 => by omega, fun b b' hb9 => by omega⟩ (fun b hb9 => by omega)
  obtain ⟨e10, e11, e12, e6, e7, e04, e05, e06⟩ := h.1
  refine ⟨(up2_ne _ _ _ _ (hT.ne 1 6)).trans e10, (up2_ne _ _ _ _ (hT.ne 1 6)).trans e11, (up2_ne _ _ _ _ (hT.ne 1 6)).trans e12, ?_, fun p9 hp => (up2_ne _ _ _ _ (hT.ne 7 6)).trans (e7 p9 hp), (up2_ne _ _ _ _ (hT.ne 0 6)).trans e04, (up2_ne _ _ _ _ (hT.ne 0 6)).trans e05, (up2_ne _ _ _ _ (hT.ne 0 6)).trans e06⟩
  show up2 (sI S) (q 6) p x (q 6) = upd1 (zP z) p x
  rw [← e6]
  funext j
  unfold up2 upd1
  simp
theorem lay_fin {S : Sto} {q : Nat → Nat} {t : Nat} {w : Shp} {z : Sig} {R Q F : Int → Int} (hT : Top S q) (h : CRw S q t w z) (hb : zb z = 0) : CP S q t (wI S (row1 (lcF S q R Q) (q 6) F)) (zuP z F) := by
  refine CRw.own hT h rfl rfl rfl rfl rfl (fun y hy => ?_) ?_ rfl rfl h.2.2.1 ⟨fun b hb9 => by omega, fun b b' hb9 => by omega⟩ (fun b hb9 => by omega)
  · funext j
    exact (row1_ne _ _ _ (hy 6 (by decide))).trans ((row1_ne _ _ _ (hy 8 (by decide))).trans (row1_ne _ _ _ (hy 9 (by decide))))
  · obtain ⟨e10, e11, e12, e6, e7, e04, e05, e06⟩ := h.1
    have hr : ∀ i ∈ tix, i ≠ 6 → i ≠ 8 → i ≠ 9 → ∀ j, row1 (lcF S q R Q) (q 6) F (q i) j = sI S (q i) j := fun i hi n6 n8 n9 j => (row1_ne _ _ _ (hT.ne i 6 hi (by decide) n6)).trans (lcF_at hT R Q i j hi n9 n8)
    refine ⟨(hr 1 (by decide) (by decide) (by decide) (by decide) _).trans e10, (hr 1 (by decide) (by decide) (by decide) (by decide) _).trans e11, (hr 1 (by decide) (by decide) (by decide) (by decide) _).trans e12, funext fun j => row1_same _ _ _ _, fun p hp => (hr 7 (by decide) (by decide) (by decide) (by decide) _).trans (e7 p hp), (hr 0 (by decide) (by decide) (by decide) (by decide) _).trans e04, (hr 0 (by decide) (by decide) (by decide) (by decide) _).trans e05, (hr 0 (by decide) (by decide) (by decide) (by decide) _).trans e06⟩
