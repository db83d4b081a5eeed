/-! ===== makings ===== -/
theorem pol_new {cy : Nat → ClassId} {S : Sto} {a kd n : Nat} {e : va_E} (ha : a ∉ sL S) (he : cel cy (nw S a kd n) a = e) : pol cy S ++ [(a, e)] = pol cy (nw S a kd n) := by
  unfold pol
  rw [va_pl_push ha]
  refine va_pl_congr fun b => ?_
  unfold va_up
  split
  · next hb => rw [hb, he]
  · next hb => exact cel_congr (va_up_ne _ _ hb).symm (va_up_ne _ _ hb).symm (va_up_ne _ _ hb).symm (va_up_ne _ _ hb).symm (va_up_ne _ _ hb).symm
theorem pol_fresh {cy : Nat → ClassId} {S : Sto} {A : Nat → Prop} {a : Nat} {e : va_E} (hD : va_D A (pol cy S ++ [(a, e)])) : a ∉ sL S := by
  intro h
  obtain ⟨k, hk⟩ := pol_get (cy := cy) h
  have hlt : k < (pol cy S).length := (List.getElem?_eq_some_iff.mp hk).1
  have h1 : (pol cy S ++ [(a, e)])[k]? = some (a, cel cy S a) := by rw [List.getElem?_append_left hlt]; exact hk
  have h2 : (pol cy S ++ [(a, e)])[(pol cy S).length]? = some (a, e) := by rw [List.getElem?_append_right (Nat.le_refl _)]; simp
  have := hD.1 _ _ _ _ h1 h2 rfl
  omega
theorem Rg.nw {S : Sto} (h : Rg S) (a kd n : Nat) : Rg (nw S a kd n) := by
  intro b j
  show inR (va_up (sI S) a (fun _ => 0) b j)
  unfold va_up
  split
  · exact inR_0
  · exact h b j
/-- what was there is there as it was -/
def Ext (S T : Sto) : Prop := ∀ b ∈ sL S, b ∈ sL T ∧ sK T b = sK S b ∧ sN T b = sN S b ∧ sI T b = sI S b ∧ sP T b = sP S b ∧ sJ T b = sJ S b
theorem Ext.nw {S : Sto} {a : Nat} (ha : a ∉ sL S) (kd n : Nat) : Ext S (nw S a kd n) := by
  intro b hb
  have hne : b ≠ a := fun e => ha (e ▸ hb)
  exact ⟨List.mem_append_left _ hb, va_up_ne _ _ hne, va_up_ne _ _ hne, va_up_ne _ _ hne, va_up_ne _ _ hne, va_up_ne _ _ hne⟩
theorem nw_at {S : Sto} {a kd n : Nat} : At0 (nw S a kd n) a kd := ⟨List.mem_append_right _ (List.mem_singleton.mpr rfl), by show va_up _ _ _ _ = _; simp [va_up]⟩
theorem nw_ln {S : Sto} {a kd n : Nat} : sN (nw S a kd n) a = n := by show va_up _ _ _ _ = _; simp [va_up]
theorem nw_I {S : Sto} {a kd n : Nat} (j : Int) : sI (nw S a kd n) a j = 0 := by show va_up (sI S) a (fun _ => 0) a j = 0; simp [va_up]
theorem nw_P {S : Sto} {a kd n : Nat} (j : Int) : sP (nw S a kd n) a j = none := by show va_up (sP S) a (fun _ => none) a j = none; simp [va_up]
theorem nw_J {S : Sto} {a kd n : Nat} (j : Int) : sJ (nw S a kd n) a j = 0 := by show va_up (sJ S) a (fun _ => 0) a j = 0; simp [va_up]
theorem nw_Ine {S : Sto} {a b kd n : Nat} (h : b ≠ a) : sI (nw S a kd n) b = sI S b := va_up_ne _ _ h
theorem nw_Pne {S : Sto} {a b kd n : Nat} (h : b ≠ a) : sP (nw S a kd n) b = sP S b := va_up_ne _ _ h
theorem nw_Jne {S : Sto} {a b kd n : Nat} (h : b ≠ a) : sJ (nw S a kd n) b = sJ S b := va_up_ne _ _ h
/-- the system's cells lie where they lay -/
theorem Top.mono {S T : Sto} {q : Nat → Nat} (h : Top S q) (hx : ∀ b ∈ sL S, b ∈ sL T ∧ sK T b = sK S b ∧ sN T b = sN S b) (hp : ∀ i, i ∈ [0, 1, 2, 3, 11, 13, 80] → ∀ k, sP T (q i) k = sP S (q i) k) : Top T q := by
  obtain ⟨h1, h2, h3, h4, h5, h6⟩ := h
  have hm : ∀ t ∈ tln, ∃ t2 ∈ tkd, t2.1 = t.1 := by decide +kernel
  refine ⟨fun t ht => ?_, fun t ht => ?_, h3, fun t ht => ?_, fun i hi => ?_, fun i hi => ?_⟩
  · have := h1 t ht
    exact ⟨(hx _ this.1).1, (hx _ this.1).2.1.trans this.2⟩
  · obtain ⟨t2, hk, e2⟩ := hm t ht
    have := h1 _ hk
    rw [e2] at this
    exact (hx _ this.1).2.2.trans (h2 t ht)
  · have : ∀ t ∈ tptr, t.1 ∈ [0, 1, 2, 3, 11, 13, 80] := by decide +kernel
    rw [hp _ (this t ht)]
    exact h4 t ht
  · rw [hp 11 (by decide)]; exact h5 i hi
  · rw [hp 13 (by decide)]; exact h6 i hi
theorem Top.mem {S : Sto} {q : Nat → Nat} (h : Top S q) (i : Nat) (hi : i ∈ tix := by decide) : q i ∈ sL S := by
  have : ∀ i ∈ tix, ∃ t2 ∈ tkd, t2.1 = i := by decide +kernel
  obtain ⟨t2, hk, e2⟩ := this i hi
  have := (h.1 _ hk).1
  rw [e2] at this
  exact this
theorem Top.ext {S T : Sto} {q : Nat → Nat} (h : Top S q) (e : Ext S T) : Top T q := by
  refine h.mono (fun b hb => ⟨(e b hb).1, (e b hb).2.1, (e b hb).2.2.1⟩) (fun i hi k => ?_)
  have : ∀ i ∈ [0, 1, 2, 3, 11, 13, 80], i ∈ tix := by decide
  rw [(e _ (h.mem i (this i hi))).2.2.2.2.1]
theorem Top.new {S : Sto} {q : Nat → Nat} (h : Top S q) {a : Nat} (ha : a ∉ sL S) (i : Nat) (hi : i ∈ tix := by decide) : q i ≠ a := fun e => ha (e ▸ h.mem i hi)
section
variable {p : Program} {l : Launch} {e : Env} {R : Room} {s : State} {m : MethodId} {args : Array Value} {below : List Frame} {meth : Method} {c : Code} {Q : State → Prop} {cc : ByteArray} {nL : Nat} {own : String} {ret : Option FieldType} {g : GG} {cells slots pc : Nat} {lv : List (Nat × Value)} {st : List Value} {S : Sto}
theorem KNew (C : Cx p l s m args meth c cc nL own ret g) {Cn : String} {T : u_T} {N ci index : Nat} (hin : ∀ w ∈ u_ws Cn T N, w ∈ UW) (hc : vwCl[ci]? = some (Cn, T, N)) (hci : ci < 20) (ty : Nat → FieldType) (hty : ∀ k, k < N → parseFieldDescriptor (T k).2.2.1 = some (ty k)) (hcl : Cond.classLink own index Cn ∈ UW) (hinst : Cond.instantiable Cn N ∈ UW) (hini : Cond.initialized Cn ∈ UW) (hfs : ∀ (S : Sto) (a : Nat) (j : Nat), (∀ k, sI S a k = 0) → (∀ k, sP S a k = none) → (∀ k, sJ S a k = 0) → j < N → defaultValue (ty j) = vp_V (flds S a (tyF ci)) j) (hf : cells + 1 ≤ R.cells ∧ slots + N ≤ R.slots) (hdg : decode cc pc = .ok (.new index, 3))
    (kk : ∀ a : Nat, a ∉ sL S → Wk p l e R s m args below meth c Q g nL (cells + 1) (slots + N) (pc + 3) lv (.ref a :: st) (nw S a ci 0)) : Wk p l e R s m args below meth c Q g nL cells slots pc lv st S := fun H locs ls hP hD hS hR hl => by
  have hz : ∀ a : Nat, (∀ k, sI (nw S a ci 0) a k = 0) ∧ (∀ k, sP (nw S a ci 0) a k = none) ∧ (∀ k, sJ (nw S a ci 0) a k = 0) := fun a => ⟨nw_I, nw_P, nw_J⟩
  refine va_new (fs := flds (nw S 0 ci 0) 0 (tyF ci)) C.1 C.2.1 C.words hin ty hty C.home (C.words _ hcl) (C.words _ hinst) (C.words _ hini) C.tabs hP hD hS C.old hc (fun j hj => hfs _ 0 j (hz 0).1 (hz 0).2.1 (hz 0).2.2 hj) hf.1 hf.2 hdg (fun a H1 hP1 hD1 hS1 => ?_)
  have hfr := pol_fresh hD1
  have he : cel (gC g) (nw S a ci 0) a = .inr (ci, flds (nw S 0 ci 0) 0 (tyF ci)) := by
    rw [cel_obj (nw_at (S := S) (a := a) (kd := ci) (n := 0)).2 hci]
    congr 2
    unfold flds
    congr 1
    funext k t
    unfold fld
    rw [(hz a).1, (hz a).2.1, (hz a).2.2, (hz 0).1, (hz 0).2.1, (hz 0).2.2]
  rw [pol_new hfr he] at hP1 hD1
  exact kk a hfr H1 locs ls hP1 hD1 hS1 (hR.nw _ _ _) hl
theorem KNewaI (C : Cx p l s m args meth c cc nL own ret g) {x : Int} (n : Nat) (hx : x = (n : Int)) (hn : n < 100000) (harr : Cond.arrayClass FieldType.int ∈ UW) (hf : cells + 1 ≤ R.cells ∧ slots + n ≤ R.slots) (hdg : decode cc pc = .ok (.newarray .int, 2))
    (kk : ∀ a : Nat, a ∉ sL S → Wk p l e R s m args below meth c Q g nL (cells + 1) (slots + n) (pc + 2) lv (.ref a :: st) (nw S a 20 n)) : Wk p l e R s m args below meth c Q g nL cells slots pc lv (.int (iI x) :: st) S := fun H locs ls hP hD hS hR hl => by
  subst hx
  have hi : inR (n : Int) := ⟨by omega, by omega⟩
  refine va_newa (atype := .int) (ty := .int) (a0 := (n, .inl (fun _ => 0))) (N' := n) C.1 C.2.1 (C.words _ harr) rfl C.tabs hP hD hS C.old (fun cA => rfl) (by rw [iI_0, iI_lt hi inR_0]; omega) (by rw [iI_clamp (by omega) hi]; exact Int.toNat_natCast n) (by show n * 4 ≤ 536870912; omega) hf.1 hf.2 hdg (fun a cA H1 hK1 hP1 hD1 hS1 => ?_)
  have hcA : cA = gC g 0 := by
    have h1 := (hK1.2 3 (cA, .int) rfl).2
    have h2 := (C.tabs.2 0 _ rfl).2
    have h3 : s.vm.findClass ("[" ++ (FieldType.int).toString) = some cA := h1
    have h4 : s.vm.findClass ("[" ++ (FieldType.int).toString) = some (gC g 0) := h2
    exact Option.some.inj (h3.symm.trans h4)
  subst hcA
  have hfr := pol_fresh hD1
  have he : cel (gC g) (nw S a 20 n) a = .inl (gC g 0, n, .inl (fun _ => 0)) := by
    rw [cel_I (nw_at (S := S) (a := a) (kd := 20) (n := n)).2, nw_ln]
    congr 4
    funext j
    rw [nw_I]
    exact iI_0.symm
  rw [pol_new hfr he] at hP1 hD1
  exact kk a hfr H1 locs ls hP1 hD1 hS1 (hR.nw _ _ _) hl
end
