/-! ===== arrays of arrays ===== -/
abbrev rls (n : Nat) (r : Nat → Nat) : List Nat := (List.range n).map r
def mna (S : Sto) (a n : Nat) (r : Nat → Nat) (k : Nat) : Sto :=
  (a :: (sL S ++ rls n r), (fun x => if x = a then 22 else if x ∈ rls n r then 20 else sK S x), (fun x => if x = a then n else if x ∈ rls n r then k else sN S x),
   (fun x => if x = a ∨ x ∈ rls n r then (fun _ => 0) else sI S x), (fun x => if x = a then (fun j => if 0 ≤ j ∧ j < (n : Int) then some (r j.toNat) else none) else if x ∈ rls n r then (fun _ => none) else sP S x),
   (fun x => if x = a ∨ x ∈ rls n r then (fun _ => 0) else sJ S x))
theorem rls_mem {n : Nat} {r : Nat → Nat} {x : Nat} : x ∈ rls n r ↔ ∃ i, i < n ∧ r i = x := by
  unfold rls
  rw [List.mem_map]
  constructor
  · rintro ⟨i, h1, h2⟩; exact ⟨i, List.mem_range.mp h1, h2⟩
  · rintro ⟨i, h1, h2⟩; exact ⟨i, List.mem_range.mpr h1, h2⟩
theorem mna_old {S : Sto} {a n k x : Nat} {r : Nat → Nat} (h1 : x ≠ a) (h2 : x ∉ rls n r) : sK (mna S a n r k) x = sK S x ∧ sN (mna S a n r k) x = sN S x ∧ sI (mna S a n r k) x = sI S x ∧ sP (mna S a n r k) x = sP S x ∧ sJ (mna S a n r k) x = sJ S x := by
  refine ⟨?_, ?_, ?_, ?_, ?_⟩
  · show (if x = a then 22 else if x ∈ rls n r then 20 else sK S x) = _; rw [if_neg h1, if_neg h2]
  · show (if x = a then n else if x ∈ rls n r then k else sN S x) = _; rw [if_neg h1, if_neg h2]
  · show (if x = a ∨ x ∈ rls n r then (fun _ => 0) else sI S x) = _; rw [if_neg (fun h => h.elim h1 h2)]
  · show (if x = a then _ else if x ∈ rls n r then (fun _ => none) else sP S x) = _; rw [if_neg h1, if_neg h2]
  · show (if x = a ∨ x ∈ rls n r then (fun _ => 0) else sJ S x) = _; rw [if_neg (fun h => h.elim h1 h2)]
theorem mna_row {S : Sto} {a n k x : Nat} {r : Nat → Nat} (h1 : x ≠ a) (h2 : x ∈ rls n r) : sK (mna S a n r k) x = 20 ∧ sN (mna S a n r k) x = k ∧ sI (mna S a n r k) x = (fun _ => 0) := by
  refine ⟨?_, ?_, ?_⟩
  · show (if x = a then 22 else if x ∈ rls n r then 20 else sK S x) = _; rw [if_neg h1, if_pos h2]
  · show (if x = a then n else if x ∈ rls n r then k else sN S x) = _; rw [if_neg h1, if_pos h2]
  · show (if x = a ∨ x ∈ rls n r then (fun _ => 0) else sI S x) = _; rw [if_pos (Or.inr h2)]
theorem mna_out {S : Sto} {a n k : Nat} {r : Nat → Nat} : At0 (mna S a n r k) a 22 ∧ sN (mna S a n r k) a = n ∧ ∀ i : Nat, i < n → sP (mna S a n r k) a (i : Int) = some (r i) := by
  refine ⟨⟨List.mem_cons_self, ?_⟩, ?_, fun i hi => ?_⟩
  · show (if a = a then 22 else _) = _; rw [if_pos rfl]
  · show (if a = a then n else _) = _; rw [if_pos rfl]
  · show (if a = a then (fun j : Int => if 0 ≤ j ∧ j < (n : Int) then some (r j.toNat) else none) else _) (i : Int) = _
    rw [if_pos rfl]
    show (if 0 ≤ (i : Int) ∧ (i : Int) < (n : Int) then some (r ((i : Int)).toNat) else none) = _
    rw [if_pos (by omega), Int.toNat_natCast]
theorem Ext.mna {S : Sto} {a n k : Nat} {r : Nat → Nat} (h1 : a ∉ sL S) (h2 : ∀ i, i < n → r i ∉ sL S) : Ext S (mna S a n r k) := by
  intro x hx
  have e1 : x ≠ a := fun e => h1 (e ▸ hx)
  have e2 : x ∉ rls n r := fun e => by
    obtain ⟨i, i1, i2⟩ := rls_mem.mp e
    exact h2 i i1 (i2 ▸ hx)
  obtain ⟨b1, b2, b3, b4, b5⟩ := mna_old (S := S) (k := k) e1 e2
  exact ⟨List.mem_cons_of_mem _ (List.mem_append_left _ hx), b1, b2, b3, b4, b5⟩
theorem Rg.mna {S : Sto} (h : Rg S) (a n k : Nat) (r : Nat → Nat) : Rg (mna S a n r k) := by
  intro b j
  show inR ((if b = a ∨ b ∈ rls n r then (fun _ => 0) else sI S b) j)
  split
  · exact inR_0
  · exact h b j
section
variable {p : Program} {l : Launch} {e : Env} {R : Room} {s : State} {m : MethodId} {args : Array Value} {below : List Frame} {meth : Method} {c : Code} {Q : State → Prop} {cc : ByteArray} {nL : Nat} {own : String} {ret : Option FieldType} {g : GG} {cells slots pc : Nat} {lv lv' : List (Nat × Value)} {st : List Value} {S : Sto}
theorem KMna (C : Cx p l s m args meth c cc nL own ret g) {index : Nat} {x y : Int} (n k : Nat) (hx : x = (n : Int)) (hy : y = (k : Int)) (hn : n < 1000) (hk : k < 1000) (hlink : Cond.classLink own index "[[I" ∈ UW) (harr : Cond.arrayClass FieldType.int ∈ UW) (hf : cells + (1 + n) ≤ R.cells ∧ slots + (n + n * k) ≤ R.slots) (hdg : decode cc pc = .ok (.multianewarray index 2, 4))
    (kk : ∀ (a : Nat) (r : Nat → Nat), a ∉ sL S → (∀ i, i < n → r i ∉ sL S) → (∀ i j, i < n → j < n → r i = r j → i = j) → (∀ i, i < n → r i ≠ a) → Wk p l e R s m args below meth c Q g nL (cells + 1 + n) (slots + n + n * k) (pc + 4) lv (.ref a :: st) (mna S a n r k)) : Wk p l e R s m args below meth c Q g nL cells slots pc lv (.int (iI y) :: .int (iI x) :: st) S := fun H locs ls hP hD hS hR hl => by
  subst hx hy
  have hin : inR (n : Int) := ⟨by omega, by omega⟩
  have hik : inR (k : Int) := ⟨by omega, by omega⟩
  have h2 : s.vm.findClass ("[" ++ (FieldType.int).toString) = some (gC g 0) := (C.tabs.2 0 _ rfl).2
  refine va_mna (X := []) (L := sL S) (f := cel (gC g) S) (ty := .int) (cy := gC g 0) (z := (k, .inl (fun _ => 0))) (N' := n) (K' := k) C.1 C.2.1 C.home (C.words _ hlink) C.nws.2.2.1 (C.words _ harr) h2 C.tabs hP hD hS C.old (by rw [iI_0, iI_lt hin inR_0]; omega) (by rw [iI_0, iI_lt hik inR_0]; omega) (by rw [iI_clamp (by omega) hin]; exact Int.toNat_natCast n) (by rw [iI_clamp (by omega) hik]; exact Int.toNat_natCast k) (by omega) (by show k * 4 ≤ 536870912; omega) (by omega) (by decide) (by decide) hf.1 hf.2 (fun c9 => by show ({ cls := c9, slots := Array.replicate k (.int 0), vm := .none } : Cell) = arrV c9 k (fun _ => .int 0); rw [arrV_new]) hdg (fun a r cA H1 hinj hfr hK1 hP1 hD1 hS1 => ?_)
  have hcA : cA = gC g 2 := by
    have h1 := (hK1.2 3 (cA, .array .int) rfl).2
    have h4 := (C.tabs.2 2 _ rfl).2
    have h5 : s.vm.findClass ("[" ++ (FieldType.array .int).toString) = some cA := h1
    have h6 : s.vm.findClass ("[" ++ (FieldType.array .int).toString) = some (gC g 2) := h4
    exact Option.some.inj (h5.symm.trans h6)
  subst hcA
  have hnot : a ∉ sL S ++ rls n r := by
    intro h
    obtain ⟨i, hi⟩ := List.getElem?_of_mem h
    have e1 : (([] ++ [(a, (.inl (gC g 2, n, .inr (.inr (.inr (.inr (fun i => if i < n then some (r i) else none)))))  : va_E))]) ++ va_pl (sL S ++ (List.range n).map r) (vr_up (cel (gC g) S) ((List.range n).map r) (.inl (gC g 0, (k, .inl (fun _ => 0))))))[0]? = some (a, .inl (gC g 2, n, .inr (.inr (.inr (.inr (fun i => if i < n then some (r i) else none)))))) := rfl
    have e2 : (([] ++ [(a, (.inl (gC g 2, n, .inr (.inr (.inr (.inr (fun i => if i < n then some (r i) else none)))))  : va_E))]) ++ va_pl (sL S ++ (List.range n).map r) (vr_up (cel (gC g) S) ((List.range n).map r) (.inl (gC g 0, (k, .inl (fun _ => 0))))))[i + 1]? = some (a, vr_up (cel (gC g) S) ((List.range n).map r) (.inl (gC g 0, (k, .inl (fun _ => 0)))) a) := by
      show (va_pl (sL S ++ (List.range n).map r) _)[i]? = _
      unfold va_pl
      rw [List.getElem?_map, hi]
      rfl
    have := hD1.1 _ _ _ _ e1 e2 rfl
    omega
  have ha1 : a ∉ sL S := fun h => hnot (List.mem_append_left _ h)
  have ha2 : a ∉ rls n r := fun h => hnot (List.mem_append_right _ h)
  have hra : ∀ i, i < n → r i ≠ a := fun i hi e9 => ha2 (rls_mem.mpr ⟨i, hi, e9⟩)
  have hpol : ([] ++ [(a, (.inl (gC g 2, n, .inr (.inr (.inr (.inr (fun i => if i < n then some (r i) else none)))))  : va_E))]) ++ va_pl (sL S ++ (List.range n).map r) (vr_up (cel (gC g) S) ((List.range n).map r) (.inl (gC g 0, (k, .inl (fun _ => 0))))) = pol (gC g) (mna S a n r k) := by
    show (a, _) :: va_pl (sL S ++ (List.range n).map r) _ = (a, cel (gC g) (mna S a n r k) a) :: va_pl (sL S ++ (List.range n).map r) (cel (gC g) (mna S a n r k))
    congr 1
    · congr 1
      obtain ⟨o1, o2, o3⟩ := mna_out (S := S) (a := a) (n := n) (k := k) (r := r)
      rw [cel_G o1.2, o2]
      congr 7
      funext j
      show _ = (if a = a then (fun j : Int => if 0 ≤ j ∧ j < (n : Int) then some (r j.toNat) else none) else _) (j : Int)
      rw [if_pos rfl]
      show _ = (if 0 ≤ (j : Int) ∧ (j : Int) < (n : Int) then some (r ((j : Int)).toNat) else none)
      rw [Int.toNat_natCast]
      by_cases h : j < n
      · rw [if_pos h, if_pos (by omega)]
      · rw [if_neg h, if_neg (by omega)]
    · unfold va_pl
      refine List.map_congr_left (fun b hb => ?_)
      have hba : b ≠ a := fun e9 => hnot (e9 ▸ hb)
      by_cases h : b ∈ rls n r
      · rw [vr_up_in h]
        obtain ⟨m1, m2, m3⟩ := mna_row (S := S) (k := k) hba h
        rw [cel_I m1, m2, m3]
        congr 5
      · rw [vr_up_ne h]
        obtain ⟨b1, b2, b3, b4, b5⟩ := mna_old (S := S) (k := k) hba h
        rw [cel_congr b1.symm b2.symm b3.symm b4.symm b5.symm]
  rw [hpol] at hP1 hD1
  exact kk a r ha1 hfr hinj hra H1 locs ls hP1 hD1 hS1 (hR.mna _ _ _ _) hl
end
