/-! ===== the store: addresses, kinds, lengths, whole numbers, references, long numbers ===== -/
abbrev Sto : Type := List Nat × (Nat → Nat) × (Nat → Nat) × (Nat → Int → Int) × (Nat → Int → Option Nat) × (Nat → Int → Int)
abbrev sL (S : Sto) : List Nat := S.1
abbrev sK (S : Sto) : Nat → Nat := S.2.1
abbrev sN (S : Sto) : Nat → Nat := S.2.2.1
abbrev sI (S : Sto) : Nat → Int → Int := S.2.2.2.1
abbrev sP (S : Sto) : Nat → Int → Option Nat := S.2.2.2.2.1
abbrev sJ (S : Sto) : Nat → Int → Int := S.2.2.2.2.2
def up2 {α : Type} (f : Nat → Int → α) (a : Nat) (k : Int) (v : α) : Nat → Int → α := fun b j => if b = a ∧ j = k then v else f b j
theorem up2_same {α : Type} (f : Nat → Int → α) (a : Nat) (k : Int) (v : α) : up2 f a k v a k = v := by simp [up2]
theorem up2_ne {α : Type} (f : Nat → Int → α) {a b : Nat} (k j : Int) (v : α) (h : b ≠ a) : up2 f a k v b j = f b j := by simp [up2, h]
theorem up2_nk {α : Type} (f : Nat → Int → α) (a b : Nat) {k j : Int} (v : α) (h : j ≠ k) : up2 f a k v b j = f b j := by simp [up2, h]
theorem up2_row {α : Type} (f : Nat → Int → α) {a b : Nat} (k : Int) (v : α) (h : b ≠ a) : up2 f a k v b = f b := funext fun j => up2_ne f k j v h
abbrev wI (S : Sto) (f : Nat → Int → Int) : Sto := (sL S, sK S, sN S, f, sP S, sJ S)
abbrev wP (S : Sto) (f : Nat → Int → Option Nat) : Sto := (sL S, sK S, sN S, sI S, f, sJ S)
abbrev wJ (S : Sto) (f : Nat → Int → Int) : Sto := (sL S, sK S, sN S, sI S, sP S, f)
abbrev uI (S : Sto) (a : Nat) (k v : Int) : Sto := wI S (up2 (sI S) a k v)
abbrev uP (S : Sto) (a : Nat) (k : Int) (v : Option Nat) : Sto := wP S (up2 (sP S) a k v)
abbrev uJ (S : Sto) (a : Nat) (k v : Int) : Sto := wJ S (up2 (sJ S) a k v)
/-- a new cell: its kind, its length, its whole numbers 0, its references null -/
abbrev nw (S : Sto) (a kd n : Nat) : Sto := (sL S ++ [a], va_up (sK S) a kd, va_up (sN S) a n, va_up (sI S) a (fun _ => 0), va_up (sP S) a (fun _ => none), va_up (sJ S) a (fun _ => 0))
/-- a whole number's word -/
def iI (x : Int) : Int32 := Int32.ofInt x
def lI (x : Int) : Int64 := Int64.ofInt x
def inR (x : Int) : Prop := -2147483648 ≤ x ∧ x < 2147483648
def inRL (x : Int) : Prop := -9223372036854775808 ≤ x ∧ x < 9223372036854775808
theorem iI_toInt {x : Int} (h : inR x) : (iI x).toInt = x := by
  unfold iI
  rw [Int32.toInt_ofInt]
  obtain ⟨h1, h2⟩ := h
  show x.bmod (4294967296 : Nat) = x
  exact Int.bmod_eq_of_le (by omega) (by omega)
theorem lI_toInt {x : Int} (h : inRL x) : (lI x).toInt = x := by
  unfold lI
  rw [Int64.toInt_ofInt]
  obtain ⟨h1, h2⟩ := h
  show x.bmod (18446744073709551616 : Nat) = x
  exact Int.bmod_eq_of_le (by omega) (by omega)
theorem iI_of (x : Int32) : iI x.toInt = x := by unfold iI; exact Int32.ofInt_toInt x
theorem inR_of (x : Int32) : inR x.toInt := by
  have h1 := Int32.le_toInt x
  have h2 := Int32.toInt_lt x
  exact ⟨by simpa using h1, by simpa using h2⟩
theorem iI_add (x y : Int) : iI x + iI y = iI (x + y) := by unfold iI; exact (Int32.ofInt_add x y).symm
theorem iI_sub (x y : Int) : iI x - iI y = iI (x - y) := by unfold iI; exact (Int32.ofInt_sub x y).symm
theorem iI_mul (x y : Int) : iI x * iI y = iI (x * y) := by unfold iI; exact (Int32.ofInt_mul x y).symm
theorem iI_neg (x : Int) : -iI x = iI (-x) := by unfold iI; exact (Int32.ofInt_neg x).symm
theorem iI_lt {x y : Int} (hx : inR x) (hy : inR y) : iI x < iI y ↔ x < y := by rw [Int32.lt_iff_toInt_lt, iI_toInt hx, iI_toInt hy]
theorem iI_le {x y : Int} (hx : inR x) (hy : inR y) : iI x ≤ iI y ↔ x ≤ y := by rw [Int32.le_iff_toInt_le, iI_toInt hx, iI_toInt hy]
theorem iI_eq {x y : Int} (hx : inR x) (hy : inR y) : iI x = iI y ↔ x = y := by
  constructor
  · intro h
    have := congrArg Int32.toInt h
    rw [iI_toInt hx, iI_toInt hy] at this
    exact this
  · intro h; rw [h]
theorem iI_0 : (0 : Int32) = iI 0 := by decide
theorem inR_0 : inR 0 := by unfold inR; omega
theorem iI_in {x : Int} {n : Nat} (h0 : 0 ≤ x) (h1 : x < n) (hx : inR x) : vp_in (iI x) n := by
  rw [vp_in_iff, iI_toInt hx]
  exact ⟨h0, h1⟩
theorem iI_clamp {x : Int} (h0 : 0 ≤ x) (hx : inR x) : (iI x).toNatClampNeg = x.toNat := by
  rw [Int32.toNatClampNeg, iI_toInt hx]
/-- each class's fields: 0 a whole number, 1 a reference, 2 a long number; in the order of vwCl -/
def tyF : Nat → List Nat
  | 0 => [0, 1, 0]
  | 1 => [0, 2, 0, 0, 0, 1]
  | 2 => [0, 1, 0, 0]
  | 3 => [1, 1, 0, 1, 1]
  | 4 => [0, 0, 0, 1, 1, 1, 1]
  | 5 => [1, 1, 1]
  | 6 => [1, 1, 1, 1, 0, 0, 0]
  | 7 => [0, 0, 0, 0, 0, 1, 0, 1, 1, 1, 1, 1, 1, 0, 0, 2, 0, 1, 1, 1, 1, 1]
  | _ => []
def fld (S : Sto) (a k t : Nat) : Value := if t = 0 then .int (iI (sI S a k)) else if t = 1 then va_rf (sP S a k) else .long (lI (sJ S a k))
def flds (S : Sto) (a : Nat) (ts : List Nat) : List Value := ts.mapIdx (fun k t => fld S a k t)
theorem flds_get (S : Sto) (a : Nat) (ts : List Nat) (k : Nat) : (flds S a ts)[k]? = (ts[k]?).map (fun t => fld S a k t) := by
  unfold flds
  rw [List.getElem?_mapIdx]
theorem flds_len (S : Sto) (a : Nat) (ts : List Nat) : (flds S a ts).length = ts.length := by
  unfold flds
  rw [List.length_mapIdx]
def cel (cy : Nat → ClassId) (S : Sto) (a : Nat) : va_E :=
  if sK S a = 20 then .inl (cy 0, sN S a, .inl (fun j => iI (sI S a j)))
  else if sK S a = 21 then .inl (cy 1, sN S a, .inr (.inr (.inr (.inr (fun j => sP S a j)))))
  else if sK S a = 22 then .inl (cy 2, sN S a, .inr (.inr (.inr (.inr (fun j => sP S a j)))))
  else if sK S a = 23 then .inl (cy 3, sN S a, .inr (.inl (fun j => lI (sJ S a j))))
  else .inr (sK S a, flds S a (tyF (sK S a)))
def pol (cy : Nat → ClassId) (S : Sto) : va_W := va_pl (sL S) (cel cy S)
theorem fld_congr {S T : Sto} {a : Nat} (hI : sI S a = sI T a) (hP : sP S a = sP T a) (hJ : sJ S a = sJ T a) (k t : Nat) : fld S a k t = fld T a k t := by
  unfold fld; rw [hI, hP, hJ]
theorem flds_congr {S T : Sto} {a : Nat} (hI : sI S a = sI T a) (hP : sP S a = sP T a) (hJ : sJ S a = sJ T a) (ts : List Nat) : flds S a ts = flds T a ts := by
  unfold flds
  congr 1
  funext k t
  exact fld_congr hI hP hJ k t
theorem cel_congr {cy : Nat → ClassId} {S T : Sto} {a : Nat} (hK : sK S a = sK T a) (hN : sN S a = sN T a) (hI : sI S a = sI T a) (hP : sP S a = sP T a) (hJ : sJ S a = sJ T a) : cel cy S a = cel cy T a := by
  unfold cel
  rw [hK, hN, hI, hP, hJ, flds_congr hI hP hJ]
def Rg (S : Sto) : Prop := ∀ (a : Nat) (k : Int), inR (sI S a k)
theorem Rg.uI {S : Sto} (h : Rg S) (a : Nat) (k : Int) {v : Int} (hv : inR v) : Rg (uI S a k v) := by
  intro b j
  show inR (up2 (sI S) a k v b j)
  unfold up2
  split
  · exact hv
  · exact h b j
abbrev ge (B0 : Nat) : Nat → Prop := fun q => B0 ≤ q
/-- a cell of the store of a kind -/
def At0 (S : Sto) (a kd : Nat) : Prop := a ∈ sL S ∧ sK S a = kd
theorem pol_get {cy : Nat → ClassId} {S : Sto} {a : Nat} (h : a ∈ sL S) : ∃ k : Nat, (pol cy S)[k]? = some (a, cel cy S a) := by
  obtain ⟨k, hk⟩ := va_pl_get (X := []) (f := cel cy S) h
  exact ⟨k, by simpa [pol] using hk⟩
theorem pol_set {cy : Nat → ClassId} {S T : Sto} {A : Nat → Prop} {a k : Nat} {e : va_E} (hD : va_D A (pol cy S)) (h : a ∈ sL S) (hk : (pol cy S)[k]? = some (a, cel cy S a)) (hL : sL T = sL S) (he : cel cy T a = e) (ho : ∀ b, b ≠ a → cel cy T b = cel cy S b) : (pol cy S).set k (a, e) = pol cy T := by
  have h1 := va_pl_set (X := []) (e := e) hD h (by simpa [pol] using hk)
  have h2 : (pol cy S).set k (a, e) = va_pl (sL S) (va_up (cel cy S) a e) := by simpa [pol] using h1
  rw [h2]
  unfold pol
  rw [hL]
  refine va_pl_congr fun b => ?_
  unfold va_up
  split
  · next hb => rw [hb, he]
  · next hb => rw [ho b hb]
