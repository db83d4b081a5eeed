/-! ===== all orders of n places, by rising numbers ===== -/
def kfL (gt : Nat → Bool) : Nat → Nat
  | 0 => 0
  | m + 1 => if gt m then kfL gt m else m + 1
def jfL (lt : Nat → Bool) : Nat → Nat
  | 0 => 0
  | m + 1 => if lt (m + 1) then jfL lt m else m + 1
def swA (F : Nat → Nat) (k i j : Nat) : Nat := if Nat.beq j i then F k else if Nat.beq j k then F i else F j
def nxA (a : List Nat) (n k i : Nat) : List Nat := (List.range n).map (fun j => if Nat.ble (k + 1) j then swA (fun x => a.getD x 0) k i (k + n - j) else swA (fun x => a.getD x 0) k i j)
def nxL (a : List Nat) : Option (List Nat) :=
  match kfL (fun m => Nat.blt (a.getD (m + 1) 0) (a.getD m 0)) (a.length - 1) with
  | 0 => none
  | k + 1 => some (nxA a a.length k (jfL (fun j => Nat.blt (a.getD j 0) (a.getD k 0)) (a.length - 1)))
def eqL : List Nat → List Nat → Bool
  | [], [] => true
  | a :: as, b :: bs => Nat.beq a b && eqL as bs
  | _, _ => false
theorem eqL_eq : ∀ {a b : List Nat}, eqL a b = true → a = b
  | [], [], _ => rfl
  | [], _ :: _, h => by cases h
  | _ :: _, [], h => by cases h
  | a :: as, b :: bs, h => by
    unfold eqL at h
    rw [Bool.and_eq_true] at h
    rw [Nat.eq_of_beq_eq_true h.1, eqL_eq h.2]
def chn : List (List Nat) → Bool
  | [] => true
  | a :: r =>
    (match nxL a, r with
      | some c, b :: _ => eqL c b
      | none, [] => true
      | _, _ => false) && chn r
theorem chn_nx : ∀ (L : List (List Nat)), chn L = true → ∀ (t : Nat) (a : List Nat), L[t]? = some a → nxL a = L[t + 1]? := by
  intro L
  induction L with
  | nil => intro _ t a h; simp at h
  | cons x r ih =>
    intro hc t a h
    unfold chn at hc
    rw [Bool.and_eq_true] at hc
    obtain ⟨h1, h2⟩ := hc
    cases t with
    | zero =>
      have e : x = a := by simpa using h
      subst e
      revert h1
      cases hx : nxL x with
      | none =>
        cases r with
        | nil => intro _; rfl
        | cons b r => intro h1; cases h1
      | some c =>
        cases r with
        | nil => intro h1; cases h1
        | cons b r => intro h1; rw [eqL_eq h1]; rfl
    | succ t => exact ih h2 t a (by simpa using h)
def enk (g : Nat → List (List Nat)) : Nat → List (List Nat)
  | 0 => []
  | k + 1 => enk g k ++ g k
def en (n : Nat) : Nat → Nat → List (List Nat)
  | 0, _ => [[]]
  | f + 1, left => enk (fun k => if left.testBit k = true then (en n f (left - 2 ^ k)).map (k :: ·) else []) n
def enA (n : Nat) : List (List Nat) := en n n (2 ^ n - 1)
theorem enk_mem {g : Nat → List (List Nat)} {y : List Nat} : ∀ n, y ∈ enk g n → ∃ k, k < n ∧ y ∈ g k := by
  intro n
  induction n with
  | zero => intro h; cases h
  | succ n ih =>
    intro h
    rcases List.mem_append.mp h with h | h
    · obtain ⟨k, h1, h2⟩ := ih h
      exact ⟨k, by omega, h2⟩
    · exact ⟨n, by omega, h⟩
theorem enk_split {g : Nat → List (List Nat)} {k : Nat} : ∀ n, k < n → ∃ R, enk g n = enk g k ++ g k ++ R ∧ ∀ y ∈ R, ∃ j, j < n ∧ y ∈ g j := by
  intro n
  induction n with
  | zero => intro h; omega
  | succ n ih =>
    intro h
    by_cases e : k = n
    · subst e
      exact ⟨[], by rw [List.append_nil]; rfl, fun y hy => by cases hy⟩
    · obtain ⟨R, h1, h2⟩ := ih (by omega)
      refine ⟨R ++ g n, ?_, fun y hy => ?_⟩
      · show enk g n ++ g n = _
        rw [h1, List.append_assoc (enk g k ++ g k)]
      · rcases List.mem_append.mp hy with h3 | h3
        · obtain ⟨j, h4, h5⟩ := h2 y h3
          exact ⟨j, by omega, h5⟩
        · exact ⟨n, by omega, h3⟩
theorem en_g {n f left k : Nat} {y : List Nat} (h : y ∈ (if left.testBit k = true then (en n f (left - 2 ^ k)).map (k :: ·) else [])) : left.testBit k = true ∧ ∃ r, r ∈ en n f (left - 2 ^ k) ∧ y = k :: r := by
  by_cases hb : left.testBit k = true
  · rw [if_pos hb] at h
    obtain ⟨r, h1, h2⟩ := List.mem_map.mp h
    exact ⟨hb, r, h1, h2.symm⟩
  · rw [if_neg hb] at h; cases h
theorem en_mem {n : Nat} : ∀ f left, left < 2 ^ n → cntb left n = f → ∀ a ∈ en n f left, a.length = f ∧ (∀ x ∈ a, x < n ∧ left.testBit x = true) ∧ a.Nodup := by
  intro f
  induction f with
  | zero =>
    intro left _ _ a ha
    have e : a = [] := List.mem_singleton.mp ha
    subst e
    exact ⟨rfl, fun x hx => absurd hx List.not_mem_nil, List.nodup_nil⟩
  | succ f ih =>
    intro left hl hc a ha
    obtain ⟨k, hk, ha⟩ := enk_mem n ha
    obtain ⟨hb, r, hr, rfl⟩ := en_g ha
    have h1 := cntb_take hb hk
    obtain ⟨i1, i2, i3⟩ := ih (left - 2 ^ k) (Nat.lt_of_le_of_lt (Nat.sub_le _ _) hl) (by omega) r hr
    have i4 : ∀ x ∈ r, left.testBit x = true ∧ x ≠ k := fun x hx => by
      have h2 := (i2 x hx).2
      rw [tb_sub hb] at h2
      simp at h2
      exact ⟨h2.1, h2.2⟩
    refine ⟨by rw [List.length_cons, i1], fun x hx => ?_, List.nodup_cons.mpr ⟨fun hm => (i4 k hm).2 rfl, i3⟩⟩
    rcases List.mem_cons.mp hx with e | hx
    · rw [e]; exact ⟨hk, hb⟩
    · exact ⟨(i2 x hx).1, (i4 x hx).1⟩
/-- the length of a route by the points of a list, home -/
def cst (d : Nat → Nat → Int) : Nat → List Nat → Int
  | src, [] => d src 9
  | src, k :: r => d src k + cst d k r
theorem cst_b {d : Nat → Nat → Int} {n : Nat} (hd : okD d n) : ∀ (a : List Nat) (src : Nat), (∀ x ∈ a, x < n) → (src < n ∨ src = 9) → 0 ≤ cst d src a ∧ cst d src a ≤ 66 * ((a.length : Int) + 1) := by
  intro a
  induction a with
  | nil =>
    intro src _ hs
    have := hd.2 src 9 hs (Or.inr rfl)
    show 0 ≤ d src 9 ∧ d src 9 ≤ 66 * (((0 : Nat) : Int) + 1)
    omega
  | cons k r ih =>
    intro src ha hs
    have hk := ha k List.mem_cons_self
    have h1 := ih k (fun x hx => ha x (List.mem_cons_of_mem _ hx)) (Or.inl hk)
    have h2 := hd.2 src k hs (Or.inl hk)
    show 0 ≤ d src k + cst d k r ∧ d src k + cst d k r ≤ 66 * (((r.length + 1 : Nat) : Int) + 1)
    omega
theorem cst_ge {d : Nat → Nat → Int} {n : Nat} (hd : okD d n) : ∀ f left src, left < 2 ^ n → cntb left n = f → (src < n ∨ src = 9) → ∀ a ∈ en n f left, tr d n left src ≤ cst d src a := by
  intro f
  induction f with
  | zero =>
    intro left src hl hc hs a ha
    have e : a = [] := List.mem_singleton.mp ha
    subst e
    rw [cntb_zero n hl hc, tr_0]
    exact Int.le_refl _
  | succ f ih =>
    intro left src hl hc hs a ha
    obtain ⟨k, hk, ha⟩ := enk_mem n ha
    obtain ⟨hb, r, hr, rfl⟩ := en_g ha
    have h1 := cntb_take hb hk
    have h0 : left ≠ 0 := by intro e; rw [e, Nat.zero_testBit] at hb; cases hb
    have h2 := ih (left - 2 ^ k) k (Nat.lt_of_le_of_lt (Nat.sub_le _ _) hl) (by omega) (Or.inl hk) r hr
    have h3 := mnb_le_g 1000000 left (fun k => d src k + tr d n (left - 2 ^ k) k) hk hb
    rw [tr_step d n h0]
    show _ ≤ d src k + cst d k r
    omega
/-- the first of the least ones -/
def FB (c : List Nat → Int) (L : List (List Nat)) (x : List Nat) : Prop := ∃ A B, L = A ++ x :: B ∧ (∀ y ∈ A, c x < c y) ∧ ∀ y ∈ B, c x ≤ c y
theorem FB.at {c : List Nat → Int} {A B : List (List Nat)} {x : List Nat} : (A ++ x :: B)[A.length]? = some x := by
  rw [List.getElem?_append_right (Nat.le_refl _), Nat.sub_self]
  rfl
theorem FB.lo {A B : List (List Nat)} {x : List Nat} {i : Nat} {y : List Nat} (h : (A ++ x :: B)[i]? = some y) (hi : i < A.length) : y ∈ A := by
  rw [List.getElem?_append_left hi] at h
  exact List.mem_of_getElem? h
theorem FB.hi {A B : List (List Nat)} {x : List Nat} {i : Nat} {y : List Nat} (h : (A ++ x :: B)[i]? = some y) (hi : A.length < i) : y ∈ B := by
  rw [List.getElem?_append_right (by omega)] at h
  obtain ⟨j, hj⟩ : ∃ j, i - A.length = j + 1 := ⟨i - A.length - 1, by omega⟩
  rw [hj, List.getElem?_cons_succ] at h
  exact List.mem_of_getElem? h
theorem FB.uniq {c : List Nat → Int} {L : List (List Nat)} {x x' : List Nat} (h : FB c L x) (h' : FB c L x') : x = x' := by
  obtain ⟨A, B, e, a1, a2⟩ := h
  obtain ⟨A', B', e', b1, b2⟩ := h'
  have k1 : L[A.length]? = some x := by rw [e]; exact FB.at (c := c)
  have k2 : L[A'.length]? = some x' := by rw [e']; exact FB.at (c := c)
  rcases Nat.lt_trichotomy A.length A'.length with hl | hl | hl
  · have h1 := b1 x (FB.lo (by rw [← e']; exact k1) hl)
    have h2 := a2 x' (FB.hi (by rw [← e]; exact k2) hl)
    omega
  · rw [hl, k2] at k1
    exact (Option.some.inj k1).symm
  · have h1 := a1 x' (FB.lo (by rw [← e]; exact k2) hl)
    have h2 := b2 x (FB.hi (by rw [← e']; exact k1) hl)
    omega
theorem FB.one {c : List Nat → Int} (x : List Nat) : FB c [x] x := ⟨[], [], rfl, fun y hy => absurd hy List.not_mem_nil, fun y hy => absurd hy List.not_mem_nil⟩
theorem FB.all {c : List Nat → Int} {L : List (List Nat)} {x : List Nat} (h : FB c L x) : ∀ y ∈ L, c x ≤ c y := by
  obtain ⟨A, B, e, a1, a2⟩ := h
  intro y hy
  rw [e] at hy
  rcases List.mem_append.mp hy with h | h
  · exact Int.le_of_lt (a1 y h)
  · rcases List.mem_cons.mp h with h | h
    · rw [h]; exact Int.le_refl _
    · exact a2 y h
theorem FB.new {c : List Nat → Int} {L : List (List Nat)} {x y : List Nat} (h : FB c L x) (hc : c y < c x) : FB c (L ++ [y]) y := by
  have ha := h.all
  exact ⟨L, [], rfl, fun z hz => by have := ha z hz; omega, fun z hz => absurd hz List.not_mem_nil⟩
theorem FB.old {c : List Nat → Int} {L : List (List Nat)} {x y : List Nat} (h : FB c L x) (hc : ¬ c y < c x) : FB c (L ++ [y]) x := by
  obtain ⟨A, B, e, a1, a2⟩ := h
  refine ⟨A, B ++ [y], by rw [e, List.append_assoc]; rfl, a1, fun z hz => ?_⟩
  rcases List.mem_append.mp hz with h | h
  · exact a2 z h
  · rw [List.mem_singleton.mp h]; omega
theorem tk_succ {α : Type} : ∀ (L : List α) (t : Nat) (y : α), L[t]? = some y → L.take (t + 1) = L.take t ++ [y] := by
  intro L
  induction L with
  | nil => intro t y h; simp at h
  | cons x r ih =>
    intro t y h
    cases t with
    | zero =>
      have e : x = y := by simpa using h
      subst e
      rfl
    | succ t =>
      show x :: r.take (t + 1) = x :: (r.take t ++ [y])
      rw [ih t y (by simpa using h)]
/-- the best route from a point by a set, point by point -/
def pth (d : Nat → Nat → Int) (n : Nat) : Nat → Nat → Nat → List Nat
  | 0, _, _ => []
  | f + 1, left, src => bnI left (fun k => d src k + tr d n (left - 2 ^ k) k) n :: pth d n f (left - 2 ^ bnI left (fun k => d src k + tr d n (left - 2 ^ k) k) n) (bnI left (fun k => d src k + tr d n (left - 2 ^ k) k) n)
theorem pth_FB {d : Nat → Nat → Int} {n : Nat} (hd : okD d n) : ∀ f left src, left < 2 ^ n → cntb left n = f → (src < n ∨ src = 9) → FB (cst d src) (en n f left) (pth d n f left src) ∧ cst d src (pth d n f left src) = tr d n left src := by
  intro f
  induction f with
  | zero =>
    intro left src hl hc hs
    refine ⟨FB.one [], ?_⟩
    rw [cntb_zero n hl hc, tr_0]
    rfl
  | succ f ih =>
    intro left src hl hc hs
    have h0 : left ≠ 0 := by intro e; rw [e, cntb_0] at hc; omega
    obtain ⟨b1, b2, b3, b4⟩ := bnI_spec (step_ex hd hs hl h0)
    have e0 : pth d n (f + 1) left src = bnI left (fun k => d src k + tr d n (left - 2 ^ k) k) n :: pth d n f (left - 2 ^ bnI left (fun k => d src k + tr d n (left - 2 ^ k) k) n) (bnI left (fun k => d src k + tr d n (left - 2 ^ k) k) n) := rfl
    rw [e0, tr_step d n h0]
    generalize bnI left (fun k => d src k + tr d n (left - 2 ^ k) k) n = k at b1 b2 b3 b4 ⊢
    have h1 := cntb_take b2 b1
    have hl2 : left - 2 ^ k < 2 ^ n := Nat.lt_of_le_of_lt (Nat.sub_le _ _) hl
    obtain ⟨⟨A, B, i1, i2, i3⟩, i4⟩ := ih (left - 2 ^ k) k hl2 (by omega) (Or.inl b1)
    have hcst : cst d src (k :: pth d n f (left - 2 ^ k) k) = mnb 1000000 left (fun k => d src k + tr d n (left - 2 ^ k) k) n := by
      rw [← b3]
      show d src k + cst d k _ = _
      rw [i4]
    refine ⟨?_, hcst⟩
    obtain ⟨R, r1, r2⟩ := enk_split (g := fun k => if left.testBit k = true then (en n f (left - 2 ^ k)).map (k :: ·) else []) n b1
    have hge := cst_ge hd (f + 1) left src hl hc hs
    rw [tr_step d n h0, ← hcst] at hge
    have eAll : en n (f + 1) left = (enk (fun k => if left.testBit k = true then (en n f (left - 2 ^ k)).map (k :: ·) else []) k ++ A.map (k :: ·)) ++ (k :: pth d n f (left - 2 ^ k) k) :: (B.map (k :: ·) ++ R) := by
      show enk _ n = _
      rw [r1, if_pos b2, i1, List.map_append, List.map_cons]
      simp only [List.append_assoc, List.cons_append]
    refine ⟨_, _, eAll, fun y hy => ?_, fun y hy => hge y ?_⟩
    · rcases List.mem_append.mp hy with hy | hy
      · obtain ⟨j, j1, j2⟩ := enk_mem k hy
        obtain ⟨hb, r, hr, rfl⟩ := en_g j2
        have h3 := b4 j j1 hb
        have h4 := cntb_take hb (show j < n by omega)
        have h5 := cst_ge hd f (left - 2 ^ j) j (Nat.lt_of_le_of_lt (Nat.sub_le _ _) hl) (by omega) (Or.inl (by omega)) r hr
        rw [hcst]
        show _ < d src j + cst d j r
        omega
      · obtain ⟨r, hr, rfl⟩ := List.mem_map.mp hy
        have h3 := i2 r hr
        show d src k + cst d k _ < d src k + cst d k r
        omega
    · rw [eAll]
      exact List.mem_append_right _ (List.mem_cons_of_mem _ hy)
theorem pth_rt {d : Nat → Nat → Int} {n : Nat} : ∀ f i j, j < f → (pth d n f (rtS d n i).2 (rtS d n i).1).getD j 0 = (rtS d n (i + j + 1)).1 := by
  intro f
  induction f with
  | zero => intro i j hj; omega
  | succ f ih =>
    intro i j hj
    cases j with
    | zero => rfl
    | succ j =>
      have h := ih (i + 1) j (by omega)
      rw [show i + 1 + j + 1 = i + (j + 1) + 1 by omega] at h
      rw [← h]
      rfl
theorem pth_len {d : Nat → Nat → Int} {n : Nat} : ∀ f left src, (pth d n f left src).length = f := by
  intro f
  induction f with
  | zero => intro _ _; rfl
  | succ f ih => intro left src; show (pth d n f _ _).length + 1 = _; rw [ih]
/-- the whole of it -/
theorem enA_best {d : Nat → Nat → Int} {n : Nat} (hd : okD d n) : FB (cst d 9) (enA n) (pth d n n (2 ^ n - 1) 9) ∧ cst d 9 (pth d n n (2 ^ n - 1) 9) = tr d n (2 ^ n - 1) 9 ∧ ∀ j, j < n → (pth d n n (2 ^ n - 1) 9).getD j 0 = (rtS d n (j + 1)).1 := by
  have h1 := pth_FB hd n (2 ^ n - 1) 9 (by have := Nat.two_pow_pos n; omega) (cntb_full n) (Or.inr rfl)
  refine ⟨h1.1, h1.2, fun j hj => ?_⟩
  have h2 := pth_rt (d := d) (n := n) n 0 j hj
  rw [show 0 + j + 1 = j + 1 by omega] at h2
  exact h2
theorem enA_mem {n : Nat} {a : List Nat} (ha : a ∈ enA n) : a.length = n ∧ (∀ x ∈ a, x < n) ∧ a.Nodup := by
  obtain ⟨h1, h2, h3⟩ := en_mem n (2 ^ n - 1) (by have := Nat.two_pow_pos n; omega) (cntb_full n) a ha
  exact ⟨h1, fun x hx => (h2 x hx).1, h3⟩
theorem six {P : Nat → Prop} (h0 : P 0) (h1 : P 1) (h2 : P 2) (h3 : P 3) (h4 : P 4) (h5 : P 5) (h6 : P 6) : ∀ n, n ≤ 6 → P n := by
  intro n hn
  match n, hn with
  | 0, _ => exact h0
  | 1, _ => exact h1
  | 2, _ => exact h2
  | 3, _ => exact h3
  | 4, _ => exact h4
  | 5, _ => exact h5
  | 6, _ => exact h6
theorem chn_all : ∀ n, n ≤ 6 → chn (enA n) = true := six (by decide +kernel) (by decide +kernel) (by decide +kernel) (by decide +kernel) (by decide +kernel) (by decide +kernel) (by decide +kernel)
theorem enA_0 : ∀ n, n ≤ 6 → (enA n)[0]? = some (List.range n) := six (by decide +kernel) (by decide +kernel) (by decide +kernel) (by decide +kernel) (by decide +kernel) (by decide +kernel) (by decide +kernel)
theorem enA_nx {n : Nat} (hn : n ≤ 6) {t : Nat} {a : List Nat} (h : (enA n)[t]? = some a) : nxL a = (enA n)[t + 1]? := chn_nx _ (chn_all n hn) t a h
/-! rows of numbers in such an order -/
def swF (F : Int → Int) (k i j : Int) : Int := if j = i then F k else if j = k then F i else F j
/-- the row behind `next` -/
def nxF (F : Int → Int) (n k i : Int) : Int → Int := fun j => if k + 1 ≤ j ∧ j < n then swF F k i (k + n - j) else swF F k i j
def gtF (F : Int → Int) (m : Nat) : Bool := decide (F ((m + 1 : Nat) : Int) < F (m : Int))
def ltF (F : Int → Int) (k : Nat) (j : Nat) : Bool := decide (F (j : Int) < F (k : Int))
/-- F holds the order a of the points pl -/
def rwA (pl : Nat → Int) (n : Nat) (F : Int → Int) (a : List Nat) : Prop := ∀ j : Nat, j < n → F (j : Int) = pl (a.getD j 0)
theorem kfL_congr {g h : Nat → Bool} : ∀ m, (∀ j, j < m → g j = h j) → kfL g m = kfL h m := by
  intro m
  induction m with
  | zero => intro _; rfl
  | succ m ih =>
    intro e
    unfold kfL
    rw [e m (by omega), ih (fun j hj => e j (by omega))]
theorem jfL_congr {g h : Nat → Bool} : ∀ m, (∀ j, j ≤ m → g j = h j) → jfL g m = jfL h m := by
  intro m
  induction m with
  | zero => intro _; rfl
  | succ m ih =>
    intro e
    unfold jfL
    rw [e (m + 1) (by omega), ih (fun j hj => e j (by omega))]
theorem kfL_le (g : Nat → Bool) (m : Nat) : kfL g m ≤ m := by
  induction m with
  | zero => exact Nat.le_refl _
  | succ m ih => unfold kfL; split <;> omega
theorem jfL_le (g : Nat → Bool) (m : Nat) : jfL g m ≤ m := by
  induction m with
  | zero => exact Nat.le_refl _
  | succ m ih => unfold jfL; split <;> omega
theorem blt_dec (x y : Nat) : Nat.blt x y = decide (x < y) := by
  rw [Bool.eq_iff_iff]
  simp
theorem getD_lt {a : List Nat} {n : Nat} (h : ∀ x ∈ a, x < n) {j : Nat} (hj : j < a.length) : a.getD j 0 < n := by
  refine h _ ?_
  rw [List.getD_eq_getElem?_getD, List.getElem?_eq_getElem hj]
  exact List.getElem_mem hj
/-- the row behind `next` holds the next order -/
theorem nx_row {pl : Nat → Int} {n : Nat} {F : Int → Int} {a : List Nat} (hpl : ∀ i j, i < n → j < n → (pl i < pl j ↔ i < j)) (hl : a.length = n) (hx : ∀ x ∈ a, x < n) (hF : rwA pl n F a) :
    (kfL (gtF F) (n - 1) = 0 ↔ nxL a = none) ∧ ∀ k b, kfL (gtF F) (n - 1) = k + 1 → nxL a = some b → rwA pl n (nxF F (n : Int) (k : Int) ((jfL (ltF F k) (n - 1) : Nat) : Int)) b := by
  have hlt : ∀ i j, i < n → j < n → decide (F (i : Int) < F (j : Int)) = Nat.blt (a.getD i 0) (a.getD j 0) := by
    intro i j hi hj
    rw [hF i hi, hF j hj, blt_dec]
    have h1 := hpl _ _ (getD_lt hx (show i < a.length by omega)) (getD_lt hx (show j < a.length by omega))
    simp only [h1]
  have hk : kfL (gtF F) (n - 1) = kfL (fun m => Nat.blt (a.getD (m + 1) 0) (a.getD m 0)) (a.length - 1) := by
    rw [hl]
    exact kfL_congr _ (fun j hj => hlt (j + 1) j (by omega) (by omega))
  have hnx : nxL a = match kfL (fun m => Nat.blt (a.getD (m + 1) 0) (a.getD m 0)) (a.length - 1) with
    | 0 => none
    | k + 1 => some (nxA a a.length k (jfL (fun j => Nat.blt (a.getD j 0) (a.getD k 0)) (a.length - 1))) := rfl
  rw [← hk] at hnx
  refine ⟨⟨fun h => by rw [hnx, h], fun h => ?_⟩, fun k b hk1 hb => ?_⟩
  · rw [hnx] at h
    revert h
    cases kfL (gtF F) (n - 1) with
    | zero => intro _; rfl
    | succ k => intro h; cases h
  · rw [hnx, hk1] at hb
    have hkn := kfL_le (gtF F) (n - 1)
    have hj : jfL (ltF F k) (n - 1) = jfL (fun j => Nat.blt (a.getD j 0) (a.getD k 0)) (a.length - 1) := by
      rw [hl]
      exact jfL_congr _ (fun j hj => hlt j k (by omega) (by omega))
    have hjn := jfL_le (ltF F k) (n - 1)
    have hb : nxA a a.length k (jfL (fun j => Nat.blt (a.getD j 0) (a.getD k 0)) (a.length - 1)) = b := Option.some.inj hb
    rw [← hj, hl] at hb
    generalize jfL (ltF F k) (n - 1) = i at hjn hb ⊢
    have hsw : ∀ j, j < n → swF F (k : Int) (i : Int) (j : Int) = pl (swA (fun x => a.getD x 0) k i j) := by
      intro j hj
      unfold swF swA
      by_cases e1 : j = i
      · subst e1
        rw [if_pos rfl, if_pos (Nat.beq_refl j)]
        exact hF k (by omega)
      · rw [if_neg (by omega), if_neg (fun h => e1 (Nat.eq_of_beq_eq_true h))]
        by_cases e2 : j = k
        · subst e2
          rw [if_pos rfl, if_pos (Nat.beq_refl j)]
          exact hF i (by omega)
        · rw [if_neg (by omega), if_neg (fun h => e2 (Nat.eq_of_beq_eq_true h))]
          exact hF j hj
    intro j hj
    have e : b.getD j 0 = if Nat.ble (k + 1) j then swA (fun x => a.getD x 0) k i (k + n - j) else swA (fun x => a.getD x 0) k i j := by
      rw [← hb]
      unfold nxA
      rw [List.getD_eq_getElem?_getD, List.getElem?_map, List.getElem?_range hj]
      rfl
    rw [e]
    unfold nxF
    by_cases h1 : k + 1 ≤ j
    · rw [if_pos (by omega), if_pos (Nat.ble_eq_true_of_le h1), ← hsw _ (by omega), show (k : Int) + (n : Int) - (j : Int) = ((k + n - j : Nat) : Int) by omega]
    · rw [if_neg (by omega), if_neg (fun h => h1 (Nat.le_of_ble_eq_true h))]
      exact hsw j hj
