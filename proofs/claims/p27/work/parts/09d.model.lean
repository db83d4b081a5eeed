/-! ===== the reference's route rows ===== -/
theorem dst_0 {N G x y z : Int} (h : x / 100 - y / 100 = 0) (hz : absI (x % 100 - y % 100) = z) : dst N G x y = z := by
  unfold dst
  rw [if_pos (by rw [h]; rfl), hz]
theorem dst_1 {N G x y a b : Int} (h : ¬ x / 100 - y / 100 = 0) (ha : absI (x / 100 - y / 100) = a) (hb : minI (x % 100 + y % 100) (2 * (N + 1) - (x % 100 + y % 100)) = b) : dst N G x y = a * G + b := by
  unfold dst
  have h1 := absI_b (x / 100 - y / 100)
  rw [if_neg (by omega), ha, hb]
theorem pt_9 (P : Int → Int) (l : List Nat) : pt P l 9 = 0 := rfl
theorem pt_n {P : Int → Int} {l : List Nat} {j : Nat} (h : j ≠ 9) : pt P l j = P ((l.getD j 0 : Nat) : Int) := if_neg h
/-- the table of the reference for the sets below b: from every point that isn't in the set, and from home -/
def OnM (n : Nat) (d : Nat → Nat → Int) (F : Int → Int) (b : Nat) : Prop := ∀ left src : Nat, left < b → (src < n ∧ left.testBit src = false ∨ src = 9) → F ((10 * left + src : Nat) : Int) = tr d n left src
def OnMR (n : Nat) (d : Nat → Nat → Int) (F : Int → Int) (left j : Nat) : Prop := OnM n d F left ∧ ∀ src : Nat, src < j → (src < n ∧ left.testBit src = false ∨ src = 9) → F ((10 * left + src : Nat) : Int) = tr d n left src
theorem OnM.of {n : Nat} {d : Nat → Nat → Int} {F G : Int → Int} {b : Nat} (e : ∀ j, G j = F j) (h : OnM n d F b) : OnM n d G b := fun left src h1 h2 => (e _).trans (h left src h1 h2)
theorem OnMR.put {n : Nat} {d : Nat → Nat → Int} {F : Int → Int} {left j : Nat} {v : Int} (hj : j < 10) (hn : n ≤ 9) (h : OnMR n d F left j) (hv : (j < n ∧ left.testBit j = false ∨ j = 9) → v = tr d n left j) : OnMR n d (upd1 F ((10 * left + j : Nat) : Int) v) left (j + 1) := by
  have hne : ∀ a b : Nat, (a ≠ left ∨ b ≠ j) → b < 10 → ((10 * a + b : Nat) : Int) ≠ ((10 * left + j : Nat) : Int) := by
    intro a b h1 h2 h3
    omega
  refine ⟨fun a b h1 h2 => ?_, fun src h1 h2 => ?_⟩
  · unfold upd1
    rw [if_neg (hne a b (Or.inl (by omega)) (by omega))]
    exact h.1 a b h1 h2
  · unfold upd1
    by_cases e : src = j
    · subst e; rw [if_pos rfl]; exact hv h2
    · rw [if_neg (hne left src (Or.inr e) (by omega))]
      exact h.2 src (by omega) h2
theorem OnMR.done {n : Nat} {d : Nat → Nat → Int} {F : Int → Int} {left : Nat} (hn : n ≤ 9) (h : OnMR n d F left 10) : OnM n d F (left + 1) := by
  intro a b h1 h2
  by_cases e : a = left
  · subst e; exact h.2 b (by omega) h2
  · exact h.1 a b (by omega) h2
theorem OnM.get {n : Nat} {d : Nat → Nat → Int} {F : Int → Int} {left k : Nat} (h : OnM n d F left) (hk : k < n) (hb : left.testBit k = true) : F ((10 * (left - 2 ^ k) + k : Nat) : Int) = tr d n (left - 2 ^ k) k := by
  have h1 := tb_ge hb
  have h2 := Nat.two_pow_pos k
  refine h (left - 2 ^ k) k (by omega) (Or.inl ⟨hk, ?_⟩)
  rw [tb_sub hb]
  simp
/-- the least so far in wayOn -/
def wB (d : Nat → Nat → Int) (n left src k : Nat) : Int := if left = 0 then d src 9 else mnb 1000000000 left (fun k => d src k + tr d n (left - 2 ^ k) k) k
theorem wB_f {d : Nat → Nat → Int} {n left src k : Nat} (h : ¬ left.testBit k = true) : wB d n left src k = wB d n left src (k + 1) := by
  unfold wB
  rw [mnb_f h]
theorem wB_t {d : Nat → Nat → Int} {n left src k : Nat} (h : left.testBit k = true) : wB d n left src (k + 1) = minI (wB d n left src k) (d src k + tr d n (left - 2 ^ k) k) := by
  have h0 : left ≠ 0 := by intro e; rw [e, Nat.zero_testBit] at h; cases h
  unfold wB
  rw [if_neg h0, if_neg h0, mnb_t h]
theorem wB_end {d : Nat → Nat → Int} {n left src : Nat} (hd : okD d n) (hs : src < n ∨ src = 9) (hl : left < 2 ^ n) : wB d n left src n = tr d n left src := by
  unfold wB
  by_cases h0 : left = 0
  · rw [if_pos h0, h0]; rfl
  · rw [if_neg h0, tr_step d n h0]
    obtain ⟨j, h1, h2, h3⟩ := step_ex hd hs hl h0
    exact mnb_B h1 h2 (by omega) h3
theorem wB_b {d : Nat → Nat → Int} {n left src k : Nat} (hd : okD d n) (hs : src < n ∨ src = 9) (hk : k ≤ n) : 0 ≤ wB d n left src k ∧ wB d n left src k ≤ 1000000000 := by
  unfold wB
  have h9 := hd.2 src 9 hs (Or.inr rfl)
  split
  · omega
  · have h1 := mnb_le 1000000000 left (fun k => d src k + tr d n (left - 2 ^ k) k) k
    refine ⟨?_, h1⟩
    rcases mnb_mem 1000000000 left (fun k => d src k + tr d n (left - 2 ^ k) k) k with h | ⟨i, i1, i2, i3⟩
    · omega
    · rw [i3]
      have h2 := hd.2 src i hs (Or.inl (by omega))
      have h3 := tr_nn hd (left - 2 ^ i) i (Or.inl (by omega))
      omega