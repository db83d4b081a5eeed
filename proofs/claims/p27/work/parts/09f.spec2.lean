theorem ib_shlI {x : Int} (h0 : 0 ≤ x) (h : x < 31) : iI 1 <<< (iI x &&& 31) = iI ((2 ^ x.toNat : Nat) : Int) := by
  have e : x = ((x.toNat : Nat) : Int) := by omega
  have h1 := ib_shl (p := x.toNat) (by omega)
  rw [← e] at h1
  exact h1
theorem ib_or0 (a : Nat) : iI (a : Int) ||| iI 0 = iI (a : Int) := by
  have h := ib_or a 0
  rw [Nat.or_zero] at h
  exact h
/-- lines within their bounds -/
def Wl (z : Sig) : Prop := zo z ≤ 40 ∧ ∀ o : Nat, o < zo z → (0 ≤ zmn z (o : Int) ∧ zmn z (o : Int) ≤ 5) ∧ ∀ k : Nat, (k : Int) < zmn z (o : Int) → 0 ≤ zpr z ((5 * o + k : Nat) : Int) ∧ zpr z ((5 * o + k : Nat) : Int) < 20
theorem Wf.wl {z : Sig} (h : Wf z) : Wl z := ⟨h.2.1.1, fun o ho => ⟨(h.2.2.2.2.1 o ho).1, fun k hk => (h.2.2.2.2.2.1 o k ho hk).1⟩⟩
theorem zW_lt {z : Sig} (h : Wl z) {o : Nat} (ho : o < zo z) : zW z o < 1048576 := wnt_lt _ (fun i hi => (h.2 o ho).2 i (by have := (h.2 o ho).1; omega))
theorem zW_cnt {z : Sig} (h : Wl z) {o : Nat} (ho : o < zo z) : (cntb (zW z o) 20 : Int) ≤ zmn z (o : Int) := by
  have h1 := wnt_cnt (pr := zpr z) (o := o) (zmn z (o : Int)).toNat (fun i hi => (h.2 o ho).2 i (by have := (h.2 o ho).1; omega))
  have h2 := (h.2 o ho).1
  unfold zW
  omega
theorem pr_t {bt : Int → Int} {W : Nat → Nat} {b : Int} {o : Nat} (h : bt (o : Int) = b) : iI ((prd bt W b o : Nat) : Int) ||| iI ((W o : Nat) : Int) = iI ((prd bt W b (o + 1) : Nat) : Int) := by
  rw [ib_or, show prd bt W b (o + 1) = prd bt W b o ||| (if bt (o : Int) = b then W o else 0) from rfl, if_pos h]
theorem pr_f {bt : Int → Int} {W : Nat → Nat} {b : Int} {o : Nat} (h : ¬ bt (o : Int) = b) : iI ((prd bt W b o : Nat) : Int) ||| iI 0 = iI ((prd bt W b (o + 1) : Nat) : Int) := by
  rw [ib_or0, show prd bt W b (o + 1) = prd bt W b o ||| (if bt (o : Int) = b then W o else 0) from rfl, if_neg h, Nat.or_zero]
theorem cl_t {bt mn : Int → Int} {b : Int} {o : Nat} (h : bt (o : Int) = b) : cln bt mn b o + mn (o : Int) = cln bt mn b (o + 1) := by
  rw [show cln bt mn b (o + 1) = cln bt mn b o + (if bt (o : Int) = b then mn (o : Int) else 0) from rfl, if_pos h]
theorem cl_f {bt mn : Int → Int} {b : Int} {o : Nat} (h : ¬ bt (o : Int) = b) : cln bt mn b o + 0 = cln bt mn b (o + 1) := by
  rw [show cln bt mn b (o + 1) = cln bt mn b o + (if bt (o : Int) = b then mn (o : Int) else 0) from rfl, if_neg h]
theorem cln_b {bt mn : Int → Int} {b : Int} : ∀ n, (∀ o : Nat, o < n → 0 ≤ mn (o : Int) ∧ mn (o : Int) ≤ 5) → 0 ≤ cln bt mn b n ∧ cln bt mn b n ≤ 5 * n := by
  intro n
  induction n with
  | zero => intro _; show 0 ≤ (0 : Int) ∧ (0 : Int) ≤ 5 * ((0 : Nat) : Int); omega
  | succ n ih =>
    intro h
    have h1 := ih (fun o ho => h o (by omega))
    have h2 := h n (by omega)
    show 0 ≤ cln bt mn b n + (if bt (n : Int) = b then mn (n : Int) else 0) ∧ cln bt mn b n + (if bt (n : Int) = b then mn (n : Int) else 0) ≤ _
    split <;> omega
theorem tvi_b {pr qt : Int → Int} {p : Int} {o : Nat} : ∀ k, (∀ i : Nat, i < k → 1 ≤ qt ((5 * o + i : Nat) : Int) ∧ qt ((5 * o + i : Nat) : Int) ≤ 99) → 0 ≤ tvi pr qt p o k ∧ tvi pr qt p o k ≤ 99 * k := by
  intro k
  induction k with
  | zero => intro _; show 0 ≤ (0 : Int) ∧ (0 : Int) ≤ 99 * ((0 : Nat) : Int); omega
  | succ k ih =>
    intro h
    have h1 := ih (fun i hi => h i (by omega))
    have h2 := h k (by omega)
    show 0 ≤ tvi pr qt p o k + (if pr ((5 * o + k : Nat) : Int) = p then qt ((5 * o + k : Nat) : Int) else 0) ∧ tvi pr qt p o k + (if pr ((5 * o + k : Nat) : Int) = p then qt ((5 * o + k : Nat) : Int) else 0) ≤ _
    split <;> omega
/-- quantities within their bounds too -/
def Wq (z : Sig) : Prop := Wl z ∧ ∀ o k : Nat, o < zo z → (k : Int) < zmn z (o : Int) → 1 ≤ zqt z ((5 * o + k : Nat) : Int) ∧ zqt z ((5 * o + k : Nat) : Int) ≤ 99
theorem Wf.wq {z : Sig} (h : Wf z) : Wq z := ⟨h.wl, fun o k ho hk => (h.2.2.2.2.2.1 o k ho hk).2.2.1⟩
theorem tv_b {z : Sig} (h : Wq z) (p : Int) : ∀ n, n ≤ zo z → 0 ≤ tv (zst z) (zmn z) (zpr z) (zqt z) p n ∧ tv (zst z) (zmn z) (zpr z) (zqt z) p n ≤ 495 * n := by
  intro n
  induction n with
  | zero => intro _; show 0 ≤ (0 : Int) ∧ (0 : Int) ≤ 495 * ((0 : Nat) : Int); omega
  | succ n ih =>
    intro hn
    have h1 := ih (by omega)
    have h3 := (h.1.2 n (by omega)).1
    have h2 := tvi_b (pr := zpr z) (qt := zqt z) (p := p) (o := n) (zmn z (n : Int)).toNat (fun i hi => h.2 n i (by omega) (by omega))
    show 0 ≤ tv (zst z) (zmn z) (zpr z) (zqt z) p n + (if zst z (n : Int) = 2 then tvi (zpr z) (zqt z) p n (zmn z (n : Int)).toNat else 0) ∧ tv (zst z) (zmn z) (zpr z) (zqt z) p n + (if zst z (n : Int) = 2 then tvi (zpr z) (zqt z) p n (zmn z (n : Int)).toNat else 0) ≤ _
    split <;> omega
/-- a batch's products make a set that a route can come by -/
theorem Wf.okP {z : Sig} (h : Wf z) {o p : Nat} (ho : o < zo z) (hp : (zW z o).testBit p = true) : 0 ≤ zP z (p : Int) ∧ zP z (p : Int) / 100 ≤ 5 ∧ 1 ≤ zP z (p : Int) % 100 ∧ zP z (p : Int) % 100 ≤ zN z := by
  obtain ⟨i, h1, h2⟩ := wnt_bit _ p hp
  have hl := h.wl.2 o ho
  have h3 := h.2.2.2.2.2.1 o i ho (by omega)
  have e : zpr z ((5 * o + i : Nat) : Int) = (p : Int) := by omega
  rw [e] at h3
  have h4 := h.2.2.1 p (by omega)
  rcases h4 with h4 | h4
  · exact absurd h4 h3.2.1
  · obtain ⟨a1, a2, a3, a4⟩ := h4
    have := h.1
    omega
theorem Wf.okW {z : Sig} (h : Wf z) {o : Nat} (ho : o < zo z) : okM (zN z) (zP z) (zW z o) := by
  have h1 := zW_cnt h.wl ho
  have h2 := (h.wl.2 o ho).1
  exact ⟨fun p hp hb => h.okP ho hb, by omega, zW_lt h.wl ho⟩
theorem zpd_cnt {z : Sig} (h : Wl z) (b : Int) : (cntb (zpd z b) 20 : Int) ≤ zln z b := prd_cnt _ (fun o ho => zW_cnt h ho)
theorem Wf.okB {z : Sig} (h : Wf z) {b : Int} (hb : zln z b ≤ 9) : okM (zN z) (zP z) (zpd z b) := by
  have h1 := zpd_cnt h.wl b
  refine ⟨fun p hp hbit => ?_, by omega, prd_lt _ (fun o ho => zW_lt h.wl ho)⟩
  obtain ⟨o, h2, -, h3⟩ := prd_bit _ p hbit
  exact h.okP h2 h3
theorem Wf.okBB {z : Sig} (h : Wf z) {a b : Int} (hb : zln z a + zln z b ≤ 9) : okM (zN z) (zP z) (zpd z a ||| zpd z b) := by
  have h1 := zpd_cnt h.wl a
  have h2 := zpd_cnt h.wl b
  have h3 := cntb_or (zpd z a) (zpd z b) 20
  refine ⟨fun p hp hbit => ?_, by omega, Nat.or_lt_two_pow (n := 20) (prd_lt _ (fun o ho => zW_lt h.wl ho)) (prd_lt _ (fun o ho => zW_lt h.wl ho))⟩
  rw [Nat.testBit_or] at hbit
  simp only [Bool.or_eq_true] at hbit
  rcases hbit with hbit | hbit
  · obtain ⟨o, h4, -, h5⟩ := prd_bit _ p hbit
    exact h.okP h4 h5
  · obtain ⟨o, h4, -, h5⟩ := prd_bit _ p hbit
    exact h.okP h4 h5
theorem Wf.lnB {z : Sig} (h : Wf z) {b : Nat} (hb : b < zb z) : zln z (b : Int) ≤ 9 := by
  have h1 := (h.2.2.2.2.2.2.1 b hb).1
  have h2 := h.1
  omega
theorem Wf.ln0 {z : Sig} (h : Wf z) (b : Int) : 0 ≤ zln z b ∧ zln z b ≤ 200 := by
  have h1 := cln_b (bt := zbt z) (mn := zmn z) (b := b) (zo z) (fun o ho => (h.wl.2 o ho).1)
  have h2 := h.2.1.1
  unfold zln
  omega
theorem jin_b {sv : Nat → Nat → Int} {a : Nat} {acc : Int × Int × Int} (h0 : 0 ≤ acc.1 ∧ acc.1 ≤ 1320) (hs : ∀ b, sv a b ≤ 1320) : ∀ t, 0 ≤ (jin sv a acc t).1 ∧ (jin sv a acc t).1 ≤ 1320 := by
  intro t
  induction t with
  | zero => exact h0
  | succ t ih =>
    unfold jin
    have := hs (a + 1 + t)
    split <;> omega
theorem zto_b {z : Sig} (h : Wf z) {m : Nat} (hm : okM (zN z) (zP z) m) : 0 ≤ zto z m ∧ zto z m ≤ 660 := by
  have h1 := h.1
  exact tour_b ⟨h1.2.2.1, h1.2.2.2.1⟩ ⟨h1.2.2.2.2.1, h1.2.2.2.2.2.1⟩ hm
theorem zsv_b {z : Sig} (h : Wf z) (a b : Nat) : zsv z a b ≤ 1320 ∧ -660 ≤ zsv z a b := by
  unfold zsv
  split
  · next hc =>
    have h0a := h.ln0 (a : Int)
    have h0b := h.ln0 (b : Int)
    have hC := h.1.2.2.2.2.2.2
    have h1 := zto_b h (h.okB (b := (a : Int)) (by omega))
    have h2 := zto_b h (h.okB (b := (b : Int)) (by omega))
    have h3 := zto_b h (h.okBB (a := (a : Int)) (b := (b : Int)) (by omega))
    omega
  · omega
/-- the best pair so far: all of it in one word -/
def zjb (z : Sig) (a t : Nat) : Int × Int × Int := jin (zsv z) a (jout (zsv z) (zb z) a) t
theorem jout_b {z : Sig} (h : Wf z) : ∀ a, 0 ≤ (jout (zsv z) (zb z) a).1 ∧ (jout (zsv z) (zb z) a).1 ≤ 1320 := by
  intro a
  induction a with
  | zero => show 0 ≤ (0 : Int) ∧ (0 : Int) ≤ 1320; omega
  | succ a ih => exact jin_b ih (fun b => (zsv_b h a b).1) _
theorem zjb_b {z : Sig} (h : Wf z) (a t : Nat) : 0 ≤ (zjb z a t).1 ∧ (zjb z a t).1 ≤ 1320 := jin_b (jout_b h a) (fun b => (zsv_b h a b).1) t
theorem zjb_t {z : Sig} {a t : Nat} (h : (zjb z a t).1 < zsv z a (a + 1 + t)) : zjb z a (t + 1) = (zsv z a (a + 1 + t), (a : Int), ((a + 1 + t : Nat) : Int)) := by
  show (if (jin (zsv z) a (jout (zsv z) (zb z) a) t).1 < zsv z a (a + 1 + t) then _ else _) = _
  exact if_pos h
theorem zjb_f {z : Sig} {a t : Nat} (h : ¬ (zjb z a t).1 < zsv z a (a + 1 + t)) : zjb z a (t + 1) = zjb z a t := by
  show (if (jin (zsv z) a (jout (zsv z) (zb z) a) t).1 < zsv z a (a + 1 + t) then _ else _) = _
  exact if_neg h
/-- the pairs of the best: batches, in their order; none where there is no saving -/
theorem zjb_in {z : Sig} (a t : Nat) (ha : a + 1 + t ≤ zb z) : ((zjb z a t).1 = 0 ∧ (zjb z a t).2 = (-1, -1)) ∨ ∃ x y : Nat, x < y ∧ y < zb z ∧ (zjb z a t) = (zsv z x y, (x : Int), (y : Int)) ∧ 0 < zsv z x y := by
  have key : ∀ a acc, ((acc.1 = 0 ∧ acc.2 = ((-1 : Int), (-1 : Int))) ∨ ∃ x y : Nat, x < y ∧ y < zb z ∧ acc = (zsv z x y, (x : Int), (y : Int)) ∧ 0 < zsv z x y) → ∀ t, a + 1 + t ≤ zb z → (((jin (zsv z) a acc t).1 = 0 ∧ (jin (zsv z) a acc t).2 = (-1, -1)) ∨ ∃ x y : Nat, x < y ∧ y < zb z ∧ (jin (zsv z) a acc t) = (zsv z x y, (x : Int), (y : Int)) ∧ 0 < zsv z x y) := by
    intro a acc h0 t
    induction t with
    | zero => intro _; exact h0
    | succ t ih =>
      intro ht
      have ih := ih (by omega)
      by_cases hc : (jin (zsv z) a acc t).1 < zsv z a (a + 1 + t)
      · have e : jin (zsv z) a acc (t + 1) = (zsv z a (a + 1 + t), (a : Int), ((a + 1 + t : Nat) : Int)) := if_pos hc
        rw [e]
        refine Or.inr ⟨a, a + 1 + t, by omega, by omega, rfl, ?_⟩
        rcases ih with ih | ⟨x, y, -, -, e2, h2⟩
        · omega
        · rw [e2] at hc; dsimp only at hc; omega
      · have e : jin (zsv z) a acc (t + 1) = jin (zsv z) a acc t := if_neg hc
        rw [e]; exact ih
  have kout : ∀ a, a ≤ zb z → (((jout (zsv z) (zb z) a).1 = 0 ∧ (jout (zsv z) (zb z) a).2 = ((-1 : Int), (-1 : Int))) ∨ ∃ x y : Nat, x < y ∧ y < zb z ∧ (jout (zsv z) (zb z) a) = (zsv z x y, (x : Int), (y : Int)) ∧ 0 < zsv z x y) := by
    intro a
    induction a with
    | zero => intro _; exact Or.inl ⟨rfl, rfl⟩
    | succ a ih => intro ha; exact key a _ (ih (by omega)) _ (by omega)
  exact key a _ (kout a (by omega)) t ha
