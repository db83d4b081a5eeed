/-! ===== a wave is planned: the class's cells ===== -/
/-- the first orders are through -/
def zwn (z : Sig) (t : Int) (n : Nat) : Sig := (z.1, (zo z, (tkW z t n).1, zw z, za z), zP z, zdu z, (tkW z t n).2.1, (tkW z t n).2.2, zmn z, zpr z, zqt z)
theorem zwn_0 {z : Sig} (t : Int) (h : zb z = 0) : zwn z t 0 = z := by
  have e : z = (z.1, (zo z, zb z, zw z, za z), zP z, zdu z, zst z, zbt z, zmn z, zpr z, zqt z) := rfl
  conv => rhs; rw [e, h]
  rfl
theorem tkW_t {z : Sig} {t : Int} {n : Nat} (h : isT z t n) : tkW z t (n + 1) = ((tkW z t n).1 + 1, upd1 (tkW z t n).2.1 (n : Int) 1, upd1 (tkW z t n).2.2 (n : Int) ((tkW z t n).1 : Int)) := if_pos h
theorem tkW_f {z : Sig} {t : Int} {n : Nat} (h : ¬ isT z t n) : tkW z t (n + 1) = tkW z t n := if_neg h
theorem zwn_f {z : Sig} {t : Int} {n : Nat} (h : ¬ isT z t n) : zwn z t n = zwn z t (n + 1) := by
  unfold zwn
  rw [tkW_f h]
theorem isT_wn {S : Sto} {w : Shp} {z : Sig} {n : Nat} {t : Int} (hW : Wf z) (hO : OrV S w (zwn z t n) (zo z)) (hn : n < zo z) : (sI S (wo w n) 3 = 0 ∧ sI S (wo w n) 2 ≠ 0 ∧ sI S (wo w n) 0 ≤ t) ↔ isT z t n := by
  obtain ⟨h1, h2, h3, -⟩ := hO n hn
  have e3 : sI S (wo w n) 3 = zst z (n : Int) := h3.trans (tkW_at z t n _ (Int.le_refl _)).1
  have e2 : sI S (wo w n) 2 = ((zW z n : Nat) : Int) := h2
  have e1 : sI S (wo w n) 0 = zdu z (n : Int) := h1
  rw [e1, e2, e3, hW.w0 hn]
theorem prd_one {bt : Int → Int} {W : Nat → Nat} {b : Int} {n : Nat} : ∀ m, n < m → (∀ o : Nat, o < m → (bt (o : Int) = b ↔ o = n)) → prd bt W b m = W n := by
  intro m
  induction m with
  | zero => intro h; omega
  | succ m ih =>
    intro hn h
    unfold prd
    by_cases e : n = m
    · subst e
      rw [if_pos ((h n (by omega)).mpr rfl)]
      have h0 : prd bt W b n = 0 := by
        have : ∀ k, k ≤ n → prd bt W b k = 0 := by
          intro k
          induction k with
          | zero => intro _; rfl
          | succ k ih2 =>
            intro hk
            unfold prd
            rw [ih2 (by omega), if_neg (fun e9 => by have := (h k (by omega)).mp e9; omega)]
            rfl
        exact this n (Nat.le_refl _)
      rw [h0, Nat.zero_or]
    · rw [ih (by omega) (fun o ho => h o (by omega)), if_neg (fun e9 => e ((h m (by omega)).mp e9).symm), Nat.or_zero]
theorem cln_one {bt mn : Int → Int} {b : Int} {n : Nat} : ∀ m, n < m → (∀ o : Nat, o < m → (bt (o : Int) = b ↔ o = n)) → cln bt mn b m = mn (n : Int) := by
  intro m
  induction m with
  | zero => intro h; omega
  | succ m ih =>
    intro hn h
    unfold cln
    by_cases e : n = m
    · subst e
      rw [if_pos ((h n (by omega)).mpr rfl)]
      have h0 : cln bt mn b n = 0 := by
        have : ∀ k, k ≤ n → cln bt mn b k = 0 := by
          intro k
          induction k with
          | zero => intro _; rfl
          | succ k ih2 =>
            intro hk
            unfold cln
            rw [ih2 (by omega), if_neg (fun e9 => by have := (h k (by omega)).mp e9; omega)]
            rfl
        exact this n (Nat.le_refl _)
      rw [h0]
      omega
    · rw [ih (by omega) (fun o ho => h o (by omega)), if_neg (fun e9 => e ((h m (by omega)).mp e9).symm)]
      omega
theorem Wf.bm1 {z : Sig} (h : Wf z) (hz : zb z = 0) {o : Nat} (ho : o < zo z) : zbt z (o : Int) = -1 := by
  have := (h.2.2.2.2.1 o ho).2.2.1
  omega
theorem tkW_lt {z : Sig} {t : Int} (h : Wf z) (hz : zb z = 0) (n : Nat) {o : Nat} (ho : o < zo z) : (tkW z t n).2.2 (o : Int) < ((tkW z t n).1 : Int) := by
  have h1 := tkW_in z t n
  by_cases e : o < n
  · by_cases e2 : isT z t o
    · exact (h1.1 o e e2).2.2
    · rw [(h1.2.1 o e e2).2, h.bm1 hz ho]; omega
  · rw [(tkW_at z t n _ (by omega)).2, h.bm1 hz ho]; omega
theorem tk_pre {S : Sto} {q : Nat → Nat} {tt n : Nat} {t : Int} {w : Shp} {z : Sig} (hT : Top S q) (hW : Wf z) (hz0 : zb z = 0) (h : CRj S q tt w (zwn z t n)) (hr : ∀ b : Nat, b < (tkW z t n).1 → sI S (wb w b) 0 = (b : Int)) (hn : n < zo z) (hi : isT z t n) : Tkp (uI S (wo w n) 3 1) q tt w (zwn z t (n + 1)) (tkW z t n).1 n ∧ Gro S (uI S (wo w n) 3 1) ∧ OutM S q (uI S (wo w n) 3 1) ∧ Top (uI S (wo w n) 3 1) q := by
  obtain ⟨hWh, hB, hO, hBt, hV, hz⟩ := h
  have e0 : zo (zwn z t n) = zo z := rfl
  have hle := (tkW_in z t n).2.2
  have h40 := hW.2.1.1
  obtain ⟨b1, b2, b3, b4, b5⟩ := hB.2.1 n hn
  have hwo : ∀ i ∈ tix, q i ≠ wo w n := fun i hi9 e => hT.nq b2 rfl hi9 e.symm
  have hI : ∀ x, x ≠ wo w n → sI (uI S (wo w n) 3 1) x = sI S x := fun x hx => up2_row _ _ _ hx
  have hG : Gro S (uI S (wo w n) 3 1) := Gro.same rfl rfl rfl
  have hst : (tkW z t n).2.1 (n : Int) = 0 := (tkW_at z t n _ (Int.le_refl _)).1.trans hi.1
  have hbn : (tkW z t n).2.2 (n : Int) = -1 := (tkW_at z t n _ (Int.le_refl _)).2.trans (hW.bm1 hz0 hn)
  have hne : ∀ (F : Int → Int) (v : Int) (o : Nat), o ≠ n → upd1 F (n : Int) v (o : Int) = F (o : Int) := fun F v o ho => upd1_ne _ _ (by omega)
  have s1 : zst (zwn z t (n + 1)) = upd1 (tkW z t n).2.1 (n : Int) 1 := by unfold zwn; rw [tkW_t hi]
  have s2 : zbt (zwn z t (n + 1)) = upd1 (tkW z t n).2.2 (n : Int) ((tkW z t n).1 : Int) := by unfold zwn; rw [tkW_t hi]
  have s3 : zb (zwn z t (n + 1)) = (tkW z t n).1 + 1 := by unfold zwn; rw [tkW_t hi]
  have hbt : ∀ o : Nat, o < zo z → (zbt (zwn z t (n + 1)) (o : Int) = ((tkW z t n).1 : Int) ↔ o = n) := fun o ho => by
    rw [s2]
    constructor
    · intro e
      by_cases e9 : o = n
      · exact e9
      · rw [hne _ _ o e9] at e
        have := tkW_lt (t := t) hW hz0 n ho
        omega
    · intro e; rw [e, upd1_eq]
  have hbt2 : ∀ (o b : Nat), o < zo z → b < (tkW z t n).1 → (zbt (zwn z t n) (o : Int) = (b : Int) ↔ zbt (zwn z t (n + 1)) (o : Int) = (b : Int)) := fun o b ho hb => by
    rw [s2]
    show (tkW z t n).2.2 (o : Int) = (b : Int) ↔ _
    by_cases e9 : o = n
    · rw [e9, upd1_eq, hbn]; omega
    · rw [hne _ _ o e9]
  have hpd : ∀ b : Nat, b < (tkW z t n).1 → zpd (zwn z t (n + 1)) (b : Int) = zpd (zwn z t n) (b : Int) := fun b hb => (prd_congr _ (fun o ho => ⟨hbt2 o b ho hb, rfl⟩)).symm
  have hln : ∀ b : Nat, b < (tkW z t n).1 → zln (zwn z t (n + 1)) (b : Int) = zln (zwn z t n) (b : Int) := fun b hb => (cln_congr _ (fun o ho => ⟨hbt2 o b ho hb, fun _ => rfl⟩)).symm
  have hwb : ∀ b : Nat, b < (tkW z t n).1 → wb w b ≠ wo w n := fun b hb => kind_ne (hBt.2.1 b hb).2 b2 (by decide)
  refine ⟨⟨⟨?_, hB.fr hG rfl (congrFun (hI _ (hwo 4 (by decide))) 2) (fun _ _ => rfl) (fun _ _ => rfl), fun o ho => ?_, hBt.fr hG rfl (congrFun (hI _ (hwo 5 (by decide))) 2) (fun _ _ => rfl), ⟨fun b hb => ?_, fun b b' hb hb' e => ?_⟩, (congrFun (hI _ (hwo 29 (by decide))) 9).trans hz⟩, fun b hb => (congrFun (hI _ (hwb b hb)) 0).trans (hr b hb), s3, prd_one (zo z) hn hbt, ?_, ⟨Nat.pow_lt_pow_right (by omega) (by omega), fun o ho => ?_⟩, by omega, hn, h40⟩, hG, fun i i1 i2 => ⟨hI _ (hwo i (tix_mod93 i i1 i2)), rfl⟩, hT⟩
  · unfold Whs
    rw [hI _ (hwo 0 (by decide)), hI _ (hwo 1 (by decide)), hI _ (hwo 6 (by decide)), hI _ (hwo 7 (by decide))]
    obtain ⟨w1, w2, w3, w4', w5', w6, w7, w8⟩ := hWh
    refine ⟨w1, w2, w3, w4', fun p hp => (w5' p hp).trans ?_, w6, w7, w8⟩
    refine tv_congr _ (fun o ho => ⟨?_, fun _ => rfl⟩)
    rw [s1]
    show (tkW z t n).2.1 (o : Int) = 2 ↔ _
    by_cases e9 : o = n
    · rw [e9, upd1_eq, hst]; decide
    · rw [hne _ _ o e9]
  · have ho2 : o < zo z := ho
    obtain ⟨c1, c2, c3, c4⟩ := hO o ho2
    obtain ⟨d1, d2, d3, d4, d5⟩ := hB.2.1 o ho2
    rw [hI _ (kind_ne d4 b2 (by decide)), s1]
    by_cases e9 : o = n
    · subst e9
      exact ⟨(up2_nk _ _ _ _ (by decide)).trans c1, (up2_nk _ _ _ _ (by decide)).trans c2, (up2_same _ _ _ _).trans (upd1_eq _ _ _).symm, c4⟩
    · rw [hI _ (fun e8 => e9 (hB.2.2.1 _ _ ho2 hn e8)), hne _ _ o e9]
      exact ⟨c1, c2, c3, c4⟩
  · obtain ⟨v1, v2, v3, v4, M, v5, v6⟩ := hV.1 b hb
    rw [hI _ (hwb b hb), hpd b hb, hln b hb]
    refine ⟨v1, v2, v3, v4, M, v5, v6.1, fun o ho => ?_⟩
    rw [v6.2 o ho]
    constructor
    · rintro ⟨a, e⟩; exact ⟨a, (hbt2 o b a hb).mp e⟩
    · rintro ⟨a, e⟩; exact ⟨a, (hbt2 o b a hb).mpr e⟩
  · rw [hI _ (hwb b hb), hI _ (hwb b' hb')] at e
    exact hV.2 b b' hb hb' e
  · rw [show zln (zwn z t (n + 1)) ((tkW z t n).1 : Int) = zmn z (n : Int) from cln_one (zo z) hn hbt]
    exact (hW.mn hn).symm
  · rw [Nat.testBit_two_pow, decide_eq_true_iff]
    constructor
    · intro e; exact ⟨by subst e; exact hn, (hbt o (by subst e; exact hn)).mpr e.symm⟩
    · rintro ⟨a, e⟩; exact ((hbt o a).mp e).symm
