/-! ===== counting bits ===== -/
theorem ib_cnt : ∀ j : Fin 32, (UInt32.ofNat j.val &&& Int32.toUInt32 31).toNat % 32 = j.val := by decide +kernel
theorem ib_ush {m p : Nat} (hm : m < 2147483648) (hp : p < 32) : ((iI (m : Int)).toUInt32 >>> ((iI (p : Int)).toUInt32 &&& Int32.toUInt32 31)).toInt32 = iI ((m / 2 ^ p : Nat) : Int) := by
  rw [ib_nI, ib_nI, ib_nI]
  have hs : m >>> p ≤ m := by rw [Nat.shiftRight_eq_div_pow]; exact Nat.div_le_self _ _
  have e2 : UInt32.ofNat m >>> (UInt32.ofNat p &&& Int32.toUInt32 31) = UInt32.ofNat (m >>> p) := by
    apply UInt32.toNat_inj.1
    have h1 : (UInt32.ofNat m).toNat = m := Nat.mod_eq_of_lt (by omega)
    have h2 : (UInt32.ofNat (m >>> p)).toNat = m >>> p := Nat.mod_eq_of_lt (by omega)
    rw [UInt32.toNat_shiftRight, ib_cnt ⟨p, hp⟩, h1, h2]
  show (UInt32.ofNat m >>> (UInt32.ofNat p &&& Int32.toUInt32 31)).toInt32 = _
  rw [e2, Nat.shiftRight_eq_div_pow]
  rfl
theorem bc_and2 {a b c d : Nat} (ha : a < 256) (hc : c < 256) : (a + 256 * b) &&& (c + 256 * d) = (a &&& c) + 256 * (b &&& d) := by
  have h := Nat.div_add_mod ((a + 256 * b) &&& (c + 256 * d)) 256
  have e1 : ((a + 256 * b) &&& (c + 256 * d)) / 256 = b &&& d := by
    refine (Nat.and_div_two_pow (n := 8)).trans ?_
    rw [show (a + 256 * b) / 2 ^ 8 = b by omega, show (c + 256 * d) / 2 ^ 8 = d by omega]
  have e2 : ((a + 256 * b) &&& (c + 256 * d)) % 256 = a &&& c := by
    refine (Nat.and_mod_two_pow (n := 8)).trans ?_
    rw [show (a + 256 * b) % 2 ^ 8 = a by omega, show (c + 256 * d) % 2 ^ 8 = c by omega]
  rw [e1, e2] at h
  omega
theorem bc_and3 {x0 x1 x2 y0 y1 y2 : Nat} (h0 : x0 < 256) (h1 : x1 < 256) (h2 : y0 < 256) (h3 : y1 < 256) : (x0 + 256 * x1 + 65536 * x2) &&& (y0 + 256 * y1 + 65536 * y2) = (x0 &&& y0) + 256 * (x1 &&& y1) + 65536 * (x2 &&& y2) := by
  rw [show x0 + 256 * x1 + 65536 * x2 = x0 + 256 * (x1 + 256 * x2) by omega, show y0 + 256 * y1 + 65536 * y2 = y0 + 256 * (y1 + 256 * y2) by omega, bc_and2 h0 h2, bc_and2 h1 h3]
  omega
def bs1 (m : Nat) : Nat := m - (m / 2 &&& 1431655765)
def bs2 (x : Nat) : Nat := (x &&& 858993459) + (x / 4 &&& 858993459)
def bs3 (x : Nat) : Nat := (x + x / 16) &&& 252645135
def bs4 (x : Nat) : Nat := x + x / 256
def bs5 (x : Nat) : Nat := x + x / 65536
def bt1 (b : Nat) : Nat := b - (b / 2 &&& 85)
def bt2 (x : Nat) : Nat := (x &&& 51) + (x / 4 &&& 51)
def bt3 (x : Nat) : Nat := (x + x / 16) &&& 15
theorem bc_f1 : ∀ b, b < 256 → ∀ e, e < 2 → (b / 2 + 128 * e) &&& 85 = b / 2 &&& 85 ∧ b / 2 &&& 85 ≤ b := by decide +kernel
theorem bc_f1t : ∀ b, b < 16 → b / 2 &&& 21845 = b / 2 &&& 85 := by decide +kernel
theorem bc_f2 : ∀ x, x < 256 → ∀ e, e < 4 → (x / 4 + 64 * e) &&& 51 = x / 4 &&& 51 := by decide +kernel
theorem bc_f2t : ∀ x, x < 16 → x &&& 13107 = x &&& 51 ∧ x / 4 &&& 13107 = x / 4 &&& 51 := by decide +kernel
theorem bc_f3 : ∀ x, x < 69 → ∀ e, e < 16 → (x + x / 16 + 16 * e) &&& 15 = (x + x / 16) &&& 15 := by decide +kernel
theorem bc_f3t : ∀ x, x < 69 → (x + x / 16) &&& 3855 = (x + x / 16) &&& 15 := by decide +kernel
theorem bc_tb : ∀ b, b < 256 → bt1 b < 256 ∧ bt2 (bt1 b) < 69 ∧ bt3 (bt2 (bt1 b)) = cntb b 8 ∧ cntb b 8 ≤ 8 ∧ bt2 (bt1 b) % 16 ≤ 4 ∧ (b < 16 → bt1 b < 16) := by decide +kernel
theorem bc_8 : ∀ b, b < 16 → cntb b 8 = cntb b 4 := by decide +kernel
theorem bs1_3 {a b c : Nat} (ha : a < 256) (hb : b < 256) (hc : c < 16) : bs1 (a + 256 * b + 65536 * c) = bt1 a + 256 * bt1 b + 65536 * bt1 c := by
  unfold bs1 bt1
  have e1 := bc_f1 a ha (b % 2) (by omega)
  have e2 := bc_f1 b hb (c % 2) (by omega)
  have e3 := bc_f1t c hc
  have e4 := bc_f1 c (by omega) 0 (by omega)
  rw [show (a + 256 * b + 65536 * c) / 2 = (a / 2 + 128 * (b % 2)) + 256 * (b / 2 + 128 * (c % 2)) + 65536 * (c / 2) by omega, show (1431655765 : Nat) = 85 + 256 * 85 + 65536 * 21845 from rfl, bc_and3 (by omega) (by omega) (by omega) (by omega), e1.1, e2.1, e3]
  omega
theorem bs2_3 {a b c : Nat} (ha : a < 256) (hb : b < 256) (hc : c < 16) : bs2 (a + 256 * b + 65536 * c) = bt2 a + 256 * bt2 b + 65536 * bt2 c := by
  unfold bs2 bt2
  have e1 := bc_f2 a ha (b % 4) (by omega)
  have e2 := bc_f2 b hb (c % 4) (by omega)
  have e3 := bc_f2t c hc
  rw [show (a + 256 * b + 65536 * c) / 4 = (a / 4 + 64 * (b % 4)) + 256 * (b / 4 + 64 * (c % 4)) + 65536 * (c / 4) by omega, show (858993459 : Nat) = 51 + 256 * 51 + 65536 * 13107 from rfl, bc_and3 (by omega) (by omega) (by omega) (by omega), bc_and3 (by omega) (by omega) (by omega) (by omega), e1, e2, e3.1, e3.2]
  omega
theorem bs3_3 {a b c : Nat} (ha : a < 69) (hb : b < 69) (hc : c < 69) (hb4 : b % 16 ≤ 4) (hc4 : c % 16 ≤ 4) : bs3 (a + 256 * b + 65536 * c) = bt3 a + 256 * bt3 b + 65536 * bt3 c := by
  unfold bs3 bt3
  have e1 := bc_f3 a ha (b % 16) (by omega)
  have e2 := bc_f3 b hb (c % 16) (by omega)
  have e3 := bc_f3t c hc
  rw [show a + 256 * b + 65536 * c + (a + 256 * b + 65536 * c) / 16 = (a + a / 16 + 16 * (b % 16)) + 256 * (b + b / 16 + 16 * (c % 16)) + 65536 * (c + c / 16) by omega, show (252645135 : Nat) = 15 + 256 * 15 + 65536 * 3855 from rfl, bc_and3 (by omega) (by omega) (by omega) (by omega), e1, e2, e3]
theorem cntb_add (m a : Nat) : ∀ k, cntb m (a + k) = cntb m a + cntb (m / 2 ^ a) k := by
  intro k
  induction k with
  | zero => rfl
  | succ k ih =>
    show cntb m (a + k) + _ = cntb m a + (cntb (m / 2 ^ a) k + _)
    rw [ih, Nat.testBit_div_two_pow, Nat.add_comm k a]
    exact Nat.add_assoc _ _ _
theorem cntb_mod (m a : Nat) : ∀ k, k ≤ a → cntb (m % 2 ^ a) k = cntb m k := by
  intro k
  induction k with
  | zero => intro _; rfl
  | succ k ih =>
    intro hk
    show cntb (m % 2 ^ a) k + _ = cntb m k + _
    rw [ih (by omega), Nat.testBit_mod_two_pow, decide_eq_true (by omega : k < a), Bool.true_and]
theorem bc_20 {m : Nat} (hm : m < 1048576) : bs5 (bs4 (bs3 (bs2 (bs1 m)))) &&& 63 = cntb m 20 := by
  have e0 : m = m % 256 + 256 * (m / 256 % 256) + 65536 * (m / 65536) := by omega
  obtain ⟨a1, a2, a3, a4, a5, -⟩ := bc_tb (m % 256) (by omega)
  obtain ⟨b1, b2, b3, b4, b5, -⟩ := bc_tb (m / 256 % 256) (by omega)
  obtain ⟨c1, c2, c3, c4, c6, c5⟩ := bc_tb (m / 65536) (by omega)
  have hc8 := bc_8 (m / 65536) (by omega)
  have e1 : bs3 (bs2 (bs1 m)) = cntb (m % 256) 8 + 256 * cntb (m / 256 % 256) 8 + 65536 * cntb (m / 65536) 8 := by
    rw [← a3, ← b3, ← c3]
    conv => lhs; rw [e0]
    rw [bs1_3 (by omega) (by omega) (by omega), bs2_3 a1 b1 (c5 (by omega)), bs3_3 a2 b2 c2 b5 c6]
  have e2 : cntb m 20 = cntb (m % 256) 8 + cntb (m / 256 % 256) 8 + cntb (m / 65536) 8 := by
    rw [show (20 : Nat) = 8 + (8 + 4) from rfl, cntb_add, cntb_add, hc8]
    have h1 : cntb m 8 = cntb (m % 256) 8 := (cntb_mod m 8 8 (Nat.le_refl _)).symm
    have h2 : cntb (m / 2 ^ 8) 8 = cntb (m / 256 % 256) 8 := (cntb_mod (m / 2 ^ 8) 8 8 (Nat.le_refl _)).symm
    have h3 : m / 2 ^ 8 / 2 ^ 8 = m / 65536 := by omega
    rw [h1, h2, h3]
    omega
  rw [e1, e2]
  unfold bs5 bs4
  have h63 : ∀ x, x &&& 63 = x % 64 := fun x => Nat.and_two_pow_sub_one_eq_mod x 6
  rw [h63]
  generalize cntb (m % 256) 8 = A at *
  generalize cntb (m / 256 % 256) 8 = B at *
  generalize cntb (m / 65536) 8 = D at *
  clear a1 a2 a3 a5 b1 b2 b3 b5 c1 c2 c3 c5 c6 hc8 e0 e1 e2 hm h63
  have f4 : (A + 256 * B + 65536 * D) / 256 = B + 256 * D := by omega
  rw [f4]
  have f5 : (A + 256 * B + 65536 * D + (B + 256 * D)) / 65536 = D := by omega
  rw [f5]
  omega
theorem bs_b {m : Nat} (hm : m < 1048576) : (m / 2 &&& 1431655765) ≤ m ∧ bs1 m < 1048576 ∧ (bs1 m &&& 858993459) < 1048576 ∧ (bs1 m / 4 &&& 858993459) < 1048576 ∧ bs2 (bs1 m) < 2097152 ∧ bs3 (bs2 (bs1 m)) < 4194304 ∧ bs4 (bs3 (bs2 (bs1 m))) < 8388608 ∧ bs5 (bs4 (bs3 (bs2 (bs1 m)))) < 16777216 := by
  have h1 : (m / 2 &&& 1431655765) ≤ m / 2 := Nat.and_le_left
  have h2 : (bs1 m &&& 858993459) ≤ bs1 m := Nat.and_le_left
  have h3 : (bs1 m / 4 &&& 858993459) ≤ bs1 m / 4 := Nat.and_le_left
  have h4 : bs3 (bs2 (bs1 m)) ≤ bs2 (bs1 m) + bs2 (bs1 m) / 16 := Nat.and_le_left
  have h5 : bs1 m ≤ m := Nat.sub_le _ _
  have h6 : bs2 (bs1 m) = (bs1 m &&& 858993459) + (bs1 m / 4 &&& 858993459) := rfl
  have h7 : bs4 (bs3 (bs2 (bs1 m))) = bs3 (bs2 (bs1 m)) + bs3 (bs2 (bs1 m)) / 256 := rfl
  have h8 : bs5 (bs4 (bs3 (bs2 (bs1 m)))) = bs4 (bs3 (bs2 (bs1 m))) + bs4 (bs3 (bs2 (bs1 m))) / 65536 := rfl
  omega
/-! ===== lN n to 2^64: shifts, and, or, masks, one bit ===== -/
theorem wb_tb (n : Nat) : (lN n).toBitVec = BitVec.ofNat 64 n := rfl
theorem wb_inj {a b : Int64} (h : a.toBitVec = b.toBitVec) : a = b := Int64.toBitVec_inj.mp h
theorem wb_tn {n : Nat} (h : n < 2 ^ 64) : (lN n).toBitVec.toNat = n := by rw [wb_tb, BitVec.toNat_ofNat, Nat.mod_eq_of_lt h]
theorem wb_of (x : Int64) : ∃ n, n < 2 ^ 64 ∧ x = lN n := ⟨x.toBitVec.toNat, x.toBitVec.isLt, wb_inj (by rw [wb_tb]; simp)⟩
theorem wb_of32 (x : Int32) : ∃ n, n < 2 ^ 32 ∧ x = nI n := ⟨x.toBitVec.toNat, x.toBitVec.isLt, Int32.toBitVec_inj.mp (by show _ = BitVec.ofNat 32 _; simp)⟩
theorem wb_c : ∀ k, k < 64 → ((nI k).toInt64 &&& 63) = lN k := by decide +kernel
theorem wb_cu : ∀ k, k < 64 → ((nI k).toInt64.toUInt64 &&& Int64.toUInt64 63) = UInt64.ofNat k := by decide +kernel
theorem wb_sm : ∀ k, k < 64 → (BitVec.ofNat 64 k).smod 64 = BitVec.ofNat 64 k := by decide +kernel
theorem wb_pw {a b : Nat} (h : a ≤ b) : 2 ^ b = 2 ^ a * 2 ^ (b - a) := by rw [← Nat.pow_add]; congr 1; omega
theorem wb_lt2 {a b : Nat} (h : a < b) : 2 ^ a < 2 ^ b := Nat.pow_lt_pow_right (by decide) h
theorem wb_mod (n : Nat) : lN n = lN (n % 2 ^ 64) := wb_inj (by rw [wb_tb, wb_tb]; apply BitVec.eq_of_toNat_eq; rw [BitVec.toNat_ofNat, BitVec.toNat_ofNat, Nat.mod_mod])
theorem wb_shr {n k : Nat} (hn : n < 2 ^ 64) (hk : k < 64) : ((lN n).toUInt64 >>> ((nI k).toInt64.toUInt64 &&& Int64.toUInt64 63)).toInt64 = lN (n / 2 ^ k) := by
  rw [wb_cu k hk]
  apply wb_inj
  apply BitVec.eq_of_toNat_eq
  show ((lN n).toUInt64 >>> UInt64.ofNat k).toNat = (BitVec.ofNat 64 _).toNat
  have h1 : (UInt64.ofNat k).toNat = k := by
    show (BitVec.ofNat 64 k).toNat = k
    rw [BitVec.toNat_ofNat, Nat.mod_eq_of_lt (by omega)]
  have h2 : (lN n).toUInt64.toNat = n := wb_tn hn
  rw [UInt64.toNat_shiftRight, h1, h2, Nat.mod_eq_of_lt hk, Nat.shiftRight_eq_div_pow, BitVec.toNat_ofNat, Nat.mod_eq_of_lt (Nat.lt_of_le_of_lt (Nat.div_le_self _ _) hn)]
theorem wb_shl (n : Nat) {k : Nat} (hk : k < 64) : lN n <<< ((nI k).toInt64 &&& 63) = lN (n * 2 ^ k) := by
  rw [wb_c k hk]
  apply wb_inj
  rw [Int64.toBitVec_shiftLeft, wb_tb, wb_tb, wb_tb, wb_sm k hk]
  apply BitVec.eq_of_toNat_eq
  rw [BitVec.shiftLeft_eq', BitVec.toNat_shiftLeft, BitVec.toNat_ofNat, BitVec.toNat_ofNat, BitVec.toNat_ofNat, Nat.mod_eq_of_lt (show k < 2 ^ 64 by omega), Nat.shiftLeft_eq, Nat.mul_mod, Nat.mod_mod, ← Nat.mul_mod]
theorem wb_and {a b : Nat} (ha : a < 2 ^ 64) (hb : b < 2 ^ 64) : lN a &&& lN b = lN (a &&& b) := by
  apply wb_inj
  rw [Int64.toBitVec_and, wb_tb, wb_tb, wb_tb]
  apply BitVec.eq_of_toNat_eq
  rw [BitVec.toNat_and, BitVec.toNat_ofNat, BitVec.toNat_ofNat, BitVec.toNat_ofNat, Nat.mod_eq_of_lt ha, Nat.mod_eq_of_lt hb, Nat.mod_eq_of_lt (Nat.and_lt_two_pow _ hb)]
theorem wb_or {a b : Nat} (ha : a < 2 ^ 64) (hb : b < 2 ^ 64) : lN a ||| lN b = lN (a ||| b) := by
  apply wb_inj
  rw [Int64.toBitVec_or, wb_tb, wb_tb, wb_tb]
  apply BitVec.eq_of_toNat_eq
  rw [BitVec.toNat_or, BitVec.toNat_ofNat, BitVec.toNat_ofNat, BitVec.toNat_ofNat, Nat.mod_eq_of_lt ha, Nat.mod_eq_of_lt hb, Nat.mod_eq_of_lt (Nat.or_lt_two_pow ha hb)]
theorem wb_mask {n k : Nat} (hn : n < 2 ^ 64) (hk : k < 64) : lN n &&& lN (2 ^ k - 1) = lN (n % 2 ^ k) := by
  rw [wb_and hn (by have := wb_lt2 hk; omega), Nat.and_two_pow_sub_one_eq_mod]
theorem wb_a1 {n : Nat} (hn : n < 2 ^ 64) : lN n &&& 1 = lN (n % 2) := wb_mask (k := 1) hn (by decide)
theorem wb_bit {n k : Nat} (hn : n < 2 ^ 64) (hk : k < 64) : ((lN n).toUInt64 >>> ((nI k).toInt64.toUInt64 &&& Int64.toUInt64 63)).toInt64 &&& 1 = lN (n / 2 ^ k % 2) := by
  rw [wb_shr hn hk, wb_a1 (Nat.lt_of_le_of_lt (Nat.div_le_self _ _) hn)]
theorem wb_xor {q k : Nat} (hk : k < 63) (h : 2 ^ k ≤ q) (h2 : q < 2 ^ (k + 1)) : lN q ^^^ lN (2 ^ k) = lN (q - 2 ^ k) := by
  obtain ⟨r, rfl⟩ : ∃ r, q = 2 ^ k + r := ⟨q - 2 ^ k, by omega⟩
  have hr : r < 2 ^ k := by rw [Nat.pow_succ] at h2; omega
  have hx : (2 ^ k + r) ^^^ 2 ^ k = r := by
    apply Nat.eq_of_testBit_eq
    intro i
    rw [Nat.testBit_xor, Nat.testBit_two_pow]
    rcases Nat.lt_trichotomy i k with h | h | h
    · rw [Nat.testBit_two_pow_add_gt h]
      simp [show ¬ k = i by omega]
    · subst h
      rw [Nat.testBit_two_pow_add_eq]
      simp
    · have a1 : 2 ^ (k + 1) ≤ 2 ^ i := Nat.pow_le_pow_right (by decide) h
      rw [Nat.testBit_lt_two_pow (show 2 ^ k + r < 2 ^ i by omega), Nat.testBit_lt_two_pow (show r < 2 ^ i by omega)]
      simp [show ¬ k = i by omega]
  have b1 := wb_lt2 (show k + 1 < 64 by omega)
  have b2 := wb_lt2 (show k < 64 by omega)
  apply wb_inj
  rw [Int64.toBitVec_xor, wb_tb, wb_tb, wb_tb]
  apply BitVec.eq_of_toNat_eq
  rw [BitVec.toNat_xor, BitVec.toNat_ofNat, BitVec.toNat_ofNat, BitVec.toNat_ofNat, Nat.mod_eq_of_lt (by omega : 2 ^ k + r < 2 ^ 64), Nat.mod_eq_of_lt b2, hx, Nat.add_sub_cancel_left, Nat.mod_eq_of_lt (by omega)]
/-! ===== lN to 2^62 under >> and >>> ===== -/
theorem pf_lI {a : Nat} (h : a < 2 ^ 63) : (lN a).toInt = (a : Int) := lg_ofNat_toInt h
theorem pf_shr {a d : Nat} {D : Int64} (hD : (D.toBitVec.smod 64).toNat = d) (h : a < 2 ^ 62) : lN a >>> D = lN (a / 2 ^ d) := by
  have hd : a / 2 ^ d ≤ a := Nat.div_le_self _ _
  apply Int64.toInt_inj.mp
  have e : (lN a >>> D).toInt = (lN a).toInt >>> d := by
    rw [← hD]
    exact BitVec.toInt_sshiftRight ..
  rw [e, Int.shiftRight_eq_div_pow, pf_lI (by omega), pf_lI (by omega)]
  rfl
/-! ===== long numbers ===== -/
theorem lb_nat (n : Nat) : lI (n : Int) = lN n := by
  unfold lI
  rfl
theorem lb_sm : ∀ k, k < 64 → ((lN k).toBitVec.smod 64).toNat = k := by decide +kernel
theorem lb_shr {M o : Nat} (hM : M < 2 ^ 40) (ho : o < 40) : lI (M : Int) >>> ((iI (o : Int)).toInt64 &&& 63) = lI ((M / 2 ^ o : Nat) : Int) := by
  rw [lb_nat, lb_nat, ib_nI, wb_c o (by omega)]
  exact pf_shr (lb_sm o (by omega)) (Nat.lt_trans hM (by decide))
theorem lb_and (a b : Nat) : lI (a : Int) &&& lI (b : Int) = lI ((a &&& b : Nat) : Int) := by
  rw [lb_nat, lb_nat, lb_nat]
  apply Int64.toBitVec_inj.1
  show BitVec.ofNat 64 a &&& BitVec.ofNat 64 b = BitVec.ofNat 64 (a &&& b)
  apply BitVec.eq_of_getLsbD_eq
  intro i hi
  simp [hi]
theorem lb_or (a b : Nat) : lI (a : Int) ||| lI (b : Int) = lI ((a ||| b : Nat) : Int) := by
  rw [lb_nat, lb_nat, lb_nat]
  apply Int64.toBitVec_inj.1
  show BitVec.ofNat 64 a ||| BitVec.ofNat 64 b = BitVec.ofNat 64 (a ||| b)
  apply BitVec.eq_of_getLsbD_eq
  intro i hi
  simp [hi]
theorem lb_bit (x : Nat) : lI (x : Int) &&& lI 1 = lI ((x % 2 : Nat) : Int) := by
  have h1 : (1 : Int) = ((1 : Nat) : Int) := rfl
  rw [h1, lb_and]
  congr 2
  exact Nat.and_one_is_mod _
theorem lb_cmp {x : Nat} (h : x < 2) : lg_cmp (lI (x : Int)) (lI 0) = iI (x : Int) := by
  rcases (show x = 0 ∨ x = 1 by omega) with e | e <;> subst e <;> decide +kernel
theorem lb_shl {p : Nat} (hp : p < 40) : lI 1 <<< ((iI (p : Int)).toInt64 &&& 63) = lI ((2 ^ p : Nat) : Int) := by
  have h1 : lI 1 = lN 1 := lb_nat 1
  rw [h1, ib_nI, wb_shl 1 (by omega), Nat.one_mul, lb_nat]
