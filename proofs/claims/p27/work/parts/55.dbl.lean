/-! ===== doubles ===== -/
section
variable {p : Program} {l : Launch} {e : Env} {R : Room} {s : State} {m : MethodId} {args : Array Value} {below : List Frame} {meth : Method} {c : Code} {Q : State → Prop} {cc : ByteArray} {nL : Nat} {own : String} {ret : Option FieldType} {g : GG} {cells slots pc : Nat} {lv lv' : List (Nat × Value)} {st : List Value} {S : Sto} {a b mcO msO : Nat} {Post : Option Value → Sto → Prop}
theorem KI2d (C : Cx p l s m args meth c cc nL own ret g) {x : Int32} (hdg : decode cc pc = .ok (.i2d, 1)) (kk : Wk p l e R s m args below meth c Q g nL cells slots (pc + 1) lv (.double (FP.i2d x) :: st) S) : Wk p l e R s m args below meth c Q g nL cells slots pc lv (.int x :: st) S := fun H locs ls hP hD hS hR hl => lv_i2d C.1 C.2.1 hdg (kk H locs ls hP hD hS hR hl)
theorem KL2d (C : Cx p l s m args meth c cc nL own ret g) {x : Int64} (hdg : decode cc pc = .ok (.l2d, 1)) (kk : Wk p l e R s m args below meth c Q g nL cells slots (pc + 1) lv (.double (FP.l2d x) :: st) S) : Wk p l e R s m args below meth c Q g nL cells slots pc lv (.long x :: st) S := fun H locs ls hP hD hS hR hl => lv_l2d C.1 C.2.1 hdg (kk H locs ls hP hD hS hR hl)
theorem KDdiv (C : Cx p l s m args meth c cc nL own ret g) {x y : UInt64} (hne : vf_n64 (FP.ddiv x y)) (hdg : decode cc pc = .ok (.ddiv, 1)) (kk : Wk p l e R s m args below meth c Q g nL cells slots (pc + 1) lv (.double (FP.ddiv x y) :: st) S) : Wk p l e R s m args below meth c Q g nL cells slots pc lv (.double y :: .double x :: st) S := fun H locs ls hP hD hS hR hl => lv_ddiv C.1 C.2.1 hdg hne (kk H locs ls hP hD hS hR hl)
theorem KDconst1 (C : Cx p l s m args meth c cc nL own ret g) (hdg : decode cc pc = .ok (.dconst 1, 1)) (kk : Wk p l e R s m args below meth c Q g nL cells slots (pc + 1) lv (.double FP.dconst1 :: st) S) : Wk p l e R s m args below meth c Q g nL cells slots pc lv st S := fun H locs ls hP hD hS hR hl => lv_dconst1 C.1 C.2.1 hdg (kk H locs ls hP hD hS hR hl)
theorem KDcmp (C : Cx p l s m args meth c cc nL own ret g) {x y : UInt64} {op : CmpOp} (hdg : decode cc pc = .ok (.dcmp op, 1)) (kk : Wk p l e R s m args below meth c Q g nL cells slots (pc + 1) lv (.int (Op.cmpValue (FP.dcmp x y) op) :: st) S) : Wk p l e R s m args below meth c Q g nL cells slots pc lv (.double y :: .double x :: st) S := fun H locs ls hP hD hS hR hl => lv_dcmp C.1 C.2.1 hdg (kk H locs ls hP hD hS hR hl)
theorem KDret (C : Cx p l s m args meth c cc nL own ret g) {v : UInt64} (hr : ret = some .double) (hp : Post (some (.double v)) S) (hc : cells ≤ mcO) (hs : slots ≤ msO) (hdg : decode cc pc = .ok (.dreturn, 1)) : Wk p l e R s m args below meth c (MQ below (QcG g Post) args s mcO msO (ge (gB g))) g nL cells slots pc lv [.double v] S := fun H locs ls hP hD hS hR hl => W.widen hc hs (W.dret C.1 C.2.1 (C.rett.trans hr) (fun t ht _ => QcG.mk hP hD hS hR hp ht) (fun q h => hS.2.2 q h) hdg C.locks)
end
/-- the share, as a double -/
def shr (w a : Int) : UInt64 := if a = 0 then FP.dconst1 else FP.ddiv (FP.i2d (iI w)) (FP.i2d (iI a))
theorem i2d_z {a : Int} (ha : inR a) (h : a ≠ 0) : ¬ Jvm.FP.Core.DZero (FP.i2d (iI a)) := by
  rw [Jvm.FP.Core.zero_bits2]
  exact Jvm.FP.Core.i2d_ne_zero (fun e => h ((iI_eq ha inR_0).mp (e.trans iI_0)))
theorem shr_n {w a : Int} (ha : inR a) (h : a ≠ 0) : Jvm.FP.Core.dIsNaN (FP.ddiv (FP.i2d (iI w)) (FP.i2d (iI a))) = false := Jvm.FP.Core.ddiv_out (by rw [Jvm.FP.Core.notNaN_iff]; exact (Jvm.FP.Core.i2d_fin _).ne_nan) (Jvm.FP.Core.i2d_fin _) (i2d_z ha h)
theorem nan_vf {r : UInt64} (h : Jvm.FP.Core.dIsNaN r = false) : vf_n64 r := by
  rw [Jvm.FP.Core.notNaN_iff, Jvm.FP.Core.ne_nan] at h
  unfold vf_n64
  rw [UInt64.le_iff_toNat_le, UInt64.toNat_and]
  show r.toNat &&& (2 ^ 63 - 1) ≤ 9218868437227405312
  rw [Nat.and_two_pow_sub_one_eq_mod]
  exact h
theorem lb_cmp1 {x : Int} (h : 0 < x ∧ x < 2147483648) : lg_cmp (lI x) (lI 0) = iI 1 := by
  unfold lg_cmp
  have h0 : (lI 0).toInt = 0 := lI_toInt (by unfold inRL; omega)
  have hx : (lI x).toInt = x := lI_toInt (by unfold inRL; omega)
  rw [if_pos (by rw [gt_iff_lt, Int64.lt_iff_toInt_lt, h0, hx]; omega)]
  decide +kernel
theorem lb_cmp00 : lg_cmp (lI 0) (lI 0) = iI 0 := lb_cmp (x := 0) (by decide)
/-- a share compared with itself -/
theorem shr_cmp {w a : Int} (ha : inR a) (op : CmpOp) : Op.cmpValue (FP.dcmp (shr w a) (shr w a)) op = iI 0 := by
  have h : Jvm.FP.Core.dIsNaN (shr w a) = false := by
    unfold shr
    split
    · decide +kernel
    · next h => exact shr_n ha h
  rw [show FP.dcmp (shr w a) (shr w a) = some .eq from Jvm.FP.Core.dcmp_self ((Jvm.FP.Core.notNaN_iff _).mp h)]
  cases op <;> rfl
theorem shr_l {w a : Int} (ha : inR a) : FP.ddiv (FP.i2d (iI w)) (FP.l2d (lI a)) = FP.ddiv (FP.i2d (iI w)) (FP.i2d (iI a)) := by
  rw [← iI_l ha]
  exact congrArg _ (Jvm.FP.Core.i2d_l2d _).symm
