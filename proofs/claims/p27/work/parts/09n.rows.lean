/-! ===== further rows: the empty array of the lists, casts, arrays of references, copying ===== -/
theorem x_ml150 : (.methodLink "java/util/Arrays" 150 arraycopyName : Cond) ∈ UW := uw 357 (by decide +kernel) (by decide +kernel)
theorem x_ml112 : (.methodLink "java/util/ArrayList" 112 arraycopyName : Cond) ∈ UW := uw 635 (by decide +kernel) (by decide +kernel)
theorem x_stAc : (.static arraycopyName : Cond) ∈ UW := uw 358 (by decide +kernel) (by decide +kernel)
theorem x_naAc : (.native arraycopyName : Cond) ∈ UW := uw 359 (by decide +kernel) (by decide +kernel)
theorem x_ml86 : (.methodLink "java/util/Arrays" 86 ⟨"java/lang/Object", "getClass", "()Ljava/lang/Class;"⟩ : Cond) ∈ UW := uw 336 (by decide +kernel) (by decide +kernel)
theorem x_imGc : (.instanceMethod ⟨"java/lang/Object", "getClass", "()Ljava/lang/Class;"⟩ : Cond) ∈ UW := uw 337 (by decide +kernel) (by decide +kernel)
theorem x_naGc : (.native ⟨"java/lang/Object", "getClass", "()Ljava/lang/Class;"⟩ : Cond) ∈ UW := uw 349 (by decide +kernel) (by decide +kernel)
theorem x_seGc : (.selects "[Ljava/lang/Object;" ⟨"java/lang/Object", "getClass", "()Ljava/lang/Class;"⟩ ⟨"java/lang/Object", "getClass", "()Ljava/lang/Class;"⟩ : Cond) ∈ UW := uw 827 (by decide +kernel) (by decide +kernel)
theorem x_deGc : (.declares ⟨"java/lang/Object", "getClass", "()Ljava/lang/Class;"⟩ : Cond) ∈ UN := un 828 (by decide +kernel) (by decide +kernel)
section
variable {p : Program} {l : Launch} {e : Env} {R : Room} {s : State} {m : MethodId} {args : Array Value} {below : List Frame} {meth : Method} {c : Code} {Q : State → Prop} {cc : ByteArray} {nL : Nat} {own : String} {ret : Option FieldType} {g : GG} {cells slots pc : Nat} {lv : List (Nat × Value)} {st : List Value} {S : Sto} {a b : Nat}
theorem KAlenT (C : Cx p l s m args meth c cc nL own ret g) (hdg : decode cc pc = .ok (.arraylength, 1)) (kk : Wk p l e R s m args below meth c Q g nL cells slots (pc + 1) lv (.int (iI 0) :: st) S) : Wk p l e R s m args below meth c Q g nL cells slots pc lv (.ref (gT g) :: st) S := fun H locs ls hP hD hS hR hl => va_tlen C.1 C.2.1 C.sta.2.2.2.1 hS (v := iI 0) (by decide) hdg (kk H locs ls hP hD hS hR hl)
theorem KGetsE (C : Cx p l s m args meth c cc nL own ret g) {index : Nat} (hlink : Cond.fieldLink own index RJx4a65c "DEFAULTCAPACITY_EMPTY_ELEMENTDATA" "[Ljava/lang/Object;" ∈ UW) (hdg : decode cc pc = .ok (.getstatic index, 3)) (kk : Wk p l e R s m args below meth c Q g nL cells slots (pc + 3) lv (.ref (gT g) :: st) S) : Wk p l e R s m args below meth c Q g nL cells slots pc lv st S := fun H locs ls hP hD hS hR hl => va_gets C.1 C.2.1 C.sta.2.2.1 hS C.home (C.words _ hlink) (fun _ h => h) hdg (kk H locs ls hP hD hS hR hl)
/-- the empty array lies in none of the store's cells -/
theorem gT_out (C : Cx p l s m args meth c cc nL own ret g) (hD : va_D (ge (gB g)) (pol (gC g) S)) : gT g ∉ sL S := by
  intro h
  obtain ⟨k, hk⟩ := pol_get (cy := gC g) h
  exact C.sta.2.2.2.1.out (hD.2 _ _ hk)
theorem KNoT (C : Cx p l s m args meth c cc nL own ret g) (kk : gT g ∉ sL S → Wk p l e R s m args below meth c Q g nL cells slots pc lv st S) : Wk p l e R s m args below meth c Q g nL cells slots pc lv st S := fun H locs ls hP hD hS hR hl => kk (gT_out C hD) H locs ls hP hD hS hR hl
theorem KCast (C : Cx p l s m args meth c cc nL own ret g) {index ci : Nat} {Cn : String} (hlink : Cond.classLink own index Cn ∈ UW) (ha : At0 S b ci) (hci : ci < 20) {q : vw_C} (hq : vwCl[ci]? = some q) (hn : q.1 = Cn) (hdg : decode cc pc = .ok (.checkcast index, 3)) (kk : Wk p l e R s m args below meth c Q g nL cells slots (pc + 3) lv (.ref b :: st) S) : Wk p l e R s m args below meth c Q g nL cells slots pc lv (.ref b :: st) S := fun H locs ls hP hD hS hR hl => by
  have h1 := C.tabs.1 ci q hq
  rw [hn] at h1
  exact va_castS C.1 C.2.1 C.home (C.words _ hlink) h1.2 (recvK C hP ha hci hq hn) hdg (kk H locs ls hP hD hS hR hl)
theorem KAnewa (C : Cx p l s m args meth c cc nL own ret g) {index : Nat} {x : Int} (n : Nat) (hx : x = (n : Int)) (hn : n < 100000) (hlink : Cond.classLink own index "java/lang/Object" ∈ UW) (hf : cells + 1 ≤ R.cells ∧ slots + n ≤ R.slots) (hdg : decode cc pc = .ok (.anewarray index, 3))
    (kk : ∀ a : Nat, a ∉ sL S → Wk p l e R s m args below meth c Q g nL (cells + 1) (slots + n) (pc + 3) lv (.ref a :: st) (nw S a 21 n)) : Wk p l e R s m args below meth c Q g nL cells slots pc lv (.int (iI x) :: st) S := fun H locs ls hP hD hS hR hl => by
  subst hx
  have hi : inR (n : Int) := ⟨by omega, by omega⟩
  refine va_newq (N' := n) C.1 C.2.1 C.home (C.words _ hlink) C.nws.2.1 C.tabs hP hD hS C.old (by rw [iI_0, iI_lt hi inR_0]; omega) (by rw [iI_clamp (by omega) hi]; exact Int.toNat_natCast n) (by show n * 4 ≤ 536870912; omega) hf.1 hf.2 hdg (fun a cA H1 hK1 hP1 hD1 hS1 => ?_)
  have hcA : cA = gC g 1 := by
    have h1 := (hK1.2 3 (cA, .object "java/lang/Object") rfl).2
    have h2 := (C.tabs.2 1 _ rfl).2
    obtain ⟨-, -, -, -, -, h3⟩ := h1
    obtain ⟨-, -, -, -, -, h4⟩ := h2
    exact Option.some.inj (h3.symm.trans h4)
  subst hcA
  have hfr := pol_fresh hD1
  have he : cel (gC g) (nw S a 21 n) a = .inl (gC g 1, n, .inr (.inr (.inr (.inr (fun _ => none))))) := by
    rw [cel_O (nw_at (S := S) (a := a) (kd := 21) (n := n)).2, nw_ln]
    congr 7
    funext j
    rw [nw_P]
  rw [pol_new hfr he] at hP1 hD1
  exact kk a hfr H1 locs ls hP1 hD1 hS1 (hR.nw _ _ _) hl
theorem KLdcM (C : Cx p l s m args meth c cc nL own ret g) {index : Nat} (hlink : Cond.classLink own index "[Ljava/lang/Object;" ∈ UW) (hdg : decode cc pc = .ok (.ldc index, 2)) (kk : Wk p l e R s m args below meth c Q g nL cells slots (pc + 2) lv (.ref (gM g) :: st) S) : Wk p l e R s m args below meth c Q g nL cells slots pc lv st S := fun H locs ls hP hD hS hR hl => va_ldcM C.1 C.2.1 C.home (C.words _ hlink) C.sta.2.2.2.2 hdg (kk H locs ls hP hD hS hR hl)
theorem findO (C : Cx p l s m args meth c cc nL own ret g) : s.vm.findClass "[Ljava/lang/Object;" = some (gC g 1) := by
  have h2 := (C.tabs.2 1 _ rfl).2
  obtain ⟨-, -, -, -, -, h4⟩ := h2
  exact h4
theorem KGetC (C : Cx p l s m args meth c cc nL own ret g) {index : Nat} (hlink : Cond.methodLink own index ⟨"java/lang/Object", "getClass", "()Ljava/lang/Class;"⟩ ∈ UW) (ha : At0 S a 21) (hR : 1 ≤ R.frames ∧ (st.map fun v => v.category).sum + 14 ≤ R.locals) (hdg : decode cc pc = .ok (.invokevirtual index, 3)) (kk : Wk p l e R s m args below meth c Q g nL cells slots (pc + 3) lv (.ref (gM g) :: st) S) : Wk p l e R s m args below meth c Q g nL cells slots pc lv (.ref a :: st) S := fun H locs ls hP hD hS hR0 hl => by
  obtain ⟨q0, hq⟩ := pol_get (cy := gC g) ha.1
  rw [cel_O ha.2] at hq
  exact va_getC C.1 C.2.1 (C.2.2.1.trans hl.1.symm) C.home (C.words _ hlink) (va_Nw.use (un_tab x_deGc) (C.nws.1 _ x_deGc)) (C.words _ x_seGc) (C.words _ x_imGc) (C.words _ x_naGc) C.sta.2.2.2.2 ⟨_, hP q0 _ hq, rfl, findO C⟩ hR.1 hR.2 hdg (kk H locs ls hP hD hS hR0 hl)
/-- one row of the references -/
def rowP (f : Nat → Int → Option Nat) (a : Nat) (F : Int → Option Nat) : Nat → Int → Option Nat := fun b j => if b = a then F j else f b j
theorem rowP_same (f : Nat → Int → Option Nat) (a : Nat) (F : Int → Option Nat) : rowP f a F a = F := by funext j; simp [rowP]
theorem rowP_ne (f : Nat → Int → Option Nat) {a b : Nat} (F : Int → Option Nat) (h : b ≠ a) : rowP f a F b = f b := by funext j; simp [rowP, h]
def cpI (F G : Int → Option Nat) (sp dp n : Nat) : Int → Option Nat := fun j => if (dp : Int) ≤ j ∧ j < (dp : Int) + n then F (sp + (j - dp)) else G j
theorem KCopyq (C : Cx p l s m args meth c cc nL own ret g) {index a0 cb : Nat} {q : vw_C} (n0 n1 sp dp n : Nat) (ml : Cond.methodLink own index arraycopyName ∈ UW) (ha0 : At0 S a0 21) (hN0 : sN S a0 = n0) (ha : At0 S a 21) (hN : sN S a = n1) {xs xd xn : Int} (hxs : xs = (sp : Int)) (hxd : xd = (dp : Int)) (hxn : xn = (n : Int)) (h4 : sp + n ≤ n0) (h5 : dp + n ≤ n1) (hb : n0 < 100000 ∧ n1 < 100000) (hcb : cb < 20) (hq : vwCl[cb]? = some q) (hca : Cond.castable q.1 "java/lang/Object" ∈ UN) (hel : ∀ i : Nat, i < n → ∀ y : Nat, sP S a0 ((sp + i : Nat) : Int) = some y → At0 S y cb)
    (hR : 1 ≤ R.frames ∧ (st.map fun v => v.category).sum + 30 ≤ R.locals) (hdg : decode cc pc = .ok (.invokestatic index, 3)) (kk : Wk p l e R s m args below meth c Q g nL cells slots (pc + 3) lv st (wP S (rowP (sP S) a (cpI (sP S a0) (sP S a) sp dp n)))) : Wk p l e R s m args below meth c Q g nL cells slots pc lv (.int (iI xn) :: .int (iI xd) :: .ref a :: .int (iI xs) :: .ref a0 :: st) S := fun H locs ls hP hD hS hR0 hl => by
  subst hxs hxd hxn
  obtain ⟨q0, hq0⟩ := pol_get (cy := gC g) ha0.1
  rw [cel_O ha0.2, hN0] at hq0
  obtain ⟨q1, hq1⟩ := pol_get (cy := gC g) ha.1
  have hq1' := hq1
  rw [cel_O ha.2, hN] at hq1
  have is : inR (sp : Int) := ⟨by omega, by omega⟩
  have id : inR (dp : Int) := ⟨by omega, by omega⟩
  have ik : inR (n : Int) := ⟨by omega, by omega⟩
  have cs : (iI (sp : Int)).toNatClampNeg = sp := by rw [iI_clamp (by omega) is]; exact Int.toNat_natCast sp
  have cd : (iI (dp : Int)).toNatClampNeg = dp := by rw [iI_clamp (by omega) id]; exact Int.toNat_natCast dp
  have ck : (iI (n : Int)).toNatClampNeg = n := by rw [iI_clamp (by omega) ik]; exact Int.toNat_natCast n
  refine va_copyq (C := q.1) C.1 C.2.1 (C.2.2.1.trans hl.1.symm) C.home (C.words _ ml) (C.words _ x_naAc) (C.words _ x_stAc) (C.words _ u_in_RJ10) C.tabs hP hD hS q0 q1 1 1 hq0 hq1 rfl rfl (by rw [iI_0, iI_lt is inR_0]; omega) (by rw [iI_0, iI_lt id inR_0]; omega) (by rw [iI_0, iI_lt ik inR_0]; omega) (by rw [cs, ck]; exact h4) (by rw [cd, ck]; exact h5) (fun i hi y hy => ?_) (fun comp c0 f1 f2 => ?_) hR.1 (by have hw : nativeFrameWords "java/lang/System" "arraycopy" 5 ≤ 19 := (by decide); omega) hdg (fun H1 locs1 hP1 hD1 hS1 => ?_)
  · rw [ck] at hi
    rw [cs] at hy
    exact recvK C hP (hel i hi y hy) hcb hq rfl
  · obtain ⟨c1, t1, g1, g2, g3⟩ := Cond.castable_spec (va_Nw.use (A := args) rfl (C.nws.1 _ hca))
    have e1 : c1 = c0 := Option.some.inj (g1.symm.trans f2)
    have e2 : t1 = comp := Option.some.inj (g2.symm.trans f1)
    rw [← e1, ← e2]
    exact g3
  · rw [cs, cd, ck] at hP1 hD1
    have hset : (pol (gC g) S).set q1 (a, .inl (gC g 1, n1, .inr (.inr (.inr (.inr (va_cpy (fun j : Nat => sP S a0 j) (fun j : Nat => sP S a j) sp dp n)))))) = pol (gC g) (wP S (rowP (sP S) a (cpI (sP S a0) (sP S a) sp dp n))) := by
      refine pol_set hD ha.1 hq1' rfl ?_ (fun b hb => cel_congr rfl rfl rfl (rowP_ne _ _ hb) rfl)
      refine (cel_O (S := wP S (rowP (sP S) a (cpI (sP S a0) (sP S a) sp dp n))) ha.2).trans ?_
      rw [show sN (wP S (rowP (sP S) a (cpI (sP S a0) (sP S a) sp dp n))) a = n1 from hN]
      congr 7
      funext j
      show rowP (sP S) a (cpI (sP S a0) (sP S a) sp dp n) a j = _
      rw [rowP_same]
      unfold cpI va_cpy
      by_cases h : dp ≤ j ∧ j < dp + n
      · rw [if_pos h, if_pos (by omega)]
        show sP S a0 _ = sP S a0 _
        congr 1
        omega
      · rw [if_neg h, if_neg (by omega)]
    rw [hset] at hP1 hD1
    exact kk H1 locs1 ls hP1 hD1 hS1 hR0 hl
end
