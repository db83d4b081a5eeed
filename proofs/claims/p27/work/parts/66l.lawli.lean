/-! ===== class and law, both holding the same ===== -/
/-- Top, what the class holds, what the law's rows hold, the route's row -/
def LI (S : Sto) (q : Nat → Nat) (t : Nat) (zc z : Sig) (R : Int → Int) : Prop := Top S q ∧ CR S q t zc ∧ LR S q z ∧ sI S (q 87) = R
theorem LR.out {S u : Sto} {q : Nat → Nat} {z : Sig} (h : LR S q z) (ho : OutM S q u) : LR u q z := by
  have e : ∀ i, 80 ≤ i → i ≤ 88 → sI u (q i) = sI S (q i) := fun i h1 h2 => (ho i h1 h2).1
  unfold LR LRq LRp LRo
  rw [e 80 (by omega) (by omega), e 81 (by omega) (by omega), e 82 (by omega) (by omega), e 83 (by omega) (by omega), e 84 (by omega) (by omega), e 85 (by omega) (by omega)]
  exact h
theorem LI.cp {S u : Sto} {q : Nat → Nat} {t : Nat} {zc zc' z : Sig} {R : Int → Int} (h : LI S q t zc z R) (hc : CP S q t u zc') : LI u q t zc' z R := ⟨hc.2.1, hc.2.2.2, h.2.2.1.out hc.2.2.1, (hc.2.2.1 87 (by omega) (by omega)).1.trans h.2.2.2⟩
theorem lo_fra {S : Sto} {q : Nat → Nat} {f : Nat → Int → Int} (hT : Top S q) (h : Lo S q f) (h0 : sI S (q 29) 9 = 0) : Fra S q (wI S f) := by
  refine ⟨Gro.same rfl rfl rfl, fun x hx hn => ⟨h x fun i h1 h2 e => hn ⟨i, tix_mod93 i h1 h2, ?_, e⟩, rfl, rfl⟩, ?_⟩
  · unfold scI
    simp
    omega
  · show f (q 29) 9 = 0
    rw [h _ fun i h1 h2 e => ?_]
    · exact h0
    · have := hT.2.2.1 29 (by decide) i (tix_mod93 i h1 h2) e
      omega
theorem CR.lo {S : Sto} {q : Nat → Nat} {t : Nat} {z : Sig} {f : Nat → Int → Int} (h : CR S q t z) (hT : Top S q) (hf : Lo S q f) : CR (wI S f) q t z := by
  obtain ⟨w, hw⟩ := h
  exact ⟨w, hw.fra hT (lo_fra hT hf hw.2.2.2.2.2.2)⟩
theorem kr_lo {S : Sto} {q : Nat → Nat} {f : Nat → Int → Int} (h : KR S q f) : Lo S q f := Lo.kr (f := sI S) Lo.refl h
theorem LI.kr {S : Sto} {q : Nat → Nat} {t : Nat} {zc z : Sig} {R : Int → Int} {f : Nat → Int → Int} (h : LI S q t zc z R) (hk : KR S q f) : LI (wI S f) q t zc z (f (q 87)) := ⟨h.1, h.2.1.lo h.1 (kr_lo hk), h.2.2.1.kr h.1 hk, rfl⟩
theorem LI.lo {S : Sto} {q : Nat → Nat} {t : Nat} {zc z z' : Sig} {R : Int → Int} {f : Nat → Int → Int} (h : LI S q t zc z R) (hk : Lo S q f) (hL : LR (wI S f) q z') : LI (wI S f) q t zc z' (f (q 87)) := ⟨h.1, h.2.1.lo h.1 hk, hL, rfl⟩
theorem LI.q0 {S : Sto} {q : Nat → Nat} {t : Nat} {zc z : Sig} {R : Int → Int} (h : LI S q t zc z R) : sI S (q 80) 0 = zC z := h.2.2.1.1.1
theorem LI.q1 {S : Sto} {q : Nat → Nat} {t : Nat} {zc z : Sig} {R : Int → Int} (h : LI S q t zc z R) : sI S (q 80) 1 = (zo z : Int) := h.2.2.1.1.2.1
theorem LI.q2 {S : Sto} {q : Nat → Nat} {t : Nat} {zc z : Sig} {R : Int → Int} (h : LI S q t zc z R) : sI S (q 80) 2 = (zb z : Int) := h.2.2.1.1.2.2.1
theorem LI.q3 {S : Sto} {q : Nat → Nat} {t : Nat} {zc z : Sig} {R : Int → Int} (h : LI S q t zc z R) : sI S (q 80) 3 = zw z := h.2.2.1.1.2.2.2.1
theorem LI.q4 {S : Sto} {q : Nat → Nat} {t : Nat} {zc z : Sig} {R : Int → Int} (h : LI S q t zc z R) : sI S (q 80) 4 = za z := h.2.2.1.1.2.2.2.2.1
theorem LI.q5 {S : Sto} {q : Nat → Nat} {t : Nat} {zc z : Sig} {R : Int → Int} (h : LI S q t zc z R) : sI S (q 80) 5 = zA z := h.2.2.1.1.2.2.2.2.2.1
theorem LI.q6 {S : Sto} {q : Nat → Nat} {t : Nat} {zc z : Sig} {R : Int → Int} (h : LI S q t zc z R) : sI S (q 80) 6 = zN z := h.2.2.1.1.2.2.2.2.2.2.1
theorem LI.q7 {S : Sto} {q : Nat → Nat} {t : Nat} {zc z : Sig} {R : Int → Int} (h : LI S q t zc z R) : sI S (q 80) 7 = zG z := h.2.2.1.1.2.2.2.2.2.2.2
theorem LI.P {S : Sto} {q : Nat → Nat} {t : Nat} {zc z : Sig} {R : Int → Int} (h : LI S q t zc z R) : sI S (q 81) = zP z := h.2.2.1.2.1.1
theorem LI.pr {S : Sto} {q : Nat → Nat} {t : Nat} {zc z : Sig} {R : Int → Int} (h : LI S q t zc z R) : sI S (q 84) = zpr z := h.2.2.1.2.1.2.1
theorem LI.qt {S : Sto} {q : Nat → Nat} {t : Nat} {zc z : Sig} {R : Int → Int} (h : LI S q t zc z R) : sI S (q 85) = zqt z := h.2.2.1.2.1.2.2
theorem LI.o {S : Sto} {q : Nat → Nat} {t : Nat} {zc z : Sig} {R : Int → Int} (h : LI S q t zc z R) : LRo S q z := h.2.2.1.2.2.1
theorem LI.m3 {S : Sto} {q : Nat → Nat} {t : Nat} {zc z : Sig} {R : Int → Int} (h : LI S q t zc z R) : ∀ o : Nat, o < zo z → sI S (q 83) ((4 * o + 3 : Nat) : Int) = zmn z (o : Int) := fun o ho => (h.o o ho).2.2.2
theorem LI.tv {S : Sto} {q : Nat → Nat} {t : Nat} {zc z : Sig} {R : Int → Int} (h : LI S q t zc z R) : ∀ p : Nat, p < 20 → sI S (q 82) (p : Int) = ztv z (p : Int) := h.2.2.1.2.2.2.1
theorem LI.l12 {S : Sto} {q : Nat → Nat} {t : Nat} {zc z : Sig} {R : Int → Int} (h : LI S q t zc z R) : zo z ≤ 12 ∧ zC z ≤ 6 := h.2.2.1.2.2.2.2
/-- what `calls` tells of an answer -/
def tld (m : Int → Int) (A : Ans) : Int := if A.1 = 0 then A.2.1 else m A.1
def PK (A : Ans) (m : Int → Int) (S : Sto) (q : Nat → Nat) (t : Nat) : Option Value → Sto → Prop := fun v u => v = some (.int (iI (tld m A))) ∧ CP S q t u A.2.2
theorem PK.mk0 {A : Ans} {m : Int → Int} {S u : Sto} {q : Nat → Nat} {t : Nat} {r : Int} {z' : Sig} (h : A = (0, r, z')) (hc : CP S q t u z') : PK A m S q t (some (.int (iI r))) u := by
  rw [h]
  exact ⟨rfl, hc⟩
theorem PK.mkx {A : Ans} {m : Int → Int} {S u : Sto} {q : Nat → Nat} {t : Nat} {k c : Int} {z' : Sig} (h : A = (k, 0, z')) (hk : k ≠ 0) (hm : m k = c) (hc : CP S q t u z') : PK A m S q t (some (.int (iI c))) u := by
  rw [h]
  refine ⟨?_, hc⟩
  rw [show tld m ((k, 0, z') : Ans) = m k from if_neg hk, hm]
theorem PK.ok {A : Ans} {m : Int → Int} {S u : Sto} {q : Nat → Nat} {t : Nat} {v : Option Value} {r : Int} {z' : Sig} (h : PK A m S q t v u) (e : A = (0, r, z')) : v = some (.int (iI r)) ∧ CP S q t u z' := by
  rw [e] at h
  exact h
theorem PK.no {A : Ans} {m : Int → Int} {S u : Sto} {q : Nat → Nat} {t : Nat} {v : Option Value} {k c r : Int} {z' : Sig} (h : PK A m S q t v u) (e : A = (k, r, z')) (hk : k ≠ 0) (hm : m k = c) : v = some (.int (iI c)) ∧ CP S q t u z' := by
  rw [e] at h
  refine ⟨?_, h.2⟩
  rw [h.1, show tld m ((k, r, z') : Ans) = m k from if_neg hk, hm]
def m42 : Int → Int := fun k => if k = 1 then -4 else -3
def m33 : Int → Int := fun _ => -3
def m423 : Int → Int := fun k => if k = 1 then -4 else if k = 2 then -2 else -3
def m23 : Int → Int := fun k => if k = 1 then -2 else -3
def m44 : Int → Int := fun _ => -4
/-- a method that asks `calls` -/
def MetN (l : Launch) (g : GG) (y : MethodName) (cc : ByteArray) (nL : Nat) (ret : Option FieldType) (d mc ms : Nat) (av : List Value) (S : Sto) (Post : Option Value → Sto → Prop) : Prop := Met l y (.code y cc nL ret :: UW) (rmK d mc ms) (PcH g av S) (QcG g Post) mc ms (ge (gB g))
section
variable {p : Program} {l : Launch} {e : Env} {R : Room} {s : State} {m : MethodId} {args : Array Value} {below : List Frame} {meth : Method} {c : Code} {Q : State → Prop} {cc : ByteArray} {nL : Nat} {own : String} {ret : Option FieldType} {g : GG} {cells slots pc : Nat} {lv lv' : List (Nat × Value)} {st st0 : List Value} {S : Sto} {a : Nat}
variable {y : MethodName} {cc' : ByteArray} {nL' : Nat} {ret' : Option FieldType} {d mc ms index ci b n mcO msO : Nat} {As : List Value} {Post PostO : Option Value → Sto → Prop} {Thr ThrO : String → Sto → Prop}
theorem MetN.of (hy : plainName y.cls = true) (ho : y.cls = own) (hlen : (lg_sl As).length ≤ nL) (hlv : lv_args 0 As = lv)
    (body : ∀ (p : Program) (e : Env) (s : State) (m : MethodId) (args : Array Value) (below : List Frame) (meth : Method) (c : Code), Cx p l s m args meth c cc nL own ret g → Ncs s → Wk p l e (rmK d mc ms) s m args below meth c (MQ below (QcG g Post) args s mc ms (ge (gB g))) g nL 0 0 0 lv [] S) : MetN l g y cc nL ret d mc ms As S Post := by
  refine Met.ofW (cc := cc) (maxL := nL) (ret := ret) hy rfl ?_
  intro p e s m args below meth c s₁ B hml hv
  obtain ⟨⟨rfl, hsz, hP, hD, hR, hK, hSt, hN⟩, hnc⟩ := hv
  have hts := atoms_spec (ws := .code y cc nL ret :: UW) B.pre
  have hown : s.vm.findClass y.cls = some m.cls := findClass_of_methodNamed B.named
  rw [ho] at hown
  have hl := lv_entry As (n := nL) hlen
  rw [hlv] at hl
  rw [lg_entry_eq]
  exact body p e s m _ below meth c ⟨B.exec, B.bytes, hml, hown, fun w h => hts w (List.mem_cons_of_mem _ h), hK, hSt, hsz, B.returns, B.notSynchronized, hN⟩ hnc _ _ _ hP hD va_S.rf hR hl
theorem KCallSM (C : Cx p l s m args meth c cc nL own ret g) (hnc : Ncs s) (hM : MetN l g y cc' nL' ret' d mc ms As S Post) (ml : Cond.methodLink own index y ∈ UW) (stt : Cond.static y ∈ UW) (ini : Cond.initialized own ∈ UW) (co : Cond.code y cc' nL' ret' ∈ UW) (hd : y.cls = own ∧ y.cls ≠ "java/lang/invoke/MethodHandle" ∧ y.cls ≠ "java/lang/invoke/VarHandle" ∧ (parseMethodDescriptor y.desc).map (fun d => d.parameters.length) = some As.length) (hR : d + 1 ≤ R.frames ∧ 8 + (nL' + 11) + 64 * d ≤ R.locals) (hf : cells + mc ≤ R.cells ∧ slots + ms ≤ R.slots) (hw : (st.map fun v => v.category).sum ≤ 8) (hdg : decode cc pc = .ok (.invokestatic index, 3)) (hst : st0 = As.reverse ++ st) (kk : ∀ (v : Option Value) (u : Sto), Post v u → Wk p l e R s m args below meth c Q g nL (cells + mc) (slots + ms) (pc + 3) lv (v.toList ++ st) u) : Wk p l e R s m args below meth c Q g nL cells slots pc lv st0 S := fun H locs ls hP hD hS hR0 hl => by
  have run := va_runS (g := F0 m pc ls st0) (e := e) (below := below) (meth := meth) (rest := st) (H := H) (locs := locs) (cells := cells) (slots := slots) ⟨C.1, C.2.1, C.2.2.1, C.home, C.words⟩ hM (cwS As.length C.words (goodUW (by
    intro w h
    simp only [wsS, List.cons_append, List.nil_append, List.mem_cons] at h
    rcases h with rfl | rfl | rfl | rfl | h
    · exact ml
    · exact stt
    · exact ini
    · exact co
    · exact h)) rfl rfl rfl hd hR) ⟨PcH.blind, fun U hU hW => ⟨C.pcg hP hD hS hR0 _ hU hW, hnc.moved hW.alike⟩⟩ rfl rfl hl.1 hst (lv_room hw) hdg hf
  intro T hT X
  obtain ⟨v, st₀, t, T', L, h0, X', hL, e1, e2, ⟨⟨v2, u, hv, hp, hP1, hD1, hR1⟩, hF⟩, stp⟩ := run T hT X
  cases hv
  have hS1 : va_S (ge (gB g)) s.heap T'.heap (locs ++ L) := by
    rw [← h0] at hS
    refine ⟨Nat.le_trans hS.1 (by rw [e1]; exact hF.1), fun q h1 h2 => ?_, fun q hq => ?_⟩
    · rw [e1, hF.2 q (Nat.lt_of_lt_of_le h1 hS.1) h2]
      exact hS.2.1 q h1 h2
    · rcases List.mem_append.mp hq with h | h
      · exact hS.2.2 q h
      · exact hL q h
  rw [← e1] at hP1
  obtain ⟨t2, a1, b1⟩ := kk v u hp T'.heap (locs ++ L) ls hP1 hD1 hS1 hR1 hl T' rfl X'
  exact ⟨t2, stp t2 a1, b1⟩
end
/-! what the observers answer -/
theorem ho_Ln {z : Sig} {b : Nat} (h : b < zb z) : oLn z (b : Int) = (0, zln z (b : Int), z) := if_pos ⟨by omega, by omega⟩
theorem ho_Lo {z : Sig} {b : Nat} (h : b < zb z) : oLo z (b : Int) = (0, zto z (zpd z (b : Int)), z) := if_pos ⟨by omega, by omega⟩
theorem ho_Lt {z : Sig} {b : Nat} (h : b < zb z) (h7 : cntb (zpd z (b : Int)) 20 ≤ 6) : oLt z (b : Int) = (0, zto z (zpd z (b : Int)), z) := by
  unfold oLt
  rw [if_pos ⟨by omega, by omega⟩, if_neg (by omega)]
theorem ho_Th {z : Sig} {b : Nat} (h : b < zb z) : oTh z (b : Int) = (0, zth z (b : Int), z) := if_pos ⟨by omega, by omega⟩
theorem ho_Ss {z : Sig} {b : Nat} (h : b < zb z) : oSs z (b : Int) = (0, ((cntb (zpd z (b : Int)) 20 : Nat) : Int), z) := if_pos ⟨by omega, by omega⟩
theorem ho_Sa {z : Sig} {b k : Nat} (h : b < zb z) (hk : k < cntb (zpd z (b : Int)) 20) : oSa z (b : Int) (k : Int) = (0, rout (zN z) (zG z) (zP z) (zpd z (b : Int)) k, z) := by
  unfold oSa
  rw [if_pos ⟨by omega, by omega⟩, if_pos (by omega)]
  rfl
theorem ho_Sx {z : Sig} {b : Nat} (h : b < zb z) : oSa z (b : Int) ((cntb (zpd z (b : Int)) 20 : Nat) : Int) = (1, 0, z) := by
  unfold oSa
  rw [if_pos ⟨by omega, by omega⟩, if_neg (by omega)]
theorem ho_Pl {z : Sig} {p : Nat} (h : p < 20) : oPl z (p : Int) = (0, zP z (p : Int), z) := if_pos ⟨by omega, by omega⟩
theorem ho_Tv {z : Sig} {p : Nat} (h : p < 20) : oTv z (p : Int) = (0, ztv z (p : Int), z) := if_pos ⟨by omega, by omega⟩
theorem ho_St {z : Sig} {o : Nat} (h : o < zo z) : oSt z (o : Int) = (0, zst z (o : Int), z) := if_pos ⟨by omega, by omega⟩
theorem ho_Bt {z : Sig} {o : Nat} (h : o < zo z) : oBt z (o : Int) = (0, zbt z (o : Int), z) := if_pos ⟨by omega, by omega⟩
theorem ho_La {z : Sig} {o : Nat} (h : o < zo z) : oLa z (o : Int) = (0, zto z (zW z o), z) := if_pos ⟨by omega, by omega⟩
theorem ho_Ia {z : Sig} {a : Nat} (h : (a : Int) < zA z) : oIa z (a : Int) = (0, ciA z (a : Int) (zb z), z) := if_pos ⟨by omega, by omega⟩
theorem rout_b {z : Sig} (h : Wf z) {m : Nat} (hm : okM (zN z) (zP z) m) {k : Nat} (hk : k < (sl (zP z) m 20).length) : 0 ≤ rout (zN z) (zG z) (zP z) m k ∧ rout (zN z) (zG z) (zP z) m k ≤ 1000 := by
  have hC := h.1
  have hd := okM_okD (G := zG z) ⟨hC.2.2.1, hC.2.2.2.1⟩ ⟨hC.2.2.2.2.1, hC.2.2.2.2.2.1⟩ hm
  have h1 := (rtS_bit hd hk).1
  have h2 := sl_mem (zP z) m 20 _ h1
  have h3 := hm.1 _ h2.1 h2.2
  unfold rout
  omega
theorem sl_c {P : Int → Int} {m : Nat} : (sl P m 20).length = cntb m 20 := sl_len P m 20
theorem cnt6_b {z : Sig} (h : Wf z) {b : Int} (h6 : zln z b ≤ 6) : cntb (zpd z b) 20 ≤ 6 := by
  have := zpd_cnt h.wl b
  omega
/-- a batch has a product -/
theorem zpd_some {z : Sig} (h : Wf z) {b : Nat} (hb : b < zb z) : ∃ k, k < 20 ∧ (zpd z (b : Int)).testBit k = true := by
  obtain ⟨-, o, ho, hbt⟩ := h.2.2.2.2.2.2.1 b hb
  obtain ⟨⟨m1, m2⟩, m3, m4, m5, -, -, m7⟩ := h.2.2.2.2.1 o ho
  have hm := m7 (by omega)
  have hp := (h.wl.2 o ho).2 0 (by omega)
  obtain ⟨k, hk⟩ : ∃ k : Nat, zpr z ((5 * o + 0 : Nat) : Int) = (k : Int) := ⟨(zpr z ((5 * o + 0 : Nat) : Int)).toNat, by omega⟩
  refine ⟨k, by omega, ?_⟩
  have hw : ∀ n, 0 < n → (wnt (zpr z) o n).testBit k = true := by
    intro n
    induction n with
    | zero => intro h9; omega
    | succ n ih =>
      intro _
      show (wnt (zpr z) o n ||| 2 ^ (zpr z ((5 * o + n : Nat) : Int)).toNat).testBit k = true
      rw [Nat.testBit_or, Nat.testBit_two_pow]
      by_cases e : n = 0
      · subst e
        rw [hk]
        simp
      · rw [ih (by omega)]
        rfl
  have hW : (zW z o).testBit k = true := hw _ (by omega)
  have hprd : ∀ n, o < n → (prd (zbt z) (zW z) (b : Int) n).testBit k = true := by
    intro n
    induction n with
    | zero => intro h9; omega
    | succ n ih =>
      intro h9
      show (prd (zbt z) (zW z) (b : Int) n ||| (if zbt z (n : Int) = (b : Int) then zW z n else 0)).testBit k = true
      rw [Nat.testBit_or]
      by_cases e : o = n
      · subst e
        rw [if_pos hbt, hW, Bool.or_true]
      · rw [ih (by omega)]
        rfl
  exact hprd _ ho
theorem zth_b {z : Sig} (h : Wf z) {b : Int} (hm : okM (zN z) (zP z) (zpd z b)) : -1000 ≤ zth z b ∧ zth z b ≤ 1000 := by
  have hC := h.1
  have h1 := lsA_b z b (zA z).toNat
  have h2 := fr_b (zP z) (zpd z b) (lsA z b (zA z).toNat) 20
  have h2 : 0 ≤ zfr z b (lsA z b (zA z).toNat) ∧ zfr z b (lsA z b (zA z).toNat) ≤ 99 := h2
  have e1 : (2 * lsA z b (zA z).toNat) * zG z ≤ 12 * 9 := Int.mul_le_mul (by omega) (by omega) (by omega) (by omega)
  have e2 : 0 ≤ (2 * lsA z b (zA z).toNat) * zG z := Int.mul_nonneg (by omega) (by omega)
  have e3 : (wtA z b (zA z).toNat) * (zN z + 1) ≤ 6 * 21 := Int.mul_le_mul (by omega) (by omega) (by omega) (by omega)
  have e4 : 0 ≤ (wtA z b (zA z).toNat) * (zN z + 1) := Int.mul_nonneg (by omega) (by omega)
  unfold zth
  rw [Int.sub_mul, Int.one_mul]
  split <;> omega
