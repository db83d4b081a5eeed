/-! ===== rows of the law's own methods ===== -/
/-- the throws are no kin -/
def Ncs (U : State) : Prop := va_Nc "java/lang/IllegalStateException" "java/lang/IndexOutOfBoundsException" U ∧ va_Nc "java/lang/IllegalArgumentException" "java/lang/IndexOutOfBoundsException" U ∧ va_Nc "java/lang/IllegalStateException" "java/lang/IllegalArgumentException" U
theorem Ncs.moved {u U : State} (hvm : u.vm.Alike U.vm) (h : Ncs u) : Ncs U := ⟨h.1.moved hvm, h.2.1.moved hvm, h.2.2.moved hvm⟩
/-- no throw leaves -/
def XcN : String → State → State → Prop := fun _ _ _ => False
def PcH (g : GG) (av : List Value) (S : Sto) : Array Value → State → Prop := fun v U => PcG g av S v U ∧ Ncs U
theorem PcH.blind {g : GG} {av : List Value} {S : Sto} : FrameBlind (PcH g av S) := by
  intro a U fr mk h
  exact ⟨PcG.blind a U fr mk h.1, h.2.moved (u := U) (U := U.calling fr mk a) (Vm.Alike.refl U.vm)⟩
def MetH (l : Launch) (g : GG) (y : MethodName) (cc : ByteArray) (nL : Nat) (ret : Option FieldType) (hh : List (Nat × Nat × Nat × Nat)) (d mc ms : Nat) (av : List Value) (S : Sto) (Post : Option Value → Sto → Prop) : Prop := vx_Met l y (.codeWith y cc nL ret hh :: UW) (rmK d mc ms) (PcH g av S) (QcG g Post) XcN mc ms (ge (gB g))
/-- the handler of a throw at pc -/
def Hnd (c : Code) (own : String) (args : Array Value) (s : State) (pc : Nat) (E : String) (h : Nat) : Prop := ∃ (pre : List ExceptionTableEntry) (x : ExceptionTableEntry) (suf : List ExceptionTableEntry) (name : String), c.exceptionTable.toList = pre ++ x :: suf ∧ (∀ z ∈ pre, covers z pc = false ∨ (z.catchType ≠ 0 ∧ ∃ nm : String, (Cond.classLink own z.catchType nm).before args s = true ∧ va_Nc E nm s)) ∧ covers x pc = true ∧ x.catchType ≠ 0 ∧ (Cond.classLink own x.catchType name).before args s = true ∧ (Cond.castable E name).before args s = true ∧ x.handlerPc = h
section
variable {p : Program} {l : Launch} {e : Env} {R : Room} {s : State} {m : MethodId} {args : Array Value} {below : List Frame} {meth : Method} {c : Code} {Q : State → Prop} {cc : ByteArray} {nL : Nat} {own : String} {ret : Option FieldType} {g : GG} {cells slots pc : Nat} {lv lv' : List (Nat × Value)} {st st0 : List Value} {S : Sto} {a : Nat}
variable {y : MethodName} {cc' : ByteArray} {nL' : Nat} {ret' : Option FieldType} {d mc ms index ci b n mcO msO : Nat} {As : List Value} {Post PostO : Option Value → Sto → Prop} {Thr ThrO : String → Sto → Prop} {Cn : String} {hh : List (Nat × Nat × Nat × Nat)}
theorem hnd0 {E : String} {f t h k : Nat} {tl : List (Nat × Nat × Nat × Nat)} (ht : c.exceptionTable.toList = tableOf ((f, t, h, k) :: tl)) (hp : f ≤ pc ∧ pc < t) (hk : k ≠ 0) (hl : (Cond.classLink own k E).before args s = true) (hc : (Cond.castable E E).before args s = true) : Hnd c own args s pc E h :=
  ⟨[], _, _, E, ht, fun _ h => absurd h List.not_mem_nil, by simp [covers, hp.1, hp.2], hk, hl, hc, rfl⟩
theorem hnd1 {E E1 : String} {f t h k f1 t1 h1 k1 : Nat} {tl : List (Nat × Nat × Nat × Nat)} (ht : c.exceptionTable.toList = tableOf ((f1, t1, h1, k1) :: (f, t, h, k) :: tl)) (hp : f ≤ pc ∧ pc < t) (hk : k ≠ 0) (hk1 : k1 ≠ 0) (hl1 : (Cond.classLink own k1 E1).before args s = true) (hn : va_Nc E E1 s) (hl : (Cond.classLink own k E).before args s = true) (hc : (Cond.castable E E).before args s = true) : Hnd c own args s pc E h :=
  ⟨[_], _, _, E, ht, fun z hz => by rw [List.mem_singleton.mp hz]; exact Or.inr ⟨hk1, E1, hl1, hn⟩, by simp [covers, hp.1, hp.2], hk, hl, hc, rfl⟩
theorem hnd2 {E E1 E2 : String} {f t h k f1 t1 h1 k1 f2 t2 h2 k2 : Nat} {tl : List (Nat × Nat × Nat × Nat)} (ht : c.exceptionTable.toList = tableOf ((f1, t1, h1, k1) :: (f2, t2, h2, k2) :: (f, t, h, k) :: tl)) (hp : f ≤ pc ∧ pc < t) (hk : k ≠ 0) (hk1 : k1 ≠ 0) (hl1 : (Cond.classLink own k1 E1).before args s = true) (hn : va_Nc E E1 s) (hk2 : k2 ≠ 0) (hl2 : (Cond.classLink own k2 E2).before args s = true) (hn2 : va_Nc E E2 s) (hl : (Cond.classLink own k E).before args s = true) (hc : (Cond.castable E E).before args s = true) : Hnd c own args s pc E h :=
  ⟨[_, _], _, _, E, ht, fun z hz => by
    rcases List.mem_cons.mp hz with h | h
    · rw [h]; exact Or.inr ⟨hk1, E1, hl1, hn⟩
    · rw [List.mem_singleton.mp h]; exact Or.inr ⟨hk2, E2, hl2, hn2⟩, by simp [covers, hp.1, hp.2], hk, hl, hc, rfl⟩
/-- a method with handlers, by its body -/
theorem MetH.of (hy : plainName y.cls = true) (ho : y.cls = own) (hlen : (lg_sl As).length ≤ nL) (hlv : lv_args 0 As = lv)
    (body : ∀ (p : Program) (e : Env) (s : State) (m : MethodId) (args : Array Value) (below : List Frame) (meth : Method) (c : Code), Cx p l s m args meth c cc nL own ret g → Ncs s → c.exceptionTable.toList = tableOf hh → Wk p l e (rmK d mc ms) s m args below meth c (vx_MQ below (QcG g Post) XcN args s mc ms (ge (gB g))) g nL 0 0 0 lv [] S) : MetH l g y cc nL ret hh d mc ms As S Post := by
  refine vx_ofWH (cc := cc) (maxL := nL) (ret := ret) (hh := hh) hy rfl ?_
  intro p e s m args below meth c s₁ B hml hv
  obtain ⟨⟨rfl, hsz, hP, hD, hR, hK, hSt, hN⟩, hnc⟩ := hv
  have hts := atoms_spec (ws := .codeWith y cc nL ret hh :: UW) B.pre
  have hown : s.vm.findClass y.cls = some m.cls := findClass_of_methodNamed B.named
  rw [ho] at hown
  have hl := lv_entry As (n := nL) hlen
  rw [hlv] at hl
  rw [lg_entry_eq]
  exact body p e s m _ below meth c ⟨B.exec, B.bytes, hml, hown, fun w h => hts w (List.mem_cons_of_mem _ h), hK, hSt, hsz, B.returns, B.notSynchronized, hN⟩ hnc (vx_table (x := y) B (hts _ List.mem_cons_self)) _ _ _ hP hD va_S.rf hR hl
theorem KH (kk : Wk p l e R s m args below meth c (MQ below (QcG g Post) args s mcO msO (ge (gB g))) g nL cells slots pc lv st S) : Wk p l e R s m args below meth c (vx_MQ below (QcG g Post) XcN args s mcO msO (ge (gB g))) g nL cells slots pc lv st S := fun H locs ls hP hD hS hR hl => vx_ret (kk H locs ls hP hD hS hR hl)
/-- a call that may throw, caught here -/
theorem KCallVC (C : Cx p l s m args meth c cc nL own ret g) (hM : MetX l g y cc' nL' ret' d mc ms (.ref b :: As) S Post Thr) (ml : Cond.methodLink own index y ∈ UW) (im : Cond.instanceMethod y ∈ UW) (se : Cond.selects Cn y y ∈ UW) (ini : Cond.initialized Cn ∈ UW) (co : Cond.code y cc' nL' ret' ∈ UW) (hd : y.cls = Cn ∧ y.cls ≠ "java/lang/invoke/MethodHandle" ∧ y.cls ≠ "java/lang/invoke/VarHandle" ∧ (parseMethodDescriptor y.desc).map (fun d => d.parameters.length) = some As.length) (ha : At0 S b ci) (hci : ci < 20) {q : vw_C} (hq : vwCl[ci]? = some q) (hn : q.1 = Cn) (hR : d + 1 ≤ R.frames ∧ 8 + (nL' + 11) + 64 * d ≤ R.locals) (hf : cells + mc ≤ R.cells ∧ slots + ms ≤ R.slots) (hw : (st.map fun v => v.category).sum ≤ 8) (hdg : decode cc pc = .ok (.invokevirtual index, 3)) (hst : st0 = As.reverse ++ .ref b :: st) (kx : ∀ (E : String) (u : Sto), Thr E u → ∃ h, Hnd c own args s pc E h ∧ ∀ qx : Nat, Wk p l e R s m args below meth c Q g nL (cells + mc) (slots + ms) h lv [.ref qx] u) (kk : ∀ (v : Option Value) (u : Sto), Post v u → Wk p l e R s m args below meth c Q g nL (cells + mc) (slots + ms) (pc + 3) lv (v.toList ++ st) u) : Wk p l e R s m args below meth c Q g nL cells slots pc lv st0 S := fun H locs ls hP hD hS hR0 hl => by
  have run := vx_runV (g := F0 m pc ls st0) (e := e) (below := below) (meth := meth) (rest := st) (H := H) (locs := locs) (cells := cells) (slots := slots) ⟨C.1, C.2.1, C.2.2.1, C.home, C.words⟩ hM (cwV As.length C.words (goodUW (by
    intro w h
    simp only [wsV, List.cons_append, List.nil_append, List.mem_cons] at h
    rcases h with rfl | rfl | rfl | rfl | rfl | h
    · exact ml
    · exact im
    · exact se
    · exact ini
    · exact co
    · exact h)) rfl rfl rfl hd hR) ⟨PcG.blind, recvK C hP ha hci hq hn, fun U hU hW => C.pcg hP hD hS hR0 _ hU hW⟩ rfl rfl hl.1 hst (lv_room hw) hdg hf
  intro T hT X
  rcases run T hT X with ⟨v, st₀, t, T', L, h0, X', hL, e1, e2, ⟨⟨v2, u, hv, hp, hP1, hD1, hR1⟩, hF⟩, stp⟩ | ⟨q, st₀, t, T', L, E, ce, h0, X', hL, e1, e2, ⟨⟨u, hp, hP1, hD1, hR1⟩, hF⟩, hce, hcv, hcl, stp⟩
  · cases hv
    have hS1 : va_S (ge (gB g)) s.heap T'.heap (locs ++ L) := by
      rw [← h0] at hS
      refine ⟨Nat.le_trans hS.1 (by rw [e1]; exact hF.1), fun q h1 h2 => ?_, fun q hq => ?_⟩
      · rw [e1, hF.2 q (Nat.lt_of_lt_of_le h1 hS.1) h2]
        exact hS.2.1 q h1 h2
      · rcases List.mem_append.mp hq with h | h
        · exact hS.2.2 q h
        · exact hL q h
    rw [← e1] at hP1
    obtain ⟨t2, a1, b1⟩ := kk v u hp T'.heap (locs ++ L) ls hP1 hD1 hS1 hR1 hl T' rfl X'
    exact ⟨t2, stp t2 a1, b1⟩
  · have hS1 : va_S (ge (gB g)) s.heap T'.heap (locs ++ L) := by
      rw [← h0] at hS
      refine ⟨Nat.le_trans hS.1 (by rw [e1]; exact hF.1), fun q h1 h2 => ?_, fun q hq => ?_⟩
      · rw [e1, hF.2 q (Nat.lt_of_lt_of_le h1 hS.1) h2]
        exact hS.2.1 q h1 h2
      · rcases List.mem_append.mp hq with h | h
        · exact hS.2.2 q h
        · exact hL q h
    have hcell : T'.heap[q]? = some ce := by rw [e1]; exact hce
    rw [← e1] at hP1
    obtain ⟨h, ⟨pre, x, suf, name, k1, k2, k3, k4, k5, k6, rfl⟩, kw⟩ := kx E u hp
    obtain ⟨t2, a1, b1⟩ := vx_catch C.home pre x suf k1 k2 k3 k4 k5 k6 hcell hcv hcl (rest := st) (kw q T'.heap (locs ++ L) ls hP1 hD1 hS1 hR1 hl) T' rfl X'
    exact ⟨t2, stp.trans a1, b1⟩
/-- a call of a method with handlers -/
theorem KCallSH (C : Cx p l s m args meth c cc nL own ret g) (hnc : Ncs s) (hM : MetH l g y cc' nL' ret' hh d mc ms As S Post) (ml : Cond.methodLink own index y ∈ UW) (stt : Cond.static y ∈ UW) (ini : Cond.initialized own ∈ UW) (co : Cond.codeWith y cc' nL' ret' hh ∈ UW) (hd : y.cls = own ∧ y.cls ≠ "java/lang/invoke/MethodHandle" ∧ y.cls ≠ "java/lang/invoke/VarHandle" ∧ (parseMethodDescriptor y.desc).map (fun d => d.parameters.length) = some As.length) (hR : d + 1 ≤ R.frames ∧ 8 + (nL' + 11) + 64 * d ≤ R.locals) (hf : cells + mc ≤ R.cells ∧ slots + ms ≤ R.slots) (hw : (st.map fun v => v.category).sum ≤ 8) (hdg : decode cc pc = .ok (.invokestatic index, 3)) (hst : st0 = As.reverse ++ st) (kk : ∀ (v : Option Value) (u : Sto), Post v u → Wk p l e R s m args below meth c Q g nL (cells + mc) (slots + ms) (pc + 3) lv (v.toList ++ st) u) : Wk p l e R s m args below meth c Q g nL cells slots pc lv st0 S := fun H locs ls hP hD hS hR0 hl => by
  have run := vx_runSX (g := F0 m pc ls st0) (e := e) (below := below) (meth := meth) (rest := st) (H := H) (locs := locs) (cells := cells) (slots := slots) (hh := hh) ⟨C.1, C.2.1, C.2.2.1, C.home, C.words⟩ hM (vx_cwSW As.length C.words (goodUW (by
    intro w h
    rw [← hd.1] at ini
    simp only [va_wsS, List.cons_append, List.nil_append, List.mem_cons] at h
    rcases h with rfl | rfl | rfl | rfl | h
    · exact ml
    · exact stt
    · exact ini
    · exact co
    · exact h)) rfl rfl rfl hd.2 hR) ⟨PcH.blind, fun U hU hW => ⟨C.pcg hP hD hS hR0 _ hU hW, hnc.moved hW.alike⟩⟩ rfl rfl hl.1 hst (lv_room hw) hdg hf
  intro T hT X
  rcases run T hT X with ⟨v, st₀, t, T', L, h0, X', hL, e1, e2, ⟨⟨v2, u, hv, hp, hP1, hD1, hR1⟩, hF⟩, stp⟩ | ⟨q, st₀, t, T', L, E, ce, h0, X', hL, e1, e2, hx, hce, hcv, hcl, stp⟩
  · cases hv
    have hS1 : va_S (ge (gB g)) s.heap T'.heap (locs ++ L) := by
      rw [← h0] at hS
      refine ⟨Nat.le_trans hS.1 (by rw [e1]; exact hF.1), fun q h1 h2 => ?_, fun q hq => ?_⟩
      · rw [e1, hF.2 q (Nat.lt_of_lt_of_le h1 hS.1) h2]
        exact hS.2.1 q h1 h2
      · rcases List.mem_append.mp hq with h | h
        · exact hS.2.2 q h
        · exact hL q h
    rw [← e1] at hP1
    obtain ⟨t2, a1, b1⟩ := kk v u hp T'.heap (locs ++ L) ls hP1 hD1 hS1 hR1 hl T' rfl X'
    exact ⟨t2, stp t2 a1, b1⟩
  · exact hx.elim
/-- the script's ints -/
theorem KSld (C : Cx p l s m args meth c cc nL own ret g) {b0 L : Nat} {xs : Nat → Int32} (hX : va_X b0 L xs s s.heap) (hb : b0 < gB g) (hL : L ≤ 2051) {i : Int} (j : Nat) (hi : i = (j : Int)) (h : j < L) (hdg : decode cc pc = .ok (.iaload, 1)) (kk : Wk p l e R s m args below meth c Q g nL cells slots (pc + 1) lv (.int (iI (xs j).toInt) :: st) S) : Wk p l e R s m args below meth c Q g nL cells slots pc lv (.int (iI i) :: .ref b0 :: st) S := fun H locs ls hP hD hS hR hl => by
  have hr : inR i := ⟨by omega, by omega⟩
  have hb2 := C.base
  refine va_sld C.1 C.2.1 hX (by omega) (by unfold ge; omega) hS (iI_in (n := L) (by omega) (by omega) hr) hdg ?_
  rw [iI_clamp (by omega) hr, ← iI_of (xs i.toNat), show i.toNat = j by omega]
  exact kk H locs ls hP hD hS hR hl
theorem KSlen (C : Cx p l s m args meth c cc nL own ret g) {b0 L : Nat} {xs : Nat → Int32} (hX : va_X b0 L xs s s.heap) (hb : b0 < gB g) (hdg : decode cc pc = .ok (.arraylength, 1)) (kk : Wk p l e R s m args below meth c Q g nL cells slots (pc + 1) lv (.int (iI (L : Int)) :: st) S) : Wk p l e R s m args below meth c Q g nL cells slots pc lv (.ref b0 :: st) S := fun H locs ls hP hD hS hR hl => by
  have hb2 := C.base
  refine va_slen C.1 C.2.1 hX (by omega) (by unfold ge; omega) hS hdg ?_
  rw [← iI_nat]
  exact kk H locs ls hP hD hS hR hl
theorem KTabIn (C : Cx p l s m args meth c cc nL own ret g) {dflt lo hi : Int} {offs : Array Int} {len : Nat} {x off : Int} {tgt : Nat} (hdg : decode cc pc = .ok (.tableswitch dflt lo hi offs, len)) (hx : inR x) (h1 : ¬ x < lo) (h2 : ¬ hi < x) (ho : offs[(x - lo).toNat]? = some off) (ht : (pc : Int) + off = (tgt : Int)) (kk : Wk p l e R s m args below meth c Q g nL cells slots tgt lv st S) : Wk p l e R s m args below meth c Q g nL cells slots pc lv (.int (iI x) :: st) S := fun H locs ls hP hD hS hR hl =>
  lv_tableIn C.1 C.2.1 hdg (by rw [iI_toInt hx]; exact h1) (by rw [iI_toInt hx]; exact h2) (by rw [iI_toInt hx]; exact ho) ht (kk H locs ls hP hD hS hR hl)
theorem KTabOut (C : Cx p l s m args meth c cc nL own ret g) {dflt lo hi : Int} {offs : Array Int} {len : Nat} {x : Int} {tgt : Nat} (hdg : decode cc pc = .ok (.tableswitch dflt lo hi offs, len)) (hx : inR x) (h : x < lo ∨ hi < x) (ht : (pc : Int) + dflt = (tgt : Int)) (kk : Wk p l e R s m args below meth c Q g nL cells slots tgt lv st S) : Wk p l e R s m args below meth c Q g nL cells slots pc lv (.int (iI x) :: st) S := fun H locs ls hP hD hS hR hl =>
  lv_tableOut C.1 C.2.1 hdg (by rw [iI_toInt hx]; exact h) ht (kk H locs ls hP hD hS hR hl)
end
theorem lg_cmp_rfl (x : Int64) : lg_cmp x x = iI 0 := by
  unfold lg_cmp
  simp
  rfl
