theorem goodUW {ws : List Cond} (h : ∀ w ∈ ws, w ∈ UW) : GoodIn UW ws := fun w hw => ⟨h w hw, good_of_word (List.mem_filter.mp (h w hw)).2⟩
def rmK (d mc ms : Nat) : Room := { frames := d, cells := mc, slots := ms, locals := 64 * d }
/-- how a contract begins -/
def PcG (g : GG) (av : List Value) (S : Sto) : Array Value → State → Prop := fun v U => v = av.toArray ∧ gB g ≤ U.heap.size ∧ va_P (gD g) vwCl (pol (gC g) S) U.heap ∧ va_D (ge (gB g)) (pol (gC g) S) ∧ Rg S ∧ va_K (gD g) vwCl (tyl (gC g)) U ∧ Sta g U U.heap ∧ Nws U
/-- how it ends -/
def QcG (g : GG) (Post : Option Value → Sto → Prop) : Array Value → State → Outcome → State → Prop := fun _ st oc t => (∃ (v : Option Value) (u : Sto), oc = .returned v ∧ Post v u ∧ va_P (gD g) vwCl (pol (gC g) u) t.heap ∧ va_D (ge (gB g)) (pol (gC g) u) ∧ Rg u) ∧ va_F (ge (gB g)) st t
/-- how it throws -/
def XcG (g : GG) (Thr : String → Sto → Prop) : String → State → State → Prop := fun E st t => (∃ u : Sto, Thr E u ∧ va_P (gD g) vwCl (pol (gC g) u) t.heap ∧ va_D (ge (gB g)) (pol (gC g) u) ∧ Rg u) ∧ va_F (ge (gB g)) st t
def MetS (l : Launch) (g : GG) (y : MethodName) (cc : ByteArray) (nL : Nat) (ret : Option FieldType) (d mc ms : Nat) (av : List Value) (S : Sto) (Post : Option Value → Sto → Prop) : Prop := Met l y (.code y cc nL ret :: UW) (rmK d mc ms) (PcG g av S) (QcG g Post) mc ms (ge (gB g))
def MetX (l : Launch) (g : GG) (y : MethodName) (cc : ByteArray) (nL : Nat) (ret : Option FieldType) (d mc ms : Nat) (av : List Value) (S : Sto) (Post : Option Value → Sto → Prop) (Thr : String → Sto → Prop) : Prop := vx_Met l y (.code y cc nL ret :: UW) (rmK d mc ms) (PcG g av S) (QcG g Post) (XcG g Thr) mc ms (ge (gB g))
theorem PcG.blind {g : GG} {av : List Value} {S : Sto} : FrameBlind (PcG g av S) := by
  intro a U fr mk h
  obtain ⟨h1, h2, h3, h4, h5, h6, h7, h8⟩ := h
  refine ⟨h1, h2, h3, h4, h5, va_K.moved (u := U) (U := U.calling fr mk a) (Vm.Alike.refl U.vm) h6, h7.moved (Vm.Alike.refl U.vm), Nws.same (u := U) (U := U.calling fr mk a) rfl h8⟩
theorem code_head {w0 : Cond} {v : Cond} (h : v ∈ (w0 :: UW)) (h0 : w0 ∈ UW) : v ∈ UW := (List.mem_cons.mp h).elim (fun e => e ▸ h0) id
section
variable {p : Program} {l : Launch} {e : Env} {R : Room} {s : State} {m : MethodId} {args : Array Value} {below : List Frame} {meth : Method} {c : Code} {Q : State → Prop} {cc : ByteArray} {nL : Nat} {own : String} {ret : Option FieldType} {g : GG} {cells slots pc : Nat} {lv lv' : List (Nat × Value)} {st st0 : List Value} {S : Sto} {a : Nat}
variable {y : MethodName} {cc' : ByteArray} {nL' : Nat} {ret' : Option FieldType} {d mc ms index ci b n mcO msO : Nat} {As : List Value} {Post PostO : Option Value → Sto → Prop} {Thr ThrO : String → Sto → Prop} {Cn : String}
/-- the start of a callee, from the caller's store -/
theorem Cx.pcg (C : Cx p l s m args meth c cc nL own ret g) {H : Heap} {locs : List Loc} (hP : va_P (gD g) vwCl (pol (gC g) S) H) (hD : va_D (ge (gB g)) (pol (gC g) S)) (hS : va_S (ge (gB g)) s.heap H locs) (hR : Rg S) (av : List Value) {U : State} (hU : U.heap = H) (hW : s.WarmedH U.vm) : PcG g av S av.toArray U := by
  refine ⟨rfl, by rw [hU]; exact Nat.le_trans C.base hS.1, by rw [hU]; exact hP, hD, hR, C.tabs.moved hW.alike, ?_, C.nws.warm hW⟩
  rw [hU]
  exact (C.sta.moved hW.alike).kept (fun q h1 h2 => hS.2.1 q h1 h2)
/-- a non-throwing contract, by its body -/
theorem MetS.of (hy : plainName y.cls = true) (ho : y.cls = own) (hlen : (lg_sl As).length ≤ nL) (hlv : lv_args 0 As = lv)
    (body : ∀ (p : Program) (e : Env) (s : State) (m : MethodId) (args : Array Value) (below : List Frame) (meth : Method) (c : Code), Cx p l s m args meth c cc nL own ret g → meth.name = y.name → Wk p l e (rmK d mc ms) s m args below meth c (MQ below (QcG g Post) args s mc ms (ge (gB g))) g nL 0 0 0 lv [] S) : MetS l g y cc nL ret d mc ms As S Post := by
  refine Met.ofW (cc := cc) (maxL := nL) (ret := ret) hy rfl ?_
  intro p e s m args below meth c s₁ B hml hv
  obtain ⟨rfl, hsz, hP, hD, hR, hK, hSt, hN⟩ := hv
  have hts := atoms_spec (ws := .code y cc nL ret :: UW) B.pre
  have hown : s.vm.findClass y.cls = some m.cls := findClass_of_methodNamed B.named
  rw [ho] at hown
  have hl := lv_entry As (n := nL) hlen
  rw [hlv] at hl
  rw [lg_entry_eq]
  exact body p e s m _ below meth c ⟨B.exec, B.bytes, hml, hown, fun w h => hts w (List.mem_cons_of_mem _ h), hK, hSt, hsz, B.returns, B.notSynchronized, hN⟩ (name_of_methodNamed B.named B.method).1 _ _ _ hP hD va_S.rf hR hl
/-- a contract that may throw, by its body -/
theorem MetX.of (hy : plainName y.cls = true) (ho : y.cls = own) (hlen : (lg_sl As).length ≤ nL) (hlv : lv_args 0 As = lv)
    (body : ∀ (p : Program) (e : Env) (s : State) (m : MethodId) (args : Array Value) (below : List Frame) (meth : Method) (c : Code), Cx p l s m args meth c cc nL own ret g → (∀ x ∈ c.exceptionTable.toList, False) → Wk p l e (rmK d mc ms) s m args below meth c (vx_MQ below (QcG g Post) (XcG g Thr) args s mc ms (ge (gB g))) g nL 0 0 0 lv [] S) : MetX l g y cc nL ret d mc ms As S Post Thr := by
  refine vx_ofW (cc := cc) (maxL := nL) (ret := ret) hy rfl ?_
  intro p e s m args below meth c s₁ B hml hne hv
  obtain ⟨rfl, hsz, hP, hD, hR, hK, hSt, hN⟩ := hv
  have hts := atoms_spec (ws := .code y cc nL ret :: UW) B.pre
  have hown : s.vm.findClass y.cls = some m.cls := findClass_of_methodNamed B.named
  rw [ho] at hown
  have hl := lv_entry As (n := nL) hlen
  rw [hlv] at hl
  rw [lg_entry_eq]
  exact body p e s m _ below meth c ⟨B.exec, B.bytes, hml, hown, fun w h => hts w (List.mem_cons_of_mem _ h), hK, hSt, hsz, B.returns, B.notSynchronized, hN⟩ hne _ _ _ hP hD va_S.rf hR hl
theorem QcG.mk {H : Heap} {locs : List Loc} {v : Option Value} {t : State} {a : Array Value} (hP : va_P (gD g) vwCl (pol (gC g) S) H) (hD : va_D (ge (gB g)) (pol (gC g) S)) (hS : va_S (ge (gB g)) s.heap H locs) (hR : Rg S) (hp : Post v S) (ht : t.heap = H) : QcG g Post a s (.returned v) t := ⟨⟨v, S, rfl, hp, by rw [ht]; exact hP, hD, hR⟩, hS.F ht⟩
theorem KIret (C : Cx p l s m args meth c cc nL own ret g) {v : Int} {ty : FieldType} (hr : ret = some ty) (hn : narrow ty (.int (iI v)) = .int (iI v)) (hp : Post (some (.int (iI v))) S) (hc : cells ≤ mcO) (hs : slots ≤ msO) (hdg : decode cc pc = .ok (.ireturn, 1)) : Wk p l e R s m args below meth c (MQ below (QcG g Post) args s mcO msO (ge (gB g))) g nL cells slots pc lv ([.int (iI v)]) S := fun H locs ls hP hD hS hR hl => W.widen hc hs (W.zret C.1 C.2.1 (C.rett.trans hr) hn (fun t ht _ => QcG.mk hP hD hS hR hp ht) (fun q h => hS.2.2 q h) hdg C.locks)
theorem KAret (C : Cx p l s m args meth c cc nL own ret g) {v : Option Nat} {ty : FieldType} (hr : ret = some ty) (hrt : (∃ n, ty = .object n) ∨ ∃ t, ty = .array t) (hp : Post (some (va_rf v)) S) (hc : cells ≤ mcO) (hs : slots ≤ msO) (hdg : decode cc pc = .ok (.areturn, 1)) : Wk p l e R s m args below meth c (MQ below (QcG g Post) args s mcO msO (ge (gB g))) g nL cells slots pc lv ([va_rf v]) S := fun H locs ls hP hD hS hR hl => W.widen hc hs (W.aret C.1 C.2.1 (C.rett.trans hr) hrt (by cases v; exact Or.inl rfl; exact Or.inr ⟨_, rfl⟩) (fun t ht _ => QcG.mk hP hD hS hR hp ht) (fun q h => hS.2.2 q h) hdg C.locks)
theorem KVret (C : Cx p l s m args meth c cc nL own ret g) (hr : ret = none) (hp : Post (none) S) (hc : cells ≤ mcO) (hs : slots ≤ msO) (hdg : decode cc pc = .ok (.return_, 1)) : Wk p l e R s m args below meth c (MQ below (QcG g Post) args s mcO msO (ge (gB g))) g nL cells slots pc lv [] S := fun H locs ls hP hD hS hR hl => W.widen hc hs (W.vret C.1 C.2.1 (C.rett.trans hr) (fun t ht _ => QcG.mk hP hD hS hR hp ht) (fun q h => hS.2.2 q h) hdg C.locks)
theorem KX (kk : Wk p l e R s m args below meth c (MQ below (QcG g Post) args s mcO msO (ge (gB g))) g nL cells slots pc lv st S) : Wk p l e R s m args below meth c (vx_MQ below (QcG g Post) (XcG g Thr) args s mcO msO (ge (gB g))) g nL cells slots pc lv st S := fun H locs ls hP hD hS hR hl => vx_ret (kk H locs ls hP hD hS hR hl)
theorem recvK {H : Heap} (C : Cx p l s m args meth c cc nL own ret g) (hP : va_P (gD g) vwCl (pol (gC g) S) H) (ha : At0 S b ci) (hci : ci < 20) {q : vw_C} (hq : vwCl[ci]? = some q) (hn : q.1 = Cn) : ∃ cell : Cell, H[b]? = some cell ∧ cell.vm.isStatics = false ∧ s.vm.findClass Cn = some cell.cls := by
  obtain ⟨q0, h0⟩ := pol_get (cy := gC g) ha.1
  rw [cel_obj ha.2 hci] at h0
  rw [← hn]
  exact va_recv C.tabs hP hq h0
theorem KCallV (C : Cx p l s m args meth c cc nL own ret g) (hM : MetS l g y cc' nL' ret' d mc ms (.ref b :: As) S Post) (ml : Cond.methodLink own index y ∈ UW) (im : Cond.instanceMethod y ∈ UW) (se : Cond.selects Cn y y ∈ UW) (ini : Cond.initialized Cn ∈ UW) (co : Cond.code y cc' nL' ret' ∈ UW) (hd : y.cls = Cn ∧ y.cls ≠ "java/lang/invoke/MethodHandle" ∧ y.cls ≠ "java/lang/invoke/VarHandle" ∧ (parseMethodDescriptor y.desc).map (fun d => d.parameters.length) = some As.length) (ha : At0 S b ci) (hci : ci < 20) {q : vw_C} (hq : vwCl[ci]? = some q) (hn : q.1 = Cn) (hR : d + 1 ≤ R.frames ∧ 8 + (nL' + 11) + 64 * d ≤ R.locals) (hf : cells + mc ≤ R.cells ∧ slots + ms ≤ R.slots) (hw : (st.map fun v => v.category).sum ≤ 8) (hdg : decode cc pc = .ok (.invokevirtual index, 3)) (hst : st0 = As.reverse ++ .ref b :: st) (kk : ∀ (v : Option Value) (u : Sto), Post v u → Wk p l e R s m args below meth c Q g nL (cells + mc) (slots + ms) (pc + 3) lv (v.toList ++ st) u) : Wk p l e R s m args below meth c Q g nL cells slots pc lv st0 S := fun H locs ls hP hD hS hR0 hl => by
  have run := va_runV (g := F0 m pc ls st0) (e := e) (below := below) (meth := meth) (rest := st) (H := H) (locs := locs) (cells := cells) (slots := slots) ⟨C.1, C.2.1, C.2.2.1, C.home, C.words⟩ hM (cwV As.length C.words (goodUW (by
    intro w h
    simp only [wsV, List.cons_append, List.nil_append, List.mem_cons] at h
    rcases h with rfl | rfl | rfl | rfl | rfl | h
    · exact ml
    · exact im
    · exact se
    · exact ini
    · exact co
    · exact h)) rfl rfl rfl hd hR) ⟨PcG.blind, recvK C hP ha hci hq hn, fun U hU hW => C.pcg hP hD hS hR0 _ hU hW⟩ rfl rfl hl.1 hst (lv_room hw) hdg hf
  intro T hT X
  obtain ⟨v, st₀, t, T', L, h0, X', hL, e1, e2, ⟨⟨v2, u, hv, hp, hP1, hD1, hR1⟩, hF⟩, stp⟩ := run T hT X
  cases hv
  have hS1 : va_S (ge (gB g)) s.heap T'.heap (locs ++ L) := by
    rw [← h0] at hS
    refine ⟨Nat.le_trans hS.1 (by rw [e1]; exact hF.1), fun q h1 h2 => ?_, fun q hq => ?_⟩
    · rw [e1, hF.2 q (Nat.lt_of_lt_of_le h1 hS.1) h2]
      exact hS.2.1 q h1 h2
    · rcases List.mem_append.mp hq with h | h
      · exact hS.2.2 q h
      · exact hL q h
  rw [← e1] at hP1
  obtain ⟨t2, a1, b1⟩ := kk v u hp T'.heap (locs ++ L) ls hP1 hD1 hS1 hR1 hl T' rfl X'
  exact ⟨t2, stp t2 a1, b1⟩
theorem KCallS (C : Cx p l s m args meth c cc nL own ret g) (hM : MetS l g y cc' nL' ret' d mc ms As S Post) (ml : Cond.methodLink own index y ∈ UW) (stt : Cond.static y ∈ UW) (ini : Cond.initialized own ∈ UW) (co : Cond.code y cc' nL' ret' ∈ UW) (hd : y.cls = own ∧ y.cls ≠ "java/lang/invoke/MethodHandle" ∧ y.cls ≠ "java/lang/invoke/VarHandle" ∧ (parseMethodDescriptor y.desc).map (fun d => d.parameters.length) = some As.length) (hR : d + 1 ≤ R.frames ∧ 8 + (nL' + 11) + 64 * d ≤ R.locals) (hf : cells + mc ≤ R.cells ∧ slots + ms ≤ R.slots) (hw : (st.map fun v => v.category).sum ≤ 8) (hdg : decode cc pc = .ok (.invokestatic index, 3)) (hst : st0 = As.reverse ++ st) (kk : ∀ (v : Option Value) (u : Sto), Post v u → Wk p l e R s m args below meth c Q g nL (cells + mc) (slots + ms) (pc + 3) lv (v.toList ++ st) u) : Wk p l e R s m args below meth c Q g nL cells slots pc lv st0 S := fun H locs ls hP hD hS hR0 hl => by
  have run := va_runS (g := F0 m pc ls st0) (e := e) (below := below) (meth := meth) (rest := st) (H := H) (locs := locs) (cells := cells) (slots := slots) ⟨C.1, C.2.1, C.2.2.1, C.home, C.words⟩ hM (cwS As.length C.words (goodUW (by
    intro w h
    simp only [wsS, List.cons_append, List.nil_append, List.mem_cons] at h
    rcases h with rfl | rfl | rfl | rfl | h
    · exact ml
    · exact stt
    · exact ini
    · exact co
    · exact h)) rfl rfl rfl hd hR) ⟨PcG.blind, fun U hU hW => C.pcg hP hD hS hR0 _ hU hW⟩ rfl rfl hl.1 hst (lv_room hw) hdg hf
  intro T hT X
  obtain ⟨v, st₀, t, T', L, h0, X', hL, e1, e2, ⟨⟨v2, u, hv, hp, hP1, hD1, hR1⟩, hF⟩, stp⟩ := run T hT X
  cases hv
  have hS1 : va_S (ge (gB g)) s.heap T'.heap (locs ++ L) := by
    rw [← h0] at hS
    refine ⟨Nat.le_trans hS.1 (by rw [e1]; exact hF.1), fun q h1 h2 => ?_, fun q hq => ?_⟩
    · rw [e1, hF.2 q (Nat.lt_of_lt_of_le h1 hS.1) h2]
      exact hS.2.1 q h1 h2
    · rcases List.mem_append.mp hq with h | h
      · exact hS.2.2 q h
      · exact hL q h
  rw [← e1] at hP1
  obtain ⟨t2, a1, b1⟩ := kk v u hp T'.heap (locs ++ L) ls hP1 hD1 hS1 hR1 hl T' rfl X'
  exact ⟨t2, stp t2 a1, b1⟩
theorem KCallS2 (C : Cx p l s m args meth c cc nL own ret g) (hM : MetS l g y cc' nL' ret' d mc ms As S Post) (ml : Cond.methodLink own index y ∈ UW) (stt : Cond.static y ∈ UW) (ini : Cond.initialized y.cls ∈ UW) (co : Cond.code y cc' nL' ret' ∈ UW) (hd : y.cls ≠ "java/lang/invoke/MethodHandle" ∧ y.cls ≠ "java/lang/invoke/VarHandle" ∧ (parseMethodDescriptor y.desc).map (fun d => d.parameters.length) = some As.length) (hR : d + 1 ≤ R.frames ∧ 8 + (nL' + 11) + 64 * d ≤ R.locals) (hf : cells + mc ≤ R.cells ∧ slots + ms ≤ R.slots) (hw : (st.map fun v => v.category).sum ≤ 8) (hdg : decode cc pc = .ok (.invokestatic index, 3)) (hst : st0 = As.reverse ++ st) (kk : ∀ (v : Option Value) (u : Sto), Post v u → Wk p l e R s m args below meth c Q g nL (cells + mc) (slots + ms) (pc + 3) lv (v.toList ++ st) u) : Wk p l e R s m args below meth c Q g nL cells slots pc lv st0 S := fun H locs ls hP hD hS hR0 hl => by
  have run := va_runS (g := F0 m pc ls st0) (e := e) (below := below) (meth := meth) (rest := st) (H := H) (locs := locs) (cells := cells) (slots := slots) ⟨C.1, C.2.1, C.2.2.1, C.home, C.words⟩ hM ⟨callB_of As.length C.words (goodUW (fun w h => code_head h co)) rfl rfl rfl (C.words _ ini) (C.words _ ml) hd hR, C.words _ stt⟩ ⟨PcG.blind, fun U hU hW => C.pcg hP hD hS hR0 _ hU hW⟩ rfl rfl hl.1 hst (lv_room hw) hdg hf
  intro T hT X
  obtain ⟨v, st₀, t, T', L, h0, X', hL, e1, e2, ⟨⟨v2, u, hv, hp, hP1, hD1, hR1⟩, hF⟩, stp⟩ := run T hT X
  cases hv
  have hS1 : va_S (ge (gB g)) s.heap T'.heap (locs ++ L) := by
    rw [← h0] at hS
    refine ⟨Nat.le_trans hS.1 (by rw [e1]; exact hF.1), fun q h1 h2 => ?_, fun q hq => ?_⟩
    · rw [e1, hF.2 q (Nat.lt_of_lt_of_le h1 hS.1) h2]
      exact hS.2.1 q h1 h2
    · rcases List.mem_append.mp hq with h | h
      · exact hS.2.2 q h
      · exact hL q h
  rw [← e1] at hP1
  obtain ⟨t2, a1, b1⟩ := kk v u hp T'.heap (locs ++ L) ls hP1 hD1 hS1 hR1 hl T' rfl X'
  exact ⟨t2, stp t2 a1, b1⟩
theorem KCallSN (C : Cx p l s m args meth c cc nL own ret g) (hM : MetS l g y cc' nL' ret' d mc ms As S Post) {host : String} (ml : Cond.methodLinkNest own index y host ∈ UN) (stt : Cond.static y ∈ UW) (ini : Cond.initialized y.cls ∈ UW) (co : Cond.code y cc' nL' ret' ∈ UW) (hd : y.cls ≠ "java/lang/invoke/MethodHandle" ∧ y.cls ≠ "java/lang/invoke/VarHandle" ∧ (parseMethodDescriptor y.desc).map (fun d => d.parameters.length) = some As.length) (hR : d + 1 ≤ R.frames ∧ 8 + (nL' + 11) + 64 * d ≤ R.locals) (hf : cells + mc ≤ R.cells ∧ slots + ms ≤ R.slots) (hw : (st.map fun v => v.category).sum ≤ 8) (hdg : decode cc pc = .ok (.invokestatic index, 3)) (hst : st0 = As.reverse ++ st) (kk : ∀ (v : Option Value) (u : Sto), Post v u → Wk p l e R s m args below meth c Q g nL (cells + mc) (slots + ms) (pc + 3) lv (v.toList ++ st) u) : Wk p l e R s m args below meth c Q g nL cells slots pc lv st0 S := fun H locs ls hP hD hS hR0 hl => by
  have run := va_runSN (g := F0 m pc ls st0) (e := e) (below := below) (meth := meth) (rest := st) (H := H) (locs := locs) (cells := cells) (slots := slots) ⟨C.1, C.2.1, C.2.2.1, C.home, C.words⟩ hM ⟨va_cnB As.length C.words (goodUW (fun w h => code_head h co)) rfl rfl rfl (C.nws.1 _ ml) (C.words _ ini) hd hR, C.words _ stt, trivial⟩ ⟨PcG.blind, fun U hU hW => C.pcg hP hD hS hR0 _ hU hW⟩ rfl rfl hl.1 hst (lv_room hw) hdg hf
  intro T hT X
  obtain ⟨v, st₀, t, T', L, h0, X', hL, e1, e2, ⟨⟨v2, u, hv, hp, hP1, hD1, hR1⟩, hF⟩, stp⟩ := run T hT X
  cases hv
  have hS1 : va_S (ge (gB g)) s.heap T'.heap (locs ++ L) := by
    rw [← h0] at hS
    refine ⟨Nat.le_trans hS.1 (by rw [e1]; exact hF.1), fun q h1 h2 => ?_, fun q hq => ?_⟩
    · rw [e1, hF.2 q (Nat.lt_of_lt_of_le h1 hS.1) h2]
      exact hS.2.1 q h1 h2
    · rcases List.mem_append.mp hq with h | h
      · exact hS.2.2 q h
      · exact hL q h
  rw [← e1] at hP1
  obtain ⟨t2, a1, b1⟩ := kk v u hp T'.heap (locs ++ L) ls hP1 hD1 hS1 hR1 hl T' rfl X'
  exact ⟨t2, stp t2 a1, b1⟩
theorem KCallI (C : Cx p l s m args meth c cc nL own ret g) (hM : MetS l g y cc' nL' none d mc ms (.ref b :: As) S Post) (ml : Cond.methodLink own index y ∈ UW) (im : Cond.instanceMethod y ∈ UW) (ini : Cond.initialized y.cls ∈ UW) (co : Cond.code y cc' nL' none ∈ UW) (hy1 : y.name = "<init>") (hd : y.cls ≠ "java/lang/invoke/MethodHandle" ∧ y.cls ≠ "java/lang/invoke/VarHandle" ∧ (parseMethodDescriptor y.desc).map (fun d => d.parameters.length) = some As.length) (hR : d + 1 ≤ R.frames ∧ 8 + (nL' + 11) + 64 * d ≤ R.locals) (hf : cells + mc ≤ R.cells ∧ slots + ms ≤ R.slots) (hw : (st.map fun v => v.category).sum ≤ 8) (hdg : decode cc pc = .ok (.invokespecial index, 3)) (hst : st0 = As.reverse ++ .ref b :: st) (kk : ∀ (v : Option Value) (u : Sto), Post v u → Wk p l e R s m args below meth c Q g nL (cells + mc) (slots + ms) (pc + 3) lv (v.toList ++ st) u) : Wk p l e R s m args below meth c Q g nL cells slots pc lv st0 S := fun H locs ls hP hD hS hR0 hl => by
  have run := va_runI (g := F0 m pc ls st0) (e := e) (below := below) (meth := meth) (rest := st) (H := H) (locs := locs) (cells := cells) (slots := slots) (As := As) (b := b) ⟨C.1, C.2.1, C.2.2.1, C.home, C.words⟩ hM ⟨callB_of As.length C.words (goodUW (fun w h => code_head h co)) rfl rfl rfl (C.words _ ini) (C.words _ ml) hd hR, hy1, C.words _ im⟩ ⟨PcG.blind, fun U hU hW => C.pcg hP hD hS hR0 _ hU hW⟩ rfl rfl hl.1 hst (lv_room hw) hdg hf
  intro T hT X
  obtain ⟨v, st₀, t, T', L, h0, X', hL, e1, e2, ⟨⟨v2, u, hv, hp, hP1, hD1, hR1⟩, hF⟩, stp⟩ := run T hT X
  cases hv
  have hS1 : va_S (ge (gB g)) s.heap T'.heap (locs ++ L) := by
    rw [← h0] at hS
    refine ⟨Nat.le_trans hS.1 (by rw [e1]; exact hF.1), fun q h1 h2 => ?_, fun q hq => ?_⟩
    · rw [e1, hF.2 q (Nat.lt_of_lt_of_le h1 hS.1) h2]
      exact hS.2.1 q h1 h2
    · rcases List.mem_append.mp hq with h | h
      · exact hS.2.2 q h
      · exact hL q h
  rw [← e1] at hP1
  obtain ⟨t2, a1, b1⟩ := kk v u hp T'.heap (locs ++ L) ls hP1 hD1 hS1 hR1 hl T' rfl X'
  exact ⟨t2, stp t2 a1, b1⟩
theorem KCallVX (C : Cx p l s m args meth c cc nL own ret g) (hM : MetX l g y cc' nL' ret' d mc ms (.ref b :: As) S Post Thr) (hne : ∀ x ∈ c.exceptionTable.toList, False) (ht : ∀ E u, Thr E u → ThrO E u) (hc : cells + mc ≤ mcO ∧ slots + ms ≤ msO) (ml : Cond.methodLink own index y ∈ UW) (im : Cond.instanceMethod y ∈ UW) (se : Cond.selects Cn y y ∈ UW) (ini : Cond.initialized Cn ∈ UW) (co : Cond.code y cc' nL' ret' ∈ UW) (hd : y.cls = Cn ∧ y.cls ≠ "java/lang/invoke/MethodHandle" ∧ y.cls ≠ "java/lang/invoke/VarHandle" ∧ (parseMethodDescriptor y.desc).map (fun d => d.parameters.length) = some As.length) (ha : At0 S b ci) (hci : ci < 20) {q : vw_C} (hq : vwCl[ci]? = some q) (hn : q.1 = Cn) (hR : d + 1 ≤ R.frames ∧ 8 + (nL' + 11) + 64 * d ≤ R.locals) (hf : cells + mc ≤ R.cells ∧ slots + ms ≤ R.slots) (hw : (st.map fun v => v.category).sum ≤ 8) (hdg : decode cc pc = .ok (.invokevirtual index, 3)) (hst : st0 = As.reverse ++ .ref b :: st) (kk : ∀ (v : Option Value) (u : Sto), Post v u → Wk p l e R s m args below meth c (vx_MQ below (QcG g PostO) (XcG g ThrO) args s mcO msO (ge (gB g))) g nL (cells + mc) (slots + ms) (pc + 3) lv (v.toList ++ st) u) : Wk p l e R s m args below meth c (vx_MQ below (QcG g PostO) (XcG g ThrO) args s mcO msO (ge (gB g))) g nL cells slots pc lv st0 S := fun H locs ls hP hD hS hR0 hl => by
  have run := vx_runV (g := F0 m pc ls st0) (e := e) (below := below) (meth := meth) (rest := st) (H := H) (locs := locs) (cells := cells) (slots := slots) ⟨C.1, C.2.1, C.2.2.1, C.home, C.words⟩ hM (cwV As.length C.words (goodUW (by
    intro w h
    simp only [wsV, List.cons_append, List.nil_append, List.mem_cons] at h
    rcases h with rfl | rfl | rfl | rfl | rfl | h
    · exact ml
    · exact im
    · exact se
    · exact ini
    · exact co
    · exact h)) rfl rfl rfl hd hR) ⟨PcG.blind, recvK C hP ha hci hq hn, fun U hU hW => C.pcg hP hD hS hR0 _ hU hW⟩ rfl rfl hl.1 hst (lv_room hw) hdg hf
  intro T hT X
  rcases run T hT X with ⟨v, st₀, t, T', L, h0, X', hL, e1, e2, ⟨⟨v2, u, hv, hp, hP1, hD1, hR1⟩, hF⟩, stp⟩ | ⟨q, st₀, t, T', L, E, ce, h0, X', hL, e1, e2, ⟨⟨u, hp, hP1, hD1, hR1⟩, hF⟩, hce, hcv, hcl, stp⟩
  · cases hv
    have hS1 : va_S (ge (gB g)) s.heap T'.heap (locs ++ L) := by
      rw [← h0] at hS
      refine ⟨Nat.le_trans hS.1 (by rw [e1]; exact hF.1), fun q h1 h2 => ?_, fun q hq => ?_⟩
      · rw [e1, hF.2 q (Nat.lt_of_lt_of_le h1 hS.1) h2]
        exact hS.2.1 q h1 h2
      · rcases List.mem_append.mp hq with h | h
        · exact hS.2.2 q h
        · exact hL q h
    rw [← e1] at hP1
    obtain ⟨t2, a1, b1⟩ := kk v u hp T'.heap (locs ++ L) ls hP1 hD1 hS1 hR1 hl T' rfl X'
    exact ⟨t2, stp t2 a1, b1⟩
  · have hS1 : va_S (ge (gB g)) s.heap T'.heap (locs ++ L) := by
      rw [← h0] at hS
      refine ⟨Nat.le_trans hS.1 (by rw [e1]; exact hF.1), fun q h1 h2 => ?_, fun q hq => ?_⟩
      · rw [e1, hF.2 q (Nat.lt_of_lt_of_le h1 hS.1) h2]
        exact hS.2.1 q h1 h2
      · rcases List.mem_append.mp hq with h | h
        · exact hS.2.2 q h
        · exact hL q h
    have hcell : T'.heap[q]? = some ce := by rw [e1]; exact hce
    obtain ⟨t2, a1, b1⟩ := vx_out (pc := pc) (ls := ls) (rest := st) (Qc := QcG g PostO) (XC := XcG g ThrO) (free := ge (gB g)) (mc := mcO) (ms := msO) (fun x hx => (hne x hx).elim) C.locks hcell hcv hcl
      (fun t9 ht9 _ => ⟨⟨u, ht E u hp, by rw [ht9, e1]; exact hP1, hD1, hR1⟩, hS1.F ht9⟩) (fun z hz => hS1.2.2 z hz) hc.1 hc.2 T' rfl X'
    exact ⟨t2, stp.trans a1, b1⟩
theorem KCallSX (C : Cx p l s m args meth c cc nL own ret g) (hM : MetX l g y cc' nL' ret' d mc ms As S Post Thr) (hne : ∀ x ∈ c.exceptionTable.toList, False) (ht : ∀ E u, Thr E u → ThrO E u) (hc : cells + mc ≤ mcO ∧ slots + ms ≤ msO) (ml : Cond.methodLink own index y ∈ UW) (stt : Cond.static y ∈ UW) (ini : Cond.initialized own ∈ UW) (co : Cond.code y cc' nL' ret' ∈ UW) (hd : y.cls = own ∧ y.cls ≠ "java/lang/invoke/MethodHandle" ∧ y.cls ≠ "java/lang/invoke/VarHandle" ∧ (parseMethodDescriptor y.desc).map (fun d => d.parameters.length) = some As.length) (hR : d + 1 ≤ R.frames ∧ 8 + (nL' + 11) + 64 * d ≤ R.locals) (hf : cells + mc ≤ R.cells ∧ slots + ms ≤ R.slots) (hw : (st.map fun v => v.category).sum ≤ 8) (hdg : decode cc pc = .ok (.invokestatic index, 3)) (hst : st0 = As.reverse ++ st) (kk : ∀ (v : Option Value) (u : Sto), Post v u → Wk p l e R s m args below meth c (vx_MQ below (QcG g PostO) (XcG g ThrO) args s mcO msO (ge (gB g))) g nL (cells + mc) (slots + ms) (pc + 3) lv (v.toList ++ st) u) : Wk p l e R s m args below meth c (vx_MQ below (QcG g PostO) (XcG g ThrO) args s mcO msO (ge (gB g))) g nL cells slots pc lv st0 S := fun H locs ls hP hD hS hR0 hl => by
  have run := vx_runS (g := F0 m pc ls st0) (e := e) (below := below) (meth := meth) (rest := st) (H := H) (locs := locs) (cells := cells) (slots := slots) ⟨C.1, C.2.1, C.2.2.1, C.home, C.words⟩ hM (cwS As.length C.words (goodUW (by
    intro w h
    simp only [wsS, List.cons_append, List.nil_append, List.mem_cons] at h
    rcases h with rfl | rfl | rfl | rfl | h
    · exact ml
    · exact stt
    · exact ini
    · exact co
    · exact h)) rfl rfl rfl hd hR) ⟨PcG.blind, fun U hU hW => C.pcg hP hD hS hR0 _ hU hW⟩ rfl rfl hl.1 hst (lv_room hw) hdg hf
  intro T hT X
  rcases run T hT X with ⟨v, st₀, t, T', L, h0, X', hL, e1, e2, ⟨⟨v2, u, hv, hp, hP1, hD1, hR1⟩, hF⟩, stp⟩ | ⟨q, st₀, t, T', L, E, ce, h0, X', hL, e1, e2, ⟨⟨u, hp, hP1, hD1, hR1⟩, hF⟩, hce, hcv, hcl, stp⟩
  · cases hv
    have hS1 : va_S (ge (gB g)) s.heap T'.heap (locs ++ L) := by
      rw [← h0] at hS
      refine ⟨Nat.le_trans hS.1 (by rw [e1]; exact hF.1), fun q h1 h2 => ?_, fun q hq => ?_⟩
      · rw [e1, hF.2 q (Nat.lt_of_lt_of_le h1 hS.1) h2]
        exact hS.2.1 q h1 h2
      · rcases List.mem_append.mp hq with h | h
        · exact hS.2.2 q h
        · exact hL q h
    rw [← e1] at hP1
    obtain ⟨t2, a1, b1⟩ := kk v u hp T'.heap (locs ++ L) ls hP1 hD1 hS1 hR1 hl T' rfl X'
    exact ⟨t2, stp t2 a1, b1⟩
  · have hS1 : va_S (ge (gB g)) s.heap T'.heap (locs ++ L) := by
      rw [← h0] at hS
      refine ⟨Nat.le_trans hS.1 (by rw [e1]; exact hF.1), fun q h1 h2 => ?_, fun q hq => ?_⟩
      · rw [e1, hF.2 q (Nat.lt_of_lt_of_le h1 hS.1) h2]
        exact hS.2.1 q h1 h2
      · rcases List.mem_append.mp hq with h | h
        · exact hS.2.2 q h
        · exact hL q h
    have hcell : T'.heap[q]? = some ce := by rw [e1]; exact hce
    obtain ⟨t2, a1, b1⟩ := vx_out (pc := pc) (ls := ls) (rest := st) (Qc := QcG g PostO) (XC := XcG g ThrO) (free := ge (gB g)) (mc := mcO) (ms := msO) (fun x hx => (hne x hx).elim) C.locks hcell hcv hcl
      (fun t9 ht9 _ => ⟨⟨u, ht E u hp, by rw [ht9, e1]; exact hP1, hD1, hR1⟩, hS1.F ht9⟩) (fun z hz => hS1.2.2 z hz) hc.1 hc.2 T' rfl X'
    exact ⟨t2, stp.trans a1, b1⟩
theorem KThrow (C : Cx p l s m args meth c cc nL own ret g) {cls text : String} {ik is ic : Nat} (hnt : l.stackTraces = false) (hne : ∀ x ∈ c.exceptionTable.toList, False) (hcls : Bundle.fit cls = true) (hk : Cond.classLink own ik cls ∈ UW) (hini : Cond.initialized cls ∈ UW) (hstr : ∃ sa, vk_R own is text sa s) (hat : ∀ w ∈ vx_atS own ic cls ["java/lang/RuntimeException", "java/lang/Exception"], w.before args s = true) (hgood : ∀ w ∈ Cond.classLink own ik cls :: Cond.initialized cls :: vx_atS own ic cls ["java/lang/RuntimeException", "java/lang/Exception"], vx_ot w = true)
    (hRf : 5 < R.frames) (hRl : (st.map fun v => v.category).sum + 82 ≤ R.locals) (hRc : cells + 1 ≤ R.cells ∧ slots + 6 ≤ R.slots) (hx : ThrO cls S) (hc : cells + 1 ≤ mcO ∧ slots + 6 ≤ msO)
    (d0 : decode cc pc = .ok (.new ik, 3)) (d3 : decode cc (pc + 3) = .ok (.dup, 1)) (d4 : decode cc (pc + 4) = .ok (.ldc is, 2)) (d6 : decode cc (pc + 6) = .ok (.invokespecial ic, 3)) (d9 : decode cc (pc + 9) = .ok (.athrow, 1)) : Wk p l e R s m args below meth c (vx_MQ below (QcG g PostO) (XcG g ThrO) args s mcO msO (ge (gB g))) g nL cells slots pc lv st S := fun H locs ls hP hD hS hR hl => by
  obtain ⟨sa, hstr⟩ := hstr
  refine vx_throwS (A := ge (gB g)) C.1 C.2.1 hnt C.home hcls (fun n h => by
    rcases List.mem_cons.mp h with h1 | h1
    · rw [h1]; decide +kernel
    · rw [List.mem_singleton.mp h1]; decide +kernel) (C.words _ hk) (C.words _ hini) hstr hat hgood C.sta.1 C.sta.2.1 hS (hl.1.trans C.2.2.1.symm) d0 d3 d4 d6 d9 (fun x h => (hne x h).elim) hRf (by show _ + (13 * (2 + 1) + 43) ≤ _; omega) hRc.1 hRc.2 C.locks ?_ (fun z h => hS.2.2 z h) hc.1 hc.2
  intro t hal hsz hkeep
  refine ⟨⟨S, hx, ?_, hD, hR⟩, Nat.le_trans hS.1 hsz, fun q h1 h2 => ?_⟩
  · exact hP.kept (fun k q hq => hkeep q.1 ((hP k q hq).lt))
  · rw [hkeep q (Nat.lt_of_lt_of_le h1 hS.1)]
    exact hS.2.1 q h1 h2
theorem KMmax (C : Cx p l s m args meth c cc nL own ret g) {x y z : Int} (hx : inR x) (hy : inR y) (hz : (if x < y then y else x) = z) (ml : Cond.methodLink own index Lib.Math.max.name ∈ UW) (stt : Cond.static Lib.Math.max.name ∈ UW) (ini : Cond.initialized "java/lang/Math" ∈ UW) (co : Cond.code Lib.Math.max.name Lib.Math.max.code 2 (some .int) ∈ UW) (hR : 1 ≤ R.frames ∧ (st.map fun v => v.category).sum + 13 ≤ R.locals) (hf : cells ≤ R.cells ∧ slots ≤ R.slots) (hdg : decode cc pc = .ok (.invokestatic index, 3)) (kk : Wk p l e R s m args below meth c Q g nL cells slots (pc + 3) lv (.int (iI z) :: st) S) : Wk p l e R s m args below meth c Q g nL cells slots pc lv (.int (iI y) :: .int (iI x) :: st) S := fun H locs ls hP hD hS hR0 hl => by
  refine va_mmax C.1 C.2.1 (C.2.2.1.trans hl.1.symm) C.home (C.words _ ml) (C.words _ stt) (C.words _ ini) (C.words _ co) hR.1 hR.2 hf.1 hf.2 hdg ?_
  have h : (if iI x < iI y then iI y else iI x) = iI z := by
    rw [← hz]
    split <;> split
    · rfl
    · next h1 h2 => exact absurd ((iI_lt hx hy).mp h1) h2
    · next h1 h2 => exact absurd ((iI_lt hx hy).mpr h2) h1
    · rfl
  rw [h]
  exact kk H locs ls hP hD hS hR0 hl
theorem KMmin (C : Cx p l s m args meth c cc nL own ret g) {x y z : Int} (hx : inR x) (hy : inR y) (hz : (if y < x then y else x) = z) (ml : Cond.methodLink own index Lib.Math.min.name ∈ UW) (stt : Cond.static Lib.Math.min.name ∈ UW) (ini : Cond.initialized "java/lang/Math" ∈ UW) (co : Cond.code Lib.Math.min.name Lib.Math.min.code 2 (some .int) ∈ UW) (hR : 1 ≤ R.frames ∧ (st.map fun v => v.category).sum + 13 ≤ R.locals) (hf : cells ≤ R.cells ∧ slots ≤ R.slots) (hdg : decode cc pc = .ok (.invokestatic index, 3)) (kk : Wk p l e R s m args below meth c Q g nL cells slots (pc + 3) lv (.int (iI z) :: st) S) : Wk p l e R s m args below meth c Q g nL cells slots pc lv (.int (iI y) :: .int (iI x) :: st) S := fun H locs ls hP hD hS hR0 hl => by
  refine va_mmin C.1 C.2.1 (C.2.2.1.trans hl.1.symm) C.home (C.words _ ml) (C.words _ stt) (C.words _ ini) (C.words _ co) hR.1 hR.2 hf.1 hf.2 hdg ?_
  have h : (if iI y < iI x then iI y else iI x) = iI z := by
    rw [← hz]
    split <;> split
    · rfl
    · next h1 h2 => exact absurd ((iI_lt hy hx).mp h1) h2
    · next h1 h2 => exact absurd ((iI_lt hy hx).mpr h2) h1
    · rfl
  rw [h]
  exact kk H locs ls hP hD hS hR0 hl
theorem KMabs (C : Cx p l s m args meth c cc nL own ret g) {x z : Int} (hx : inR x) (hz : (if 0 ≤ x then x else 0 - x) = z) (ml : Cond.methodLink own index Lib.Math.abs.name ∈ UW) (stt : Cond.static Lib.Math.abs.name ∈ UW) (ini : Cond.initialized "java/lang/Math" ∈ UW) (co : Cond.code Lib.Math.abs.name Lib.Math.abs.code 1 (some .int) ∈ UW) (hR : 1 ≤ R.frames ∧ (st.map fun v => v.category).sum + 13 ≤ R.locals) (hf : cells ≤ R.cells ∧ slots ≤ R.slots) (hdg : decode cc pc = .ok (.invokestatic index, 3)) (kk : Wk p l e R s m args below meth c Q g nL cells slots (pc + 3) lv (.int (iI z) :: st) S) : Wk p l e R s m args below meth c Q g nL cells slots pc lv (.int (iI x) :: st) S := fun H locs ls hP hD hS hR0 hl => by
  refine va_mabs C.1 C.2.1 (C.2.2.1.trans hl.1.symm) C.home (C.words _ ml) (C.words _ stt) (C.words _ ini) (C.words _ co) hR.1 hR.2 hf.1 hf.2 hdg ?_
  have h : (if 0 ≤ iI x then iI x else 0 - iI x) = iI z := by
    rw [← hz]
    split <;> split
    · rfl
    · next h1 h2 => exact absurd ((iI_le inR_0 hx).mp (iI_0 ▸ h1)) h2
    · next h1 h2 => exact absurd (iI_0 ▸ (iI_le inR_0 hx).mpr h2) h1
    · rw [iI_0, iI_sub]
  rw [h]
  exact kk H locs ls hP hD hS hR0 hl
end
