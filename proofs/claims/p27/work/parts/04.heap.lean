theorem iI_nat (n : Nat) : iI (n : Int) = Int32.ofNat n := by
  unfold iI
  rfl

theorem cel_obj {cy : Nat → ClassId} {S : Sto} {a ci : Nat} (h : sK S a = ci) (hci : ci < 20) : cel cy S a = .inr (ci, flds S a (tyF ci)) := by
  unfold cel
  rw [h, if_neg (by omega), if_neg (by omega), if_neg (by omega), if_neg (by omega)]
theorem cel_I {cy : Nat → ClassId} {S : Sto} {a : Nat} (h : sK S a = 20) : cel cy S a = .inl (cy 0, sN S a, .inl (fun j => iI (sI S a j))) := by
  unfold cel
  rw [if_pos h]
theorem cel_O {cy : Nat → ClassId} {S : Sto} {a : Nat} (h : sK S a = 21) : cel cy S a = .inl (cy 1, sN S a, .inr (.inr (.inr (.inr (fun j => sP S a j))))) := by
  unfold cel
  rw [if_neg (by omega), if_pos h]
theorem cel_G {cy : Nat → ClassId} {S : Sto} {a : Nat} (h : sK S a = 22) : cel cy S a = .inl (cy 2, sN S a, .inr (.inr (.inr (.inr (fun j => sP S a j))))) := by
  unfold cel
  rw [if_neg (by omega), if_neg (by omega), if_pos h]
theorem cel_J {cy : Nat → ClassId} {S : Sto} {a : Nat} (h : sK S a = 23) : cel cy S a = .inl (cy 3, sN S a, .inr (.inl (fun j => lI (sJ S a j)))) := by
  unfold cel
  rw [if_neg (by omega), if_neg (by omega), if_neg (by omega), if_pos h]
theorem fld_uI_ne {S : Sto} {a j t : Nat} {kz v : Int} (h : (j : Int) ≠ kz) : fld (uI S a kz v) a j t = fld S a j t := by
  show (if t = 0 then Value.int (iI (up2 (sI S) a kz v a j)) else if t = 1 then va_rf (sP S a j) else .long (lI (sJ S a j))) = _
  rw [up2_nk _ _ _ _ h]
  rfl
theorem fld_uP_ne {S : Sto} {a j t : Nat} {kz : Int} {v : Option Nat} (h : (j : Int) ≠ kz) : fld (uP S a kz v) a j t = fld S a j t := by
  show (if t = 0 then Value.int (iI (sI S a j)) else if t = 1 then va_rf (up2 (sP S) a kz v a j) else .long (lI (sJ S a j))) = _
  rw [up2_nk _ _ _ _ h]
  rfl
theorem fld_uJ_ne {S : Sto} {a j t : Nat} {kz v : Int} (h : (j : Int) ≠ kz) : fld (uJ S a kz v) a j t = fld S a j t := by
  show (if t = 0 then Value.int (iI (sI S a j)) else if t = 1 then va_rf (sP S a j) else .long (lI (up2 (sJ S) a kz v a j))) = _
  rw [up2_nk _ _ _ _ h]
  rfl
theorem flds_set {S T : Sto} {a k : Nat} {ts : List Nat} {t : Nat} {x : Value} (h : ts[k]? = some t) (h1 : fld T a k t = x) (h2 : ∀ j u, j ≠ k → fld T a j u = fld S a j u) : (flds S a ts).set k x = flds T a ts := by
  refine List.ext_getElem? fun j => ?_
  rw [List.getElem?_set, flds_get, flds_get, flds_len]
  by_cases hj : k = j
  · subst hj
    have hlt : k < ts.length := (List.getElem?_eq_some_iff.mp h).1
    rw [if_pos rfl, if_pos hlt, h]
    show some x = some (fld T a k t)
    rw [h1]
  · rw [if_neg hj]
    cases hu : ts[j]? with
    | none => rfl
    | some u =>
      show some (fld S a j u) = some (fld T a j u)
      rw [h2 j u (fun z => hj z.symm)]
theorem kz_ne {k j : Nat} {kz : Int} (hz : (k : Int) = kz) (h : j ≠ k) : (j : Int) ≠ kz := by omega
section
variable {p : Program} {l : Launch} {e : Env} {R : Room} {s : State} {m : MethodId} {args : Array Value} {below : List Frame} {meth : Method} {c : Code} {Q : State → Prop} {cc : ByteArray} {nL : Nat} {own : String} {ret : Option FieldType} {g : GG} {cells slots pc : Nat} {lv lv' : List (Nat × Value)} {st : List Value} {S : Sto} {a : Nat}
theorem Cx.home (C : Cx p l s m args meth c cc nL own ret g) : s.vm.findClass own = some m.cls := C.2.2.2.1
theorem Cx.words (C : Cx p l s m args meth c cc nL own ret g) : ∀ w ∈ UW, w.before args s = true := C.2.2.2.2.1
theorem Cx.tabs (C : Cx p l s m args meth c cc nL own ret g) : va_K (gD g) vwCl (tyl (gC g)) s := C.2.2.2.2.2.1
theorem Cx.sta (C : Cx p l s m args meth c cc nL own ret g) : Sta g s s.heap := C.2.2.2.2.2.2.1
theorem Cx.base (C : Cx p l s m args meth c cc nL own ret g) : gB g ≤ s.heap.size := C.2.2.2.2.2.2.2.1
theorem Cx.rett (C : Cx p l s m args meth c cc nL own ret g) : meth.sig.returnType = ret := C.2.2.2.2.2.2.2.2.1
theorem Cx.locks (C : Cx p l s m args meth c cc nL own ret g) : meth.locks = false := C.2.2.2.2.2.2.2.2.2.1
theorem Cx.nws (C : Cx p l s m args meth c cc nL own ret g) : Nws s := C.2.2.2.2.2.2.2.2.2.2
theorem Cx.old (C : Cx p l s m args meth c cc nL own ret g) : ∀ q : Nat, s.heap.size ≤ q → ge (gB g) q := fun _ h => Nat.le_trans C.base h
theorem KGetI (C : Cx p l s m args meth c cc nL own ret g) {ref Cn : String} {T : u_T} {N ci index : Nat} (hin : ∀ w ∈ u_ws Cn T N, w ∈ UW) (hc : vwCl[ci]? = some (Cn, T, N)) (hci : ci < 20) (k : Nat) (kz : Int) (hz : (k : Int) = kz) (hk : k < N) (ht : (tyF ci)[k]? = some 0) (hlink : Cond.fieldLink own index ref (T k).2.1 (T k).2.2.1 ∈ UW) (ha : At0 S a ci) {v : Int} (hv : sI S a kz = v) (hdg : decode cc pc = .ok (.getfield index, 3)) (hsame : ∀ x, s.fieldFound? (T k).1 (T k).2.1 (T k).2.2.1 = some x → s.fieldFound? ref (T k).2.1 (T k).2.2.1 = some x) (kk : Wk p l e R s m args below meth c Q g nL cells slots (pc + 3) lv (.int (iI v) :: st) S) : Wk p l e R s m args below meth c Q g nL cells slots pc lv (.ref a :: st) S := fun H locs ls hP hD hS hR hl => by
  obtain ⟨q0, hq⟩ := pol_get (cy := gC g) ha.1
  rw [cel_obj ha.2 hci] at hq
  exact va_get C.1 C.2.1 C.words hin C.home C.tabs hP q0 hq hc k hk (C.words _ hlink) hsame (v := .int (iI v)) (by
    rw [flds_get, ht, ← hv, ← hz]
    rfl) hdg (kk H locs ls hP hD hS hR hl)
theorem KPutI (C : Cx p l s m args meth c cc nL own ret g) {ref Cn : String} {T : u_T} {N ci index : Nat} (hin : ∀ w ∈ u_ws Cn T N, w ∈ UW) (hc : vwCl[ci]? = some (Cn, T, N)) (hci : ci < 20) (k : Nat) (kz : Int) (hz : (k : Int) = kz) (hk : k < N) (ht : (tyF ci)[k]? = some 0) (hlink : Cond.fieldLink own index ref (T k).2.1 (T k).2.2.1 ∈ UW) (ty0 : Nat → FieldType) (hty : ∀ k, k < N → parseFieldDescriptor (T k).2.2.1 = some (ty0 k)) (hnm : ∀ a, a < N → ∀ b, b < N → a ≠ b → (T a).2.1 ≠ (T b).2.1) (ha : At0 S a ci) {v : Int} (hr : inR v) {ty : FieldType} (hd : parseFieldDescriptor (T k).2.2.1 = some ty) (hn : narrow ty (.int (iI v)) = .int (iI v)) (hfit : fits ty (.int (iI v)) = true) (hfin : (T k).2.2.2 = false) (hdg : decode cc pc = .ok (.putfield index, 3)) (hsame : ∀ x, s.fieldFound? (T k).1 (T k).2.1 (T k).2.2.1 = some x → s.fieldFound? ref (T k).2.1 (T k).2.2.1 = some x) (kk : Wk p l e R s m args below meth c Q g nL cells slots (pc + 3) lv st (uI S a kz v)) : Wk p l e R s m args below meth c Q g nL cells slots pc lv (.int (iI v) :: .ref a :: st) S := fun H locs ls hP hD hS hR hl => by
  obtain ⟨q0, hq⟩ := pol_get (cy := gC g) ha.1
  have hq0 := hq
  rw [cel_obj ha.2 hci] at hq
  refine va_put C.1 C.2.1 C.words hin ty0 hty hnm C.home C.tabs hP hD hS q0 hq hc k hk (C.words _ hlink) hsame hfin hd hn hfit (by rw [flds_len]; exact (List.getElem?_eq_some_iff.mp ht).1) hdg (fun H1 locs1 hP1 hD1 hS1 => ?_)
  have hset : (pol (gC g) S).set q0 (a, .inr (ci, (flds S a (tyF ci)).set k (.int (iI v)))) = pol (gC g) (uI S a kz v) := by
    refine pol_set hD ha.1 hq0 rfl ?_ (fun b hb => ?_)
    · refine (cel_obj (S := uI S a kz v) ha.2 hci).trans ?_
      congr 2
      refine (flds_set ht ?_ (fun j u hj => fld_uI_ne (kz_ne hz hj))).symm
      subst hz
      show Value.int (iI (up2 (sI S) a (k : Int) v a (k : Int))) = _
      rw [up2_same]
    · exact cel_congr rfl rfl (up2_row _ _ _ hb) rfl rfl
  rw [hset] at hP1 hD1
  exact kk H1 locs1 ls hP1 hD1 hS1 (hR.uI a kz hr) hl
theorem KPutIF (C : Cx p l s m args meth c cc nL own ret g) {ref Cn : String} {T : u_T} {N ci index : Nat} (hin : ∀ w ∈ u_ws Cn T N, w ∈ UW) (hc : vwCl[ci]? = some (Cn, T, N)) (hci : ci < 20) (k : Nat) (kz : Int) (hz : (k : Int) = kz) (hk : k < N) (ht : (tyF ci)[k]? = some 0) (hlink : Cond.fieldLink own index ref (T k).2.1 (T k).2.2.1 ∈ UW) (ty0 : Nat → FieldType) (hty : ∀ k, k < N → parseFieldDescriptor (T k).2.2.1 = some (ty0 k)) (hnm : ∀ a, a < N → ∀ b, b < N → a ≠ b → (T a).2.1 ≠ (T b).2.1) (ha : At0 S a ci) {v : Int} (hr : inR v) {ty : FieldType} (hd : parseFieldDescriptor (T k).2.2.1 = some ty) (hn : narrow ty (.int (iI v)) = .int (iI v)) (hfit : fits ty (.int (iI v)) = true) (hfin : (T k).2.2.2 = true) (hin2 : meth.name = "<init>") (hdecl : (T k).1 = own) (hdg : decode cc pc = .ok (.putfield index, 3)) (hsame : ∀ x, s.fieldFound? (T k).1 (T k).2.1 (T k).2.2.1 = some x → s.fieldFound? ref (T k).2.1 (T k).2.2.1 = some x) (kk : Wk p l e R s m args below meth c Q g nL cells slots (pc + 3) lv st (uI S a kz v)) : Wk p l e R s m args below meth c Q g nL cells slots pc lv (.int (iI v) :: .ref a :: st) S := fun H locs ls hP hD hS hR hl => by
  obtain ⟨q0, hq⟩ := pol_get (cy := gC g) ha.1
  have hq0 := hq
  rw [cel_obj ha.2 hci] at hq
  refine va_putF C.1 C.2.1 C.words hin ty0 hty hnm C.home C.tabs hP hD hS q0 hq hc k hk (C.words _ hlink) hsame hfin hin2 hdecl hd hn hfit (by rw [flds_len]; exact (List.getElem?_eq_some_iff.mp ht).1) hdg (fun H1 locs1 hP1 hD1 hS1 => ?_)
  have hset : (pol (gC g) S).set q0 (a, .inr (ci, (flds S a (tyF ci)).set k (.int (iI v)))) = pol (gC g) (uI S a kz v) := by
    refine pol_set hD ha.1 hq0 rfl ?_ (fun b hb => ?_)
    · refine (cel_obj (S := uI S a kz v) ha.2 hci).trans ?_
      congr 2
      refine (flds_set ht ?_ (fun j u hj => fld_uI_ne (kz_ne hz hj))).symm
      subst hz
      show Value.int (iI (up2 (sI S) a (k : Int) v a (k : Int))) = _
      rw [up2_same]
    · exact cel_congr rfl rfl (up2_row _ _ _ hb) rfl rfl
  rw [hset] at hP1 hD1
  exact kk H1 locs1 ls hP1 hD1 hS1 (hR.uI a kz hr) hl
theorem KGetIN (C : Cx p l s m args meth c cc nL own ret g) {ref Cn host : String} {T : u_T} {N ci index : Nat} (hin : ∀ w ∈ u_ws Cn T N, w ∈ UW) (hc : vwCl[ci]? = some (Cn, T, N)) (hci : ci < 20) (k : Nat) (kz : Int) (hz : (k : Int) = kz) (hk : k < N) (ht : (tyF ci)[k]? = some 0) (hlink : Cond.fieldLinkNest own index ref (T k).2.1 (T k).2.2.1 host ∈ UN) (ha : At0 S a ci) {v : Int} (hv : sI S a kz = v) (hdg : decode cc pc = .ok (.getfield index, 3)) (hsame : ∀ x, s.fieldFound? (T k).1 (T k).2.1 (T k).2.2.1 = some x → s.fieldFound? ref (T k).2.1 (T k).2.2.1 = some x) (kk : Wk p l e R s m args below meth c Q g nL cells slots (pc + 3) lv (.int (iI v) :: st) S) : Wk p l e R s m args below meth c Q g nL cells slots pc lv (.ref a :: st) S := fun H locs ls hP hD hS hR hl => by
  obtain ⟨q0, hq⟩ := pol_get (cy := gC g) ha.1
  rw [cel_obj ha.2 hci] at hq
  exact va_getN C.1 C.2.1 C.words hin C.home C.tabs hP q0 hq hc k hk (va_Nw.use rfl (C.nws.1 _ hlink)) hsame (v := .int (iI v)) (by
    rw [flds_get, ht, ← hv, ← hz]
    rfl) hdg (kk H locs ls hP hD hS hR hl)
theorem KPutIN (C : Cx p l s m args meth c cc nL own ret g) {ref Cn host : String} {T : u_T} {N ci index : Nat} (hin : ∀ w ∈ u_ws Cn T N, w ∈ UW) (hc : vwCl[ci]? = some (Cn, T, N)) (hci : ci < 20) (k : Nat) (kz : Int) (hz : (k : Int) = kz) (hk : k < N) (ht : (tyF ci)[k]? = some 0) (hlink : Cond.fieldLinkNest own index ref (T k).2.1 (T k).2.2.1 host ∈ UN) (ty0 : Nat → FieldType) (hty : ∀ k, k < N → parseFieldDescriptor (T k).2.2.1 = some (ty0 k)) (hnm : ∀ a, a < N → ∀ b, b < N → a ≠ b → (T a).2.1 ≠ (T b).2.1) (ha : At0 S a ci) {v : Int} (hr : inR v) {ty : FieldType} (hd : parseFieldDescriptor (T k).2.2.1 = some ty) (hn : narrow ty (.int (iI v)) = .int (iI v)) (hfit : fits ty (.int (iI v)) = true) (hfin : (T k).2.2.2 = false) (hdg : decode cc pc = .ok (.putfield index, 3)) (hsame : ∀ x, s.fieldFound? (T k).1 (T k).2.1 (T k).2.2.1 = some x → s.fieldFound? ref (T k).2.1 (T k).2.2.1 = some x) (kk : Wk p l e R s m args below meth c Q g nL cells slots (pc + 3) lv st (uI S a kz v)) : Wk p l e R s m args below meth c Q g nL cells slots pc lv (.int (iI v) :: .ref a :: st) S := fun H locs ls hP hD hS hR hl => by
  obtain ⟨q0, hq⟩ := pol_get (cy := gC g) ha.1
  have hq0 := hq
  rw [cel_obj ha.2 hci] at hq
  refine va_putN C.1 C.2.1 C.words hin ty0 hty hnm C.home C.tabs hP hD hS q0 hq hc k hk (va_Nw.use rfl (C.nws.1 _ hlink)) hsame hfin hd hn hfit (by rw [flds_len]; exact (List.getElem?_eq_some_iff.mp ht).1) hdg (fun H1 locs1 hP1 hD1 hS1 => ?_)
  have hset : (pol (gC g) S).set q0 (a, .inr (ci, (flds S a (tyF ci)).set k (.int (iI v)))) = pol (gC g) (uI S a kz v) := by
    refine pol_set hD ha.1 hq0 rfl ?_ (fun b hb => ?_)
    · refine (cel_obj (S := uI S a kz v) ha.2 hci).trans ?_
      congr 2
      refine (flds_set ht ?_ (fun j u hj => fld_uI_ne (kz_ne hz hj))).symm
      subst hz
      show Value.int (iI (up2 (sI S) a (k : Int) v a (k : Int))) = _
      rw [up2_same]
    · exact cel_congr rfl rfl (up2_row _ _ _ hb) rfl rfl
  rw [hset] at hP1 hD1
  exact kk H1 locs1 ls hP1 hD1 hS1 (hR.uI a kz hr) hl
theorem KGetP (C : Cx p l s m args meth c cc nL own ret g) {ref Cn : String} {T : u_T} {N ci index : Nat} (hin : ∀ w ∈ u_ws Cn T N, w ∈ UW) (hc : vwCl[ci]? = some (Cn, T, N)) (hci : ci < 20) (k : Nat) (kz : Int) (hz : (k : Int) = kz) (hk : k < N) (ht : (tyF ci)[k]? = some 1) (hlink : Cond.fieldLink own index ref (T k).2.1 (T k).2.2.1 ∈ UW) (ha : At0 S a ci) {v : Option Nat} (hv : sP S a kz = v) (hdg : decode cc pc = .ok (.getfield index, 3)) (hsame : ∀ x, s.fieldFound? (T k).1 (T k).2.1 (T k).2.2.1 = some x → s.fieldFound? ref (T k).2.1 (T k).2.2.1 = some x) (kk : Wk p l e R s m args below meth c Q g nL cells slots (pc + 3) lv (va_rf v :: st) S) : Wk p l e R s m args below meth c Q g nL cells slots pc lv (.ref a :: st) S := fun H locs ls hP hD hS hR hl => by
  obtain ⟨q0, hq⟩ := pol_get (cy := gC g) ha.1
  rw [cel_obj ha.2 hci] at hq
  exact va_get C.1 C.2.1 C.words hin C.home C.tabs hP q0 hq hc k hk (C.words _ hlink) hsame (v := va_rf v) (by
    rw [flds_get, ht, ← hv, ← hz]
    rfl) hdg (kk H locs ls hP hD hS hR hl)
theorem KGetR (C : Cx p l s m args meth c cc nL own ret g) {ref Cn : String} {T : u_T} {N ci index : Nat} (hin : ∀ w ∈ u_ws Cn T N, w ∈ UW) (hc : vwCl[ci]? = some (Cn, T, N)) (hci : ci < 20) (k : Nat) (kz : Int) (hz : (k : Int) = kz) (hk : k < N) (ht : (tyF ci)[k]? = some 1) (hlink : Cond.fieldLink own index ref (T k).2.1 (T k).2.2.1 ∈ UW) (ha : At0 S a ci) {b : Nat} (hv : sP S a kz = some b) (hdg : decode cc pc = .ok (.getfield index, 3)) (hsame : ∀ x, s.fieldFound? (T k).1 (T k).2.1 (T k).2.2.1 = some x → s.fieldFound? ref (T k).2.1 (T k).2.2.1 = some x) (kk : Wk p l e R s m args below meth c Q g nL cells slots (pc + 3) lv (.ref b :: st) S) : Wk p l e R s m args below meth c Q g nL cells slots pc lv (.ref a :: st) S := KGetP C hin hc hci k kz hz hk ht hlink ha hv hdg hsame kk
theorem KPutP (C : Cx p l s m args meth c cc nL own ret g) {ref Cn : String} {T : u_T} {N ci index : Nat} (hin : ∀ w ∈ u_ws Cn T N, w ∈ UW) (hc : vwCl[ci]? = some (Cn, T, N)) (hci : ci < 20) (k : Nat) (kz : Int) (hz : (k : Int) = kz) (hk : k < N) (ht : (tyF ci)[k]? = some 1) (hlink : Cond.fieldLink own index ref (T k).2.1 (T k).2.2.1 ∈ UW) (ty0 : Nat → FieldType) (hty : ∀ k, k < N → parseFieldDescriptor (T k).2.2.1 = some (ty0 k)) (hnm : ∀ a, a < N → ∀ b, b < N → a ≠ b → (T a).2.1 ≠ (T b).2.1) (ha : At0 S a ci) {v : Option Nat} {ty : FieldType} (hd : parseFieldDescriptor (T k).2.2.1 = some ty) (hn : narrow ty (va_rf v) = va_rf v) (hfit : fits ty (va_rf v) = true) (hfin : (T k).2.2.2 = false) (hdg : decode cc pc = .ok (.putfield index, 3)) (hsame : ∀ x, s.fieldFound? (T k).1 (T k).2.1 (T k).2.2.1 = some x → s.fieldFound? ref (T k).2.1 (T k).2.2.1 = some x) (kk : Wk p l e R s m args below meth c Q g nL cells slots (pc + 3) lv st (uP S a kz v)) : Wk p l e R s m args below meth c Q g nL cells slots pc lv (va_rf v :: .ref a :: st) S := fun H locs ls hP hD hS hR hl => by
  obtain ⟨q0, hq⟩ := pol_get (cy := gC g) ha.1
  have hq0 := hq
  rw [cel_obj ha.2 hci] at hq
  refine va_put C.1 C.2.1 C.words hin ty0 hty hnm C.home C.tabs hP hD hS q0 hq hc k hk (C.words _ hlink) hsame hfin hd hn hfit (by rw [flds_len]; exact (List.getElem?_eq_some_iff.mp ht).1) hdg (fun H1 locs1 hP1 hD1 hS1 => ?_)
  have hset : (pol (gC g) S).set q0 (a, .inr (ci, (flds S a (tyF ci)).set k (va_rf v))) = pol (gC g) (uP S a kz v) := by
    refine pol_set hD ha.1 hq0 rfl ?_ (fun b hb => ?_)
    · refine (cel_obj (S := uP S a kz v) ha.2 hci).trans ?_
      congr 2
      refine (flds_set ht ?_ (fun j u hj => fld_uP_ne (kz_ne hz hj))).symm
      subst hz
      show va_rf (up2 (sP S) a (k : Int) v a (k : Int)) = _
      rw [up2_same]
    · exact cel_congr rfl rfl rfl (up2_row _ _ _ hb) rfl
  rw [hset] at hP1 hD1
  exact kk H1 locs1 ls hP1 hD1 hS1 hR hl
theorem KPutPF (C : Cx p l s m args meth c cc nL own ret g) {ref Cn : String} {T : u_T} {N ci index : Nat} (hin : ∀ w ∈ u_ws Cn T N, w ∈ UW) (hc : vwCl[ci]? = some (Cn, T, N)) (hci : ci < 20) (k : Nat) (kz : Int) (hz : (k : Int) = kz) (hk : k < N) (ht : (tyF ci)[k]? = some 1) (hlink : Cond.fieldLink own index ref (T k).2.1 (T k).2.2.1 ∈ UW) (ty0 : Nat → FieldType) (hty : ∀ k, k < N → parseFieldDescriptor (T k).2.2.1 = some (ty0 k)) (hnm : ∀ a, a < N → ∀ b, b < N → a ≠ b → (T a).2.1 ≠ (T b).2.1) (ha : At0 S a ci) {v : Option Nat} {ty : FieldType} (hd : parseFieldDescriptor (T k).2.2.1 = some ty) (hn : narrow ty (va_rf v) = va_rf v) (hfit : fits ty (va_rf v) = true) (hfin : (T k).2.2.2 = true) (hin2 : meth.name = "<init>") (hdecl : (T k).1 = own) (hdg : decode cc pc = .ok (.putfield index, 3)) (hsame : ∀ x, s.fieldFound? (T k).1 (T k).2.1 (T k).2.2.1 = some x → s.fieldFound? ref (T k).2.1 (T k).2.2.1 = some x) (kk : Wk p l e R s m args below meth c Q g nL cells slots (pc + 3) lv st (uP S a kz v)) : Wk p l e R s m args below meth c Q g nL cells slots pc lv (va_rf v :: .ref a :: st) S := fun H locs ls hP hD hS hR hl => by
  obtain ⟨q0, hq⟩ := pol_get (cy := gC g) ha.1
  have hq0 := hq
  rw [cel_obj ha.2 hci] at hq
  refine va_putF C.1 C.2.1 C.words hin ty0 hty hnm C.home C.tabs hP hD hS q0 hq hc k hk (C.words _ hlink) hsame hfin hin2 hdecl hd hn hfit (by rw [flds_len]; exact (List.getElem?_eq_some_iff.mp ht).1) hdg (fun H1 locs1 hP1 hD1 hS1 => ?_)
  have hset : (pol (gC g) S).set q0 (a, .inr (ci, (flds S a (tyF ci)).set k (va_rf v))) = pol (gC g) (uP S a kz v) := by
    refine pol_set hD ha.1 hq0 rfl ?_ (fun b hb => ?_)
    · refine (cel_obj (S := uP S a kz v) ha.2 hci).trans ?_
      congr 2
      refine (flds_set ht ?_ (fun j u hj => fld_uP_ne (kz_ne hz hj))).symm
      subst hz
      show va_rf (up2 (sP S) a (k : Int) v a (k : Int)) = _
      rw [up2_same]
    · exact cel_congr rfl rfl rfl (up2_row _ _ _ hb) rfl
  rw [hset] at hP1 hD1
  exact kk H1 locs1 ls hP1 hD1 hS1 hR hl
theorem KGetPN (C : Cx p l s m args meth c cc nL own ret g) {ref Cn host : String} {T : u_T} {N ci index : Nat} (hin : ∀ w ∈ u_ws Cn T N, w ∈ UW) (hc : vwCl[ci]? = some (Cn, T, N)) (hci : ci < 20) (k : Nat) (kz : Int) (hz : (k : Int) = kz) (hk : k < N) (ht : (tyF ci)[k]? = some 1) (hlink : Cond.fieldLinkNest own index ref (T k).2.1 (T k).2.2.1 host ∈ UN) (ha : At0 S a ci) {v : Option Nat} (hv : sP S a kz = v) (hdg : decode cc pc = .ok (.getfield index, 3)) (hsame : ∀ x, s.fieldFound? (T k).1 (T k).2.1 (T k).2.2.1 = some x → s.fieldFound? ref (T k).2.1 (T k).2.2.1 = some x) (kk : Wk p l e R s m args below meth c Q g nL cells slots (pc + 3) lv (va_rf v :: st) S) : Wk p l e R s m args below meth c Q g nL cells slots pc lv (.ref a :: st) S := fun H locs ls hP hD hS hR hl => by
  obtain ⟨q0, hq⟩ := pol_get (cy := gC g) ha.1
  rw [cel_obj ha.2 hci] at hq
  exact va_getN C.1 C.2.1 C.words hin C.home C.tabs hP q0 hq hc k hk (va_Nw.use rfl (C.nws.1 _ hlink)) hsame (v := va_rf v) (by
    rw [flds_get, ht, ← hv, ← hz]
    rfl) hdg (kk H locs ls hP hD hS hR hl)
theorem KGetRN (C : Cx p l s m args meth c cc nL own ret g) {ref Cn host : String} {T : u_T} {N ci index : Nat} (hin : ∀ w ∈ u_ws Cn T N, w ∈ UW) (hc : vwCl[ci]? = some (Cn, T, N)) (hci : ci < 20) (k : Nat) (kz : Int) (hz : (k : Int) = kz) (hk : k < N) (ht : (tyF ci)[k]? = some 1) (hlink : Cond.fieldLinkNest own index ref (T k).2.1 (T k).2.2.1 host ∈ UN) (ha : At0 S a ci) {b : Nat} (hv : sP S a kz = some b) (hdg : decode cc pc = .ok (.getfield index, 3)) (hsame : ∀ x, s.fieldFound? (T k).1 (T k).2.1 (T k).2.2.1 = some x → s.fieldFound? ref (T k).2.1 (T k).2.2.1 = some x) (kk : Wk p l e R s m args below meth c Q g nL cells slots (pc + 3) lv (.ref b :: st) S) : Wk p l e R s m args below meth c Q g nL cells slots pc lv (.ref a :: st) S := KGetPN C hin hc hci k kz hz hk ht hlink ha hv hdg hsame kk
theorem KPutPN (C : Cx p l s m args meth c cc nL own ret g) {ref Cn host : String} {T : u_T} {N ci index : Nat} (hin : ∀ w ∈ u_ws Cn T N, w ∈ UW) (hc : vwCl[ci]? = some (Cn, T, N)) (hci : ci < 20) (k : Nat) (kz : Int) (hz : (k : Int) = kz) (hk : k < N) (ht : (tyF ci)[k]? = some 1) (hlink : Cond.fieldLinkNest own index ref (T k).2.1 (T k).2.2.1 host ∈ UN) (ty0 : Nat → FieldType) (hty : ∀ k, k < N → parseFieldDescriptor (T k).2.2.1 = some (ty0 k)) (hnm : ∀ a, a < N → ∀ b, b < N → a ≠ b → (T a).2.1 ≠ (T b).2.1) (ha : At0 S a ci) {v : Option Nat} {ty : FieldType} (hd : parseFieldDescriptor (T k).2.2.1 = some ty) (hn : narrow ty (va_rf v) = va_rf v) (hfit : fits ty (va_rf v) = true) (hfin : (T k).2.2.2 = false) (hdg : decode cc pc = .ok (.putfield index, 3)) (hsame : ∀ x, s.fieldFound? (T k).1 (T k).2.1 (T k).2.2.1 = some x → s.fieldFound? ref (T k).2.1 (T k).2.2.1 = some x) (kk : Wk p l e R s m args below meth c Q g nL cells slots (pc + 3) lv st (uP S a kz v)) : Wk p l e R s m args below meth c Q g nL cells slots pc lv (va_rf v :: .ref a :: st) S := fun H locs ls hP hD hS hR hl => by
  obtain ⟨q0, hq⟩ := pol_get (cy := gC g) ha.1
  have hq0 := hq
  rw [cel_obj ha.2 hci] at hq
  refine va_putN C.1 C.2.1 C.words hin ty0 hty hnm C.home C.tabs hP hD hS q0 hq hc k hk (va_Nw.use rfl (C.nws.1 _ hlink)) hsame hfin hd hn hfit (by rw [flds_len]; exact (List.getElem?_eq_some_iff.mp ht).1) hdg (fun H1 locs1 hP1 hD1 hS1 => ?_)
  have hset : (pol (gC g) S).set q0 (a, .inr (ci, (flds S a (tyF ci)).set k (va_rf v))) = pol (gC g) (uP S a kz v) := by
    refine pol_set hD ha.1 hq0 rfl ?_ (fun b hb => ?_)
    · refine (cel_obj (S := uP S a kz v) ha.2 hci).trans ?_
      congr 2
      refine (flds_set ht ?_ (fun j u hj => fld_uP_ne (kz_ne hz hj))).symm
      subst hz
      show va_rf (up2 (sP S) a (k : Int) v a (k : Int)) = _
      rw [up2_same]
    · exact cel_congr rfl rfl rfl (up2_row _ _ _ hb) rfl
  rw [hset] at hP1 hD1
  exact kk H1 locs1 ls hP1 hD1 hS1 hR hl
theorem KGetJ (C : Cx p l s m args meth c cc nL own ret g) {ref Cn : String} {T : u_T} {N ci index : Nat} (hin : ∀ w ∈ u_ws Cn T N, w ∈ UW) (hc : vwCl[ci]? = some (Cn, T, N)) (hci : ci < 20) (k : Nat) (kz : Int) (hz : (k : Int) = kz) (hk : k < N) (ht : (tyF ci)[k]? = some 2) (hlink : Cond.fieldLink own index ref (T k).2.1 (T k).2.2.1 ∈ UW) (ha : At0 S a ci) {v : Int} (hv : sJ S a kz = v) (hdg : decode cc pc = .ok (.getfield index, 3)) (hsame : ∀ x, s.fieldFound? (T k).1 (T k).2.1 (T k).2.2.1 = some x → s.fieldFound? ref (T k).2.1 (T k).2.2.1 = some x) (kk : Wk p l e R s m args below meth c Q g nL cells slots (pc + 3) lv (.long (lI v) :: st) S) : Wk p l e R s m args below meth c Q g nL cells slots pc lv (.ref a :: st) S := fun H locs ls hP hD hS hR hl => by
  obtain ⟨q0, hq⟩ := pol_get (cy := gC g) ha.1
  rw [cel_obj ha.2 hci] at hq
  exact va_get C.1 C.2.1 C.words hin C.home C.tabs hP q0 hq hc k hk (C.words _ hlink) hsame (v := .long (lI v)) (by
    rw [flds_get, ht, ← hv, ← hz]
    rfl) hdg (kk H locs ls hP hD hS hR hl)
theorem KPutJ (C : Cx p l s m args meth c cc nL own ret g) {ref Cn : String} {T : u_T} {N ci index : Nat} (hin : ∀ w ∈ u_ws Cn T N, w ∈ UW) (hc : vwCl[ci]? = some (Cn, T, N)) (hci : ci < 20) (k : Nat) (kz : Int) (hz : (k : Int) = kz) (hk : k < N) (ht : (tyF ci)[k]? = some 2) (hlink : Cond.fieldLink own index ref (T k).2.1 (T k).2.2.1 ∈ UW) (ty0 : Nat → FieldType) (hty : ∀ k, k < N → parseFieldDescriptor (T k).2.2.1 = some (ty0 k)) (hnm : ∀ a, a < N → ∀ b, b < N → a ≠ b → (T a).2.1 ≠ (T b).2.1) (ha : At0 S a ci) {v : Int} {ty : FieldType} (hd : parseFieldDescriptor (T k).2.2.1 = some ty) (hn : narrow ty (.long (lI v)) = .long (lI v)) (hfit : fits ty (.long (lI v)) = true) (hfin : (T k).2.2.2 = false) (hdg : decode cc pc = .ok (.putfield index, 3)) (hsame : ∀ x, s.fieldFound? (T k).1 (T k).2.1 (T k).2.2.1 = some x → s.fieldFound? ref (T k).2.1 (T k).2.2.1 = some x) (kk : Wk p l e R s m args below meth c Q g nL cells slots (pc + 3) lv st (uJ S a kz v)) : Wk p l e R s m args below meth c Q g nL cells slots pc lv (.long (lI v) :: .ref a :: st) S := fun H locs ls hP hD hS hR hl => by
  obtain ⟨q0, hq⟩ := pol_get (cy := gC g) ha.1
  have hq0 := hq
  rw [cel_obj ha.2 hci] at hq
  refine va_put C.1 C.2.1 C.words hin ty0 hty hnm C.home C.tabs hP hD hS q0 hq hc k hk (C.words _ hlink) hsame hfin hd hn hfit (by rw [flds_len]; exact (List.getElem?_eq_some_iff.mp ht).1) hdg (fun H1 locs1 hP1 hD1 hS1 => ?_)
  have hset : (pol (gC g) S).set q0 (a, .inr (ci, (flds S a (tyF ci)).set k (.long (lI v)))) = pol (gC g) (uJ S a kz v) := by
    refine pol_set hD ha.1 hq0 rfl ?_ (fun b hb => ?_)
    · refine (cel_obj (S := uJ S a kz v) ha.2 hci).trans ?_
      congr 2
      refine (flds_set ht ?_ (fun j u hj => fld_uJ_ne (kz_ne hz hj))).symm
      subst hz
      show Value.long (lI (up2 (sJ S) a (k : Int) v a (k : Int))) = _
      rw [up2_same]
    · exact cel_congr rfl rfl rfl rfl (up2_row _ _ _ hb)
  rw [hset] at hP1 hD1
  exact kk H1 locs1 ls hP1 hD1 hS1 hR hl
theorem KPutJF (C : Cx p l s m args meth c cc nL own ret g) {ref Cn : String} {T : u_T} {N ci index : Nat} (hin : ∀ w ∈ u_ws Cn T N, w ∈ UW) (hc : vwCl[ci]? = some (Cn, T, N)) (hci : ci < 20) (k : Nat) (kz : Int) (hz : (k : Int) = kz) (hk : k < N) (ht : (tyF ci)[k]? = some 2) (hlink : Cond.fieldLink own index ref (T k).2.1 (T k).2.2.1 ∈ UW) (ty0 : Nat → FieldType) (hty : ∀ k, k < N → parseFieldDescriptor (T k).2.2.1 = some (ty0 k)) (hnm : ∀ a, a < N → ∀ b, b < N → a ≠ b → (T a).2.1 ≠ (T b).2.1) (ha : At0 S a ci) {v : Int} {ty : FieldType} (hd : parseFieldDescriptor (T k).2.2.1 = some ty) (hn : narrow ty (.long (lI v)) = .long (lI v)) (hfit : fits ty (.long (lI v)) = true) (hfin : (T k).2.2.2 = true) (hin2 : meth.name = "<init>") (hdecl : (T k).1 = own) (hdg : decode cc pc = .ok (.putfield index, 3)) (hsame : ∀ x, s.fieldFound? (T k).1 (T k).2.1 (T k).2.2.1 = some x → s.fieldFound? ref (T k).2.1 (T k).2.2.1 = some x) (kk : Wk p l e R s m args below meth c Q g nL cells slots (pc + 3) lv st (uJ S a kz v)) : Wk p l e R s m args below meth c Q g nL cells slots pc lv (.long (lI v) :: .ref a :: st) S := fun H locs ls hP hD hS hR hl => by
  obtain ⟨q0, hq⟩ := pol_get (cy := gC g) ha.1
  have hq0 := hq
  rw [cel_obj ha.2 hci] at hq
  refine va_putF C.1 C.2.1 C.words hin ty0 hty hnm C.home C.tabs hP hD hS q0 hq hc k hk (C.words _ hlink) hsame hfin hin2 hdecl hd hn hfit (by rw [flds_len]; exact (List.getElem?_eq_some_iff.mp ht).1) hdg (fun H1 locs1 hP1 hD1 hS1 => ?_)
  have hset : (pol (gC g) S).set q0 (a, .inr (ci, (flds S a (tyF ci)).set k (.long (lI v)))) = pol (gC g) (uJ S a kz v) := by
    refine pol_set hD ha.1 hq0 rfl ?_ (fun b hb => ?_)
    · refine (cel_obj (S := uJ S a kz v) ha.2 hci).trans ?_
      congr 2
      refine (flds_set ht ?_ (fun j u hj => fld_uJ_ne (kz_ne hz hj))).symm
      subst hz
      show Value.long (lI (up2 (sJ S) a (k : Int) v a (k : Int))) = _
      rw [up2_same]
    · exact cel_congr rfl rfl rfl rfl (up2_row _ _ _ hb)
  rw [hset] at hP1 hD1
  exact kk H1 locs1 ls hP1 hD1 hS1 hR hl
theorem KGetJN (C : Cx p l s m args meth c cc nL own ret g) {ref Cn host : String} {T : u_T} {N ci index : Nat} (hin : ∀ w ∈ u_ws Cn T N, w ∈ UW) (hc : vwCl[ci]? = some (Cn, T, N)) (hci : ci < 20) (k : Nat) (kz : Int) (hz : (k : Int) = kz) (hk : k < N) (ht : (tyF ci)[k]? = some 2) (hlink : Cond.fieldLinkNest own index ref (T k).2.1 (T k).2.2.1 host ∈ UN) (ha : At0 S a ci) {v : Int} (hv : sJ S a kz = v) (hdg : decode cc pc = .ok (.getfield index, 3)) (hsame : ∀ x, s.fieldFound? (T k).1 (T k).2.1 (T k).2.2.1 = some x → s.fieldFound? ref (T k).2.1 (T k).2.2.1 = some x) (kk : Wk p l e R s m args below meth c Q g nL cells slots (pc + 3) lv (.long (lI v) :: st) S) : Wk p l e R s m args below meth c Q g nL cells slots pc lv (.ref a :: st) S := fun H locs ls hP hD hS hR hl => by
  obtain ⟨q0, hq⟩ := pol_get (cy := gC g) ha.1
  rw [cel_obj ha.2 hci] at hq
  exact va_getN C.1 C.2.1 C.words hin C.home C.tabs hP q0 hq hc k hk (va_Nw.use rfl (C.nws.1 _ hlink)) hsame (v := .long (lI v)) (by
    rw [flds_get, ht, ← hv, ← hz]
    rfl) hdg (kk H locs ls hP hD hS hR hl)
theorem KPutJN (C : Cx p l s m args meth c cc nL own ret g) {ref Cn host : String} {T : u_T} {N ci index : Nat} (hin : ∀ w ∈ u_ws Cn T N, w ∈ UW) (hc : vwCl[ci]? = some (Cn, T, N)) (hci : ci < 20) (k : Nat) (kz : Int) (hz : (k : Int) = kz) (hk : k < N) (ht : (tyF ci)[k]? = some 2) (hlink : Cond.fieldLinkNest own index ref (T k).2.1 (T k).2.2.1 host ∈ UN) (ty0 : Nat → FieldType) (hty : ∀ k, k < N → parseFieldDescriptor (T k).2.2.1 = some (ty0 k)) (hnm : ∀ a, a < N → ∀ b, b < N → a ≠ b → (T a).2.1 ≠ (T b).2.1) (ha : At0 S a ci) {v : Int} {ty : FieldType} (hd : parseFieldDescriptor (T k).2.2.1 = some ty) (hn : narrow ty (.long (lI v)) = .long (lI v)) (hfit : fits ty (.long (lI v)) = true) (hfin : (T k).2.2.2 = false) (hdg : decode cc pc = .ok (.putfield index, 3)) (hsame : ∀ x, s.fieldFound? (T k).1 (T k).2.1 (T k).2.2.1 = some x → s.fieldFound? ref (T k).2.1 (T k).2.2.1 = some x) (kk : Wk p l e R s m args below meth c Q g nL cells slots (pc + 3) lv st (uJ S a kz v)) : Wk p l e R s m args below meth c Q g nL cells slots pc lv (.long (lI v) :: .ref a :: st) S := fun H locs ls hP hD hS hR hl => by
  obtain ⟨q0, hq⟩ := pol_get (cy := gC g) ha.1
  have hq0 := hq
  rw [cel_obj ha.2 hci] at hq
  refine va_putN C.1 C.2.1 C.words hin ty0 hty hnm C.home C.tabs hP hD hS q0 hq hc k hk (va_Nw.use rfl (C.nws.1 _ hlink)) hsame hfin hd hn hfit (by rw [flds_len]; exact (List.getElem?_eq_some_iff.mp ht).1) hdg (fun H1 locs1 hP1 hD1 hS1 => ?_)
  have hset : (pol (gC g) S).set q0 (a, .inr (ci, (flds S a (tyF ci)).set k (.long (lI v)))) = pol (gC g) (uJ S a kz v) := by
    refine pol_set hD ha.1 hq0 rfl ?_ (fun b hb => ?_)
    · refine (cel_obj (S := uJ S a kz v) ha.2 hci).trans ?_
      congr 2
      refine (flds_set ht ?_ (fun j u hj => fld_uJ_ne (kz_ne hz hj))).symm
      subst hz
      show Value.long (lI (up2 (sJ S) a (k : Int) v a (k : Int))) = _
      rw [up2_same]
    · exact cel_congr rfl rfl rfl rfl (up2_row _ _ _ hb)
  rw [hset] at hP1 hD1
  exact kk H1 locs1 ls hP1 hD1 hS1 hR hl
theorem KPutR (C : Cx p l s m args meth c cc nL own ret g) {ref Cn : String} {T : u_T} {N ci index : Nat} (hin : ∀ w ∈ u_ws Cn T N, w ∈ UW) (hc : vwCl[ci]? = some (Cn, T, N)) (hci : ci < 20) (k : Nat) (kz : Int) (hz : (k : Int) = kz) (hk : k < N) (ht : (tyF ci)[k]? = some 1) (hlink : Cond.fieldLink own index ref (T k).2.1 (T k).2.2.1 ∈ UW) (ty0 : Nat → FieldType) (hty : ∀ k, k < N → parseFieldDescriptor (T k).2.2.1 = some (ty0 k)) (hnm : ∀ a, a < N → ∀ b, b < N → a ≠ b → (T a).2.1 ≠ (T b).2.1) (ha : At0 S a ci) {b : Nat} {ty : FieldType} (hd : parseFieldDescriptor (T k).2.2.1 = some ty) (hn : narrow ty (.ref b) = .ref b) (hfit : fits ty (.ref b) = true) (hfin : (T k).2.2.2 = false) (hdg : decode cc pc = .ok (.putfield index, 3)) (hsame : ∀ x, s.fieldFound? (T k).1 (T k).2.1 (T k).2.2.1 = some x → s.fieldFound? ref (T k).2.1 (T k).2.2.1 = some x) (kk : Wk p l e R s m args below meth c Q g nL cells slots (pc + 3) lv st (uP S a kz (some b))) : Wk p l e R s m args below meth c Q g nL cells slots pc lv (.ref b :: .ref a :: st) S := KPutP (v := some b) C hin hc hci k kz hz hk ht hlink ty0 hty hnm ha hd hn hfit hfin hdg hsame kk
theorem KPutRF (C : Cx p l s m args meth c cc nL own ret g) {ref Cn : String} {T : u_T} {N ci index : Nat} (hin : ∀ w ∈ u_ws Cn T N, w ∈ UW) (hc : vwCl[ci]? = some (Cn, T, N)) (hci : ci < 20) (k : Nat) (kz : Int) (hz : (k : Int) = kz) (hk : k < N) (ht : (tyF ci)[k]? = some 1) (hlink : Cond.fieldLink own index ref (T k).2.1 (T k).2.2.1 ∈ UW) (ty0 : Nat → FieldType) (hty : ∀ k, k < N → parseFieldDescriptor (T k).2.2.1 = some (ty0 k)) (hnm : ∀ a, a < N → ∀ b, b < N → a ≠ b → (T a).2.1 ≠ (T b).2.1) (ha : At0 S a ci) {b : Nat} {ty : FieldType} (hd : parseFieldDescriptor (T k).2.2.1 = some ty) (hn : narrow ty (.ref b) = .ref b) (hfit : fits ty (.ref b) = true) (hfin : (T k).2.2.2 = true) (hin2 : meth.name = "<init>") (hdecl : (T k).1 = own) (hdg : decode cc pc = .ok (.putfield index, 3)) (hsame : ∀ x, s.fieldFound? (T k).1 (T k).2.1 (T k).2.2.1 = some x → s.fieldFound? ref (T k).2.1 (T k).2.2.1 = some x) (kk : Wk p l e R s m args below meth c Q g nL cells slots (pc + 3) lv st (uP S a kz (some b))) : Wk p l e R s m args below meth c Q g nL cells slots pc lv (.ref b :: .ref a :: st) S := KPutPF (v := some b) C hin hc hci k kz hz hk ht hlink ty0 hty hnm ha hd hn hfit hfin hin2 hdecl hdg hsame kk
theorem KPutRN (C : Cx p l s m args meth c cc nL own ret g) {ref Cn host : String} {T : u_T} {N ci index : Nat} (hin : ∀ w ∈ u_ws Cn T N, w ∈ UW) (hc : vwCl[ci]? = some (Cn, T, N)) (hci : ci < 20) (k : Nat) (kz : Int) (hz : (k : Int) = kz) (hk : k < N) (ht : (tyF ci)[k]? = some 1) (hlink : Cond.fieldLinkNest own index ref (T k).2.1 (T k).2.2.1 host ∈ UN) (ty0 : Nat → FieldType) (hty : ∀ k, k < N → parseFieldDescriptor (T k).2.2.1 = some (ty0 k)) (hnm : ∀ a, a < N → ∀ b, b < N → a ≠ b → (T a).2.1 ≠ (T b).2.1) (ha : At0 S a ci) {b : Nat} {ty : FieldType} (hd : parseFieldDescriptor (T k).2.2.1 = some ty) (hn : narrow ty (.ref b) = .ref b) (hfit : fits ty (.ref b) = true) (hfin : (T k).2.2.2 = false) (hdg : decode cc pc = .ok (.putfield index, 3)) (hsame : ∀ x, s.fieldFound? (T k).1 (T k).2.1 (T k).2.2.1 = some x → s.fieldFound? ref (T k).2.1 (T k).2.2.1 = some x) (kk : Wk p l e R s m args below meth c Q g nL cells slots (pc + 3) lv st (uP S a kz (some b))) : Wk p l e R s m args below meth c Q g nL cells slots pc lv (.ref b :: .ref a :: st) S := KPutPN (v := some b) C hin hc hci k kz hz hk ht hlink ty0 hty hnm ha hd hn hfit hfin hdg hsame kk
theorem KIald (C : Cx p l s m args meth c cc nL own ret g) {i v : Int} (n : Nat) (ha : At0 S a 20) (hN : sN S a = n) (h : 0 ≤ i ∧ i < n) (hn : n < 2147483648) (hv : sI S a i = v) (hdg : decode cc pc = .ok (.iaload, 1)) (kk : Wk p l e R s m args below meth c Q g nL cells slots (pc + 1) lv (.int (iI v) :: st) S) : Wk p l e R s m args below meth c Q g nL cells slots pc lv (.int (iI i) :: .ref a :: st) S := fun H locs ls hP hD hS hR hl => by
  obtain ⟨q0, hq⟩ := pol_get (cy := gC g) ha.1
  rw [cel_I ha.2, hN] at hq
  have hi : inR i := ⟨by omega, by omega⟩
  refine va_iald C.1 C.2.1 C.tabs hP q0 0 hq rfl (iI_in h.1 h.2 hi) hdg ?_
  rw [iI_clamp h.1 hi, Int.toNat_of_nonneg h.1, hv]
  exact kk H locs ls hP hD hS hR hl
theorem KIast (C : Cx p l s m args meth c cc nL own ret g) {i v : Int} (n : Nat) (ha : At0 S a 20) (hN : sN S a = n) (h : 0 ≤ i ∧ i < n) (hn : n < 2147483648) (hr : inR v) (hdg : decode cc pc = .ok (.iastore, 1)) (kk : Wk p l e R s m args below meth c Q g nL cells slots (pc + 1) lv st (uI S a i v)) : Wk p l e R s m args below meth c Q g nL cells slots pc lv (.int (iI v) :: .int (iI i) :: .ref a :: st) S := fun H locs ls hP hD hS hR hl => by
  obtain ⟨q0, hq⟩ := pol_get (cy := gC g) ha.1
  have hq0 := hq
  rw [cel_I ha.2, hN] at hq
  have hi : inR i := ⟨by omega, by omega⟩
  refine va_iast C.1 C.2.1 C.tabs hP hD hS q0 0 hq rfl (iI_in h.1 h.2 hi) hdg (fun H1 locs1 hP1 hD1 hS1 => ?_)
  rw [iI_clamp h.1 hi] at hP1 hD1
  have hset : (pol (gC g) S).set q0 (a, .inl (gC g 0, n, .inl (upd (fun j : Nat => iI (sI S a j)) i.toNat (iI v)))) = pol (gC g) (uI S a i v) := by
    refine pol_set hD ha.1 hq0 rfl ?_ (fun b hb => cel_congr rfl rfl (up2_row _ _ _ hb) rfl rfl)
    refine (cel_I (S := uI S a i v) ha.2).trans ?_
    rw [show sN (uI S a i v) a = n from hN]
    congr 4
    funext j
    show iI (up2 (sI S) a i v a j) = upd _ _ _ j
    unfold up2 upd
    by_cases hj : j = i.toNat
    · rw [if_pos hj, if_pos ⟨rfl, by omega⟩]
    · rw [if_neg hj, if_neg (fun z => hj (by omega))]
  rw [hset] at hP1 hD1
  exact kk H1 locs1 ls hP1 hD1 hS1 (hR.uI a i hr) hl
theorem KAald (C : Cx p l s m args meth c cc nL own ret g) {i : Int} {v : Option Nat} (n : Nat) (ha : At0 S a 21) (hN : sN S a = n) (h : 0 ≤ i ∧ i < n) (hn : n < 2147483648) (hv : sP S a i = v) (hdg : decode cc pc = .ok (.aaload, 1)) (kk : Wk p l e R s m args below meth c Q g nL cells slots (pc + 1) lv (va_rf v :: st) S) : Wk p l e R s m args below meth c Q g nL cells slots pc lv (.int (iI i) :: .ref a :: st) S := fun H locs ls hP hD hS hR hl => by
  obtain ⟨q0, hq⟩ := pol_get (cy := gC g) ha.1
  rw [cel_O ha.2, hN] at hq
  have hi : inR i := ⟨by omega, by omega⟩
  refine va_aldq C.1 C.2.1 C.tabs hP q0 1 hq rfl (iI_in h.1 h.2 hi) hdg ?_
  rw [iI_clamp h.1 hi, Int.toNat_of_nonneg h.1, hv]
  exact kk H locs ls hP hD hS hR hl
theorem KGald (C : Cx p l s m args meth c cc nL own ret g) {i : Int} {v : Option Nat} (n : Nat) (ha : At0 S a 22) (hN : sN S a = n) (h : 0 ≤ i ∧ i < n) (hn : n < 2147483648) (hv : sP S a i = v) (hdg : decode cc pc = .ok (.aaload, 1)) (kk : Wk p l e R s m args below meth c Q g nL cells slots (pc + 1) lv (va_rf v :: st) S) : Wk p l e R s m args below meth c Q g nL cells slots pc lv (.int (iI i) :: .ref a :: st) S := fun H locs ls hP hD hS hR hl => by
  obtain ⟨q0, hq⟩ := pol_get (cy := gC g) ha.1
  rw [cel_G ha.2, hN] at hq
  have hi : inR i := ⟨by omega, by omega⟩
  have hin := iI_in h.1 h.2 hi
  have hlt : (iI i).toNatClampNeg < n := Nat.not_le.mp fun q => hin (Or.inr q)
  refine W.aald (v := va_rf v) (ty := .array .int) C.1 C.2.1 (hP q0 _ hq) ((C.tabs.2 2 _ rfl).1 n (fun j => va_rf (sP S a j))) rfl (fun q => by cases q) (by show ¬ (iI i < 0 ∨ (arrV _ _ _).slots.size ≤ _); rw [arrV_size]; exact hin) (by
    show (arrV _ _ _).slots[_]? = _
    rw [arrV_read _ _ hlt, iI_clamp h.1 hi]
    show some (va_rf (sP S a (i.toNat : Int))) = some (va_rf v)
    rw [Int.toNat_of_nonneg h.1, hv]) rfl rfl hdg ?_
  exact kk H locs ls hP hD hS hR hl
theorem KAast (C : Cx p l s m args meth c cc nL own ret g) {i : Int} {b cb : Nat} {r : vw_C} (n : Nat) (ha : At0 S a 21) (hN : sN S a = n) (h : 0 ≤ i ∧ i < n) (hn : n < 2147483648) (hb : At0 S b cb) (hcb : cb < 20) (hr : vwCl[cb]? = some r) (hca : Cond.castable r.1 "java/lang/Object" ∈ UN) (hdg : decode cc pc = .ok (.aastore, 1)) (kk : Wk p l e R s m args below meth c Q g nL cells slots (pc + 1) lv st (uP S a i (some b))) : Wk p l e R s m args below meth c Q g nL cells slots pc lv (.ref b :: .int (iI i) :: .ref a :: st) S := fun H locs ls hP hD hS hR hl => by
  obtain ⟨q0, hq⟩ := pol_get (cy := gC g) ha.1
  have hq0 := hq
  rw [cel_O ha.2, hN] at hq
  obtain ⟨q1, hq1⟩ := pol_get (cy := gC g) hb.1
  rw [cel_obj hb.2 hcb] at hq1
  have hi : inR i := ⟨by omega, by omega⟩
  refine va_astqO (E := "java/lang/Object") C.1 C.2.1 C.tabs hP hD hS q0 1 q1 cb hq rfl (C.nws.1 _ hca) hq1 hr (iI_in h.1 h.2 hi) hdg (fun H1 locs1 hP1 hD1 hS1 => ?_)
  rw [iI_clamp h.1 hi] at hP1 hD1
  have hset : (pol (gC g) S).set q0 (a, .inl (gC g 1, n, .inr (.inr (.inr (.inr (va_up (fun j : Nat => sP S a j) i.toNat (some b))))))) = pol (gC g) (uP S a i (some b)) := by
    refine pol_set hD ha.1 hq0 rfl ?_ (fun b hb => cel_congr rfl rfl rfl (up2_row _ _ _ hb) rfl)
    refine (cel_O (S := uP S a i (some b)) ha.2).trans ?_
    rw [show sN (uP S a i (some b)) a = n from hN]
    congr 7
    funext j
    show up2 (sP S) a i (some b) a j = va_up _ _ _ j
    unfold up2 va_up
    by_cases hj : j = i.toNat
    · rw [if_pos hj, if_pos ⟨rfl, by omega⟩]
    · rw [if_neg hj, if_neg (fun z => hj (by omega))]
  rw [hset] at hP1 hD1
  exact kk H1 locs1 ls hP1 hD1 hS1 hR hl
theorem KAastN (C : Cx p l s m args meth c cc nL own ret g) {i : Int} (n : Nat) (ha : At0 S a 21) (hN : sN S a = n) (h : 0 ≤ i ∧ i < n) (hn : n < 2147483648) (hdg : decode cc pc = .ok (.aastore, 1)) (kk : Wk p l e R s m args below meth c Q g nL cells slots (pc + 1) lv st (uP S a i none)) : Wk p l e R s m args below meth c Q g nL cells slots pc lv (.null :: .int (iI i) :: .ref a :: st) S := fun H locs ls hP hD hS hR hl => by
  obtain ⟨q0, hq⟩ := pol_get (cy := gC g) ha.1
  have hq0 := hq
  rw [cel_O ha.2, hN] at hq
  have hi : inR i := ⟨by omega, by omega⟩
  refine va_astqN C.1 C.2.1 C.tabs hP hD hS q0 1 hq rfl (iI_in h.1 h.2 hi) hdg (fun H1 locs1 hP1 hD1 hS1 => ?_)
  rw [iI_clamp h.1 hi] at hP1 hD1
  have hset : (pol (gC g) S).set q0 (a, .inl (gC g 1, n, .inr (.inr (.inr (.inr (va_up (fun j : Nat => sP S a j) i.toNat none)))))) = pol (gC g) (uP S a i none) := by
    refine pol_set hD ha.1 hq0 rfl ?_ (fun b hb => cel_congr rfl rfl rfl (up2_row _ _ _ hb) rfl)
    refine (cel_O (S := uP S a i none) ha.2).trans ?_
    rw [show sN (uP S a i none) a = n from hN]
    congr 7
    funext j
    show up2 (sP S) a i none a j = va_up _ _ _ j
    unfold up2 va_up
    by_cases hj : j = i.toNat
    · rw [if_pos hj, if_pos ⟨rfl, by omega⟩]
    · rw [if_neg hj, if_neg (fun z => hj (by omega))]
  rw [hset] at hP1 hD1
  exact kk H1 locs1 ls hP1 hD1 hS1 hR hl
theorem KAaldR (C : Cx p l s m args meth c cc nL own ret g) {i : Int} {b : Nat} (n : Nat) (ha : At0 S a 21) (hN : sN S a = n) (h : 0 ≤ i ∧ i < n) (hn : n < 2147483648) (hv : sP S a i = some b) (hdg : decode cc pc = .ok (.aaload, 1)) (kk : Wk p l e R s m args below meth c Q g nL cells slots (pc + 1) lv (.ref b :: st) S) : Wk p l e R s m args below meth c Q g nL cells slots pc lv (.int (iI i) :: .ref a :: st) S := KAald C n ha hN h hn hv hdg kk
theorem KGaldR (C : Cx p l s m args meth c cc nL own ret g) {i : Int} {b : Nat} (n : Nat) (ha : At0 S a 22) (hN : sN S a = n) (h : 0 ≤ i ∧ i < n) (hn : n < 2147483648) (hv : sP S a i = some b) (hdg : decode cc pc = .ok (.aaload, 1)) (kk : Wk p l e R s m args below meth c Q g nL cells slots (pc + 1) lv (.ref b :: st) S) : Wk p l e R s m args below meth c Q g nL cells slots pc lv (.int (iI i) :: .ref a :: st) S := KGald C n ha hN h hn hv hdg kk
theorem KAlenI (C : Cx p l s m args meth c cc nL own ret g) (n : Nat) (ha : At0 S a 20) (hN : sN S a = n) (hdg : decode cc pc = .ok (.arraylength, 1)) (kk : Wk p l e R s m args below meth c Q g nL cells slots (pc + 1) lv (.int (iI n) :: st) S) : Wk p l e R s m args below meth c Q g nL cells slots pc lv (.ref a :: st) S := fun H locs ls hP hD hS hR hl => by
  obtain ⟨q0, hq⟩ := pol_get (cy := gC g) ha.1
  rw [cel_I ha.2, hN] at hq
  exact va_alen C.1 C.2.1 C.tabs hP q0 0 hq rfl (v := iI n) (iI_nat n).symm hdg (kk H locs ls hP hD hS hR hl)
theorem KAlenO (C : Cx p l s m args meth c cc nL own ret g) (n : Nat) (ha : At0 S a 21) (hN : sN S a = n) (hdg : decode cc pc = .ok (.arraylength, 1)) (kk : Wk p l e R s m args below meth c Q g nL cells slots (pc + 1) lv (.int (iI n) :: st) S) : Wk p l e R s m args below meth c Q g nL cells slots pc lv (.ref a :: st) S := fun H locs ls hP hD hS hR hl => by
  obtain ⟨q0, hq⟩ := pol_get (cy := gC g) ha.1
  rw [cel_O ha.2, hN] at hq
  exact va_alen C.1 C.2.1 C.tabs hP q0 1 hq rfl (v := iI n) (iI_nat n).symm hdg (kk H locs ls hP hD hS hR hl)
theorem KAlenG (C : Cx p l s m args meth c cc nL own ret g) (n : Nat) (ha : At0 S a 22) (hN : sN S a = n) (hdg : decode cc pc = .ok (.arraylength, 1)) (kk : Wk p l e R s m args below meth c Q g nL cells slots (pc + 1) lv (.int (iI n) :: st) S) : Wk p l e R s m args below meth c Q g nL cells slots pc lv (.ref a :: st) S := fun H locs ls hP hD hS hR hl => by
  obtain ⟨q0, hq⟩ := pol_get (cy := gC g) ha.1
  rw [cel_G ha.2, hN] at hq
  exact va_alen C.1 C.2.1 C.tabs hP q0 2 hq rfl (v := iI n) (iI_nat n).symm hdg (kk H locs ls hP hD hS hR hl)
end
