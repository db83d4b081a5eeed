/-! ===== the throws' words; rows that were wanting; where the system's cells lie ===== -/
theorem un_tab {w : Cond} (h : w ∈ UN) : w.onTables = true := by
  have h2 := un_kind h
  cases w <;> first | rfl | (simp [isNest] at h2)
theorem thr_w {args : Array Value} {s : State} (hW : ∀ w ∈ UW, w.before args s = true) (hN : Nws s) {L : List Cond} (h1 : ∀ w ∈ L.filter goodWord, w ∈ UW) (h2 : ∀ w ∈ L.filter (fun w => !goodWord w), w ∈ UN) : ∀ w ∈ L, w.before args s = true :=
  vx_hat (fun w h => hW w (h1 w h)) h2 (fun w h => va_Nw.use (un_tab h) (hN.1 w h))
theorem thr_words_RX5_66 {args : Array Value} {s : State} (hW : ∀ w ∈ UW, w.before args s = true) (hN : Nws s) : ∀ w ∈ vx_atS RX5 66 "java/lang/IndexOutOfBoundsException" ["java/lang/RuntimeException", "java/lang/Exception"], w.before args s = true := thr_w hW hN (by decide +kernel) (by decide +kernel)
theorem thr_good_RX5_66 : ∀ w ∈ Cond.classLink RX5 61 "java/lang/IndexOutOfBoundsException" :: Cond.initialized "java/lang/IndexOutOfBoundsException" :: vx_atS RX5 66 "java/lang/IndexOutOfBoundsException" ["java/lang/RuntimeException", "java/lang/Exception"], vx_ot w = true := by decide +kernel
theorem thr_words_RX5_81 {args : Array Value} {s : State} (hW : ∀ w ∈ UW, w.before args s = true) (hN : Nws s) : ∀ w ∈ vx_atS RX5 81 "java/lang/IllegalStateException" ["java/lang/RuntimeException", "java/lang/Exception"], w.before args s = true := thr_w hW hN (by decide +kernel) (by decide +kernel)
theorem thr_good_RX5_81 : ∀ w ∈ Cond.classLink RX5 77 "java/lang/IllegalStateException" :: Cond.initialized "java/lang/IllegalStateException" :: vx_atS RX5 81 "java/lang/IllegalStateException" ["java/lang/RuntimeException", "java/lang/Exception"], vx_ot w = true := by decide +kernel
theorem thr_words_RX5_127 {args : Array Value} {s : State} (hW : ∀ w ∈ UW, w.before args s = true) (hN : Nws s) : ∀ w ∈ vx_atS RX5 127 "java/lang/IllegalArgumentException" ["java/lang/RuntimeException", "java/lang/Exception"], w.before args s = true := thr_w hW hN (by decide +kernel) (by decide +kernel)
theorem thr_good_RX5_127 : ∀ w ∈ Cond.classLink RX5 123 "java/lang/IllegalArgumentException" :: Cond.initialized "java/lang/IllegalArgumentException" :: vx_atS RX5 127 "java/lang/IllegalArgumentException" ["java/lang/RuntimeException", "java/lang/Exception"], vx_ot w = true := by decide +kernel
theorem tdiv_pos {x y : Int} (h : 0 ≤ x) : x.tdiv y = x / y := Int.tdiv_eq_ediv_of_nonneg h
theorem tmod_pos {x y : Int} (h : 0 ≤ x) : x.tmod y = x % y := Int.tmod_eq_emod_of_nonneg h
theorem Rg.b {S : Sto} (h : Rg S) (a : Nat) (k : Int) {v : Int} (hv : sI S a k = v) : -2147483648 ≤ v ∧ v < 2147483648 := by rw [← hv]; exact h a k
/-- one row of the whole numbers -/
def row1 (f : Nat → Int → Int) (a : Nat) (F : Int → Int) : Nat → Int → Int := fun b j => if b = a then F j else f b j
theorem row1_same (f : Nat → Int → Int) (a : Nat) (F : Int → Int) (j : Int) : row1 f a F a j = F j := by simp [row1]
theorem row1_ne (f : Nat → Int → Int) {a b : Nat} (F : Int → Int) (j : Int) (h : b ≠ a) : row1 f a F b j = f b j := by simp [row1, h]
theorem row1_self (f : Nat → Int → Int) (a : Nat) : row1 f a (f a) = f := by
  funext b j
  unfold row1
  split
  · next h => rw [h]
  · rfl
def upd1 (F : Int → Int) (k v : Int) : Int → Int := fun j => if j = k then v else F j
theorem up2_row1 (f : Nat → Int → Int) (a : Nat) (F : Int → Int) (k v : Int) : up2 (row1 f a F) a k v = row1 f a (upd1 F k v) := by
  funext b j
  unfold up2 row1 upd1
  by_cases hb : b = a
  · by_cases hj : j = k
    · simp [hb, hj]
    · simp [hb, hj]
  · simp [hb]
theorem up2_to_row1 (f : Nat → Int → Int) (a : Nat) (k v : Int) : up2 f a k v = row1 f a (upd1 (f a) k v) := by
  funext b j
  unfold up2 row1 upd1
  by_cases hb : b = a
  · subst hb
    by_cases hj : j = k
    · simp [hj]
    · simp [hj]
  · simp [hb]
theorem row1_row1 (f : Nat → Int → Int) (a : Nat) (F G : Int → Int) : row1 (row1 f a F) a G = row1 f a G := by
  funext b j
  unfold row1
  by_cases hb : b = a <;> simp [hb]
theorem wI_wI (S : Sto) (f h : Nat → Int → Int) : wI (wI S f) h = wI S h := rfl
def tix : List Nat := [0, 1, 2, 3, 4, 5, 6, 7, 8, 9, 10, 11, 12, 13, 20, 21, 22, 23, 24, 25, 26, 27, 28, 29, 30, 31, 32, 33, 34, 35, 36, 37, 38, 39, 40, 41, 42, 43, 44, 45, 46, 47, 48, 49, 50, 51, 52, 53, 54, 55, 56, 57, 58, 59, 60, 61, 62, 63, 64, 65, 66, 67, 68, 69, 80, 81, 82, 83, 84, 85, 86, 87, 88]
def tkd : List (Nat × Nat) := [(0, 6), (1, 4), (2, 3), (3, 5), (4, 0), (5, 0), (6, 20), (7, 20), (8, 20), (9, 20), (10, 20), (11, 22), (12, 20), (13, 22), (20, 20), (21, 20), (22, 20), (23, 20), (24, 20), (25, 20), (26, 20), (27, 20), (28, 20), (29, 20), (30, 20), (31, 20), (32, 20), (33, 20), (34, 20), (35, 20), (36, 20), (37, 20), (38, 20), (39, 20), (40, 20), (41, 20), (42, 20), (43, 20), (44, 20), (45, 20), (46, 20), (47, 20), (48, 20), (49, 20), (50, 20), (51, 20), (52, 20), (53, 20), (54, 20), (55, 20), (56, 20), (57, 20), (58, 20), (59, 20), (60, 20), (61, 20), (62, 20), (63, 20), (64, 20), (65, 20), (66, 20), (67, 20), (68, 20), (69, 20), (80, 20), (81, 20), (82, 20), (83, 20), (84, 20), (85, 20), (86, 20), (87, 20), (88, 20)]
def tln : List (Nat × Nat) := [(6, 20), (7, 20), (8, 20), (9, 20), (10, 9), (11, 10), (12, 4608), (13, 40), (20, 10), (21, 10), (22, 10), (23, 10), (24, 10), (25, 10), (26, 10), (27, 10), (28, 10), (29, 10), (30, 40), (31, 40), (32, 40), (33, 40), (34, 40), (35, 40), (36, 40), (37, 40), (38, 40), (39, 40), (40, 40), (41, 40), (42, 40), (43, 40), (44, 40), (45, 40), (46, 40), (47, 40), (48, 40), (49, 40), (50, 40), (51, 40), (52, 40), (53, 40), (54, 40), (55, 40), (56, 40), (57, 40), (58, 40), (59, 40), (60, 40), (61, 40), (62, 40), (63, 40), (64, 40), (65, 40), (66, 40), (67, 40), (68, 40), (69, 40), (80, 8), (81, 20), (82, 20), (83, 48), (84, 60), (85, 60), (86, 20), (87, 10), (88, 9)]
def tptr : List (Nat × Int × Nat) := [(0, 0, 1), (0, 1, 2), (0, 2, 3), (0, 3, 4), (1, 3, 6), (1, 4, 7), (1, 5, 8), (1, 6, 9), (2, 0, 1), (2, 1, 10), (2, 3, 11), (2, 4, 12), (3, 0, 2), (3, 1, 5), (3, 2, 13)]
/-- where the system's and the reference's cells lie: q i is the address of cell i -/
def Top (S : Sto) (q : Nat → Nat) : Prop := (∀ t ∈ tkd, At0 S (q t.1) t.2) ∧ (∀ t ∈ tln, sN S (q t.1) = t.2) ∧ (∀ i ∈ tix, ∀ j ∈ tix, q i = q j → i = j) ∧ (∀ t ∈ tptr, sP S (q t.1) t.2.1 = some (q t.2.2)) ∧ (∀ i : Nat, i < 10 → sP S (q 11) (i : Int) = some (q (20 + i))) ∧ (∀ i : Nat, i < 40 → sP S (q 13) (i : Int) = some (q (30 + i)))
theorem Top.at0 {S : Sto} {q : Nat → Nat} (h : Top S q) (i k : Nat) (hi : (i, k) ∈ tkd := by decide) : At0 S (q i) k := h.1 (i, k) hi
theorem Top.ln0 {S : Sto} {q : Nat → Nat} (h : Top S q) (i k : Nat) (hi : (i, k) ∈ tln := by decide) : sN S (q i) = k := h.2.1 (i, k) hi
theorem Top.ne {S : Sto} {q : Nat → Nat} (h : Top S q) (i j : Nat) (hi : i ∈ tix := by decide) (hj : j ∈ tix := by decide) (hn : i ≠ j := by decide) : q i ≠ q j := fun e => hn (h.2.2.1 i hi j hj e)
theorem Top.ptr {S : Sto} {q : Nat → Nat} (h : Top S q) (i : Nat) (k : Int) (j : Nat) (hi : (i, k, j) ∈ tptr := by decide) : sP S (q i) k = some (q j) := h.2.2.2.1 (i, k, j) hi
theorem Top.way {S : Sto} {q : Nat → Nat} (h : Top S q) {i : Nat} (hi : i < 10) : sP S (q 11) (i : Int) = some (q (20 + i)) := h.2.2.2.2.1 i hi
theorem Top.sav {S : Sto} {q : Nat → Nat} (h : Top S q) {i : Nat} (hi : i < 40) : sP S (q 13) (i : Int) = some (q (30 + i)) := h.2.2.2.2.2 i hi
section
variable {p : Program} {l : Launch} {e : Env} {R : Room} {s : State} {m : MethodId} {args : Array Value} {below : List Frame} {meth : Method} {c : Code} {Q : State → Prop} {cc : ByteArray} {nL : Nat} {own : String} {ret : Option FieldType} {g : GG} {cells slots pc : Nat} {lv lv' : List (Nat × Value)} {st : List Value} {S : Sto} {a : Nat}
theorem KObjInit (C : Cx p l s m args meth c cc nL own ret g) {index : Nat} (ml : Cond.methodLink own index objectInit ∈ UW) (hdg : decode cc pc = .ok (.invokespecial index, 3)) (hR : 1 ≤ R.frames ∧ (st.map fun v => v.category).sum + 12 ≤ R.locals) (kk : Wk p l e R s m args below meth c Q g nL cells slots (pc + 3) lv st S) : Wk p l e R s m args below meth c Q g nL cells slots pc lv (.ref a :: st) S := fun H locs ls hP hD hS hR0 hl =>
  W.objInit C.1 C.2.1 C.home (C.words _ ml) (C.words _ u_im_objectInit) (C.words _ u_co_objectInit) rfl (by rw [C.2.2.1]; exact hl.1) rfl hdg hR.1 (by show 2 * 0 + _ + 12 ≤ _; omega) (kk H locs ls hP hD hS hR0 hl)
theorem KDup2 (C : Cx p l s m args meth c cc nL own ret g) {v w : Value} (hdg : decode cc pc = .ok (.dup2, 1)) (hva : v.category = 1) (hvb : w.category = 1) (kk : Wk p l e R s m args below meth c Q g nL cells slots (pc + 1) lv (v :: w :: v :: w :: st) S) : Wk p l e R s m args below meth c Q g nL cells slots pc lv (v :: w :: st) S := fun H locs ls hP hD hS hR0 hl => lv_dup2_11 C.1 C.2.1 hdg hva hvb (kk H locs ls hP hD hS hR0 hl)
end
