/-! ===== the law, whole ===== -/
theorem whole_start {p : Program} {e : Env} {s : State} {m : MethodId} {below : List Frame} {meth : Method} {c : Code} (l : Launch) (hflags : l.flags = flags0) {b L : Nat} {xs : Nat → Int32} (hL : L ≤ 260) (C0 : lw_At p s m meth c b L xs) : W p l e room_1 s m #[Value.ref b] below meth c s.heap [] 0 0 (lw_Z below #[Value.ref b] s) (entryFrame m ([Value.ref b] : List Value).toArray 22) := by
  obtain ⟨g, hgB, C, hnc, hX, hb⟩ := entry (l := l) C0
  have hnt : l.stackTraces = false := by
    unfold Launch.stackTraces
    rw [hflags]
    decide +kernel
  have hP : va_P (gD g) vwCl (pol (gC g) So) s.heap := fun k q h => by
    have h9 : ([] : va_W)[k]? = some q := h
    simp at h9
  have hD : va_D (ge (gB g)) (pol (gC g) So) := ⟨fun i j p q h => by
    have h9 : ([] : va_W)[i]? = some p := h
    simp at h9, fun k q h => by
    have h9 : ([] : va_W)[k]? = some q := h
    simp at h9⟩
  have hR : Rg So := fun a k => inR_0
  have hl := lv_entry [.ref b] (n := 22) (Nat.le_of_ble_eq_true rfl)
  rw [lg_entry_eq]
  have body : Wk p l e room_1 s m #[Value.ref b] below meth c (lw_Z below #[Value.ref b] s) g 22 0 0 0 [(0, .ref b)] [] So :=
    sg_pre hnt C hnc L xs hX hb hL (fun q U x y d R2 hd hI => KWiden (by decide) (by decide) (law_loop hnt C hgB hnc hX hb hL q 90 1 U _ R2 (by omega) (by omega) (by omega) hI (wf_zz hd.1 hd.2.1 hd.2.2)))
  exact body _ _ _ hP hD va_S.rf hR hl
