/-! ===== the law's entry ===== -/
theorem str_words : ∀ q ∈ StrL, (Cond.stringRef q.1 q.2.1 q.2.2) ∈ lw_tbl := by decide +kernel
theorem entry {p : Program} {l : Launch} {s : State} {m : MethodId} {meth : Method} {c : Code} {b L : Nat} {xs : Nat → Int32} (C0 : lw_At p s m meth c b L xs) : ∃ g : GG, gB g = s.heap.size ∧ Cx p l s m #[Value.ref b] meth c cL_law 22 RL ret g ∧ Ncs s ∧ va_X b L xs s s.heap ∧ b < gB g := by
  obtain ⟨hx, hb, hr, hml, hown, hts, hX, hbl, hlocks, hgv⟩ := C0
  have hs := flat_of_before _ hgv
  have hW : ∀ w ∈ UW, w.before #[Value.ref b] s = true := fun w h => hts w (List.mem_filter.mp h).1
  have hA : ∀ a : Nat, a < s.heap.size → ¬ ge s.heap.size a := fun a h h2 => absurd h2 (Nat.not_le.mpr h)
  have hN : Nws s := by
    refine ⟨fun w h => va_Nw.of (un_tab h) (hts w (List.mem_filter.mp h).1), va_AO.of (hts _ (by decide +kernel)), ?_, fun q hq => ?_⟩
    · have h1 : (Cond.arrayOver (.array .int)).before #[Value.ref b] s = true := hts _ (by decide +kernel)
      exact h1
    · have h1 := hts _ (str_words q hq)
      have h2 := hs _ ((by decide +kernel : ∀ q ∈ StrL, (Cond.exactly (.string q.1 q.2.1) "java/lang/String") ∈ _) q hq)
      obtain ⟨a, c9, cell, k9, h3, -⟩ := Cond.exactly_spec h2
      exact ⟨a, vk_R.of h1 h3⟩
  obtain ⟨mi, hMi⟩ : ∃ mi : Nat, va_Mi "[Ljava/lang/Object;" mi s := va_Mi.of (args := #[Value.ref b]) (hs _ (by decide +kernel))
  obtain ⟨t, ht, hT⟩ := va_Tof (args := #[Value.ref b]) (s := s) (tm := .static "java/util/ArrayList" "DEFAULTCAPACITY_EMPTY_ELEMENTDATA" "[Ljava/lang/Object;") (ty := .object "java/lang/Object") (N := 0) (f := fun _ => .null) (A := ge s.heap.size) (by decide) (hs _ (by decide +kernel)) (va_eqt (hs _ (by decide +kernel))) (fun j hj => absurd hj (Nat.not_lt_zero j)) hA
  have hZ : va_Z RJx4a65c "DEFAULTCAPACITY_EMPTY_ELEMENTDATA" "[Ljava/lang/Object;" (.ref t) (ge s.heap.size) s s.heap := va_Zof (args := #[Value.ref b]) (hts _ (by decide +kernel)) (hts _ (by decide +kernel)) ht hA
  have hZ1 : vx_Zq Bundle.tN "UNASSIGNED_STACK" Bundle.steD (ge s.heap.size) s s.heap := vx_Zqof (args := #[Value.ref b]) (hts _ (by decide +kernel)) (hts _ (by decide +kernel)) (hs _ (by decide +kernel)) hA
  have hZ2 : vx_Zq Bundle.tN "SUPPRESSED_SENTINEL" Bundle.listD (ge s.heap.size) s s.heap := vx_Zqof (args := #[Value.ref b]) (hts _ (by decide +kernel)) (hts _ (by decide +kernel)) (hs _ (by decide +kernel)) hA
  have hnc : Ncs s := ⟨va_Nc.of (args := #[Value.ref b]) (hs _ (by decide +kernel)), va_Nc.of (args := #[Value.ref b]) (hs _ (by decide +kernel)), va_Nc.of (args := #[Value.ref b]) (hs _ (by decide +kernel))⟩
  obtain ⟨c0, i0, hK0⟩ := u_known (C := RJx4a65c) (T := TJx4a65c) (N := 3) hW ul_Jx4a65c (hW _ u_is_RJx4a65c)
  obtain ⟨c1, i1, hK1⟩ := u_known (C := RX0) (T := TX0) (N := 6) hW ul_X0 (hW _ u_is_RX0)
  obtain ⟨c2, i2, hK2⟩ := u_known (C := RX1) (T := TX1) (N := 4) hW ul_X1 (hW _ u_is_RX1)
  obtain ⟨c3, i3, hK3⟩ := u_known (C := RX2) (T := TX2) (N := 5) hW ul_X2 (hW _ u_is_RX2)
  obtain ⟨c4, i4, hK4⟩ := u_known (C := RX3) (T := TX3) (N := 7) hW ul_X3 (hW _ u_is_RX3)
  obtain ⟨c5, i5, hK5⟩ := u_known (C := RX4) (T := TX4) (N := 3) hW ul_X4 (hW _ u_is_RX4)
  obtain ⟨c6, i6, hK6⟩ := u_known (C := RX5) (T := TX5) (N := 7) hW ul_X5 (hW _ u_is_RX5)
  obtain ⟨D, hD⟩ : ∃ D : va_G, ∀ (k : Nat) (q : vw_C), vwCl[k]? = some q → u_Kn s q.1 q.2.1 q.2.2 (D.1 k) (D.2 k) := by
    refine ⟨(fun k => if k = 0 then c0 else if k = 1 then c1 else if k = 2 then c2 else if k = 3 then c3 else if k = 4 then c4 else if k = 5 then c5 else c6, fun k => if k = 0 then i0 else if k = 1 then i1 else if k = 2 then i2 else if k = 3 then i3 else if k = 4 then i4 else if k = 5 then i5 else i6), ?_⟩
    intro k q hq
    match k, hq with
    | 0, hq => cases hq; exact hK0
    | 1, hq => cases hq; exact hK1
    | 2, hq => cases hq; exact hK2
    | 3, hq => cases hq; exact hK3
    | 4, hq => cases hq; exact hK4
    | 5, hq => cases hq; exact hK5
    | 6, hq => cases hq; exact hK6
    | k + 7, hq => simp [vwCl] at hq
  obtain ⟨ci, ki, mi1, fi1, fi2, fi3⟩ := Cond.arrayClass_spec (hW _ u_ac_97)
  obtain ⟨mo1, co, ko, fo1, fo2, fo3, fo4, fo5⟩ := Cond.arrayOver_spec (n := "java/lang/Object") (s := s) (show (Cond.arrayOver (.object "java/lang/Object")).holds #[] s none s [] = true from hN.2.1)
  obtain ⟨mg1, cg, kg, fg1, fg2, fg3, fg4, fg5⟩ := aoA_spec (t := .int) (s := s) (show (Cond.arrayOver (.array .int)).holds #[] s none s [] = true from hN.2.2.1)
  refine ⟨(D, (fun k => if k = 0 then ci else if k = 1 then co else cg), s.heap.size, t, mi), rfl, ⟨hx, hb, hml, hown, hW, ⟨hD, ?_⟩, ⟨hZ1, hZ2, hZ, hT, hMi⟩, Nat.le_refl _, hr, hlocks, hN⟩, hnc, hX, hbl⟩
  intro k q hq
  match k, hq with
  | 0, hq => cases hq; exact ⟨fun n z => ⟨fun k h => (by cases h), ki, fi2, mi1, fi3⟩, fi1⟩
  | 1, hq => cases hq; exact ⟨fun n z => ⟨fun k h => (by cases h), ko, fo3, mo1, fo4⟩, ko, mo1, fo3, fo4, fo1, fo5⟩
  | 2, hq => cases hq; exact ⟨fun n z => ⟨fun k h => (by cases h), kg, fg3, mg1, fg4⟩, fg5⟩
  | k + 3, hq => simp [tyl] at hq
