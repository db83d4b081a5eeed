/-! ===== the script ===== -/
def PcC (g : GG) (av : List Value) (S : Sto) (b0 L : Nat) (xs : Nat → Int32) : Array Value → State → Prop := fun v U => PcG g av S v U ∧ va_X b0 L xs U U.heap
theorem PcC.blind {g : GG} {av : List Value} {S : Sto} {b0 L : Nat} {xs : Nat → Int32} : FrameBlind (PcC g av S b0 L xs) := by
  intro a U fr mk h
  exact ⟨PcG.blind a U fr mk h.1, h.2.moved (u := U) (U := U.calling fr mk a) (Vm.Alike.refl U.vm)⟩
theorem ct_cell (l : Launch) (g : GG) (S : Sto) (b0 L : Nat) (xs : Nat → Int32) (k : Nat) (hb : b0 < gB g) (hL : L ≤ 260) (hk : k < 100) : Met l yL_cell (.code yL_cell cL_cell 2 (some .int) :: UW) (rmK 1 0 0) (PcC g [.ref b0, .int (iI (k : Int))] S b0 L xs) (QcG g (fun v u => (∃ e9 : Int, v = some (.int (iI e9))) ∧ S = u)) 0 0 (ge (gB g)) := by
  refine Met.ofW (cc := cL_cell) (maxL := 2) (ret := some .int) (by decide) rfl ?_
  intro p e s m args below meth c s₁ B hml hv
  obtain ⟨⟨rfl, hsz, hP, hD, hR, hK, hSt, hN⟩, hX⟩ := hv
  have hts := atoms_spec (ws := .code yL_cell cL_cell 2 (some .int) :: UW) B.pre
  have hown : s.vm.findClass RL = some m.cls := findClass_of_methodNamed B.named
  have hl := lv_entry [.ref b0, .int (iI (k : Int))] (n := 2) (Nat.le_of_ble_eq_true rfl)
  rw [lg_entry_eq]
  have C : Cx p l s m ([.ref b0, .int (iI (k : Int))] : List Value).toArray meth c cL_cell 2 RL (some .int) g := ⟨B.exec, B.bytes, hml, hown, fun w h => hts w (List.mem_cons_of_mem _ h), hK, hSt, hsz, B.returns, B.notSynchronized, hN⟩
  have body : Wk p l e (rmK 1 0 0) s m ([.ref b0, .int (iI (k : Int))] : List Value).toArray below meth c (MQ below (QcG g (fun v u => (∃ e9 : Int, v = some (.int (iI e9))) ∧ S = u)) ([.ref b0, .int (iI (k : Int))] : List Value).toArray s 0 0 (ge (gB g))) g 2 0 0 0 [(0, .ref b0), (1, .int (iI (k : Int)))] [] S := by
    refine KIload_n C dL_cell_0 rfl 1 rfl ?_
    refine KAload_n C dL_cell_1 rfl 0 rfl ?_
    refine KSlen C hX hb dL_cell_2 ?_
    refine KIcmp_ge C dL_cell_3 rfl ⟨by omega, by omega⟩ ⟨by omega, by omega⟩ (fun h1 => ?_) (fun h1 => ?_)
    · refine KLdc (n := 48353) C u_ct_RL_7 (by decide) dL_cell_12 ?_
      refine KIload_n C dL_cell_14 rfl 1 rfl ?_
      refine KBipush C dL_cell_15 (by decide) ?_
      refine KIadd C dL_cell_17 ?_
      refine KImul C dL_cell_18 ?_
      refine KLdc (n := 2605541) C u_ct_RL_8 (by decide) dL_cell_19 ?_
      refine KIadd C dL_cell_21 ?_
      exact KIret C rfl rfl ⟨⟨_, rfl⟩, rfl⟩ (by decide) (by decide) dL_cell_22
    · refine KAload_n C dL_cell_6 rfl 0 rfl ?_
      refine KIload_n C dL_cell_7 rfl 1 rfl ?_
      refine KSld C hX hb (by omega) k rfl (by omega) dL_cell_8 ?_
      refine KGoto C dL_cell_9 rfl ?_
      exact KIret C rfl rfl ⟨⟨_, rfl⟩, rfl⟩ (by decide) (by decide) dL_cell_22
  exact body _ _ _ hP hD va_S.rf hR hl
section
variable {p : Program} {l : Launch} {e : Env} {s : State} {m : MethodId} {args : Array Value} {below : List Frame} {meth : Method} {c : Code} {Q : State → Prop} {g : GG} {cells slots pc b0 L : Nat} {xs : Nat → Int32} {S : Sto} {lv : List (Nat × Value)} {st : List Value}
theorem KCell (C : Cx p l s m args meth c cL_law 22 RL ret g) (hX : va_X b0 L xs s s.heap) (hb : b0 < gB g) (hL : L ≤ 260) {x : Int} (k : Nat) (hx : x = (k : Int)) (hk : k < 100) (hf : cells ≤ 600128 ∧ slots ≤ 7301064) (hw : (st.map fun v => v.category).sum ≤ 8) (hdg : decode cL_law pc = .ok (.invokestatic 131, 3)) (kk : ∀ e9 : Int, Wk p l e room_1 s m args below meth c Q g 22 cells slots (pc + 3) lv (.int (iI e9) :: st) S) : Wk p l e room_1 s m args below meth c Q g 22 cells slots pc lv (.int (iI x) :: .ref b0 :: st) S := fun H locs ls hP hD hS hR0 hl => by
  subst hx
  have run := va_runS (g := F0 m pc ls (.int (iI (k : Int)) :: .ref b0 :: st)) (e := e) (below := below) (meth := meth) (rest := st) (H := H) (locs := locs) (cells := cells) (slots := slots) (As := [.ref b0, .int (iI (k : Int))]) (R := room_1) ⟨C.1, C.2.1, C.2.2.1, C.home, C.words⟩ (ct_cell l g S b0 L xs k hb hL hk) (cwS 2 C.words (goodUW (by
    intro w h
    simp only [wsS, List.cons_append, List.nil_append, List.mem_cons] at h
    rcases h with rfl | rfl | rfl | rfl | h
    · exact u_ml_RL_131
    · exact u_st_yL_cell
    · exact u_in_RL
    · exact u_co_yL_cell
    · exact h)) rfl rfl rfl hd_yL_cell ⟨Nat.le_of_ble_eq_true rfl, Nat.le_of_ble_eq_true rfl⟩) ⟨PcC.blind, fun U hU hW => ⟨C.pcg hP hD hS hR0 _ hU hW, (hX.moved hW.alike).kept (by
      have hb2 := C.base
      rw [hU]
      exact hS.2.1 b0 (by omega) (by unfold ge; omega))⟩⟩ rfl rfl hl.1 rfl (lv_room hw) hdg ⟨by show cells + 0 ≤ 600128; omega, by show slots + 0 ≤ 7301064; omega⟩
  intro T hT X
  obtain ⟨v, st₀, t, T', L9, h0, X', hL9, e1, e2, ⟨⟨v2, u, hv, ⟨⟨e9, hp⟩, hp2⟩, hP1, hD1, hR1⟩, hF⟩, stp⟩ := run T hT X
  cases hv
  subst hp hp2
  have hS1 : va_S (ge (gB g)) s.heap T'.heap (locs ++ L9) := by
    rw [← h0] at hS
    refine ⟨Nat.le_trans hS.1 (by rw [e1]; exact hF.1), fun q h1 h2 => ?_, fun q hq => ?_⟩
    · rw [e1, hF.2 q (Nat.lt_of_lt_of_le h1 hS.1) h2]
      exact hS.2.1 q h1 h2
    · rcases List.mem_append.mp hq with h | h
      · exact hS.2.2 q h
      · exact hL9 q h
  rw [← e1] at hP1
  obtain ⟨t2, a1, b1⟩ := kk e9 T'.heap (locs ++ L9) ls hP1 hD1 hS1 hR1 hl T' rfl X'
  exact ⟨t2, stp t2 a1, b1⟩
end
