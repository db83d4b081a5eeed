/-! ===== the script's first ints; the law's loop ===== -/
def PcC (g : GG) (av : List Value) (S : Sto) (b0 L : Nat) (xs : Nat → Int32) : Array Value → State → Prop := fun v U => PcG g av S v U ∧ va_X b0 L xs U U.heap
theorem PcC.blind {g : GG} {av : List Value} {S : Sto} {b0 L : Nat} {xs : Nat → Int32} : FrameBlind (PcC g av S b0 L xs) := by
  intro a U fr mk h
  exact ⟨PcG.blind a U fr mk h.1, h.2.moved (u := U) (U := U.calling fr mk a) (Vm.Alike.refl U.vm)⟩
def cellOf (L : Nat) (xs : Nat → Int32) (k : Nat) : Int := if k < L then (xs k).toInt else 0
theorem cellOf_r (L : Nat) (xs : Nat → Int32) (k : Nat) : inR (cellOf L xs k) := by
  unfold cellOf
  split
  · exact inR_of _
  · exact inR_0
theorem ct_cell (l : Launch) (g : GG) (S : Sto) (b0 L : Nat) (xs : Nat → Int32) (k : Nat) (hb : b0 < gB g) (hL : L ≤ 2051) (hk : k < 10) : Met l yL_cell (.code yL_cell cL_cell 2 (some .int) :: UW) (rmK 1 0 0) (PcC g [.ref b0, .int (iI (k : Int))] S b0 L xs) (QcG g (fun v u => v = some (.int (iI (cellOf L xs k))) ∧ S = u)) 0 0 (ge (gB g)) := by
  refine Met.ofW (cc := cL_cell) (maxL := 2) (ret := some .int) (by decide) rfl ?_
  intro p e s m args below meth c s₁ B hml hv
  obtain ⟨⟨rfl, hsz, hP, hD, hR, hK, hSt, hN⟩, hX⟩ := hv
  have hts := atoms_spec (ws := .code yL_cell cL_cell 2 (some .int) :: UW) B.pre
  have hown : s.vm.findClass RL = some m.cls := findClass_of_methodNamed B.named
  have hl := lv_entry [.ref b0, .int (iI (k : Int))] (n := 2) (Nat.le_of_ble_eq_true rfl)
  rw [lg_entry_eq]
  have C : Cx p l s m ([.ref b0, .int (iI (k : Int))] : List Value).toArray meth c cL_cell 2 RL (some .int) g := ⟨B.exec, B.bytes, hml, hown, fun w h => hts w (List.mem_cons_of_mem _ h), hK, hSt, hsz, B.returns, B.notSynchronized, hN⟩
  have body : Wk p l e (rmK 1 0 0) s m ([.ref b0, .int (iI (k : Int))] : List Value).toArray below meth c (MQ below (QcG g (fun v u => v = some (.int (iI (cellOf L xs k))) ∧ S = u)) ([.ref b0, .int (iI (k : Int))] : List Value).toArray s 0 0 (ge (gB g))) g 2 0 0 0 [(0, .ref b0), (1, .int (iI (k : Int)))] [] S := by
    refine KIload_n C dL_cell_0 rfl 1 rfl ?_
    refine KAload_n C dL_cell_1 rfl 0 rfl ?_
    refine KSlen C hX hb dL_cell_2 ?_
    refine KIcmp_ge C dL_cell_3 rfl ⟨by omega, by omega⟩ ⟨by omega, by omega⟩ (fun h1 => ?_) (fun h1 => ?_)
    · refine KIconst C dL_cell_12 ?_
      exact KIret C rfl rfl ⟨by unfold cellOf; rw [if_neg (by omega)], rfl⟩ (by decide) (by decide) dL_cell_13
    · refine KAload_n C dL_cell_6 rfl 0 rfl ?_
      refine KIload_n C dL_cell_7 rfl 1 rfl ?_
      refine KSld C hX hb hL k rfl (by omega) dL_cell_8 ?_
      refine KGoto C dL_cell_9 rfl ?_
      exact KIret C rfl rfl ⟨by unfold cellOf; rw [if_pos (by omega)], rfl⟩ (by decide) (by decide) dL_cell_13
  exact body _ _ _ hP hD va_S.rf hR hl
section
variable {p : Program} {l : Launch} {e : Env} {s : State} {m : MethodId} {args : Array Value} {below : List Frame} {meth : Method} {c : Code} {Q : State → Prop} {g : GG} {cells slots pc b0 L : Nat} {xs : Nat → Int32} {S : Sto} {lv : List (Nat × Value)} {st : List Value}
theorem KCell (C : Cx p l s m args meth c cL_law 9 RL ret g) (hX : va_X b0 L xs s s.heap) (hb : b0 < gB g) (hL : L ≤ 2051) {x : Int} (k : Nat) (hx : x = (k : Int)) (hk : k < 10) (hf : cells ≤ 601024 ∧ slots ≤ 7293000) (hw : (st.map fun v => v.category).sum ≤ 8) (hdg : decode cL_law pc = .ok (.invokestatic 79, 3)) (kk : Wk p l e room_1 s m args below meth c Q g 9 cells slots (pc + 3) lv (.int (iI (cellOf L xs k)) :: st) S) : Wk p l e room_1 s m args below meth c Q g 9 cells slots pc lv (.int (iI x) :: .ref b0 :: st) S := fun H locs ls hP hD hS hR0 hl => by
  subst hx
  have run := va_runS (g := F0 m pc ls (.int (iI (k : Int)) :: .ref b0 :: st)) (e := e) (below := below) (meth := meth) (rest := st) (H := H) (locs := locs) (cells := cells) (slots := slots) (As := [.ref b0, .int (iI (k : Int))]) (R := room_1) ⟨C.1, C.2.1, C.2.2.1, C.home, C.words⟩ (ct_cell l g S b0 L xs k hb hL hk) (cwS 2 C.words (goodUW (by
    intro w h
    simp only [wsS, List.cons_append, List.nil_append, List.mem_cons] at h
    rcases h with rfl | rfl | rfl | rfl | h
    · exact u_ml_RL_79
    · exact u_st_yL_cell
    · exact u_in_RL
    · exact u_co_yL_cell
    · exact h)) rfl rfl rfl hd_yL_cell ⟨Nat.le_of_ble_eq_true rfl, Nat.le_of_ble_eq_true rfl⟩) ⟨PcC.blind, fun U hU hW => ⟨C.pcg hP hD hS hR0 _ hU hW, (hX.moved hW.alike).kept (by
      have hb2 := C.base
      rw [hU]
      exact hS.2.1 b0 (by omega) (by unfold ge; omega))⟩⟩ rfl rfl hl.1 rfl (lv_room hw) hdg ⟨by show cells + 0 ≤ 601024; omega, by show slots + 0 ≤ 7293000; omega⟩
  intro T hT X
  obtain ⟨v, st₀, t, T', L9, h0, X', hL9, e1, e2, ⟨⟨v2, u, hv, ⟨hp, hp2⟩, hP1, hD1, hR1⟩, hF⟩, stp⟩ := run T hT X
  cases hv
  subst hp hp2
  have hS1 : va_S (ge (gB g)) s.heap T'.heap (locs ++ L9) := by
    rw [← h0] at hS
    refine ⟨Nat.le_trans hS.1 (by rw [e1]; exact hF.1), fun q h1 h2 => ?_, fun q hq => ?_⟩
    · rw [e1, hF.2 q (Nat.lt_of_lt_of_le h1 hS.1) h2]
      exact hS.2.1 q h1 h2
    · rcases List.mem_append.mp hq with h | h
      · exact hS.2.2 q h
      · exact hL9 q h
  rw [← e1] at hP1
  obtain ⟨t2, a1, b1⟩ := kk T'.heap (locs ++ L9) ls hP1 hD1 hS1 hR1 hl T' rfl X'
  exact ⟨t2, stp t2 a1, b1⟩
theorem law_end (C : Cx p l s m #[Value.ref b0] meth c cL_law 9 RL ret g) (hgB : gB g = s.heap.size) (hc : cells ≤ 601024 ∧ slots ≤ 7293000) : Wk p l e room_1 s m #[Value.ref b0] below meth c (lw_Z below #[Value.ref b0] s) g 9 cells slots 1446 lv [] S := fun H locs ls hP hD hS hR hl => by
  refine lv_iconst (v := 1) C.1 C.2.1 dL_law_1446 rfl ?_
  refine va_forget (fun q hq => ?_) ?_
  · have h1 := hS.2.2 q hq
    rw [hgB] at h1
    exact h1
  · refine W.widen hc.1 hc.2 ?_
    refine W.base ?_
    exact lw_ret (Drawn.sameBut.refl s.drawn lw_cs) C.1 C.2.1 C.rett C.locks dL_law_1447
theorem law_loop (hnt : l.stackTraces = false) (C : Cx p l s m #[Value.ref b0] meth c cL_law 9 RL ret g) (hgB : gB g = s.heap.size) (hnc : Ncs s) (hX : va_X b0 L xs s s.heap) (hb : b0 < gB g) (hL : L ≤ 2051) (q : Nat → Nat) : ∀ (n k : Nat) (S : Sto) (z : Sig), 514 ≤ n + k → k ≤ 513 → Bth S q (gT g) z → Wk p l e room_1 s m #[Value.ref b0] below meth c (lw_Z below #[Value.ref b0] s) g 9 (78 + 161 * k) (12256 + 3006 * k) 53 (LV b0 q (3 + 4 * k)) [] S := by
  intro n
  induction n with
  | zero => intro k S z h1 h2; omega
  | succ n ih =>
    intro k S z h1 h2 h
    refine KIload C dL_law_53 4 rfl ?_
    refine KAload_n C dL_law_55 rfl 0 rfl ?_
    refine KSlen C hX hb dL_law_56 ?_
    refine KIconst C dL_law_57 ?_
    refine KIsub C dL_law_58 ?_
    refine KIcmp_gt C dL_law_59 rfl ⟨by omega, by omega⟩ ⟨by omega, by omega⟩ (fun h3 => ?_) (fun h3 => ?_)
    · exact law_end C hgB ⟨by omega, by omega⟩
    · have nxt : Nxt p l e s m #[Value.ref b0] below meth c (lw_Z below #[Value.ref b0] s) g q b0 (3 + 4 * k) (78 + 161 * k) (12256 + 3006 * k) := by
        intro u z9 hB
        refine KIinc (v := ((3 + 4 * (k + 1) : Nat) : Int)) (lv' := [(4, .int (iI ((3 + 4 * (k + 1) : Nat) : Int))), (0, .ref b0), (1, .ref (q 0)), (2, .ref (q 80)), (3, .ref (q 93))]) C dL_law_1440 4 rfl (by omega) (by decide) rfl ?_
        refine KGoto C dL_law_1443 rfl ?_
        refine KLv (lv' := LV b0 q (3 + 4 * (k + 1))) [1, 2, 3, 4, 0] rfl ?_
        exact KWiden (by omega) (by omega) (ih (k + 1) u z9 (by omega) (by omega) hB)
      refine KAload_n C dL_law_62 rfl 0 rfl ?_
      refine KIload C dL_law_63 4 rfl ?_
      refine KSld C hX hb hL (3 + 4 * k) rfl (by omega) dL_law_65 ?_
      refine KBipush C dL_law_66 (by decide) ?_
      obtain ⟨w, hw, hwe⟩ : ∃ w : Int, inR w ∧ iI (xs (3 + 4 * k)).toInt &&& iI 31 = iI w := ⟨_, inR_of _, (iI_of _).symm⟩
      refine KIand C dL_law_68 hwe ?_
      by_cases hout : w < 0 ∨ 23 < w
      · refine KTabOut C dL_law_69 hw hout rfl ?_
        exact KWiden (by omega) (by omega) (nxt S z h)
      · rcases (show w = 0 ∨ w = 1 ∨ w = 2 ∨ w = 3 ∨ w = 4 ∨ w = 5 ∨ w = 6 ∨ w = 7 ∨ w = 8 ∨ w = 9 ∨ w = 10 ∨ w = 11 ∨ w = 12 ∨ w = 13 ∨ w = 14 ∨ w = 15 ∨ w = 16 ∨ w = 17 ∨ w = 18 ∨ w = 19 ∨ w = 20 ∨ w = 21 ∨ w = 22 ∨ w = 23 by omega) with hw9 | hw9 | hw9 | hw9 | hw9 | hw9 | hw9 | hw9 | hw9 | hw9 | hw9 | hw9 | hw9 | hw9 | hw9 | hw9 | hw9 | hw9 | hw9 | hw9 | hw9 | hw9 | hw9 | hw9
        · subst hw9
          refine KTabIn C dL_law_69 hw (by decide) (by decide) rfl rfl ?_
          exact cs_put hnt C hnc hX hb hL (by omega) ⟨by omega, by omega⟩ h nxt
        · subst hw9
          refine KTabIn C dL_law_69 hw (by decide) (by decide) rfl rfl ?_
          exact cs_layOut hnt C hnc hX hb hL (by omega) ⟨by omega, by omega⟩ h nxt
        · subst hw9
          refine KTabIn C dL_law_69 hw (by decide) (by decide) rfl rfl ?_
          exact cs_placeOf hnt C hnc hX hb hL (by omega) ⟨by omega, by omega⟩ h nxt
        · subst hw9
          refine KTabIn C dL_law_69 hw (by decide) (by decide) rfl rfl ?_
          exact cs_turnover hnt C hnc hX hb hL (by omega) ⟨by omega, by omega⟩ h nxt
        · subst hw9
          refine KTabIn C dL_law_69 hw (by decide) (by decide) rfl rfl ?_
          exact cs_distance hnt C hnc hX hb hL (by omega) ⟨by omega, by omega⟩ h nxt
        · subst hw9
          refine KTabIn C dL_law_69 hw (by decide) (by decide) rfl rfl ?_
          exact cs_order hnt C hnc hX hb hL (by omega) ⟨by omega, by omega⟩ h nxt
        · subst hw9
          refine KTabIn C dL_law_69 hw (by decide) (by decide) rfl rfl ?_
          exact cs_line hnt C hnc hX hb hL (by omega) ⟨by omega, by omega⟩ h nxt
        · subst hw9
          refine KTabIn C dL_law_69 hw (by decide) (by decide) rfl rfl ?_
          exact cs_orders hnt C hnc hX hb hL (by omega) ⟨by omega, by omega⟩ h nxt
        · subst hw9
          refine KTabIn C dL_law_69 hw (by decide) (by decide) rfl rfl ?_
          exact cs_stateOf hnt C hnc hX hb hL (by omega) ⟨by omega, by omega⟩ h nxt
        · subst hw9
          refine KTabIn C dL_law_69 hw (by decide) (by decide) rfl rfl ?_
          exact cs_lengthAlone hnt C hnc hX hb hL (by omega) ⟨by omega, by omega⟩ h nxt
        · subst hw9
          refine KTabIn C dL_law_69 hw (by decide) (by decide) rfl rfl ?_
          exact cs_setCapacity hnt C hnc hX hb hL (by omega) ⟨by omega, by omega⟩ h nxt
        · subst hw9
          refine KTabIn C dL_law_69 hw (by decide) (by decide) rfl rfl ?_
          exact cs_planWave hnt C hnc hX hb hL (by omega) ⟨by omega, by omega⟩ h nxt
        · subst hw9
          refine KTabIn C dL_law_69 hw (by decide) (by decide) rfl rfl ?_
          exact cs_pick hnt C hnc hX hb hL (by omega) ⟨by omega, by omega⟩ h nxt
        · subst hw9
          refine KTabIn C dL_law_69 hw (by decide) (by decide) rfl rfl ?_
          exact cs_batches hnt C hnc hX hb hL (by omega) ⟨by omega, by omega⟩ h nxt
        · subst hw9
          refine KTabIn C dL_law_69 hw (by decide) (by decide) rfl rfl ?_
          exact cs_batchOf hnt C hnc hX hb hL (by omega) ⟨by omega, by omega⟩ h nxt
        · subst hw9
          refine KTabIn C dL_law_69 hw (by decide) (by decide) rfl rfl ?_
          exact cs_linesOf hnt C hnc hX hb hL (by omega) ⟨by omega, by omega⟩ h nxt
        · subst hw9
          refine KTabIn C dL_law_69 hw (by decide) (by decide) rfl rfl ?_
          exact cs_lengthOf hnt C hnc hX hb hL (by omega) ⟨by omega, by omega⟩ h nxt
        · subst hw9
          refine KTabIn C dL_law_69 hw (by decide) (by decide) rfl rfl ?_
          exact cs_lengthByTrying hnt C hnc hX hb hL (by omega) ⟨by omega, by omega⟩ h nxt
        · subst hw9
          refine KTabIn C dL_law_69 hw (by decide) (by decide) rfl rfl ?_
          exact cs_lengthThrough hnt C hnc hX hb hL (by omega) ⟨by omega, by omega⟩ h nxt
        · subst hw9
          refine KTabIn C dL_law_69 hw (by decide) (by decide) rfl rfl ?_
          exact cs_stops hnt C hnc hX hb hL (by omega) ⟨by omega, by omega⟩ h nxt
        · subst hw9
          refine KTabIn C dL_law_69 hw (by decide) (by decide) rfl rfl ?_
          exact cs_stopAt hnt C hnc hX hb hL (by omega) ⟨by omega, by omega⟩ h nxt
        · subst hw9
          refine KTabIn C dL_law_69 hw (by decide) (by decide) rfl rfl ?_
          exact cs_inAisle hnt C hnc hX hb hL (by omega) ⟨by omega, by omega⟩ h nxt
        · subst hw9
          refine KTabIn C dL_law_69 hw (by decide) (by decide) rfl rfl ?_
          exact cs_walked hnt C hnc hX hb hL (by omega) ⟨by omega, by omega⟩ h nxt
        · subst hw9
          refine KTabIn C dL_law_69 hw (by decide) (by decide) rfl rfl ?_
          exact cs_share hnt C hnc hX hb hL (by omega) ⟨by omega, by omega⟩ h nxt
end
