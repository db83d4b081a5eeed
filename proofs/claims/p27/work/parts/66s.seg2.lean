section
variable {pX : Program} {l : Launch} {eX : Env} {sX : State} {mX : MethodId} {argsX : Array Value} {belowX : List Frame} {methX : Method} {cX : Code} {QX : State → Prop} {g : GG} {cells slots b0 : Nat} {S : Sto} {q : Nat → Nat}
set_option maxRecDepth 100000 in
set_option maxHeartbeats 4000000 in
theorem sg_line2 (hnt : l.stackTraces = false) (C : Cx pX l sX mX argsX methX cX cL_law 22 RL ret g) (hnc : Ncs sX) (hc : cells + 475 ≤ 600128 ∧ slots + 4890 ≤ 7301064) (e9 : Int) (tn a9 p9 o9 : Nat) (z : Sig) (R : Int → Int) (hI : LI S q (gT g) z z R) (hW : Wf z) (hp9 : p9 < 20) (ho9 : o9 ≤ zo z) (kk : Nxt pX l eX sX mX argsX belowX methX cX QX g q b0 e9 (tn : Int) cells slots) : Wk pX l eX room_1 sX mX argsX belowX methX cX QX g 22 cells slots 513 [(0, .ref b0), (1, .ref (q 80)), (2, .int (iI e9)), (3, .ref (q 0)), (4, .ref (q 81)), (5, .ref (q 82)), (6, .ref (q 83)), (7, .ref (q 84)), (8, .ref (q 85)), (9, .ref (q 86)), (10, .ref (q 87)), (11, .ref (q 88)), (12, .int (iI (tn : Int))), (13, .int (iI (a9 : Int))), (14, .int (iI (p9 : Int))), (15, .int (iI (o9 : Int))), (16, .int (iI 0)), (17, .int (iI 0))] [] S := by
  refine KRg (fun hR => ?_)
  obtain ⟨h12, h6c⟩ := hI.l12
  have hC := hW.1
  have hbo := hW.2.1.2
  have hp1 := hW.plI (x := (p9 : Int)) (by omega)
  refine KIload C dL_law_513 15 rfl ?_
  refine KAload_n C dL_law_515 rfl 1 rfl ?_
  refine KIconst C dL_law_516 ?_
  refine KIald  (v := (zo z : Int)) C 8 (hI.1.at0 80 20) (hI.1.ln0 80 8) ⟨by omega, by omega⟩ (by omega) hI.q1 dL_law_517 ?_
  refine KIcmp_ge (tgt := 533) C dL_law_518 (by decide) ⟨by omega, by omega⟩ ⟨by omega, by omega⟩ (fun c518 => ?_) (fun c518 => ?_)
  · have hoz : o9 = zo z := by omega
    refine KIconst C dL_law_533 ?_
    refine KIstore (lv' := [(18, .int (iI 0)), (0, .ref b0), (1, .ref (q 80)), (2, .int (iI e9)), (3, .ref (q 0)), (4, .ref (q 81)), (5, .ref (q 82)), (6, .ref (q 83)), (7, .ref (q 84)), (8, .ref (q 85)), (9, .ref (q 86)), (10, .ref (q 87)), (11, .ref (q 88)), (12, .int (iI (tn : Int))), (13, .int (iI (a9 : Int))), (14, .int (iI (p9 : Int))), (15, .int (iI (o9 : Int))), (16, .int (iI 0)), (17, .int (iI 0))]) C dL_law_534 (by decide) rfl ?_
    refine KIload C dL_law_536 16 rfl ?_
    refine KAload_n C dL_law_538 rfl 2 rfl ?_
    refine KIconst C dL_law_539 ?_
    refine KIald  (v := (zo z : Int)) C 8 (hI.1.at0 80 20) (hI.1.ln0 80 8) ⟨by omega, by omega⟩ (by omega) hI.q1 dL_law_540 ?_
    refine KIcmp_ge (tgt := 599) C dL_law_541 (by decide) ⟨by omega, by omega⟩ ⟨by omega, by omega⟩ (fun c541 => ?_) (fun c541 => absurd c541 (by omega))
    refine KIconst C dL_law_599 ?_
    refine KIstore (lv' := [(19, .int (iI 0)), (18, .int (iI 0)), (0, .ref b0), (1, .ref (q 80)), (2, .int (iI e9)), (3, .ref (q 0)), (4, .ref (q 81)), (5, .ref (q 82)), (6, .ref (q 83)), (7, .ref (q 84)), (8, .ref (q 85)), (9, .ref (q 86)), (10, .ref (q 87)), (11, .ref (q 88)), (12, .int (iI (tn : Int))), (13, .int (iI (a9 : Int))), (14, .int (iI (p9 : Int))), (15, .int (iI (o9 : Int))), (16, .int (iI 0)), (17, .int (iI 0))]) C dL_law_600 (by decide) rfl ?_
    refine KIload C dL_law_602 0 rfl ?_
    refine KIf_eq (tgt := 652) C dL_law_604 (by decide) ⟨by omega, by omega⟩ (fun _ => ?_) (fun h => absurd h (by decide))
    refine KIload C dL_law_652 0 rfl ?_
    refine KIf_eq (tgt := 664) C dL_law_654 (by decide) ⟨by omega, by omega⟩ (fun _ => ?_) (fun h => absurd h (by decide))
    refine KIload C dL_law_664 17 rfl ?_
    refine KAload_n C dL_law_666 rfl 3 rfl ?_
    refine KIconst C dL_law_667 ?_
    refine KIald  (v := (zo z : Int)) C 8 (hI.1.at0 80 20) (hI.1.ln0 80 8) ⟨by omega, by omega⟩ (by omega) hI.q1 dL_law_668 ?_
    refine KIcmp_ne (tgt := 677) C dL_law_669 (by decide) ⟨by omega, by omega⟩ ⟨by omega, by omega⟩ (fun c669 => absurd c669 (by omega)) (fun c669 => ?_)
    refine KBipush C dL_law_672 (by decide) ?_
    refine KGoto (tgt := 679) C dL_law_674 (by decide) ?_
    refine KIstore (lv' := [(16, .int (iI (-4))), (19, .int (iI 0)), (18, .int (iI 0)), (0, .ref b0), (1, .ref (q 80)), (2, .int (iI e9)), (3, .ref (q 0)), (4, .ref (q 81)), (5, .ref (q 82)), (6, .ref (q 83)), (7, .ref (q 84)), (8, .ref (q 85)), (9, .ref (q 86)), (10, .ref (q 87)), (11, .ref (q 88)), (12, .int (iI (tn : Int))), (13, .int (iI (a9 : Int))), (14, .int (iI (p9 : Int))), (15, .int (iI (o9 : Int))), (17, .int (iI 0))]) C dL_law_679 (by decide) rfl ?_
    refine KAload_n C dL_law_681 rfl 6 rfl ?_
    refine KIconst C dL_law_682 ?_
    refine KIload C dL_law_683 18 rfl ?_
    refine KIload C dL_law_685 17 rfl ?_
    refine KIconst C dL_law_687 ?_
    refine KIload_n C dL_law_688 rfl 5 rfl ?_
    refine KIconst C dL_law_689 ?_
    refine KIshr (v := iI ((iI e9 >>> (iI 3 &&& 31)).toInt)) C dL_law_690 (iI_of _).symm ?_
    refine KBipush C dL_law_691 (by decide) ?_
    refine KCallS (As := [.int (iI ((iI e9 >>> (iI 3 &&& 31)).toInt)), .int (iI 99)]) (st := [.int (iI 1), .int (iI (p9 : Int)), .int (iI (o9 : Int)), .int (iI 2), .ref (q 0)]) C (ct_L_low l g S ((iI e9 >>> (iI 3 &&& 31)).toInt) 99 (by omega)) u_ml_RL_125 u_st_yL_low u_in_RL u_co_yL_low hd_yL_low ⟨Nat.le_of_ble_eq_true rfl, Nat.le_of_ble_eq_true rfl⟩ ⟨by show cells + 0 ≤ 600128; omega, by show slots + 0 ≤ 7301064; omega⟩ (Nat.le_of_ble_eq_true rfl) dL_law_693 rfl (fun v693 u693 hp693 => ?_)
    obtain ⟨rfl, rfl⟩ := hp693
    refine KSt (st2 := [.int (iI ((lowN ((iI e9 >>> (iI 3 &&& 31)).toInt) 99 : Nat) : Int)), .int (iI 1), .int (iI (p9 : Int)), .int (iI (o9 : Int)), .int (iI 2), .ref (q 0)]) rfl ?_
    obtain ⟨r693, hrd693⟩ : ∃ n9 : Nat, n9 = lowN ((iI e9 >>> (iI 3 &&& 31)).toInt) 99 := ⟨_, rfl⟩
    have hr693 := lowN_lt (x := ((iI e9 >>> (iI 3 &&& 31)).toInt)) (n := 99) (by omega)
    rw [← hrd693] at hr693
    refine KTop (congrArg iI (show ((lowN ((iI e9 >>> (iI 3 &&& 31)).toInt) 99 : Nat) : Int) = (r693 : Int) from (by rw [hrd693]))) ?_
    refine KIadd C dL_law_696 ?_
    refine KCallSH (As := [.ref (q 0), .int (iI 2), .int (iI (o9 : Int)), .int (iI (p9 : Int)), .int (iI (1 + (r693 : Int)))]) (st := []) C hnc (ct_L_calls_line l g hnt S q (o9 : Int) (p9 : Int) (1 + (r693 : Int)) z hI.1 hW hI.2.1 ⟨by omega, by omega⟩ ⟨by omega, by omega⟩ ⟨by omega, by omega⟩ (gT g) rfl) u_ml_RL_89 u_st_yL_calls u_in_RL u_cw_calls hd_yL_calls ⟨Nat.le_of_ble_eq_true rfl, Nat.le_of_ble_eq_true rfl⟩ ⟨by show cells + 4 ≤ 600128; omega, by show slots + 24 ≤ 7301064; omega⟩ (Nat.le_of_ble_eq_true rfl) dL_law_697 rfl (fun v697 u697 hp697 => ?_)
    obtain ⟨rfl, hc697⟩ := hp697.no (ho_Lin1 (by omega)) (by decide) (by decide : _ = ((-4) : Int))
    have hI697 := hI.cp hc697
    refine KSt (st2 := [.int (iI (-4))]) rfl ?_
    refine KRg (fun hR => ?_)
    have hWn := hW
    refine KIstore (lv' := [(17, .int (iI (-4))), (16, .int (iI (-4))), (19, .int (iI 0)), (18, .int (iI 0)), (0, .ref b0), (1, .ref (q 80)), (2, .int (iI e9)), (3, .ref (q 0)), (4, .ref (q 81)), (5, .ref (q 82)), (6, .ref (q 83)), (7, .ref (q 84)), (8, .ref (q 85)), (9, .ref (q 86)), (10, .ref (q 87)), (11, .ref (q 88)), (12, .int (iI (tn : Int))), (13, .int (iI (a9 : Int))), (14, .int (iI (p9 : Int))), (15, .int (iI (o9 : Int)))]) C dL_law_700 (by decide) rfl ?_
    refine KGoto (tgt := 1114) C dL_law_702 (by decide) ?_
    refine KLv (lv' := [(0, .ref b0), (1, .ref (q 80)), (2, .int (iI e9)), (3, .ref (q 0)), (4, .ref (q 81)), (5, .ref (q 82)), (6, .ref (q 83)), (7, .ref (q 84)), (8, .ref (q 85)), (9, .ref (q 86)), (10, .ref (q 87)), (11, .ref (q 88)), (12, .int (iI (tn : Int))), (16, .int (iI (-4))), (17, .int (iI (-4)))]) [4, 5, 6, 7, 8, 9, 10, 11, 12, 13, 14, 15, 16, 1, 0] rfl ?_
    exact KWiden (by omega) (by omega) (kk _ _ _ _ ⟨by omega, by omega⟩ hI697 hWn)
  · have hoz : o9 < zo z := by omega
    obtain ⟨⟨w1, w2⟩, w3, w4, w5, -, -, -⟩ := hW.2.2.2.2.1 o9 hoz
    refine KAload C dL_law_521 6 rfl ?_
    refine KIconst C dL_law_523 ?_
    refine KIload C dL_law_524 15 rfl ?_
    refine KImul C dL_law_526 ?_
    refine KIconst C dL_law_527 ?_
    refine KIadd C dL_law_528 ?_
    refine KTop (congrArg iI (show (4 * (o9 : Int)) + 3 = ((4 * o9 + 3 : Nat) : Int) from (by omega))) ?_
    refine KIald  (v := zmn z (o9 : Int)) C 48 (hI.1.at0 83 20) (hI.1.ln0 83 48) ⟨by omega, by omega⟩ (by omega) (hI.o o9 hoz).2.2.2 dL_law_529 ?_
    refine KGoto (tgt := 534) C dL_law_530 (by decide) ?_
    refine KIstore (lv' := [(18, .int (iI (zmn z (o9 : Int)))), (0, .ref b0), (1, .ref (q 80)), (2, .int (iI e9)), (3, .ref (q 0)), (4, .ref (q 81)), (5, .ref (q 82)), (6, .ref (q 83)), (7, .ref (q 84)), (8, .ref (q 85)), (9, .ref (q 86)), (10, .ref (q 87)), (11, .ref (q 88)), (12, .int (iI (tn : Int))), (13, .int (iI (a9 : Int))), (14, .int (iI (p9 : Int))), (15, .int (iI (o9 : Int))), (16, .int (iI 0)), (17, .int (iI 0))]) C dL_law_534 (by decide) rfl ?_
    refine KIload C dL_law_536 16 rfl ?_
    refine KAload_n C dL_law_538 rfl 2 rfl ?_
    refine KIconst C dL_law_539 ?_
    refine KIald  (v := (zo z : Int)) C 8 (hI.1.at0 80 20) (hI.1.ln0 80 8) ⟨by omega, by omega⟩ (by omega) hI.q1 dL_law_540 ?_
    refine KIcmp_ge (tgt := 599) C dL_law_541 (by decide) ⟨by omega, by omega⟩ ⟨by omega, by omega⟩ (fun c541 => absurd c541 (by omega)) (fun c541 => ?_)
    refine KAload C dL_law_544 7 rfl ?_
    refine KIconst C dL_law_546 ?_
    refine KIload C dL_law_547 16 rfl ?_
    refine KImul C dL_law_549 ?_
    refine KIconst C dL_law_550 ?_
    refine KIadd C dL_law_551 ?_
    refine KTop (congrArg iI (show (4 * (o9 : Int)) + 1 = ((4 * o9 + 1 : Nat) : Int) from (by omega))) ?_
    refine KIald  (v := zst z (o9 : Int)) C 48 (hI.1.at0 83 20) (hI.1.ln0 83 48) ⟨by omega, by omega⟩ (by omega) (hI.o o9 hoz).2.1 dL_law_552 ?_
    refine KIf_ne (tgt := 599) C dL_law_553 (by decide) ⟨by omega, by omega⟩ (fun c553 => ?_) (fun c553 => ?_)
    · have hbad : badL z o9 p9 := Or.inl (by omega)
      refine KIconst C dL_law_599 ?_
      refine KIstore (lv' := [(19, .int (iI 0)), (18, .int (iI (zmn z (o9 : Int)))), (0, .ref b0), (1, .ref (q 80)), (2, .int (iI e9)), (3, .ref (q 0)), (4, .ref (q 81)), (5, .ref (q 82)), (6, .ref (q 83)), (7, .ref (q 84)), (8, .ref (q 85)), (9, .ref (q 86)), (10, .ref (q 87)), (11, .ref (q 88)), (12, .int (iI (tn : Int))), (13, .int (iI (a9 : Int))), (14, .int (iI (p9 : Int))), (15, .int (iI (o9 : Int))), (16, .int (iI 0)), (17, .int (iI 0))]) C dL_law_600 (by decide) rfl ?_
      refine KIload C dL_law_602 0 rfl ?_
      refine KIf_eq (tgt := 652) C dL_law_604 (by decide) ⟨by omega, by omega⟩ (fun _ => ?_) (fun h => absurd h (by decide))
      refine KIload C dL_law_652 0 rfl ?_
      refine KIf_eq (tgt := 664) C dL_law_654 (by decide) ⟨by omega, by omega⟩ (fun _ => ?_) (fun h => absurd h (by decide))
      refine KIload C dL_law_664 17 rfl ?_
      refine KAload_n C dL_law_666 rfl 3 rfl ?_
      refine KIconst C dL_law_667 ?_
      refine KIald  (v := (zo z : Int)) C 8 (hI.1.at0 80 20) (hI.1.ln0 80 8) ⟨by omega, by omega⟩ (by omega) hI.q1 dL_law_668 ?_
      refine KIcmp_ne (tgt := 677) C dL_law_669 (by decide) ⟨by omega, by omega⟩ ⟨by omega, by omega⟩ (fun c669 => ?_) (fun c669 => absurd c669 (by omega))
      refine KBipush C dL_law_677 (by decide) ?_
      refine KIstore (lv' := [(16, .int (iI (-3))), (19, .int (iI 0)), (18, .int (iI (zmn z (o9 : Int)))), (0, .ref b0), (1, .ref (q 80)), (2, .int (iI e9)), (3, .ref (q 0)), (4, .ref (q 81)), (5, .ref (q 82)), (6, .ref (q 83)), (7, .ref (q 84)), (8, .ref (q 85)), (9, .ref (q 86)), (10, .ref (q 87)), (11, .ref (q 88)), (12, .int (iI (tn : Int))), (13, .int (iI (a9 : Int))), (14, .int (iI (p9 : Int))), (15, .int (iI (o9 : Int))), (17, .int (iI 0))]) C dL_law_679 (by decide) rfl ?_
      refine KAload_n C dL_law_681 rfl 6 rfl ?_
      refine KIconst C dL_law_682 ?_
      refine KIload C dL_law_683 18 rfl ?_
      refine KIload C dL_law_685 17 rfl ?_
      refine KIconst C dL_law_687 ?_
      refine KIload_n C dL_law_688 rfl 5 rfl ?_
      refine KIconst C dL_law_689 ?_
      refine KIshr (v := iI ((iI e9 >>> (iI 3 &&& 31)).toInt)) C dL_law_690 (iI_of _).symm ?_
      refine KBipush C dL_law_691 (by decide) ?_
      refine KCallS (As := [.int (iI ((iI e9 >>> (iI 3 &&& 31)).toInt)), .int (iI 99)]) (st := [.int (iI 1), .int (iI (p9 : Int)), .int (iI (o9 : Int)), .int (iI 2), .ref (q 0)]) C (ct_L_low l g S ((iI e9 >>> (iI 3 &&& 31)).toInt) 99 (by omega)) u_ml_RL_125 u_st_yL_low u_in_RL u_co_yL_low hd_yL_low ⟨Nat.le_of_ble_eq_true rfl, Nat.le_of_ble_eq_true rfl⟩ ⟨by show cells + 0 ≤ 600128; omega, by show slots + 0 ≤ 7301064; omega⟩ (Nat.le_of_ble_eq_true rfl) dL_law_693 rfl (fun v693 u693 hp693 => ?_)
      obtain ⟨rfl, rfl⟩ := hp693
      refine KSt (st2 := [.int (iI ((lowN ((iI e9 >>> (iI 3 &&& 31)).toInt) 99 : Nat) : Int)), .int (iI 1), .int (iI (p9 : Int)), .int (iI (o9 : Int)), .int (iI 2), .ref (q 0)]) rfl ?_
      obtain ⟨r693, hrd693⟩ : ∃ n9 : Nat, n9 = lowN ((iI e9 >>> (iI 3 &&& 31)).toInt) 99 := ⟨_, rfl⟩
      have hr693 := lowN_lt (x := ((iI e9 >>> (iI 3 &&& 31)).toInt)) (n := 99) (by omega)
      rw [← hrd693] at hr693
      refine KTop (congrArg iI (show ((lowN ((iI e9 >>> (iI 3 &&& 31)).toInt) 99 : Nat) : Int) = (r693 : Int) from (by rw [hrd693]))) ?_
      refine KIadd C dL_law_696 ?_
      refine KCallSH (As := [.ref (q 0), .int (iI 2), .int (iI (o9 : Int)), .int (iI (p9 : Int)), .int (iI (1 + (r693 : Int)))]) (st := []) C hnc (ct_L_calls_line l g hnt S q (o9 : Int) (p9 : Int) (1 + (r693 : Int)) z hI.1 hW hI.2.1 ⟨by omega, by omega⟩ ⟨by omega, by omega⟩ ⟨by omega, by omega⟩ (gT g) rfl) u_ml_RL_89 u_st_yL_calls u_in_RL u_cw_calls hd_yL_calls ⟨Nat.le_of_ble_eq_true rfl, Nat.le_of_ble_eq_true rfl⟩ ⟨by show cells + 4 ≤ 600128; omega, by show slots + 24 ≤ 7301064; omega⟩ (Nat.le_of_ble_eq_true rfl) dL_law_697 rfl (fun v697 u697 hp697 => ?_)
      obtain ⟨rfl, hc697⟩ := hp697.no (ho_Lin3 hoz hp9 ⟨by omega, by omega⟩ hbad) (by decide) (by decide : _ = ((-3) : Int))
      have hI697 := hI.cp hc697
      refine KSt (st2 := [.int (iI (-3))]) rfl ?_
      refine KRg (fun hR => ?_)
      have hWn := hW
      refine KIstore (lv' := [(17, .int (iI (-3))), (16, .int (iI (-3))), (19, .int (iI 0)), (18, .int (iI (zmn z (o9 : Int)))), (0, .ref b0), (1, .ref (q 80)), (2, .int (iI e9)), (3, .ref (q 0)), (4, .ref (q 81)), (5, .ref (q 82)), (6, .ref (q 83)), (7, .ref (q 84)), (8, .ref (q 85)), (9, .ref (q 86)), (10, .ref (q 87)), (11, .ref (q 88)), (12, .int (iI (tn : Int))), (13, .int (iI (a9 : Int))), (14, .int (iI (p9 : Int))), (15, .int (iI (o9 : Int)))]) C dL_law_700 (by decide) rfl ?_
      refine KGoto (tgt := 1114) C dL_law_702 (by decide) ?_
      refine KLv (lv' := [(0, .ref b0), (1, .ref (q 80)), (2, .int (iI e9)), (3, .ref (q 0)), (4, .ref (q 81)), (5, .ref (q 82)), (6, .ref (q 83)), (7, .ref (q 84)), (8, .ref (q 85)), (9, .ref (q 86)), (10, .ref (q 87)), (11, .ref (q 88)), (12, .int (iI (tn : Int))), (16, .int (iI (-3))), (17, .int (iI (-3)))]) [4, 5, 6, 7, 8, 9, 10, 11, 12, 13, 14, 15, 16, 1, 0] rfl ?_
      exact KWiden (by omega) (by omega) (kk _ _ _ _ ⟨by omega, by omega⟩ hI697 hWn)
    · refine KIload C dL_law_556 0 rfl ?_
      refine KIconst C dL_law_558 ?_
      refine KIcmp_ge (tgt := 599) C dL_law_559 (by decide) ⟨by omega, by omega⟩ ⟨by omega, by omega⟩ (fun c559 => ?_) (fun c559 => ?_)
      · have hbad : badL z o9 p9 := Or.inr (Or.inl (by omega))
        refine KIconst C dL_law_599 ?_
        refine KIstore (lv' := [(19, .int (iI 0)), (18, .int (iI (zmn z (o9 : Int)))), (0, .ref b0), (1, .ref (q 80)), (2, .int (iI e9)), (3, .ref (q 0)), (4, .ref (q 81)), (5, .ref (q 82)), (6, .ref (q 83)), (7, .ref (q 84)), (8, .ref (q 85)), (9, .ref (q 86)), (10, .ref (q 87)), (11, .ref (q 88)), (12, .int (iI (tn : Int))), (13, .int (iI (a9 : Int))), (14, .int (iI (p9 : Int))), (15, .int (iI (o9 : Int))), (16, .int (iI 0)), (17, .int (iI 0))]) C dL_law_600 (by decide) rfl ?_
        refine KIload C dL_law_602 0 rfl ?_
        refine KIf_eq (tgt := 652) C dL_law_604 (by decide) ⟨by omega, by omega⟩ (fun _ => ?_) (fun h => absurd h (by decide))
        refine KIload C dL_law_652 0 rfl ?_
        refine KIf_eq (tgt := 664) C dL_law_654 (by decide) ⟨by omega, by omega⟩ (fun _ => ?_) (fun h => absurd h (by decide))
        refine KIload C dL_law_664 17 rfl ?_
        refine KAload_n C dL_law_666 rfl 3 rfl ?_
        refine KIconst C dL_law_667 ?_
        refine KIald  (v := (zo z : Int)) C 8 (hI.1.at0 80 20) (hI.1.ln0 80 8) ⟨by omega, by omega⟩ (by omega) hI.q1 dL_law_668 ?_
        refine KIcmp_ne (tgt := 677) C dL_law_669 (by decide) ⟨by omega, by omega⟩ ⟨by omega, by omega⟩ (fun c669 => ?_) (fun c669 => absurd c669 (by omega))
        refine KBipush C dL_law_677 (by decide) ?_
        refine KIstore (lv' := [(16, .int (iI (-3))), (19, .int (iI 0)), (18, .int (iI (zmn z (o9 : Int)))), (0, .ref b0), (1, .ref (q 80)), (2, .int (iI e9)), (3, .ref (q 0)), (4, .ref (q 81)), (5, .ref (q 82)), (6, .ref (q 83)), (7, .ref (q 84)), (8, .ref (q 85)), (9, .ref (q 86)), (10, .ref (q 87)), (11, .ref (q 88)), (12, .int (iI (tn : Int))), (13, .int (iI (a9 : Int))), (14, .int (iI (p9 : Int))), (15, .int (iI (o9 : Int))), (17, .int (iI 0))]) C dL_law_679 (by decide) rfl ?_
        refine KAload_n C dL_law_681 rfl 6 rfl ?_
        refine KIconst C dL_law_682 ?_
        refine KIload C dL_law_683 18 rfl ?_
        refine KIload C dL_law_685 17 rfl ?_
        refine KIconst C dL_law_687 ?_
        refine KIload_n C dL_law_688 rfl 5 rfl ?_
        refine KIconst C dL_law_689 ?_
        refine KIshr (v := iI ((iI e9 >>> (iI 3 &&& 31)).toInt)) C dL_law_690 (iI_of _).symm ?_
        refine KBipush C dL_law_691 (by decide) ?_
        refine KCallS (As := [.int (iI ((iI e9 >>> (iI 3 &&& 31)).toInt)), .int (iI 99)]) (st := [.int (iI 1), .int (iI (p9 : Int)), .int (iI (o9 : Int)), .int (iI 2), .ref (q 0)]) C (ct_L_low l g S ((iI e9 >>> (iI 3 &&& 31)).toInt) 99 (by omega)) u_ml_RL_125 u_st_yL_low u_in_RL u_co_yL_low hd_yL_low ⟨Nat.le_of_ble_eq_true rfl, Nat.le_of_ble_eq_true rfl⟩ ⟨by show cells + 0 ≤ 600128; omega, by show slots + 0 ≤ 7301064; omega⟩ (Nat.le_of_ble_eq_true rfl) dL_law_693 rfl (fun v693 u693 hp693 => ?_)
        obtain ⟨rfl, rfl⟩ := hp693
        refine KSt (st2 := [.int (iI ((lowN ((iI e9 >>> (iI 3 &&& 31)).toInt) 99 : Nat) : Int)), .int (iI 1), .int (iI (p9 : Int)), .int (iI (o9 : Int)), .int (iI 2), .ref (q 0)]) rfl ?_
        obtain ⟨r693, hrd693⟩ : ∃ n9 : Nat, n9 = lowN ((iI e9 >>> (iI 3 &&& 31)).toInt) 99 := ⟨_, rfl⟩
        have hr693 := lowN_lt (x := ((iI e9 >>> (iI 3 &&& 31)).toInt)) (n := 99) (by omega)
        rw [← hrd693] at hr693
        refine KTop (congrArg iI (show ((lowN ((iI e9 >>> (iI 3 &&& 31)).toInt) 99 : Nat) : Int) = (r693 : Int) from (by rw [hrd693]))) ?_
        refine KIadd C dL_law_696 ?_
        refine KCallSH (As := [.ref (q 0), .int (iI 2), .int (iI (o9 : Int)), .int (iI (p9 : Int)), .int (iI (1 + (r693 : Int)))]) (st := []) C hnc (ct_L_calls_line l g hnt S q (o9 : Int) (p9 : Int) (1 + (r693 : Int)) z hI.1 hW hI.2.1 ⟨by omega, by omega⟩ ⟨by omega, by omega⟩ ⟨by omega, by omega⟩ (gT g) rfl) u_ml_RL_89 u_st_yL_calls u_in_RL u_cw_calls hd_yL_calls ⟨Nat.le_of_ble_eq_true rfl, Nat.le_of_ble_eq_true rfl⟩ ⟨by show cells + 4 ≤ 600128; omega, by show slots + 24 ≤ 7301064; omega⟩ (Nat.le_of_ble_eq_true rfl) dL_law_697 rfl (fun v697 u697 hp697 => ?_)
        obtain ⟨rfl, hc697⟩ := hp697.no (ho_Lin3 hoz hp9 ⟨by omega, by omega⟩ hbad) (by decide) (by decide : _ = ((-3) : Int))
        have hI697 := hI.cp hc697
        refine KSt (st2 := [.int (iI (-3))]) rfl ?_
        refine KRg (fun hR => ?_)
        have hWn := hW
        refine KIstore (lv' := [(17, .int (iI (-3))), (16, .int (iI (-3))), (19, .int (iI 0)), (18, .int (iI (zmn z (o9 : Int)))), (0, .ref b0), (1, .ref (q 80)), (2, .int (iI e9)), (3, .ref (q 0)), (4, .ref (q 81)), (5, .ref (q 82)), (6, .ref (q 83)), (7, .ref (q 84)), (8, .ref (q 85)), (9, .ref (q 86)), (10, .ref (q 87)), (11, .ref (q 88)), (12, .int (iI (tn : Int))), (13, .int (iI (a9 : Int))), (14, .int (iI (p9 : Int))), (15, .int (iI (o9 : Int)))]) C dL_law_700 (by decide) rfl ?_
        refine KGoto (tgt := 1114) C dL_law_702 (by decide) ?_
        refine KLv (lv' := [(0, .ref b0), (1, .ref (q 80)), (2, .int (iI e9)), (3, .ref (q 0)), (4, .ref (q 81)), (5, .ref (q 82)), (6, .ref (q 83)), (7, .ref (q 84)), (8, .ref (q 85)), (9, .ref (q 86)), (10, .ref (q 87)), (11, .ref (q 88)), (12, .int (iI (tn : Int))), (16, .int (iI (-3))), (17, .int (iI (-3)))]) [4, 5, 6, 7, 8, 9, 10, 11, 12, 13, 14, 15, 16, 1, 0] rfl ?_
        exact KWiden (by omega) (by omega) (kk _ _ _ _ ⟨by omega, by omega⟩ hI697 hWn)
      · refine KIload C dL_law_562 0 rfl ?_
        refine KAload_n C dL_law_564 rfl 2 rfl ?_
        refine KIconst C dL_law_565 ?_
        refine KIald  (v := zC z) C 8 (hI.1.at0 80 20) (hI.1.ln0 80 8) ⟨by omega, by omega⟩ (by omega) hI.q0 dL_law_566 ?_
        refine KIcmp_ge (tgt := 599) C dL_law_567 (by decide) ⟨by omega, by omega⟩ ⟨by omega, by omega⟩ (fun c567 => ?_) (fun c567 => ?_)
        · have hbad : badL z o9 p9 := Or.inr (Or.inr (Or.inl (by omega)))
          refine KIconst C dL_law_599 ?_
          refine KIstore (lv' := [(19, .int (iI 0)), (18, .int (iI (zmn z (o9 : Int)))), (0, .ref b0), (1, .ref (q 80)), (2, .int (iI e9)), (3, .ref (q 0)), (4, .ref (q 81)), (5, .ref (q 82)), (6, .ref (q 83)), (7, .ref (q 84)), (8, .ref (q 85)), (9, .ref (q 86)), (10, .ref (q 87)), (11, .ref (q 88)), (12, .int (iI (tn : Int))), (13, .int (iI (a9 : Int))), (14, .int (iI (p9 : Int))), (15, .int (iI (o9 : Int))), (16, .int (iI 0)), (17, .int (iI 0))]) C dL_law_600 (by decide) rfl ?_
          refine KIload C dL_law_602 0 rfl ?_
          refine KIf_eq (tgt := 652) C dL_law_604 (by decide) ⟨by omega, by omega⟩ (fun _ => ?_) (fun h => absurd h (by decide))
          refine KIload C dL_law_652 0 rfl ?_
          refine KIf_eq (tgt := 664) C dL_law_654 (by decide) ⟨by omega, by omega⟩ (fun _ => ?_) (fun h => absurd h (by decide))
          refine KIload C dL_law_664 17 rfl ?_
          refine KAload_n C dL_law_666 rfl 3 rfl ?_
          refine KIconst C dL_law_667 ?_
          refine KIald  (v := (zo z : Int)) C 8 (hI.1.at0 80 20) (hI.1.ln0 80 8) ⟨by omega, by omega⟩ (by omega) hI.q1 dL_law_668 ?_
          refine KIcmp_ne (tgt := 677) C dL_law_669 (by decide) ⟨by omega, by omega⟩ ⟨by omega, by omega⟩ (fun c669 => ?_) (fun c669 => absurd c669 (by omega))
          refine KBipush C dL_law_677 (by decide) ?_
          refine KIstore (lv' := [(16, .int (iI (-3))), (19, .int (iI 0)), (18, .int (iI (zmn z (o9 : Int)))), (0, .ref b0), (1, .ref (q 80)), (2, .int (iI e9)), (3, .ref (q 0)), (4, .ref (q 81)), (5, .ref (q 82)), (6, .ref (q 83)), (7, .ref (q 84)), (8, .ref (q 85)), (9, .ref (q 86)), (10, .ref (q 87)), (11, .ref (q 88)), (12, .int (iI (tn : Int))), (13, .int (iI (a9 : Int))), (14, .int (iI (p9 : Int))), (15, .int (iI (o9 : Int))), (17, .int (iI 0))]) C dL_law_679 (by decide) rfl ?_
          refine KAload_n C dL_law_681 rfl 6 rfl ?_
          refine KIconst C dL_law_682 ?_
          refine KIload C dL_law_683 18 rfl ?_
          refine KIload C dL_law_685 17 rfl ?_
          refine KIconst C dL_law_687 ?_
          refine KIload_n C dL_law_688 rfl 5 rfl ?_
          refine KIconst C dL_law_689 ?_
          refine KIshr (v := iI ((iI e9 >>> (iI 3 &&& 31)).toInt)) C dL_law_690 (iI_of _).symm ?_
          refine KBipush C dL_law_691 (by decide) ?_
          refine KCallS (As := [.int (iI ((iI e9 >>> (iI 3 &&& 31)).toInt)), .int (iI 99)]) (st := [.int (iI 1), .int (iI (p9 : Int)), .int (iI (o9 : Int)), .int (iI 2), .ref (q 0)]) C (ct_L_low l g S ((iI e9 >>> (iI 3 &&& 31)).toInt) 99 (by omega)) u_ml_RL_125 u_st_yL_low u_in_RL u_co_yL_low hd_yL_low ⟨Nat.le_of_ble_eq_true rfl, Nat.le_of_ble_eq_true rfl⟩ ⟨by show cells + 0 ≤ 600128; omega, by show slots + 0 ≤ 7301064; omega⟩ (Nat.le_of_ble_eq_true rfl) dL_law_693 rfl (fun v693 u693 hp693 => ?_)
          obtain ⟨rfl, rfl⟩ := hp693
          refine KSt (st2 := [.int (iI ((lowN ((iI e9 >>> (iI 3 &&& 31)).toInt) 99 : Nat) : Int)), .int (iI 1), .int (iI (p9 : Int)), .int (iI (o9 : Int)), .int (iI 2), .ref (q 0)]) rfl ?_
          obtain ⟨r693, hrd693⟩ : ∃ n9 : Nat, n9 = lowN ((iI e9 >>> (iI 3 &&& 31)).toInt) 99 := ⟨_, rfl⟩
          have hr693 := lowN_lt (x := ((iI e9 >>> (iI 3 &&& 31)).toInt)) (n := 99) (by omega)
          rw [← hrd693] at hr693
          refine KTop (congrArg iI (show ((lowN ((iI e9 >>> (iI 3 &&& 31)).toInt) 99 : Nat) : Int) = (r693 : Int) from (by rw [hrd693]))) ?_
          refine KIadd C dL_law_696 ?_
          refine KCallSH (As := [.ref (q 0), .int (iI 2), .int (iI (o9 : Int)), .int (iI (p9 : Int)), .int (iI (1 + (r693 : Int)))]) (st := []) C hnc (ct_L_calls_line l g hnt S q (o9 : Int) (p9 : Int) (1 + (r693 : Int)) z hI.1 hW hI.2.1 ⟨by omega, by omega⟩ ⟨by omega, by omega⟩ ⟨by omega, by omega⟩ (gT g) rfl) u_ml_RL_89 u_st_yL_calls u_in_RL u_cw_calls hd_yL_calls ⟨Nat.le_of_ble_eq_true rfl, Nat.le_of_ble_eq_true rfl⟩ ⟨by show cells + 4 ≤ 600128; omega, by show slots + 24 ≤ 7301064; omega⟩ (Nat.le_of_ble_eq_true rfl) dL_law_697 rfl (fun v697 u697 hp697 => ?_)
          obtain ⟨rfl, hc697⟩ := hp697.no (ho_Lin3 hoz hp9 ⟨by omega, by omega⟩ hbad) (by decide) (by decide : _ = ((-3) : Int))
          have hI697 := hI.cp hc697
          refine KSt (st2 := [.int (iI (-3))]) rfl ?_
          refine KRg (fun hR => ?_)
          have hWn := hW
          refine KIstore (lv' := [(17, .int (iI (-3))), (16, .int (iI (-3))), (19, .int (iI 0)), (18, .int (iI (zmn z (o9 : Int)))), (0, .ref b0), (1, .ref (q 80)), (2, .int (iI e9)), (3, .ref (q 0)), (4, .ref (q 81)), (5, .ref (q 82)), (6, .ref (q 83)), (7, .ref (q 84)), (8, .ref (q 85)), (9, .ref (q 86)), (10, .ref (q 87)), (11, .ref (q 88)), (12, .int (iI (tn : Int))), (13, .int (iI (a9 : Int))), (14, .int (iI (p9 : Int))), (15, .int (iI (o9 : Int)))]) C dL_law_700 (by decide) rfl ?_
          refine KGoto (tgt := 1114) C dL_law_702 (by decide) ?_
          refine KLv (lv' := [(0, .ref b0), (1, .ref (q 80)), (2, .int (iI e9)), (3, .ref (q 0)), (4, .ref (q 81)), (5, .ref (q 82)), (6, .ref (q 83)), (7, .ref (q 84)), (8, .ref (q 85)), (9, .ref (q 86)), (10, .ref (q 87)), (11, .ref (q 88)), (12, .int (iI (tn : Int))), (16, .int (iI (-3))), (17, .int (iI (-3)))]) [4, 5, 6, 7, 8, 9, 10, 11, 12, 13, 14, 15, 16, 1, 0] rfl ?_
          exact KWiden (by omega) (by omega) (kk _ _ _ _ ⟨by omega, by omega⟩ hI697 hWn)
        · refine KAload C dL_law_570 5 rfl ?_
          refine KIload C dL_law_572 15 rfl ?_
          refine KIald  (v := zP z (p9 : Int)) C 20 (hI.1.at0 81 20) (hI.1.ln0 81 20) ⟨by omega, by omega⟩ (by omega) (congrFun hI.P _) dL_law_574 ?_
          refine KIf_lt (tgt := 599) C dL_law_575 (by decide) ⟨by omega, by omega⟩ (fun c575 => ?_) (fun c575 => ?_)
          · have hbad : badL z o9 p9 := Or.inr (Or.inr (Or.inr (Or.inr (by omega))))
            refine KIconst C dL_law_599 ?_
            refine KIstore (lv' := [(19, .int (iI 0)), (18, .int (iI (zmn z (o9 : Int)))), (0, .ref b0), (1, .ref (q 80)), (2, .int (iI e9)), (3, .ref (q 0)), (4, .ref (q 81)), (5, .ref (q 82)), (6, .ref (q 83)), (7, .ref (q 84)), (8, .ref (q 85)), (9, .ref (q 86)), (10, .ref (q 87)), (11, .ref (q 88)), (12, .int (iI (tn : Int))), (13, .int (iI (a9 : Int))), (14, .int (iI (p9 : Int))), (15, .int (iI (o9 : Int))), (16, .int (iI 0)), (17, .int (iI 0))]) C dL_law_600 (by decide) rfl ?_
            refine KIload C dL_law_602 0 rfl ?_
            refine KIf_eq (tgt := 652) C dL_law_604 (by decide) ⟨by omega, by omega⟩ (fun _ => ?_) (fun h => absurd h (by decide))
            refine KIload C dL_law_652 0 rfl ?_
            refine KIf_eq (tgt := 664) C dL_law_654 (by decide) ⟨by omega, by omega⟩ (fun _ => ?_) (fun h => absurd h (by decide))
            refine KIload C dL_law_664 17 rfl ?_
            refine KAload_n C dL_law_666 rfl 3 rfl ?_
            refine KIconst C dL_law_667 ?_
            refine KIald  (v := (zo z : Int)) C 8 (hI.1.at0 80 20) (hI.1.ln0 80 8) ⟨by omega, by omega⟩ (by omega) hI.q1 dL_law_668 ?_
            refine KIcmp_ne (tgt := 677) C dL_law_669 (by decide) ⟨by omega, by omega⟩ ⟨by omega, by omega⟩ (fun c669 => ?_) (fun c669 => absurd c669 (by omega))
            refine KBipush C dL_law_677 (by decide) ?_
            refine KIstore (lv' := [(16, .int (iI (-3))), (19, .int (iI 0)), (18, .int (iI (zmn z (o9 : Int)))), (0, .ref b0), (1, .ref (q 80)), (2, .int (iI e9)), (3, .ref (q 0)), (4, .ref (q 81)), (5, .ref (q 82)), (6, .ref (q 83)), (7, .ref (q 84)), (8, .ref (q 85)), (9, .ref (q 86)), (10, .ref (q 87)), (11, .ref (q 88)), (12, .int (iI (tn : Int))), (13, .int (iI (a9 : Int))), (14, .int (iI (p9 : Int))), (15, .int (iI (o9 : Int))), (17, .int (iI 0))]) C dL_law_679 (by decide) rfl ?_
            refine KAload_n C dL_law_681 rfl 6 rfl ?_
            refine KIconst C dL_law_682 ?_
            refine KIload C dL_law_683 18 rfl ?_
            refine KIload C dL_law_685 17 rfl ?_
            refine KIconst C dL_law_687 ?_
            refine KIload_n C dL_law_688 rfl 5 rfl ?_
            refine KIconst C dL_law_689 ?_
            refine KIshr (v := iI ((iI e9 >>> (iI 3 &&& 31)).toInt)) C dL_law_690 (iI_of _).symm ?_
            refine KBipush C dL_law_691 (by decide) ?_
            refine KCallS (As := [.int (iI ((iI e9 >>> (iI 3 &&& 31)).toInt)), .int (iI 99)]) (st := [.int (iI 1), .int (iI (p9 : Int)), .int (iI (o9 : Int)), .int (iI 2), .ref (q 0)]) C (ct_L_low l g S ((iI e9 >>> (iI 3 &&& 31)).toInt) 99 (by omega)) u_ml_RL_125 u_st_yL_low u_in_RL u_co_yL_low hd_yL_low ⟨Nat.le_of_ble_eq_true rfl, Nat.le_of_ble_eq_true rfl⟩ ⟨by show cells + 0 ≤ 600128; omega, by show slots + 0 ≤ 7301064; omega⟩ (Nat.le_of_ble_eq_true rfl) dL_law_693 rfl (fun v693 u693 hp693 => ?_)
            obtain ⟨rfl, rfl⟩ := hp693
            refine KSt (st2 := [.int (iI ((lowN ((iI e9 >>> (iI 3 &&& 31)).toInt) 99 : Nat) : Int)), .int (iI 1), .int (iI (p9 : Int)), .int (iI (o9 : Int)), .int (iI 2), .ref (q 0)]) rfl ?_
            obtain ⟨r693, hrd693⟩ : ∃ n9 : Nat, n9 = lowN ((iI e9 >>> (iI 3 &&& 31)).toInt) 99 := ⟨_, rfl⟩
            have hr693 := lowN_lt (x := ((iI e9 >>> (iI 3 &&& 31)).toInt)) (n := 99) (by omega)
            rw [← hrd693] at hr693
            refine KTop (congrArg iI (show ((lowN ((iI e9 >>> (iI 3 &&& 31)).toInt) 99 : Nat) : Int) = (r693 : Int) from (by rw [hrd693]))) ?_
            refine KIadd C dL_law_696 ?_
            refine KCallSH (As := [.ref (q 0), .int (iI 2), .int (iI (o9 : Int)), .int (iI (p9 : Int)), .int (iI (1 + (r693 : Int)))]) (st := []) C hnc (ct_L_calls_line l g hnt S q (o9 : Int) (p9 : Int) (1 + (r693 : Int)) z hI.1 hW hI.2.1 ⟨by omega, by omega⟩ ⟨by omega, by omega⟩ ⟨by omega, by omega⟩ (gT g) rfl) u_ml_RL_89 u_st_yL_calls u_in_RL u_cw_calls hd_yL_calls ⟨Nat.le_of_ble_eq_true rfl, Nat.le_of_ble_eq_true rfl⟩ ⟨by show cells + 4 ≤ 600128; omega, by show slots + 24 ≤ 7301064; omega⟩ (Nat.le_of_ble_eq_true rfl) dL_law_697 rfl (fun v697 u697 hp697 => ?_)
            obtain ⟨rfl, hc697⟩ := hp697.no (ho_Lin3 hoz hp9 ⟨by omega, by omega⟩ hbad) (by decide) (by decide : _ = ((-3) : Int))
            have hI697 := hI.cp hc697
            refine KSt (st2 := [.int (iI (-3))]) rfl ?_
            refine KRg (fun hR => ?_)
            have hWn := hW
            refine KIstore (lv' := [(17, .int (iI (-3))), (16, .int (iI (-3))), (19, .int (iI 0)), (18, .int (iI (zmn z (o9 : Int)))), (0, .ref b0), (1, .ref (q 80)), (2, .int (iI e9)), (3, .ref (q 0)), (4, .ref (q 81)), (5, .ref (q 82)), (6, .ref (q 83)), (7, .ref (q 84)), (8, .ref (q 85)), (9, .ref (q 86)), (10, .ref (q 87)), (11, .ref (q 88)), (12, .int (iI (tn : Int))), (13, .int (iI (a9 : Int))), (14, .int (iI (p9 : Int))), (15, .int (iI (o9 : Int)))]) C dL_law_700 (by decide) rfl ?_
            refine KGoto (tgt := 1114) C dL_law_702 (by decide) ?_
            refine KLv (lv' := [(0, .ref b0), (1, .ref (q 80)), (2, .int (iI e9)), (3, .ref (q 0)), (4, .ref (q 81)), (5, .ref (q 82)), (6, .ref (q 83)), (7, .ref (q 84)), (8, .ref (q 85)), (9, .ref (q 86)), (10, .ref (q 87)), (11, .ref (q 88)), (12, .int (iI (tn : Int))), (16, .int (iI (-3))), (17, .int (iI (-3)))]) [4, 5, 6, 7, 8, 9, 10, 11, 12, 13, 14, 15, 16, 1, 0] rfl ?_
            exact KWiden (by omega) (by omega) (kk _ _ _ _ ⟨by omega, by omega⟩ hI697 hWn)
          · have hWlt := zW_lt hW.wl hoz
            refine KIload C dL_law_578 16 rfl ?_
            refine KAload C dL_law_580 7 rfl ?_
            refine KAload C dL_law_582 8 rfl ?_
            refine KCallS (As := [.int (iI (o9 : Int)), .ref (q 83), .ref (q 84)]) (st := []) C (ct_L_wanted l g S q o9 z hI.1 hW.wl (hI.m3) (hI.pr) h12 hoz) u_ml_RL_46 u_st_yL_wanted u_in_RL u_co_yL_wanted hd_yL_wanted ⟨Nat.le_of_ble_eq_true rfl, Nat.le_of_ble_eq_true rfl⟩ ⟨by show cells + 0 ≤ 600128; omega, by show slots + 0 ≤ 7301064; omega⟩ (Nat.le_of_ble_eq_true rfl) dL_law_584 rfl (fun v584 u584 hp584 => ?_)
            obtain ⟨rfl, rfl⟩ := hp584
            refine KSt (st2 := [.int (iI ((zW z o9 : Nat) : Int))]) rfl ?_
            refine KIload C dL_law_587 15 rfl ?_
            refine KIshr (v := iI ((zW z o9 / 2 ^ p9 : Nat) : Int)) C dL_law_589 (ib_shr (by omega) (by omega)) ?_
            refine KIconst C dL_law_590 ?_
            refine KIand (v := iI ((zW z o9 / 2 ^ p9 % 2 : Nat) : Int)) C dL_law_591 (ib_bit (by omega) (by omega)) ?_
            refine KIf_ne (tgt := 599) C dL_law_592 (by decide) ⟨by omega, by omega⟩ (fun c592 => ?_) (fun c592 => ?_)
            · have hbad : badL z o9 p9 := Or.inr (Or.inr (Or.inr (Or.inl (by omega))))
              refine KIconst C dL_law_599 ?_
              refine KIstore (lv' := [(19, .int (iI 0)), (18, .int (iI (zmn z (o9 : Int)))), (0, .ref b0), (1, .ref (q 80)), (2, .int (iI e9)), (3, .ref (q 0)), (4, .ref (q 81)), (5, .ref (q 82)), (6, .ref (q 83)), (7, .ref (q 84)), (8, .ref (q 85)), (9, .ref (q 86)), (10, .ref (q 87)), (11, .ref (q 88)), (12, .int (iI (tn : Int))), (13, .int (iI (a9 : Int))), (14, .int (iI (p9 : Int))), (15, .int (iI (o9 : Int))), (16, .int (iI 0)), (17, .int (iI 0))]) C dL_law_600 (by decide) rfl ?_
              refine KIload C dL_law_602 0 rfl ?_
              refine KIf_eq (tgt := 652) C dL_law_604 (by decide) ⟨by omega, by omega⟩ (fun _ => ?_) (fun h => absurd h (by decide))
              refine KIload C dL_law_652 0 rfl ?_
              refine KIf_eq (tgt := 664) C dL_law_654 (by decide) ⟨by omega, by omega⟩ (fun _ => ?_) (fun h => absurd h (by decide))
              refine KIload C dL_law_664 17 rfl ?_
              refine KAload_n C dL_law_666 rfl 3 rfl ?_
              refine KIconst C dL_law_667 ?_
              refine KIald  (v := (zo z : Int)) C 8 (hI.1.at0 80 20) (hI.1.ln0 80 8) ⟨by omega, by omega⟩ (by omega) hI.q1 dL_law_668 ?_
              refine KIcmp_ne (tgt := 677) C dL_law_669 (by decide) ⟨by omega, by omega⟩ ⟨by omega, by omega⟩ (fun c669 => ?_) (fun c669 => absurd c669 (by omega))
              refine KBipush C dL_law_677 (by decide) ?_
              refine KIstore (lv' := [(16, .int (iI (-3))), (19, .int (iI 0)), (18, .int (iI (zmn z (o9 : Int)))), (0, .ref b0), (1, .ref (q 80)), (2, .int (iI e9)), (3, .ref (q 0)), (4, .ref (q 81)), (5, .ref (q 82)), (6, .ref (q 83)), (7, .ref (q 84)), (8, .ref (q 85)), (9, .ref (q 86)), (10, .ref (q 87)), (11, .ref (q 88)), (12, .int (iI (tn : Int))), (13, .int (iI (a9 : Int))), (14, .int (iI (p9 : Int))), (15, .int (iI (o9 : Int))), (17, .int (iI 0))]) C dL_law_679 (by decide) rfl ?_
              refine KAload_n C dL_law_681 rfl 6 rfl ?_
              refine KIconst C dL_law_682 ?_
              refine KIload C dL_law_683 18 rfl ?_
              refine KIload C dL_law_685 17 rfl ?_
              refine KIconst C dL_law_687 ?_
              refine KIload_n C dL_law_688 rfl 5 rfl ?_
              refine KIconst C dL_law_689 ?_
              refine KIshr (v := iI ((iI e9 >>> (iI 3 &&& 31)).toInt)) C dL_law_690 (iI_of _).symm ?_
              refine KBipush C dL_law_691 (by decide) ?_
              refine KCallS (As := [.int (iI ((iI e9 >>> (iI 3 &&& 31)).toInt)), .int (iI 99)]) (st := [.int (iI 1), .int (iI (p9 : Int)), .int (iI (o9 : Int)), .int (iI 2), .ref (q 0)]) C (ct_L_low l g S ((iI e9 >>> (iI 3 &&& 31)).toInt) 99 (by omega)) u_ml_RL_125 u_st_yL_low u_in_RL u_co_yL_low hd_yL_low ⟨Nat.le_of_ble_eq_true rfl, Nat.le_of_ble_eq_true rfl⟩ ⟨by show cells + 0 ≤ 600128; omega, by show slots + 0 ≤ 7301064; omega⟩ (Nat.le_of_ble_eq_true rfl) dL_law_693 rfl (fun v693 u693 hp693 => ?_)
              obtain ⟨rfl, rfl⟩ := hp693
              refine KSt (st2 := [.int (iI ((lowN ((iI e9 >>> (iI 3 &&& 31)).toInt) 99 : Nat) : Int)), .int (iI 1), .int (iI (p9 : Int)), .int (iI (o9 : Int)), .int (iI 2), .ref (q 0)]) rfl ?_
              obtain ⟨r693, hrd693⟩ : ∃ n9 : Nat, n9 = lowN ((iI e9 >>> (iI 3 &&& 31)).toInt) 99 := ⟨_, rfl⟩
              have hr693 := lowN_lt (x := ((iI e9 >>> (iI 3 &&& 31)).toInt)) (n := 99) (by omega)
              rw [← hrd693] at hr693
              refine KTop (congrArg iI (show ((lowN ((iI e9 >>> (iI 3 &&& 31)).toInt) 99 : Nat) : Int) = (r693 : Int) from (by rw [hrd693]))) ?_
              refine KIadd C dL_law_696 ?_
              refine KCallSH (As := [.ref (q 0), .int (iI 2), .int (iI (o9 : Int)), .int (iI (p9 : Int)), .int (iI (1 + (r693 : Int)))]) (st := []) C hnc (ct_L_calls_line l g hnt S q (o9 : Int) (p9 : Int) (1 + (r693 : Int)) z hI.1 hW hI.2.1 ⟨by omega, by omega⟩ ⟨by omega, by omega⟩ ⟨by omega, by omega⟩ (gT g) rfl) u_ml_RL_89 u_st_yL_calls u_in_RL u_cw_calls hd_yL_calls ⟨Nat.le_of_ble_eq_true rfl, Nat.le_of_ble_eq_true rfl⟩ ⟨by show cells + 4 ≤ 600128; omega, by show slots + 24 ≤ 7301064; omega⟩ (Nat.le_of_ble_eq_true rfl) dL_law_697 rfl (fun v697 u697 hp697 => ?_)
              obtain ⟨rfl, hc697⟩ := hp697.no (ho_Lin3 hoz hp9 ⟨by omega, by omega⟩ hbad) (by decide) (by decide : _ = ((-3) : Int))
              have hI697 := hI.cp hc697
              refine KSt (st2 := [.int (iI (-3))]) rfl ?_
              refine KRg (fun hR => ?_)
              have hWn := hW
              refine KIstore (lv' := [(17, .int (iI (-3))), (16, .int (iI (-3))), (19, .int (iI 0)), (18, .int (iI (zmn z (o9 : Int)))), (0, .ref b0), (1, .ref (q 80)), (2, .int (iI e9)), (3, .ref (q 0)), (4, .ref (q 81)), (5, .ref (q 82)), (6, .ref (q 83)), (7, .ref (q 84)), (8, .ref (q 85)), (9, .ref (q 86)), (10, .ref (q 87)), (11, .ref (q 88)), (12, .int (iI (tn : Int))), (13, .int (iI (a9 : Int))), (14, .int (iI (p9 : Int))), (15, .int (iI (o9 : Int)))]) C dL_law_700 (by decide) rfl ?_
              refine KGoto (tgt := 1114) C dL_law_702 (by decide) ?_
              refine KLv (lv' := [(0, .ref b0), (1, .ref (q 80)), (2, .int (iI e9)), (3, .ref (q 0)), (4, .ref (q 81)), (5, .ref (q 82)), (6, .ref (q 83)), (7, .ref (q 84)), (8, .ref (q 85)), (9, .ref (q 86)), (10, .ref (q 87)), (11, .ref (q 88)), (12, .int (iI (tn : Int))), (16, .int (iI (-3))), (17, .int (iI (-3)))]) [4, 5, 6, 7, 8, 9, 10, 11, 12, 13, 14, 15, 16, 1, 0] rfl ?_
              exact KWiden (by omega) (by omega) (kk _ _ _ _ ⟨by omega, by omega⟩ hI697 hWn)
            · have hbit0 : zW z o9 / 2 ^ p9 % 2 = 0 := by omega
              have hgood : ¬ badL z o9 p9 := fun h9 => by unfold badL at h9; omega
              have hbf : (zW z o9).testBit p9 = false := tb_0 hbit0
              refine KIconst C dL_law_595 ?_
              refine KGoto (tgt := 600) C dL_law_596 (by decide) ?_
              refine KIstore (lv' := [(19, .int (iI 1)), (18, .int (iI (zmn z (o9 : Int)))), (0, .ref b0), (1, .ref (q 80)), (2, .int (iI e9)), (3, .ref (q 0)), (4, .ref (q 81)), (5, .ref (q 82)), (6, .ref (q 83)), (7, .ref (q 84)), (8, .ref (q 85)), (9, .ref (q 86)), (10, .ref (q 87)), (11, .ref (q 88)), (12, .int (iI (tn : Int))), (13, .int (iI (a9 : Int))), (14, .int (iI (p9 : Int))), (15, .int (iI (o9 : Int))), (16, .int (iI 0)), (17, .int (iI 0))]) C dL_law_600 (by decide) rfl ?_
              refine KIload C dL_law_602 0 rfl ?_
              refine KIf_eq (tgt := 652) C dL_law_604 (by decide) ⟨by omega, by omega⟩ (fun h => absurd h (by decide)) (fun _ => ?_)
              refine KAload C dL_law_607 9 rfl ?_
              refine KIconst C dL_law_609 ?_
              refine KIload C dL_law_610 17 rfl ?_
              refine KImul C dL_law_612 ?_
              refine KIload C dL_law_613 1 rfl ?_
              refine KIadd C dL_law_615 ?_
              refine KIload C dL_law_616 16 rfl ?_
              refine KIast C 60 (hI.1.at0 84 20) (hI.1.ln0 84 60) ⟨by omega, by omega⟩ (by omega) ⟨by omega, by omega⟩ dL_law_618 ?_
              refine KAload C dL_law_619 10 rfl ?_
              refine KIconst C dL_law_621 ?_
              refine KIload C dL_law_622 17 rfl ?_
              refine KImul C dL_law_624 ?_
              refine KIload C dL_law_625 1 rfl ?_
              refine KIadd C dL_law_627 ?_
              refine KIconst C dL_law_628 ?_
              refine KIload_n C dL_law_629 rfl 4 rfl ?_
              refine KIconst C dL_law_630 ?_
              refine KIshr (v := iI ((iI e9 >>> (iI 3 &&& 31)).toInt)) C dL_law_631 (iI_of _).symm ?_
              refine KBipush C dL_law_632 (by decide) ?_
              refine KCallS (As := [.int (iI ((iI e9 >>> (iI 3 &&& 31)).toInt)), .int (iI 99)]) (st := [.int (iI 1), .int (iI ((5 * (o9 : Int)) + (zmn z (o9 : Int)))), .ref (q 85)]) C (ct_L_low l g (uI S (q 84) ((5 * (o9 : Int)) + (zmn z (o9 : Int))) (p9 : Int)) ((iI e9 >>> (iI 3 &&& 31)).toInt) 99 (by omega)) u_ml_RL_125 u_st_yL_low u_in_RL u_co_yL_low hd_yL_low ⟨Nat.le_of_ble_eq_true rfl, Nat.le_of_ble_eq_true rfl⟩ ⟨by show cells + 0 ≤ 600128; omega, by show slots + 0 ≤ 7301064; omega⟩ (Nat.le_of_ble_eq_true rfl) dL_law_634 rfl (fun v634 u634 hp634 => ?_)
              obtain ⟨rfl, rfl⟩ := hp634
              refine KSt (st2 := [.int (iI ((lowN ((iI e9 >>> (iI 3 &&& 31)).toInt) 99 : Nat) : Int)), .int (iI 1), .int (iI ((5 * (o9 : Int)) + (zmn z (o9 : Int)))), .ref (q 85)]) rfl ?_
              obtain ⟨r634, hrd634⟩ : ∃ n9 : Nat, n9 = lowN ((iI e9 >>> (iI 3 &&& 31)).toInt) 99 := ⟨_, rfl⟩
              have hr634 := lowN_lt (x := ((iI e9 >>> (iI 3 &&& 31)).toInt)) (n := 99) (by omega)
              rw [← hrd634] at hr634
              refine KTop (congrArg iI (show ((lowN ((iI e9 >>> (iI 3 &&& 31)).toInt) 99 : Nat) : Int) = (r634 : Int) from (by rw [hrd634]))) ?_
              refine KRg (fun hR => ?_)
              refine KIadd C dL_law_637 ?_
              refine KIast (S := uI S (q 84) ((5 * (o9 : Int)) + (zmn z (o9 : Int))) (p9 : Int)) C 60 (hI.1.at0 85 20) (hI.1.ln0 85 60) ⟨by omega, by omega⟩ (by omega) ⟨by omega, by omega⟩ dL_law_638 ?_
              refine KAload C dL_law_639 8 rfl ?_
              refine KIconst C dL_law_641 ?_
              refine KIload C dL_law_642 17 rfl ?_
              refine KImul C dL_law_644 ?_
              refine KIconst C dL_law_645 ?_
              refine KIadd C dL_law_646 ?_
              refine KTop (congrArg iI (show (4 * (o9 : Int)) + 3 = ((4 * o9 + 3 : Nat) : Int) from (by omega))) ?_
              refine KDup2 C dL_law_647 rfl rfl ?_
              refine KIald (S := uI (uI S (q 84) ((5 * (o9 : Int)) + (zmn z (o9 : Int))) (p9 : Int)) (q 85) ((5 * (o9 : Int)) + (zmn z (o9 : Int))) (1 + (r634 : Int)))  (v := zmn z (o9 : Int)) C 48 (hI.1.at0 83 20) (hI.1.ln0 83 48) ⟨by omega, by omega⟩ (by omega) ((up2_ne _ _ _ _ (hI.1.ne 83 85)).trans ((up2_ne _ _ _ _ (hI.1.ne 83 84)).trans (hI.o o9 hoz).2.2.2)) dL_law_648 ?_
              refine KIconst C dL_law_649 ?_
              refine KIadd C dL_law_650 ?_
              refine KIast (S := uI (uI S (q 84) ((5 * (o9 : Int)) + (zmn z (o9 : Int))) (p9 : Int)) (q 85) ((5 * (o9 : Int)) + (zmn z (o9 : Int))) (1 + (r634 : Int))) C 48 (hI.1.at0 83 20) (hI.1.ln0 83 48) ⟨by omega, by omega⟩ (by omega) ⟨by omega, by omega⟩ dL_law_651 ?_
              have hI651 := hI.lin hW (p := p9) hoz (by omega) (by omega) hbf (1 + (r634 : Int))
              refine KIload C dL_law_652 0 rfl ?_
              refine KIf_eq (tgt := 664) C dL_law_654 (by decide) ⟨by omega, by omega⟩ (fun h => absurd h (by decide)) (fun _ => ?_)
              refine KIload C dL_law_657 1 rfl ?_
              refine KIconst C dL_law_659 ?_
              refine KIadd C dL_law_660 ?_
              refine KGoto (tgt := 679) C dL_law_661 (by decide) ?_
              refine KIstore (lv' := [(16, .int (iI ((zmn z (o9 : Int)) + 1))), (19, .int (iI 1)), (18, .int (iI (zmn z (o9 : Int)))), (0, .ref b0), (1, .ref (q 80)), (2, .int (iI e9)), (3, .ref (q 0)), (4, .ref (q 81)), (5, .ref (q 82)), (6, .ref (q 83)), (7, .ref (q 84)), (8, .ref (q 85)), (9, .ref (q 86)), (10, .ref (q 87)), (11, .ref (q 88)), (12, .int (iI (tn : Int))), (13, .int (iI (a9 : Int))), (14, .int (iI (p9 : Int))), (15, .int (iI (o9 : Int))), (17, .int (iI 0))]) C dL_law_679 (by decide) rfl ?_
              refine KAload_n C dL_law_681 rfl 6 rfl ?_
              refine KIconst C dL_law_682 ?_
              refine KIload C dL_law_683 18 rfl ?_
              refine KIload C dL_law_685 17 rfl ?_
              refine KIconst C dL_law_687 ?_
              refine KIload_n C dL_law_688 rfl 5 rfl ?_
              refine KIconst C dL_law_689 ?_
              refine KIshr (v := iI ((iI e9 >>> (iI 3 &&& 31)).toInt)) C dL_law_690 (iI_of _).symm ?_
              refine KBipush C dL_law_691 (by decide) ?_
              refine KCallS (As := [.int (iI ((iI e9 >>> (iI 3 &&& 31)).toInt)), .int (iI 99)]) (st := [.int (iI 1), .int (iI (p9 : Int)), .int (iI (o9 : Int)), .int (iI 2), .ref (q 0)]) C (ct_L_low l g (uI (uI (uI S (q 84) ((5 * (o9 : Int)) + (zmn z (o9 : Int))) (p9 : Int)) (q 85) ((5 * (o9 : Int)) + (zmn z (o9 : Int))) (1 + (r634 : Int))) (q 83) ((4 * o9 + 3 : Nat) : Int) ((zmn z (o9 : Int)) + 1)) ((iI e9 >>> (iI 3 &&& 31)).toInt) 99 (by omega)) u_ml_RL_125 u_st_yL_low u_in_RL u_co_yL_low hd_yL_low ⟨Nat.le_of_ble_eq_true rfl, Nat.le_of_ble_eq_true rfl⟩ ⟨by show cells + 0 ≤ 600128; omega, by show slots + 0 ≤ 7301064; omega⟩ (Nat.le_of_ble_eq_true rfl) dL_law_693 rfl (fun v693 u693 hp693 => ?_)
              obtain ⟨rfl, rfl⟩ := hp693
              refine KSt (st2 := [.int (iI ((lowN ((iI e9 >>> (iI 3 &&& 31)).toInt) 99 : Nat) : Int)), .int (iI 1), .int (iI (p9 : Int)), .int (iI (o9 : Int)), .int (iI 2), .ref (q 0)]) rfl ?_
              obtain ⟨r693, hrd693⟩ : ∃ n9 : Nat, n9 = lowN ((iI e9 >>> (iI 3 &&& 31)).toInt) 99 := ⟨_, rfl⟩
              have hr693 := lowN_lt (x := ((iI e9 >>> (iI 3 &&& 31)).toInt)) (n := 99) (by omega)
              rw [← hrd693] at hr693
              refine KTop (congrArg iI (show ((lowN ((iI e9 >>> (iI 3 &&& 31)).toInt) 99 : Nat) : Int) = (r693 : Int) from (by rw [hrd693]))) ?_
              refine KRg (fun hR => ?_)
              refine KIadd C dL_law_696 ?_
              refine KTop (congrArg iI (show 1 + (r693 : Int) = 1 + (r634 : Int) from (by rw [hrd693, hrd634]))) ?_
              refine KCallSH (As := [.ref (q 0), .int (iI 2), .int (iI (o9 : Int)), .int (iI (p9 : Int)), .int (iI (1 + (r634 : Int)))]) (st := []) C hnc (ct_L_calls_line l g hnt (uI (uI (uI S (q 84) ((5 * (o9 : Int)) + (zmn z (o9 : Int))) (p9 : Int)) (q 85) ((5 * (o9 : Int)) + (zmn z (o9 : Int))) (1 + (r634 : Int))) (q 83) ((4 * o9 + 3 : Nat) : Int) ((zmn z (o9 : Int)) + 1)) q (o9 : Int) (p9 : Int) (1 + (r634 : Int)) z hI651.1 hW hI651.2.1 ⟨by omega, by omega⟩ ⟨by omega, by omega⟩ ⟨by omega, by omega⟩ (gT g) rfl) u_ml_RL_89 u_st_yL_calls u_in_RL u_cw_calls hd_yL_calls ⟨Nat.le_of_ble_eq_true rfl, Nat.le_of_ble_eq_true rfl⟩ ⟨by show cells + 4 ≤ 600128; omega, by show slots + 24 ≤ 7301064; omega⟩ (Nat.le_of_ble_eq_true rfl) dL_law_697 rfl (fun v697 u697 hp697 => ?_)
              obtain ⟨rfl, hc697⟩ := hp697.ok (ho_Lin0 hoz hp9 ⟨by omega, by omega⟩ hgood)
              have hI697 := hI651.cp hc697
              refine KSt (st2 := [.int (iI ((zmn z (o9 : Int)) + 1))]) rfl ?_
              refine KRg (fun hR => ?_)
              have hWn := wf_oLin hW (o9 : Int) (p9 : Int) (1 + (r634 : Int))
              rw [ho_Lin0 hoz hp9 ⟨by omega, by omega⟩ hgood] at hWn
              refine KIstore (lv' := [(17, .int (iI ((zmn z (o9 : Int)) + 1))), (16, .int (iI ((zmn z (o9 : Int)) + 1))), (19, .int (iI 1)), (18, .int (iI (zmn z (o9 : Int)))), (0, .ref b0), (1, .ref (q 80)), (2, .int (iI e9)), (3, .ref (q 0)), (4, .ref (q 81)), (5, .ref (q 82)), (6, .ref (q 83)), (7, .ref (q 84)), (8, .ref (q 85)), (9, .ref (q 86)), (10, .ref (q 87)), (11, .ref (q 88)), (12, .int (iI (tn : Int))), (13, .int (iI (a9 : Int))), (14, .int (iI (p9 : Int))), (15, .int (iI (o9 : Int)))]) C dL_law_700 (by decide) rfl ?_
              refine KGoto (tgt := 1114) C dL_law_702 (by decide) ?_
              refine KLv (lv' := [(0, .ref b0), (1, .ref (q 80)), (2, .int (iI e9)), (3, .ref (q 0)), (4, .ref (q 81)), (5, .ref (q 82)), (6, .ref (q 83)), (7, .ref (q 84)), (8, .ref (q 85)), (9, .ref (q 86)), (10, .ref (q 87)), (11, .ref (q 88)), (12, .int (iI (tn : Int))), (16, .int (iI ((zmn z (o9 : Int)) + 1))), (17, .int (iI ((zmn z (o9 : Int)) + 1)))]) [4, 5, 6, 7, 8, 9, 10, 11, 12, 13, 14, 15, 16, 1, 0] rfl ?_
              exact KWiden (by omega) (by omega) (kk _ _ _ _ ⟨by omega, by omega⟩ hI697 hWn)
set_option maxRecDepth 100000 in
set_option maxHeartbeats 4000000 in
theorem sg_line (hnt : l.stackTraces = false) (C : Cx pX l sX mX argsX methX cX cL_law 22 RL ret g) (hnc : Ncs sX) (hc : cells + 475 ≤ 600128 ∧ slots + 4890 ≤ 7301064) (e9 : Int) (tn a9 p9 o9 : Nat) (z : Sig) (R : Int → Int) (hI : LI S q (gT g) z z R) (hW : Wf z) (hp9 : p9 < 20) (ho9 : o9 ≤ zo z) (kk : Nxt pX l eX sX mX argsX belowX methX cX QX g q b0 e9 (tn : Int) cells slots) : Wk pX l eX room_1 sX mX argsX belowX methX cX QX g 22 cells slots 469 [(0, .ref b0), (1, .ref (q 80)), (2, .int (iI e9)), (3, .ref (q 0)), (4, .ref (q 81)), (5, .ref (q 82)), (6, .ref (q 83)), (7, .ref (q 84)), (8, .ref (q 85)), (9, .ref (q 86)), (10, .ref (q 87)), (11, .ref (q 88)), (12, .int (iI (tn : Int))), (13, .int (iI (a9 : Int))), (14, .int (iI (p9 : Int))), (15, .int (iI (o9 : Int))), (16, .int (iI 0)), (17, .int (iI 0))] [] S := by
  refine KRg (fun hR => ?_)
  obtain ⟨h12, h6c⟩ := hI.l12
  have hC := hW.1
  have hbo := hW.2.1.2
  refine KIconst C dL_law_469 ?_
  refine KIstore (lv' := [(18, .int (iI 0)), (0, .ref b0), (1, .ref (q 80)), (2, .int (iI e9)), (3, .ref (q 0)), (4, .ref (q 81)), (5, .ref (q 82)), (6, .ref (q 83)), (7, .ref (q 84)), (8, .ref (q 85)), (9, .ref (q 86)), (10, .ref (q 87)), (11, .ref (q 88)), (12, .int (iI (tn : Int))), (13, .int (iI (a9 : Int))), (14, .int (iI (p9 : Int))), (15, .int (iI (o9 : Int))), (16, .int (iI 0)), (17, .int (iI 0))]) C dL_law_470 (by decide) rfl ?_
  refine KLv (lv' := [(0, .ref b0), (1, .ref (q 80)), (2, .int (iI e9)), (3, .ref (q 0)), (4, .ref (q 81)), (5, .ref (q 82)), (6, .ref (q 83)), (7, .ref (q 84)), (8, .ref (q 85)), (9, .ref (q 86)), (10, .ref (q 87)), (11, .ref (q 88)), (12, .int (iI (tn : Int))), (13, .int (iI (a9 : Int))), (14, .int (iI (p9 : Int))), (15, .int (iI (o9 : Int))), (16, .int (iI 0)), (17, .int (iI 0)), (18, .int (iI 0))]) [1, 2, 3, 4, 5, 6, 7, 8, 9, 10, 11, 12, 13, 14, 15, 16, 17, 18, 0] rfl ?_
  have loop472 : ∀ (nX : Nat) (k : Nat) (pp : Nat), 20 - k < nX → (k ≤ 20) → (pp < 20) → Wk pX l eX room_1 sX mX argsX belowX methX cX QX g 22 cells slots 472 [(0, .ref b0), (1, .ref (q 80)), (2, .int (iI e9)), (3, .ref (q 0)), (4, .ref (q 81)), (5, .ref (q 82)), (6, .ref (q 83)), (7, .ref (q 84)), (8, .ref (q 85)), (9, .ref (q 86)), (10, .ref (q 87)), (11, .ref (q 88)), (12, .int (iI (tn : Int))), (13, .int (iI (a9 : Int))), (14, .int (iI (pp : Int))), (15, .int (iI (o9 : Int))), (16, .int (iI 0)), (17, .int (iI 0)), (18, .int (iI (k : Int)))] [] S := by
    intro nX
    induction nX with
    | zero => intro k pp hm; exact absurd hm (Nat.not_lt_zero _)
    | succ nX ih472 =>
      intro k pp hm472 hk hpp
      refine KRg (fun hR => ?_)
      have hp1 := hW.plI (x := (pp : Int)) (by omega)
      refine KIload C dL_law_472 18 rfl ?_
      refine KBipush C dL_law_474 (by decide) ?_
      refine KIcmp_ge (tgt := 513) C dL_law_476 (by decide) ⟨by omega, by omega⟩ ⟨by omega, by omega⟩ (fun c476 => ?_) (fun c476 => ?_)
      · refine KLv (lv' := [(0, .ref b0), (1, .ref (q 80)), (2, .int (iI e9)), (3, .ref (q 0)), (4, .ref (q 81)), (5, .ref (q 82)), (6, .ref (q 83)), (7, .ref (q 84)), (8, .ref (q 85)), (9, .ref (q 86)), (10, .ref (q 87)), (11, .ref (q 88)), (12, .int (iI (tn : Int))), (13, .int (iI (a9 : Int))), (14, .int (iI (pp : Int))), (15, .int (iI (o9 : Int))), (16, .int (iI 0)), (17, .int (iI 0))]) [0, 1, 2, 3, 4, 5, 6, 7, 8, 9, 10, 11, 12, 13, 14, 15, 16, 17] rfl ?_
        exact sg_line2 hnt C hnc hc e9 tn a9 pp o9 z R hI hW (by omega) ho9 kk
      · refine KAload C dL_law_479 4 rfl ?_
        refine KIload C dL_law_481 14 rfl ?_
        refine KIald  (v := zP z (pp : Int)) C 20 (hI.1.at0 81 20) (hI.1.ln0 81 20) ⟨by omega, by omega⟩ (by omega) (congrFun hI.P _) dL_law_483 ?_
        refine KIf_ge (tgt := 513) C dL_law_484 (by decide) ⟨by omega, by omega⟩ (fun c484 => ?_) (fun c484 => ?_)
        · refine KLv (lv' := [(0, .ref b0), (1, .ref (q 80)), (2, .int (iI e9)), (3, .ref (q 0)), (4, .ref (q 81)), (5, .ref (q 82)), (6, .ref (q 83)), (7, .ref (q 84)), (8, .ref (q 85)), (9, .ref (q 86)), (10, .ref (q 87)), (11, .ref (q 88)), (12, .int (iI (tn : Int))), (13, .int (iI (a9 : Int))), (14, .int (iI (pp : Int))), (15, .int (iI (o9 : Int))), (16, .int (iI 0)), (17, .int (iI 0))]) [0, 1, 2, 3, 4, 5, 6, 7, 8, 9, 10, 11, 12, 13, 14, 15, 16, 17] rfl ?_
          exact sg_line2 hnt C hnc hc e9 tn a9 pp o9 z R hI hW (by omega) ho9 kk
        · refine KIload_n C dL_law_487 rfl 2 rfl ?_
          refine KBipush C dL_law_488 (by decide) ?_
          refine KIshr (v := iI ((iI e9 >>> (iI 16 &&& 31)).toInt)) C dL_law_490 (iI_of _).symm ?_
          refine KIconst C dL_law_491 ?_
          refine KCallS (As := [.int (iI ((iI e9 >>> (iI 16 &&& 31)).toInt)), .int (iI 5)]) (st := []) C (ct_L_low l g S ((iI e9 >>> (iI 16 &&& 31)).toInt) 5 (by omega)) u_ml_RL_125 u_st_yL_low u_in_RL u_co_yL_low hd_yL_low ⟨Nat.le_of_ble_eq_true rfl, Nat.le_of_ble_eq_true rfl⟩ ⟨by show cells + 0 ≤ 600128; omega, by show slots + 0 ≤ 7301064; omega⟩ (Nat.le_of_ble_eq_true rfl) dL_law_492 rfl (fun v492 u492 hp492 => ?_)
          obtain ⟨rfl, rfl⟩ := hp492
          refine KSt (st2 := [.int (iI ((lowN ((iI e9 >>> (iI 16 &&& 31)).toInt) 5 : Nat) : Int))]) rfl ?_
          obtain ⟨r492, hrd492⟩ : ∃ n9 : Nat, n9 = lowN ((iI e9 >>> (iI 16 &&& 31)).toInt) 5 := ⟨_, rfl⟩
          have hr492 := lowN_lt (x := ((iI e9 >>> (iI 16 &&& 31)).toInt)) (n := 5) (by omega)
          rw [← hrd492] at hr492
          refine KTop (congrArg iI (show ((lowN ((iI e9 >>> (iI 16 &&& 31)).toInt) 5 : Nat) : Int) = (r492 : Int) from (by rw [hrd492]))) ?_
          refine KIf_le (tgt := 513) C dL_law_495 (by decide) ⟨by omega, by omega⟩ (fun c495 => ?_) (fun c495 => ?_)
          · refine KLv (lv' := [(0, .ref b0), (1, .ref (q 80)), (2, .int (iI e9)), (3, .ref (q 0)), (4, .ref (q 81)), (5, .ref (q 82)), (6, .ref (q 83)), (7, .ref (q 84)), (8, .ref (q 85)), (9, .ref (q 86)), (10, .ref (q 87)), (11, .ref (q 88)), (12, .int (iI (tn : Int))), (13, .int (iI (a9 : Int))), (14, .int (iI (pp : Int))), (15, .int (iI (o9 : Int))), (16, .int (iI 0)), (17, .int (iI 0))]) [0, 1, 2, 3, 4, 5, 6, 7, 8, 9, 10, 11, 12, 13, 14, 15, 16, 17] rfl ?_
            exact sg_line2 hnt C hnc hc e9 tn a9 pp o9 z R hI hW (by omega) ho9 kk
          · refine KIload C dL_law_498 14 rfl ?_
            refine KIconst C dL_law_500 ?_
            refine KIadd C dL_law_501 ?_
            refine KBipush C dL_law_502 (by decide) ?_
            refine KIrem (z := (((pp + 1) % 20 : Nat) : Int)) C dL_law_504 ⟨by omega, by omega⟩ ⟨by omega, by omega⟩ (by omega) ((tmod_pos (by omega)).trans (by omega)) ?_
            refine KIstore (lv' := [(14, .int (iI (((pp + 1) % 20 : Nat) : Int))), (0, .ref b0), (1, .ref (q 80)), (2, .int (iI e9)), (3, .ref (q 0)), (4, .ref (q 81)), (5, .ref (q 82)), (6, .ref (q 83)), (7, .ref (q 84)), (8, .ref (q 85)), (9, .ref (q 86)), (10, .ref (q 87)), (11, .ref (q 88)), (12, .int (iI (tn : Int))), (13, .int (iI (a9 : Int))), (15, .int (iI (o9 : Int))), (16, .int (iI 0)), (17, .int (iI 0)), (18, .int (iI (k : Int)))]) C dL_law_505 (by decide) rfl ?_
            refine KIinc (v := ((k + 1 : Nat) : Int)) (lv' := [(18, .int (iI ((k + 1 : Nat) : Int))), (14, .int (iI (((pp + 1) % 20 : Nat) : Int))), (0, .ref b0), (1, .ref (q 80)), (2, .int (iI e9)), (3, .ref (q 0)), (4, .ref (q 81)), (5, .ref (q 82)), (6, .ref (q 83)), (7, .ref (q 84)), (8, .ref (q 85)), (9, .ref (q 86)), (10, .ref (q 87)), (11, .ref (q 88)), (12, .int (iI (tn : Int))), (13, .int (iI (a9 : Int))), (15, .int (iI (o9 : Int))), (16, .int (iI 0)), (17, .int (iI 0))]) C dL_law_507 18 rfl (by omega) (by decide) rfl ?_
            refine KGoto (tgt := 472) C dL_law_510 (by decide) ?_
            refine KLv (lv' := [(0, .ref b0), (1, .ref (q 80)), (2, .int (iI e9)), (3, .ref (q 0)), (4, .ref (q 81)), (5, .ref (q 82)), (6, .ref (q 83)), (7, .ref (q 84)), (8, .ref (q 85)), (9, .ref (q 86)), (10, .ref (q 87)), (11, .ref (q 88)), (12, .int (iI (tn : Int))), (13, .int (iI (a9 : Int))), (14, .int (iI (((pp + 1) % 20 : Nat) : Int))), (15, .int (iI (o9 : Int))), (16, .int (iI 0)), (17, .int (iI 0)), (18, .int (iI ((k + 1 : Nat) : Int)))]) [2, 3, 4, 5, 6, 7, 8, 9, 10, 11, 12, 13, 14, 15, 1, 16, 17, 18, 0] rfl ?_
            exact ih472 (k + 1) ((pp + 1) % 20) (by omega) (by omega) (by omega)
  exact loop472 _ 0 p9 (Nat.lt_succ_self _) (by omega) (by omega)
end
