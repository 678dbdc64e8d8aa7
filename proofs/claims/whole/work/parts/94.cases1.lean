section LC1
variable {p : Program} {e : Env} {s : State} {m : MethodId} {below : List Frame} {meth : Method} {c : Code} {b L i : Nat} {xs : Nat → Int32} {g : rk_G} {H : Heap} {locs : List Loc} {ls : Array Slot} {σ : rk_M}
theorem lc_12 (X : lw_X g p s m meth c b L xs) (hL : L ≤ 3072) (hi : i + 6 ≤ L) (I : lw_I g s b i H locs ls σ) (J : Inv σ) (hk : lw_K g p e s m below meth c b i 957) : lw_W g p e s m below meth c b 560 H locs ls [] := by
  obtain ⟨hl, hP, hD, hS⟩ := I
  refine lv_aload_n X.1.1 X.1.2.1 dL_law_560 rfl (lv_at hl 2 rfl) ?_
  refine lw_arg X hL hl hS (k := 1) (by omega) dL_law_561 dL_law_562 dL_law_563 (by decide) dL_law_564 dL_law_565 ?_
  refine lw_arg X hL hl hS (k := 2) (by omega) dL_law_566 dL_law_567 dL_law_568 (by decide) dL_law_569 dL_law_570 ?_
  refine lw_arg X hL hl hS (k := 3) (by omega) dL_law_571 dL_law_572 dL_law_573 (by decide) dL_law_574 dL_law_575 ?_
  refine lw_cV (As := [.int (xs (i + 1)), .int (xs (i + 2)), .int (xs (i + 3))]) (rest := []) (c0 := 0) X hl hP hD hS rfl dL_law_576 rfl rfl npX6_cut wmL_66 wvX6_cut weX6_cut wiX6 wdX6_cut (by decide) (by decide) rfl rfl (Nat.le_of_ble_eq_true rfl) (B_cut σ J) (fun v σ1 H locs hR hP hD hS => ?_)
  obtain ⟨z, rfl, h7⟩ := hR
  refine lv_aload_n X.1.1 X.1.2.1 dL_law_579 rfl (lv_at hl 1 rfl) ?_
  refine lw_arg X hL hl hS (k := 1) (by omega) dL_law_580 dL_law_581 dL_law_582 (by decide) dL_law_583 dL_law_584 ?_
  refine lw_arg X hL hl hS (k := 2) (by omega) dL_law_585 dL_law_586 dL_law_587 (by decide) dL_law_588 dL_law_589 ?_
  refine lw_arg X hL hl hS (k := 3) (by omega) dL_law_590 dL_law_591 dL_law_592 (by decide) dL_law_593 dL_law_594 ?_
  refine lw_cV (As := [.int (xs (i + 1)), .int (xs (i + 2)), .int (xs (i + 3))]) (rest := [.int z]) (c0 := 42) X hl hP hD hS rfl dL_law_595 rfl rfl npX7_cut wmL_69 wvX7_cut weX7_cut wiX7 wdX7_cut (by decide) (by decide) rfl rfl (Nat.le_of_ble_eq_true rfl) h7 (fun v σ2 H locs hR hP hD hS => ?_)
  obtain ⟨rfl, J2⟩ := hR
  refine lv_icmp_eq (tgt := 957) X.1.1 X.1.2.1 dL_law_598 (by decide) (fun _ => ?_) (fun h => absurd rfl h)
  exact hk _ _ _ _ ⟨hl, hP, hD, hS⟩ J2
theorem lc_13 (X : lw_X g p s m meth c b L xs) (hL : L ≤ 3072) (hi : i + 6 ≤ L) (I : lw_I g s b i H locs ls σ) (J : Inv σ) (hk : lw_K g p e s m below meth c b i 957) : lw_W g p e s m below meth c b 603 H locs ls [] := by
  obtain ⟨hl, hP, hD, hS⟩ := I
  refine lv_aload_n X.1.1 X.1.2.1 dL_law_603 rfl (lv_at hl 2 rfl) ?_
  refine lw_arg X hL hl hS (k := 1) (by omega) dL_law_604 dL_law_605 dL_law_606 (by decide) dL_law_607 dL_law_608 ?_
  refine lw_cV (As := [.int (xs (i + 1))]) (rest := []) (c0 := 0) X hl hP hD hS rfl dL_law_609 rfl rfl npX6_bridges wmL_70 wvX6_bridges weX6_bridges wiX6 wdX6_bridges (by decide) (by decide) rfl rfl (Nat.le_of_ble_eq_true rfl) (B_bridges σ J) (fun v σ1 H locs hR hP hD hS => ?_)
  obtain ⟨z, rfl, h7⟩ := hR
  refine lv_aload_n X.1.1 X.1.2.1 dL_law_612 rfl (lv_at hl 1 rfl) ?_
  refine lw_arg X hL hl hS (k := 1) (by omega) dL_law_613 dL_law_614 dL_law_615 (by decide) dL_law_616 dL_law_617 ?_
  refine lw_cV (As := [.int (xs (i + 1))]) (rest := [.int z]) (c0 := 42) X hl hP hD hS rfl dL_law_618 rfl rfl npX7_bridges wmL_73 wvX7_bridges weX7_bridges wiX7 wdX7_bridges (by decide) (by decide) rfl rfl (Nat.le_of_ble_eq_true rfl) h7 (fun v σ2 H locs hR hP hD hS => ?_)
  obtain ⟨rfl, J2⟩ := hR
  refine lv_icmp_eq (tgt := 957) X.1.1 X.1.2.1 dL_law_621 (by decide) (fun _ => ?_) (fun h => absurd rfl h)
  exact hk _ _ _ _ ⟨hl, hP, hD, hS⟩ J2
theorem lc_14 (X : lw_X g p s m meth c b L xs) (hL : L ≤ 3072) (hi : i + 6 ≤ L) (I : lw_I g s b i H locs ls σ) (J : Inv σ) (hk : lw_K g p e s m below meth c b i 957) : lw_W g p e s m below meth c b 626 H locs ls [] := by
  obtain ⟨hl, hP, hD, hS⟩ := I
  refine lv_aload_n X.1.1 X.1.2.1 dL_law_626 rfl (lv_at hl 2 rfl) ?_
  refine lw_arg X hL hl hS (k := 1) (by omega) dL_law_627 dL_law_628 dL_law_629 (by decide) dL_law_630 dL_law_631 ?_
  refine lw_cV (As := [.int (xs (i + 1))]) (rest := []) (c0 := 0) X hl hP hD hS rfl dL_law_632 rfl rfl npX6_detour wmL_74 wvX6_detour weX6_detour wiX6 wdX6_detour (by decide) (by decide) rfl rfl (Nat.le_of_ble_eq_true rfl) (B_detour σ J) (fun v σ1 H locs hR hP hD hS => ?_)
  obtain ⟨z, rfl, h7⟩ := hR
  refine lv_aload_n X.1.1 X.1.2.1 dL_law_635 rfl (lv_at hl 1 rfl) ?_
  refine lw_arg X hL hl hS (k := 1) (by omega) dL_law_636 dL_law_637 dL_law_638 (by decide) dL_law_639 dL_law_640 ?_
  refine lw_cV (As := [.int (xs (i + 1))]) (rest := [.int z]) (c0 := 42) X hl hP hD hS rfl dL_law_641 rfl rfl npX7_detour wmL_77 wvX7_detour weX7_detour wiX7 wdX7_detour (by decide) (by decide) rfl rfl (Nat.le_of_ble_eq_true rfl) h7 (fun v σ2 H locs hR hP hD hS => ?_)
  obtain ⟨rfl, J2⟩ := hR
  refine lv_icmp_eq (tgt := 957) X.1.1 X.1.2.1 dL_law_644 (by decide) (fun _ => ?_) (fun h => absurd rfl h)
  exact hk _ _ _ _ ⟨hl, hP, hD, hS⟩ J2
theorem lc_15 (X : lw_X g p s m meth c b L xs) (hL : L ≤ 3072) (hi : i + 6 ≤ L) (I : lw_I g s b i H locs ls σ) (J : Inv σ) (hk : lw_K g p e s m below meth c b i 957) : lw_W g p e s m below meth c b 649 H locs ls [] := by
  obtain ⟨hl, hP, hD, hS⟩ := I
  refine lv_aload_n X.1.1 X.1.2.1 dL_law_649 rfl (lv_at hl 2 rfl) ?_
  refine lw_arg X hL hl hS (k := 1) (by omega) dL_law_650 dL_law_651 dL_law_652 (by decide) dL_law_653 dL_law_654 ?_
  refine lw_cV (As := [.int (xs (i + 1))]) (rest := []) (c0 := 0) X hl hP hD hS rfl dL_law_655 rfl rfl npX6_useful wmL_78 wvX6_useful weX6_useful wiX6 wdX6_useful (by decide) (by decide) rfl rfl (Nat.le_of_ble_eq_true rfl) (B_useful σ J) (fun v σ1 H locs hR hP hD hS => ?_)
  obtain ⟨z, rfl, h7⟩ := hR
  refine lv_aload_n X.1.1 X.1.2.1 dL_law_658 rfl (lv_at hl 1 rfl) ?_
  refine lw_arg X hL hl hS (k := 1) (by omega) dL_law_659 dL_law_660 dL_law_661 (by decide) dL_law_662 dL_law_663 ?_
  refine lw_cV (As := [.int (xs (i + 1))]) (rest := [.int z]) (c0 := 42) X hl hP hD hS rfl dL_law_664 rfl rfl npX7_useful wmL_81 wvX7_useful weX7_useful wiX7 wdX7_useful (by decide) (by decide) rfl rfl (Nat.le_of_ble_eq_true rfl) h7 (fun v σ2 H locs hR hP hD hS => ?_)
  obtain ⟨rfl, J2⟩ := hR
  refine lv_icmp_eq (tgt := 957) X.1.1 X.1.2.1 dL_law_667 (by decide) (fun _ => ?_) (fun h => absurd rfl h)
  exact hk _ _ _ _ ⟨hl, hP, hD, hS⟩ J2
theorem lc_16 (X : lw_X g p s m meth c b L xs) (hL : L ≤ 3072) (hi : i + 6 ≤ L) (I : lw_I g s b i H locs ls σ) (J : Inv σ) (hk : lw_K g p e s m below meth c b i 957) : lw_W g p e s m below meth c b 672 H locs ls [] := by
  obtain ⟨hl, hP, hD, hS⟩ := I
  refine lv_aload_n X.1.1 X.1.2.1 dL_law_672 rfl (lv_at hl 2 rfl) ?_
  refine lw_arg X hL hl hS (k := 1) (by omega) dL_law_673 dL_law_674 dL_law_675 (by decide) dL_law_676 dL_law_677 ?_
  refine lw_arg X hL hl hS (k := 2) (by omega) dL_law_678 dL_law_679 dL_law_680 (by decide) dL_law_681 dL_law_682 ?_
  refine lw_arg X hL hl hS (k := 3) (by omega) dL_law_683 dL_law_684 dL_law_685 (by decide) dL_law_686 dL_law_687 ?_
  refine lw_cV (As := [.int (xs (i + 1)), .int (xs (i + 2)), .int (xs (i + 3))]) (rest := []) (c0 := 0) X hl hP hD hS rfl dL_law_688 rfl rfl npX6_sheet wmL_82 wvX6_sheet weX6_sheet wiX6 wdX6_sheet (by decide) (by decide) rfl rfl (Nat.le_of_ble_eq_true rfl) (B_sheet σ J) (fun v σ1 H locs hR hP hD hS => ?_)
  obtain ⟨z, rfl, h7⟩ := hR
  refine lv_aload_n X.1.1 X.1.2.1 dL_law_691 rfl (lv_at hl 1 rfl) ?_
  refine lw_arg X hL hl hS (k := 1) (by omega) dL_law_692 dL_law_693 dL_law_694 (by decide) dL_law_695 dL_law_696 ?_
  refine lw_arg X hL hl hS (k := 2) (by omega) dL_law_697 dL_law_698 dL_law_699 (by decide) dL_law_700 dL_law_701 ?_
  refine lw_arg X hL hl hS (k := 3) (by omega) dL_law_702 dL_law_703 dL_law_704 (by decide) dL_law_705 dL_law_706 ?_
  refine lw_cV (As := [.int (xs (i + 1)), .int (xs (i + 2)), .int (xs (i + 3))]) (rest := [.int z]) (c0 := 42) X hl hP hD hS rfl dL_law_707 rfl rfl npX7_sheet wmL_85 wvX7_sheet weX7_sheet wiX7 wdX7_sheet (by decide) (by decide) rfl rfl (Nat.le_of_ble_eq_true rfl) h7 (fun v σ2 H locs hR hP hD hS => ?_)
  obtain ⟨rfl, J2⟩ := hR
  refine lv_icmp_eq (tgt := 957) X.1.1 X.1.2.1 dL_law_710 (by decide) (fun _ => ?_) (fun h => absurd rfl h)
  exact hk _ _ _ _ ⟨hl, hP, hD, hS⟩ J2
theorem lc_17 (X : lw_X g p s m meth c b L xs) (hL : L ≤ 3072) (hi : i + 6 ≤ L) (I : lw_I g s b i H locs ls σ) (J : Inv σ) (hk : lw_K g p e s m below meth c b i 957) : lw_W g p e s m below meth c b 715 H locs ls [] := by
  obtain ⟨hl, hP, hD, hS⟩ := I
  refine lv_aload_n X.1.1 X.1.2.1 dL_law_715 rfl (lv_at hl 2 rfl) ?_
  refine lw_arg X hL hl hS (k := 1) (by omega) dL_law_716 dL_law_717 dL_law_718 (by decide) dL_law_719 dL_law_720 ?_
  refine lw_cV (As := [.int (xs (i + 1))]) (rest := []) (c0 := 0) X hl hP hD hS rfl dL_law_721 rfl rfl npX6_lose wmL_86 wvX6_lose weX6_lose wiX6 wdX6_lose (by decide) (by decide) rfl rfl (Nat.le_of_ble_eq_true rfl) (B_lose σ J) (fun v σ1 H locs hR hP hD hS => ?_)
  obtain ⟨z, rfl, h7⟩ := hR
  refine lv_aload_n X.1.1 X.1.2.1 dL_law_724 rfl (lv_at hl 1 rfl) ?_
  refine lw_arg X hL hl hS (k := 1) (by omega) dL_law_725 dL_law_726 dL_law_727 (by decide) dL_law_728 dL_law_729 ?_
  refine lw_cV (As := [.int (xs (i + 1))]) (rest := [.int z]) (c0 := 42) X hl hP hD hS rfl dL_law_730 rfl rfl npX7_lose wmL_89 wvX7_lose weX7_lose wiX7 wdX7_lose (by decide) (by decide) rfl rfl (Nat.le_of_ble_eq_true rfl) h7 (fun v σ2 H locs hR hP hD hS => ?_)
  obtain ⟨rfl, J2⟩ := hR
  refine lv_icmp_eq (tgt := 957) X.1.1 X.1.2.1 dL_law_733 (by decide) (fun _ => ?_) (fun h => absurd rfl h)
  exact hk _ _ _ _ ⟨hl, hP, hD, hS⟩ J2
theorem lc_18 (X : lw_X g p s m meth c b L xs) (hL : L ≤ 3072) (hi : i + 6 ≤ L) (I : lw_I g s b i H locs ls σ) (J : Inv σ) (hk : lw_K g p e s m below meth c b i 957) : lw_W g p e s m below meth c b 738 H locs ls [] := by
  obtain ⟨hl, hP, hD, hS⟩ := I
  refine lv_aload_n X.1.1 X.1.2.1 dL_law_738 rfl (lv_at hl 2 rfl) ?_
  refine lw_arg X hL hl hS (k := 1) (by omega) dL_law_739 dL_law_740 dL_law_741 (by decide) dL_law_742 dL_law_743 ?_
  refine lw_arg X hL hl hS (k := 2) (by omega) dL_law_744 dL_law_745 dL_law_746 (by decide) dL_law_747 dL_law_748 ?_
  refine lw_arg X hL hl hS (k := 3) (by omega) dL_law_749 dL_law_750 dL_law_751 (by decide) dL_law_752 dL_law_753 ?_
  refine lw_arg X hL hl hS (k := 4) (by omega) dL_law_754 dL_law_755 dL_law_756 (by decide) dL_law_757 dL_law_758 ?_
  refine lw_cV (As := [.int (xs (i + 1)), .int (xs (i + 2)), .int (xs (i + 3)), .int (xs (i + 4))]) (rest := []) (c0 := 0) X hl hP hD hS rfl dL_law_759 rfl rfl npX6_put wmL_90 wvX6_put weX6_put wiX6 wdX6_put (by decide) (by decide) rfl rfl (Nat.le_of_ble_eq_true rfl) (B_put σ J) (fun v σ1 H locs hR hP hD hS => ?_)
  obtain ⟨z, rfl, h7⟩ := hR
  refine lv_aload_n X.1.1 X.1.2.1 dL_law_762 rfl (lv_at hl 1 rfl) ?_
  refine lw_arg X hL hl hS (k := 1) (by omega) dL_law_763 dL_law_764 dL_law_765 (by decide) dL_law_766 dL_law_767 ?_
  refine lw_arg X hL hl hS (k := 2) (by omega) dL_law_768 dL_law_769 dL_law_770 (by decide) dL_law_771 dL_law_772 ?_
  refine lw_arg X hL hl hS (k := 3) (by omega) dL_law_773 dL_law_774 dL_law_775 (by decide) dL_law_776 dL_law_777 ?_
  refine lw_arg X hL hl hS (k := 4) (by omega) dL_law_778 dL_law_779 dL_law_780 (by decide) dL_law_781 dL_law_782 ?_
  refine lw_cV (As := [.int (xs (i + 1)), .int (xs (i + 2)), .int (xs (i + 3)), .int (xs (i + 4))]) (rest := [.int z]) (c0 := 42) X hl hP hD hS rfl dL_law_783 rfl rfl npX7_put wmL_93 wvX7_put weX7_put wiX7 wdX7_put (by decide) (by decide) rfl rfl (Nat.le_of_ble_eq_true rfl) h7 (fun v σ2 H locs hR hP hD hS => ?_)
  obtain ⟨rfl, J2⟩ := hR
  refine lv_icmp_eq (tgt := 957) X.1.1 X.1.2.1 dL_law_786 (by decide) (fun _ => ?_) (fun h => absurd rfl h)
  exact hk _ _ _ _ ⟨hl, hP, hD, hS⟩ J2
theorem lc_19 (X : lw_X g p s m meth c b L xs) (hL : L ≤ 3072) (hi : i + 6 ≤ L) (I : lw_I g s b i H locs ls σ) (J : Inv σ) (hk : lw_K g p e s m below meth c b i 957) : lw_W g p e s m below meth c b 791 H locs ls [] := by
  obtain ⟨hl, hP, hD, hS⟩ := I
  refine lv_aload_n X.1.1 X.1.2.1 dL_law_791 rfl (lv_at hl 2 rfl) ?_
  refine lw_arg X hL hl hS (k := 1) (by omega) dL_law_792 dL_law_793 dL_law_794 (by decide) dL_law_795 dL_law_796 ?_
  refine lw_arg X hL hl hS (k := 2) (by omega) dL_law_797 dL_law_798 dL_law_799 (by decide) dL_law_800 dL_law_801 ?_
  refine lw_arg X hL hl hS (k := 3) (by omega) dL_law_802 dL_law_803 dL_law_804 (by decide) dL_law_805 dL_law_806 ?_
  refine lw_cV (As := [.int (xs (i + 1)), .int (xs (i + 2)), .int (xs (i + 3))]) (rest := []) (c0 := 0) X hl hP hD hS rfl dL_law_807 rfl rfl npX6_get wmL_94 wvX6_get weX6_get wiX6 wdX6_get (by decide) (by decide) rfl rfl (Nat.le_of_ble_eq_true rfl) (B_get σ J) (fun v σ1 H locs hR hP hD hS => ?_)
  obtain ⟨z, rfl, h7⟩ := hR
  refine lv_aload_n X.1.1 X.1.2.1 dL_law_810 rfl (lv_at hl 1 rfl) ?_
  refine lw_arg X hL hl hS (k := 1) (by omega) dL_law_811 dL_law_812 dL_law_813 (by decide) dL_law_814 dL_law_815 ?_
  refine lw_arg X hL hl hS (k := 2) (by omega) dL_law_816 dL_law_817 dL_law_818 (by decide) dL_law_819 dL_law_820 ?_
  refine lw_arg X hL hl hS (k := 3) (by omega) dL_law_821 dL_law_822 dL_law_823 (by decide) dL_law_824 dL_law_825 ?_
  refine lw_cV (As := [.int (xs (i + 1)), .int (xs (i + 2)), .int (xs (i + 3))]) (rest := [.int z]) (c0 := 42) X hl hP hD hS rfl dL_law_826 rfl rfl npX7_get wmL_97 wvX7_get weX7_get wiX7 wdX7_get (by decide) (by decide) rfl rfl (Nat.le_of_ble_eq_true rfl) h7 (fun v σ2 H locs hR hP hD hS => ?_)
  obtain ⟨rfl, J2⟩ := hR
  refine lv_icmp_eq (tgt := 957) X.1.1 X.1.2.1 dL_law_829 (by decide) (fun _ => ?_) (fun h => absurd rfl h)
  exact hk _ _ _ _ ⟨hl, hP, hD, hS⟩ J2
theorem lc_20 (X : lw_X g p s m meth c b L xs) (hL : L ≤ 3072) (hi : i + 6 ≤ L) (I : lw_I g s b i H locs ls σ) (J : Inv σ) (hk : lw_K g p e s m below meth c b i 957) : lw_W g p e s m below meth c b 834 H locs ls [] := by
  obtain ⟨hl, hP, hD, hS⟩ := I
  refine lv_aload_n X.1.1 X.1.2.1 dL_law_834 rfl (lv_at hl 2 rfl) ?_
  refine lw_arg X hL hl hS (k := 1) (by omega) dL_law_835 dL_law_836 dL_law_837 (by decide) dL_law_838 dL_law_839 ?_
  refine lw_arg X hL hl hS (k := 2) (by omega) dL_law_840 dL_law_841 dL_law_842 (by decide) dL_law_843 dL_law_844 ?_
  refine lw_arg X hL hl hS (k := 3) (by omega) dL_law_845 dL_law_846 dL_law_847 (by decide) dL_law_848 dL_law_849 ?_
  refine lw_arg X hL hl hS (k := 4) (by omega) dL_law_850 dL_law_851 dL_law_852 (by decide) dL_law_853 dL_law_854 ?_
  refine lw_arg X hL hl hS (k := 5) (by omega) dL_law_855 dL_law_856 dL_law_857 (by decide) dL_law_858 dL_law_859 ?_
  refine lw_cV (As := [.int (xs (i + 1)), .int (xs (i + 2)), .int (xs (i + 3)), .int (xs (i + 4)), .int (xs (i + 5))]) (rest := []) (c0 := 0) X hl hP hD hS rfl dL_law_860 rfl rfl npX6_copy wmL_98 wvX6_copy weX6_copy wiX6 wdX6_copy (by decide) (by decide) rfl rfl (Nat.le_of_ble_eq_true rfl) (B_copy σ J) (fun v σ1 H locs hR hP hD hS => ?_)
  obtain ⟨z, rfl, h7⟩ := hR
  refine lv_aload_n X.1.1 X.1.2.1 dL_law_863 rfl (lv_at hl 1 rfl) ?_
  refine lw_arg X hL hl hS (k := 1) (by omega) dL_law_864 dL_law_865 dL_law_866 (by decide) dL_law_867 dL_law_868 ?_
  refine lw_arg X hL hl hS (k := 2) (by omega) dL_law_869 dL_law_870 dL_law_871 (by decide) dL_law_872 dL_law_873 ?_
  refine lw_arg X hL hl hS (k := 3) (by omega) dL_law_874 dL_law_875 dL_law_876 (by decide) dL_law_877 dL_law_878 ?_
  refine lw_arg X hL hl hS (k := 4) (by omega) dL_law_879 dL_law_880 dL_law_881 (by decide) dL_law_882 dL_law_883 ?_
  refine lw_arg X hL hl hS (k := 5) (by omega) dL_law_884 dL_law_885 dL_law_886 (by decide) dL_law_887 dL_law_888 ?_
  refine lw_cV (As := [.int (xs (i + 1)), .int (xs (i + 2)), .int (xs (i + 3)), .int (xs (i + 4)), .int (xs (i + 5))]) (rest := [.int z]) (c0 := 42) X hl hP hD hS rfl dL_law_889 rfl rfl npX7_copy wmL_102 wvX7_copy weX7_copy wiX7 wdX7_copy (by decide) (by decide) rfl rfl (Nat.le_of_ble_eq_true rfl) h7 (fun v σ2 H locs hR hP hD hS => ?_)
  obtain ⟨rfl, J2⟩ := hR
  refine lv_icmp_eq (tgt := 957) X.1.1 X.1.2.1 dL_law_892 (by decide) (fun _ => ?_) (fun h => absurd rfl h)
  exact hk _ _ _ _ ⟨hl, hP, hD, hS⟩ J2
theorem lc_21 (X : lw_X g p s m meth c b L xs) (hL : L ≤ 3072) (hi : i + 6 ≤ L) (I : lw_I g s b i H locs ls σ) (J : Inv σ) (hk : lw_K g p e s m below meth c b i 957) : lw_W g p e s m below meth c b 897 H locs ls [] := by
  obtain ⟨hl, hP, hD, hS⟩ := I
  refine lv_aload_n X.1.1 X.1.2.1 dL_law_897 rfl (lv_at hl 2 rfl) ?_
  refine lw_arg X hL hl hS (k := 1) (by omega) dL_law_898 dL_law_899 dL_law_900 (by decide) dL_law_901 dL_law_902 ?_
  refine lw_cV (As := [.int (xs (i + 1))]) (rest := []) (c0 := 0) X hl hP hD hS rfl dL_law_903 rfl rfl npX6_write wmL_103 wvX6_write weX6_write wiX6 wdX6_write (by decide) (by decide) rfl rfl (Nat.le_of_ble_eq_true rfl) (B_write σ J) (fun v σ1 H locs hR hP hD hS => ?_)
  obtain ⟨z, rfl, h7⟩ := hR
  refine lv_aload_n X.1.1 X.1.2.1 dL_law_906 rfl (lv_at hl 1 rfl) ?_
  refine lw_arg X hL hl hS (k := 1) (by omega) dL_law_907 dL_law_908 dL_law_909 (by decide) dL_law_910 dL_law_911 ?_
  refine lw_cV (As := [.int (xs (i + 1))]) (rest := [.int z]) (c0 := 42) X hl hP hD hS rfl dL_law_912 rfl rfl npX7_write wmL_106 wvX7_write weX7_write wiX7 wdX7_write (by decide) (by decide) rfl rfl (Nat.le_of_ble_eq_true rfl) h7 (fun v σ2 H locs hR hP hD hS => ?_)
  obtain ⟨rfl, J2⟩ := hR
  refine lv_icmp_eq (tgt := 957) X.1.1 X.1.2.1 dL_law_915 (by decide) (fun _ => ?_) (fun h => absurd rfl h)
  exact hk _ _ _ _ ⟨hl, hP, hD, hS⟩ J2
theorem lc_22 (X : lw_X g p s m meth c b L xs) (hL : L ≤ 3072) (hi : i + 6 ≤ L) (I : lw_I g s b i H locs ls σ) (J : Inv σ) (hk : lw_K g p e s m below meth c b i 957) : lw_W g p e s m below meth c b 920 H locs ls [] := by
  obtain ⟨hl, hP, hD, hS⟩ := I
  refine lv_aload_n X.1.1 X.1.2.1 dL_law_920 rfl (lv_at hl 2 rfl) ?_
  refine lw_arg X hL hl hS (k := 1) (by omega) dL_law_921 dL_law_922 dL_law_923 (by decide) dL_law_924 dL_law_925 ?_
  refine lw_cV (As := [.int (xs (i + 1))]) (rest := []) (c0 := 0) X hl hP hD hS rfl dL_law_926 rfl rfl npX6_count wmL_107 wvX6_count weX6_count wiX6 wdX6_count (by decide) (by decide) rfl rfl (Nat.le_of_ble_eq_true rfl) (B_count σ J) (fun v σ1 H locs hR hP hD hS => ?_)
  obtain ⟨z, rfl, h7⟩ := hR
  refine lv_aload_n X.1.1 X.1.2.1 dL_law_929 rfl (lv_at hl 1 rfl) ?_
  refine lw_arg X hL hl hS (k := 1) (by omega) dL_law_930 dL_law_931 dL_law_932 (by decide) dL_law_933 dL_law_934 ?_
  refine lw_cV (As := [.int (xs (i + 1))]) (rest := [.int z]) (c0 := 42) X hl hP hD hS rfl dL_law_935 rfl rfl npX7_count wmL_110 wvX7_count weX7_count wiX7 wdX7_count (by decide) (by decide) rfl rfl (Nat.le_of_ble_eq_true rfl) h7 (fun v σ2 H locs hR hP hD hS => ?_)
  obtain ⟨rfl, J2⟩ := hR
  refine lv_icmp_eq (tgt := 957) X.1.1 X.1.2.1 dL_law_938 (by decide) (fun _ => ?_) (fun h => absurd rfl h)
  exact hk _ _ _ _ ⟨hl, hP, hD, hS⟩ J2
theorem lc_23 (X : lw_X g p s m meth c b L xs) (hL : L ≤ 3072) (hi : i + 6 ≤ L) (I : lw_I g s b i H locs ls σ) (J : Inv σ) (hk : lw_K g p e s m below meth c b i 957) : lw_W g p e s m below meth c b 943 H locs ls [] := by
  obtain ⟨hl, hP, hD, hS⟩ := I
  refine lv_aload_n X.1.1 X.1.2.1 dL_law_943 rfl (lv_at hl 2 rfl) ?_
  refine lw_cV (As := []) (rest := []) (c0 := 0) X hl hP hD hS rfl dL_law_944 rfl rfl npX6_digest wmL_111 wvX6_digest weX6_digest wiX6 wdX6_digest (by decide) (by decide) rfl rfl (Nat.le_of_ble_eq_true rfl) (B_digest σ J) (fun v σ1 H locs hR hP hD hS => ?_)
  obtain ⟨z, rfl, h7⟩ := hR
  refine lv_aload_n X.1.1 X.1.2.1 dL_law_947 rfl (lv_at hl 1 rfl) ?_
  refine lw_cV (As := []) (rest := [.long z]) (c0 := 42) X hl hP hD hS rfl dL_law_948 rfl rfl npX7_digest wmL_115 wvX7_digest weX7_digest wiX7 wdX7_digest (by decide) (by decide) rfl rfl (Nat.le_of_ble_eq_true rfl) h7 (fun v σ2 H locs hR hP hD hS => ?_)
  obtain ⟨rfl, J2⟩ := hR
  refine W.lcmp X.1.1 X.1.2.1 dL_law_951 ?_
  refine lv_if_eq (tgt := 957) X.1.1 X.1.2.1 dL_law_952 (by decide) (fun _ => ?_) (fun h => absurd (lg_cmp_self z) h)
  exact hk _ _ _ _ ⟨hl, hP, hD, hS⟩ J2
end LC1
