/-! LEVEL 3: more cases of the law -/
theorem lc_said {X : lwX} {k : Nat} {A : ruA} (hK : lwK X) (hk : k + 6 ≤ lwL X) (hI : Inv wyW A) (next : ∀ A2, Inv wyW A2 → lwJ X 1745 (iN k) [] A2) : lwJ X 599 (iN k) [] A := by
  obtain ⟨r, A1, A2, h1, h2, h3⟩ := op_said hI (lwx X (k + 1)) (lwx X (k + 2))
  refine lj_obj1 hK dL_599 ?_
  refine lj_arg (j := 1) hK hk (by decide) rfl dL_600 dL_601 dL_602 dL_603 dL_604 ?_
  refine lj_arg (j := 2) hK hk (by decide) rfl dL_605 dL_606 dL_607 dL_608 dL_609 ?_
  refine lj_call (M2 := mmX10_said) (as := [.int (lwx X (k + 1)), .int (lwx X (k + 2))]) (st := []) (k := 0) hK dL_610 rfl cvL_62 rfl (show 200 ≤ 1000 by decide) (Nat.le_of_ble_eq_true rfl) (wX10_said 200 (by decide) (lwx X (k + 1)) (lwx X (k + 2)) A h1) ?_
  intro rr AA hq
  rw [hq.1, hq.2]
  refine lj_obj2 hK dL_613 ?_
  refine lj_arg (j := 1) hK hk (by decide) rfl dL_614 dL_615 dL_616 dL_617 dL_618 ?_
  refine lj_arg (j := 2) hK hk (by decide) rfl dL_619 dL_620 dL_621 dL_622 dL_623 ?_
  refine lj_call (M2 := mmX11_said) (as := [.int (lwx X (k + 1)), .int (lwx X (k + 2))]) (st := [.int r]) (k := 83) hK dL_624 rfl cvL_65 rfl (show 200 ≤ 1000 by decide) (Nat.le_of_ble_eq_true rfl) (wX11_said 200 (by decide) (lwx X (k + 1)) (lwx X (k + 2)) A1 h2) ?_
  intro rr AA hq
  rw [hq.1, hq.2]
  exact lj_cmp hK dL_627 (by decide) (next _ h3)
theorem lc_puts {X : lwX} {k : Nat} {A : ruA} (hK : lwK X) (hk : k + 6 ≤ lwL X) (hI : Inv wyW A) (next : ∀ A2, Inv wyW A2 → lwJ X 1745 (iN k) [] A2) : lwJ X 632 (iN k) [] A := by
  obtain ⟨r, A1, A2, h1, h2, h3⟩ := op_puts hI (lwx X (k + 1)) (lwx X (k + 2))
  refine lj_obj1 hK dL_632 ?_
  refine lj_arg (j := 1) hK hk (by decide) rfl dL_633 dL_634 dL_635 dL_636 dL_637 ?_
  refine lj_arg (j := 2) hK hk (by decide) rfl dL_638 dL_639 dL_640 dL_641 dL_642 ?_
  refine lj_call (M2 := mmX10_puts) (as := [.int (lwx X (k + 1)), .int (lwx X (k + 2))]) (st := []) (k := 0) hK dL_643 rfl cvL_66 rfl (show 200 ≤ 1000 by decide) (Nat.le_of_ble_eq_true rfl) (wX10_puts 200 (by decide) (lwx X (k + 1)) (lwx X (k + 2)) A h1) ?_
  intro rr AA hq
  rw [hq.1, hq.2]
  refine lj_obj2 hK dL_646 ?_
  refine lj_arg (j := 1) hK hk (by decide) rfl dL_647 dL_648 dL_649 dL_650 dL_651 ?_
  refine lj_arg (j := 2) hK hk (by decide) rfl dL_652 dL_653 dL_654 dL_655 dL_656 ?_
  refine lj_call (M2 := mmX11_puts) (as := [.int (lwx X (k + 1)), .int (lwx X (k + 2))]) (st := [.int r]) (k := 83) hK dL_657 rfl cvL_69 rfl (show 200 ≤ 1000 by decide) (Nat.le_of_ble_eq_true rfl) (wX11_puts 200 (by decide) (lwx X (k + 1)) (lwx X (k + 2)) A1 h2) ?_
  intro rr AA hq
  rw [hq.1, hq.2]
  exact lj_cmp hK dL_660 (by decide) (next _ h3)
theorem lc_fills {X : lwX} {k : Nat} {A : ruA} (hK : lwK X) (hk : k + 6 ≤ lwL X) (hI : Inv wyW A) (next : ∀ A2, Inv wyW A2 → lwJ X 1745 (iN k) [] A2) : lwJ X 665 (iN k) [] A := by
  obtain ⟨r, A1, A2, h1, h2, h3⟩ := op_fills hI (lwx X (k + 1))
  refine lj_obj1 hK dL_665 ?_
  refine lj_arg (j := 1) hK hk (by decide) rfl dL_666 dL_667 dL_668 dL_669 dL_670 ?_
  refine lj_call (M2 := mmX10_fills) (as := [.int (lwx X (k + 1))]) (st := []) (k := 0) hK dL_671 rfl cvL_70 rfl (show 200 ≤ 1000 by decide) (Nat.le_of_ble_eq_true rfl) (wX10_fills 200 (by decide) (lwx X (k + 1)) A h1) ?_
  intro rr AA hq
  rw [hq.1, hq.2]
  refine lj_obj2 hK dL_674 ?_
  refine lj_arg (j := 1) hK hk (by decide) rfl dL_675 dL_676 dL_677 dL_678 dL_679 ?_
  refine lj_call (M2 := mmX11_fills) (as := [.int (lwx X (k + 1))]) (st := [.int r]) (k := 83) hK dL_680 rfl cvL_74 rfl (show 200 ≤ 1000 by decide) (Nat.le_of_ble_eq_true rfl) (wX11_fills 200 (by decide) (lwx X (k + 1)) A1 h2) ?_
  intro rr AA hq
  rw [hq.1, hq.2]
  exact lj_cmp hK dL_683 (by decide) (next _ h3)
theorem lc_leaves {X : lwX} {k : Nat} {A : ruA} (hK : lwK X) (hk : k + 6 ≤ lwL X) (hI : Inv wyW A) (next : ∀ A2, Inv wyW A2 → lwJ X 1745 (iN k) [] A2) : lwJ X 688 (iN k) [] A := by
  obtain ⟨r, A1, A2, h1, h2, h3⟩ := op_leaves hI (lwx X (k + 1))
  refine lj_obj1 hK dL_688 ?_
  refine lj_arg (j := 1) hK hk (by decide) rfl dL_689 dL_690 dL_691 dL_692 dL_693 ?_
  refine lj_call (M2 := mmX10_leaves) (as := [.int (lwx X (k + 1))]) (st := []) (k := 0) hK dL_694 rfl cvL_75 rfl (show 200 ≤ 1000 by decide) (Nat.le_of_ble_eq_true rfl) (wX10_leaves 200 (by decide) (lwx X (k + 1)) A h1) ?_
  intro rr AA hq
  rw [hq.1, hq.2]
  refine lj_obj2 hK dL_697 ?_
  refine lj_arg (j := 1) hK hk (by decide) rfl dL_698 dL_699 dL_700 dL_701 dL_702 ?_
  refine lj_call (M2 := mmX11_leaves) (as := [.int (lwx X (k + 1))]) (st := [.int r]) (k := 83) hK dL_703 rfl cvL_78 rfl (show 200 ≤ 1000 by decide) (Nat.le_of_ble_eq_true rfl) (wX11_leaves 200 (by decide) (lwx X (k + 1)) A1 h2) ?_
  intro rr AA hq
  rw [hq.1, hq.2]
  exact lj_cmp hK dL_706 (by decide) (next _ h3)
theorem lc_bubble {X : lwX} {k : Nat} {A : ruA} (hK : lwK X) (hk : k + 6 ≤ lwL X) (hI : Inv wyW A) (next : ∀ A2, Inv wyW A2 → lwJ X 1745 (iN k) [] A2) : lwJ X 711 (iN k) [] A := by
  obtain ⟨r, A1, A2, h1, h2, h3⟩ := op_bubble hI (lwx X (k + 1)) (lwx X (k + 2)) (lwx X (k + 3)) (lwx X (k + 4))
  refine lj_obj1 hK dL_711 ?_
  refine lj_arg (j := 1) hK hk (by decide) rfl dL_712 dL_713 dL_714 dL_715 dL_716 ?_
  refine lj_arg (j := 2) hK hk (by decide) rfl dL_717 dL_718 dL_719 dL_720 dL_721 ?_
  refine lj_arg (j := 3) hK hk (by decide) rfl dL_722 dL_723 dL_724 dL_725 dL_726 ?_
  refine lj_arg (j := 4) hK hk (by decide) rfl dL_727 dL_728 dL_729 dL_730 dL_731 ?_
  refine lj_call (M2 := mmX10_bubble) (as := [.int (lwx X (k + 1)), .int (lwx X (k + 2)), .int (lwx X (k + 3)), .int (lwx X (k + 4))]) (st := []) (k := 0) hK dL_732 rfl cvL_79 rfl (show 200 ≤ 1000 by decide) (Nat.le_of_ble_eq_true rfl) (wX10_bubble 200 (by decide) (lwx X (k + 1)) (lwx X (k + 2)) (lwx X (k + 3)) (lwx X (k + 4)) A h1) ?_
  intro rr AA hq
  rw [hq.1, hq.2]
  refine lj_obj2 hK dL_735 ?_
  refine lj_arg (j := 1) hK hk (by decide) rfl dL_736 dL_737 dL_738 dL_739 dL_740 ?_
  refine lj_arg (j := 2) hK hk (by decide) rfl dL_741 dL_742 dL_743 dL_744 dL_745 ?_
  refine lj_arg (j := 3) hK hk (by decide) rfl dL_746 dL_747 dL_748 dL_749 dL_750 ?_
  refine lj_arg (j := 4) hK hk (by decide) rfl dL_751 dL_752 dL_753 dL_754 dL_755 ?_
  refine lj_call (M2 := mmX11_bubble) (as := [.int (lwx X (k + 1)), .int (lwx X (k + 2)), .int (lwx X (k + 3)), .int (lwx X (k + 4))]) (st := [.int r]) (k := 83) hK dL_756 rfl cvL_82 rfl (show 200 ≤ 1000 by decide) (Nat.le_of_ble_eq_true rfl) (wX11_bubble 200 (by decide) (lwx X (k + 1)) (lwx X (k + 2)) (lwx X (k + 3)) (lwx X (k + 4)) A1 h2) ?_
  intro rr AA hq
  rw [hq.1, hq.2]
  exact lj_cmp hK dL_759 (by decide) (next _ h3)
theorem lc_sheetIs {X : lwX} {k : Nat} {A : ruA} (hK : lwK X) (hk : k + 6 ≤ lwL X) (hI : Inv wyW A) (next : ∀ A2, Inv wyW A2 → lwJ X 1745 (iN k) [] A2) : lwJ X 764 (iN k) [] A := by
  obtain ⟨r, A1, A2, h1, h2, h3⟩ := op_sheetIs hI (lwx X (k + 1)) (lwx X (k + 2)) (lwx X (k + 3))
  refine lj_obj1 hK dL_764 ?_
  refine lj_arg (j := 1) hK hk (by decide) rfl dL_765 dL_766 dL_767 dL_768 dL_769 ?_
  refine lj_arg (j := 2) hK hk (by decide) rfl dL_770 dL_771 dL_772 dL_773 dL_774 ?_
  refine lj_arg (j := 3) hK hk (by decide) rfl dL_775 dL_776 dL_777 dL_778 dL_779 ?_
  refine lj_call (M2 := mmX10_sheetIs) (as := [.int (lwx X (k + 1)), .int (lwx X (k + 2)), .int (lwx X (k + 3))]) (st := []) (k := 0) hK dL_780 rfl cvL_83 rfl (show 200 ≤ 1000 by decide) (Nat.le_of_ble_eq_true rfl) (wX10_sheetIs 200 (by decide) (lwx X (k + 1)) (lwx X (k + 2)) (lwx X (k + 3)) A h1) ?_
  intro rr AA hq
  rw [hq.1, hq.2]
  refine lj_obj2 hK dL_783 ?_
  refine lj_arg (j := 1) hK hk (by decide) rfl dL_784 dL_785 dL_786 dL_787 dL_788 ?_
  refine lj_arg (j := 2) hK hk (by decide) rfl dL_789 dL_790 dL_791 dL_792 dL_793 ?_
  refine lj_arg (j := 3) hK hk (by decide) rfl dL_794 dL_795 dL_796 dL_797 dL_798 ?_
  refine lj_call (M2 := mmX11_sheetIs) (as := [.int (lwx X (k + 1)), .int (lwx X (k + 2)), .int (lwx X (k + 3))]) (st := [.int r]) (k := 83) hK dL_799 rfl cvL_86 rfl (show 200 ≤ 1000 by decide) (Nat.le_of_ble_eq_true rfl) (wX11_sheetIs 200 (by decide) (lwx X (k + 1)) (lwx X (k + 2)) (lwx X (k + 3)) A1 h2) ?_
  intro rr AA hq
  rw [hq.1, hq.2]
  exact lj_cmp hK dL_802 (by decide) (next _ h3)
theorem lc_weight {X : lwX} {k : Nat} {A : ruA} (hK : lwK X) (hk : k + 6 ≤ lwL X) (hI : Inv wyW A) (next : ∀ A2, Inv wyW A2 → lwJ X 1745 (iN k) [] A2) : lwJ X 807 (iN k) [] A := by
  obtain ⟨r, A1, A2, h1, h2, h3⟩ := op_weight hI (lwx X (k + 1)) (lwx X (k + 2))
  refine lj_obj1 hK dL_807 ?_
  refine lj_arg (j := 1) hK hk (by decide) rfl dL_808 dL_809 dL_810 dL_811 dL_812 ?_
  refine lj_arg (j := 2) hK hk (by decide) rfl dL_813 dL_814 dL_815 dL_816 dL_817 ?_
  refine lj_call (M2 := mmX10_weight) (as := [.int (lwx X (k + 1)), .int (lwx X (k + 2))]) (st := []) (k := 0) hK dL_818 rfl cvL_87 rfl (show 200 ≤ 1000 by decide) (Nat.le_of_ble_eq_true rfl) (wX10_weight 200 (by decide) (lwx X (k + 1)) (lwx X (k + 2)) A h1) ?_
  intro rr AA hq
  rw [hq.1, hq.2]
  refine lj_obj2 hK dL_821 ?_
  refine lj_arg (j := 1) hK hk (by decide) rfl dL_822 dL_823 dL_824 dL_825 dL_826 ?_
  refine lj_arg (j := 2) hK hk (by decide) rfl dL_827 dL_828 dL_829 dL_830 dL_831 ?_
  refine lj_call (M2 := mmX11_weight) (as := [.int (lwx X (k + 1)), .int (lwx X (k + 2))]) (st := [.int r]) (k := 83) hK dL_832 rfl cvL_90 rfl (show 200 ≤ 1000 by decide) (Nat.le_of_ble_eq_true rfl) (wX11_weight 200 (by decide) (lwx X (k + 1)) (lwx X (k + 2)) A1 h2) ?_
  intro rr AA hq
  rw [hq.1, hq.2]
  exact lj_cmp hK dL_835 (by decide) (next _ h3)
theorem lc_as {X : lwX} {k : Nat} {A : ruA} (hK : lwK X) (hk : k + 6 ≤ lwL X) (hI : Inv wyW A) (next : ∀ A2, Inv wyW A2 → lwJ X 1745 (iN k) [] A2) : lwJ X 840 (iN k) [] A := by
  obtain ⟨r, A1, A2, h1, h2, h3⟩ := op_as hI (lwx X (k + 1)) (lwx X (k + 2)) (lwx X (k + 3)) (lwx X (k + 4))
  refine lj_obj1 hK dL_840 ?_
  refine lj_arg (j := 1) hK hk (by decide) rfl dL_841 dL_842 dL_843 dL_844 dL_845 ?_
  refine lj_arg (j := 2) hK hk (by decide) rfl dL_846 dL_847 dL_848 dL_849 dL_850 ?_
  refine lj_arg (j := 3) hK hk (by decide) rfl dL_851 dL_852 dL_853 dL_854 dL_855 ?_
  refine lj_arg (j := 4) hK hk (by decide) rfl dL_856 dL_857 dL_858 dL_859 dL_860 ?_
  refine lj_call (M2 := mmX10_as) (as := [.int (lwx X (k + 1)), .int (lwx X (k + 2)), .int (lwx X (k + 3)), .int (lwx X (k + 4))]) (st := []) (k := 0) hK dL_861 rfl cvL_91 rfl (show 200 ≤ 1000 by decide) (Nat.le_of_ble_eq_true rfl) (wX10_as 200 (by decide) (lwx X (k + 1)) (lwx X (k + 2)) (lwx X (k + 3)) (lwx X (k + 4)) A h1) ?_
  intro rr AA hq
  rw [hq.1, hq.2]
  refine lj_obj2 hK dL_864 ?_
  refine lj_arg (j := 1) hK hk (by decide) rfl dL_865 dL_866 dL_867 dL_868 dL_869 ?_
  refine lj_arg (j := 2) hK hk (by decide) rfl dL_870 dL_871 dL_872 dL_873 dL_874 ?_
  refine lj_arg (j := 3) hK hk (by decide) rfl dL_875 dL_876 dL_877 dL_878 dL_879 ?_
  refine lj_arg (j := 4) hK hk (by decide) rfl dL_880 dL_881 dL_882 dL_883 dL_884 ?_
  refine lj_call (M2 := mmX11_as) (as := [.int (lwx X (k + 1)), .int (lwx X (k + 2)), .int (lwx X (k + 3)), .int (lwx X (k + 4))]) (st := [.int r]) (k := 83) hK dL_885 rfl cvL_94 rfl (show 200 ≤ 1000 by decide) (Nat.le_of_ble_eq_true rfl) (wX11_as 200 (by decide) (lwx X (k + 1)) (lwx X (k + 2)) (lwx X (k + 3)) (lwx X (k + 4)) A1 h2) ?_
  intro rr AA hq
  rw [hq.1, hq.2]
  exact lj_cmp hK dL_888 (by decide) (next _ h3)
theorem lc_measure {X : lwX} {k : Nat} {A : ruA} (hK : lwK X) (hk : k + 6 ≤ lwL X) (hI : Inv wyW A) (next : ∀ A2, Inv wyW A2 → lwJ X 1745 (iN k) [] A2) : lwJ X 893 (iN k) [] A := by
  obtain ⟨r, A1, A2, h1, h2, h3⟩ := op_measure hI (lwx X (k + 1)) (lwx X (k + 2)) (lwx X (k + 3))
  refine lj_obj1 hK dL_893 ?_
  refine lj_arg (j := 1) hK hk (by decide) rfl dL_894 dL_895 dL_896 dL_897 dL_898 ?_
  refine lj_arg (j := 2) hK hk (by decide) rfl dL_899 dL_900 dL_901 dL_902 dL_903 ?_
  refine lj_arg (j := 3) hK hk (by decide) rfl dL_904 dL_905 dL_906 dL_907 dL_908 ?_
  refine lj_call (M2 := mmX10_measure) (as := [.int (lwx X (k + 1)), .int (lwx X (k + 2)), .int (lwx X (k + 3))]) (st := []) (k := 0) hK dL_909 rfl cvL_95 rfl (show 200 ≤ 1000 by decide) (Nat.le_of_ble_eq_true rfl) (wX10_measure 200 (by decide) (lwx X (k + 1)) (lwx X (k + 2)) (lwx X (k + 3)) A h1) ?_
  intro rr AA hq
  rw [hq.1, hq.2]
  refine lj_obj2 hK dL_912 ?_
  refine lj_arg (j := 1) hK hk (by decide) rfl dL_913 dL_914 dL_915 dL_916 dL_917 ?_
  refine lj_arg (j := 2) hK hk (by decide) rfl dL_918 dL_919 dL_920 dL_921 dL_922 ?_
  refine lj_arg (j := 3) hK hk (by decide) rfl dL_923 dL_924 dL_925 dL_926 dL_927 ?_
  refine lj_call (M2 := mmX11_measure) (as := [.int (lwx X (k + 1)), .int (lwx X (k + 2)), .int (lwx X (k + 3))]) (st := [.int r]) (k := 83) hK dL_928 rfl cvL_98 rfl (show 200 ≤ 1000 by decide) (Nat.le_of_ble_eq_true rfl) (wX11_measure 200 (by decide) (lwx X (k + 1)) (lwx X (k + 2)) (lwx X (k + 3)) A1 h2) ?_
  intro rr AA hq
  rw [hq.1, hq.2]
  exact lj_cmp hK dL_931 (by decide) (next _ h3)
theorem lc_looked {X : lwX} {k : Nat} {A : ruA} (hK : lwK X) (hk : k + 6 ≤ lwL X) (hI : Inv wyW A) (next : ∀ A2, Inv wyW A2 → lwJ X 1745 (iN k) [] A2) : lwJ X 936 (iN k) [] A := by
  obtain ⟨r, h1, h2⟩ := op_looked hI
  have h3 := hI
  refine lj_obj1 hK dL_936 ?_
  refine lj_call (M2 := mmX10_looked) (as := []) (st := []) (k := 0) hK dL_937 rfl cvL_99 rfl (show 200 ≤ 1000 by decide) (Nat.le_of_ble_eq_true rfl) (wX10_looked 200 (by decide) A h1) ?_
  intro rr AA hq
  rw [hq.1, hq.2]
  refine lj_obj2 hK dL_940 ?_
  refine lj_call (M2 := mmX11_looked) (as := []) (st := [.int r]) (k := 83) hK dL_941 rfl cvL_102 rfl (show 200 ≤ 1000 by decide) (Nat.le_of_ble_eq_true rfl) (wX11_looked 200 (by decide) A h2) ?_
  intro rr AA hq
  rw [hq.1, hq.2]
  exact lj_cmp hK dL_944 (by decide) (next _ h3)
theorem lc_string {X : lwX} {k : Nat} {A : ruA} (hK : lwK X) (hk : k + 6 ≤ lwL X) (hI : Inv wyW A) (next : ∀ A2, Inv wyW A2 → lwJ X 1745 (iN k) [] A2) : lwJ X 949 (iN k) [] A := by
  obtain ⟨r, A1, A2, h1, h2, h3⟩ := op_string hI (lwx X (k + 1)) (lwx X (k + 2)) (lwx X (k + 3)) (lwx X (k + 4))
  refine lj_obj1 hK dL_949 ?_
  refine lj_arg (j := 1) hK hk (by decide) rfl dL_950 dL_951 dL_952 dL_953 dL_954 ?_
  refine lj_arg (j := 2) hK hk (by decide) rfl dL_955 dL_956 dL_957 dL_958 dL_959 ?_
  refine lj_arg (j := 3) hK hk (by decide) rfl dL_960 dL_961 dL_962 dL_963 dL_964 ?_
  refine lj_arg (j := 4) hK hk (by decide) rfl dL_965 dL_966 dL_967 dL_968 dL_969 ?_
  refine lj_call (M2 := mmX10_string) (as := [.int (lwx X (k + 1)), .int (lwx X (k + 2)), .int (lwx X (k + 3)), .int (lwx X (k + 4))]) (st := []) (k := 0) hK dL_970 rfl cvL_103 rfl (show 200 ≤ 1000 by decide) (Nat.le_of_ble_eq_true rfl) (wX10_string 200 (by decide) (lwx X (k + 1)) (lwx X (k + 2)) (lwx X (k + 3)) (lwx X (k + 4)) A h1) ?_
  intro rr AA hq
  rw [hq.1, hq.2]
  refine lj_obj2 hK dL_973 ?_
  refine lj_arg (j := 1) hK hk (by decide) rfl dL_974 dL_975 dL_976 dL_977 dL_978 ?_
  refine lj_arg (j := 2) hK hk (by decide) rfl dL_979 dL_980 dL_981 dL_982 dL_983 ?_
  refine lj_arg (j := 3) hK hk (by decide) rfl dL_984 dL_985 dL_986 dL_987 dL_988 ?_
  refine lj_arg (j := 4) hK hk (by decide) rfl dL_989 dL_990 dL_991 dL_992 dL_993 ?_
  refine lj_call (M2 := mmX11_string) (as := [.int (lwx X (k + 1)), .int (lwx X (k + 2)), .int (lwx X (k + 3)), .int (lwx X (k + 4))]) (st := [.int r]) (k := 83) hK dL_994 rfl cvL_106 rfl (show 200 ≤ 1000 by decide) (Nat.le_of_ble_eq_true rfl) (wX11_string 200 (by decide) (lwx X (k + 1)) (lwx X (k + 2)) (lwx X (k + 3)) (lwx X (k + 4)) A1 h2) ?_
  intro rr AA hq
  rw [hq.1, hq.2]
  exact lj_cmp hK dL_997 (by decide) (next _ h3)
