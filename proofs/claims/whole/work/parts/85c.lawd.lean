section XT
variable {z b L c : Nat} {xs : Nat → Int} {S : St} {h : aH} {Q : aR → Prop} {i : Int}
theorem lc_setGroup {tl : List aV} (J : LI z b L xs S c h) (h0 : 0 ≤ i) (h6 : i + 6 ≤ (L : Int)) (k : ∀ h' S' tl', LI z b L xs S' (c + 1) h' → amT mL_law 1797 (vR b :: vR z :: vR (z + 1899) :: vR (z + 1913) :: vI i :: tl') [] h' Q) : amT mL_law 664 (vR b :: vR z :: vR (z + 1899) :: vR (z + 1913) :: vI i :: tl) [] h Q := by
  obtain ⟨HS, D, M, R, so, sb, hb, hx, hr, hL, n1, n2⟩ := id J
  refine kr_aload_n (pc := 664) dL_law_664 rfl ?_
  refine kr_aload_n (pc := 665) dL_law_665 rfl ?_
  refine kr_iload (pc := 666) dL_law_666 rfl ?_
  refine kr_iconst (pc := 668) dL_law_668 (by decide) ?_
  refine kr_iadd (pc := 669) dL_law_669 ⟨by omega, by omega⟩ ?_
  refine kr_sald (pc := 670) dL_law_670 sb (by omega) (by omega) (hx _) ?_
  refine kr_aload_n (pc := 671) dL_law_671 rfl ?_
  refine kr_iload (pc := 672) dL_law_672 rfl ?_
  refine kr_iconst (pc := 674) dL_law_674 (by decide) ?_
  refine kr_iadd (pc := 675) dL_law_675 ⟨by omega, by omega⟩ ?_
  refine kr_sald (pc := 676) dL_law_676 sb (by omega) (by omega) (hx _) ?_
  refine kr_aload_n (pc := 677) dL_law_677 rfl ?_
  refine kr_iload (pc := 678) dL_law_678 rfl ?_
  refine kr_iconst (pc := 680) dL_law_680 (by decide) ?_
  refine kr_iadd (pc := 681) dL_law_681 ⟨by omega, by omega⟩ ?_
  refine kr_sald (pc := 682) dL_law_682 sb (by omega) (by omega) (hx _) ?_
  refine kr_aload_n (pc := 683) dL_law_683 rfl ?_
  refine kr_iload (pc := 684) dL_law_684 rfl ?_
  refine kr_iconst (pc := 686) dL_law_686 (by decide) ?_
  refine kr_iadd (pc := 687) dL_law_687 ⟨by omega, by omega⟩ ?_
  refine kr_sald (pc := 688) dL_law_688 sb (by omega) (by omega) (hx _) ?_
  refine kr_aload_n (pc := 689) dL_law_689 rfl ?_
  refine kr_s6 (pc := 690) dL_law_690 rfl rfl (Nat.le_of_ble_eq_true rfl) rfl rfl rfl rfl rfl rfl (l_setGroup D HS so (fun h1 kk O V => ?_))
  show amT _ _ _ _ _ _
  obtain ⟨M1, R1, so1, sb1, hx1⟩ := J.mid O
  refine kr_istore (pc := 693) dL_law_693 (show 5 ≤ _ from by simp) (by decide) ?_
  simp only [stl, List.tail_cons, List.tail_nil]
  refine kr_aload_n (pc := 695) dL_law_695 rfl ?_
  refine kr_aload_n (pc := 696) dL_law_696 rfl ?_
  refine kr_iload (pc := 697) dL_law_697 rfl ?_
  refine kr_iconst (pc := 699) dL_law_699 (by decide) ?_
  refine kr_iadd (pc := 700) dL_law_700 ⟨by omega, by omega⟩ ?_
  refine kr_sald (pc := 701) dL_law_701 sb1 (by omega) (by omega) (hx1 _) ?_
  refine kr_aload_n (pc := 702) dL_law_702 rfl ?_
  refine kr_iload (pc := 703) dL_law_703 rfl ?_
  refine kr_iconst (pc := 705) dL_law_705 (by decide) ?_
  refine kr_iadd (pc := 706) dL_law_706 ⟨by omega, by omega⟩ ?_
  refine kr_sald (pc := 707) dL_law_707 sb1 (by omega) (by omega) (hx1 _) ?_
  refine kr_aload_n (pc := 708) dL_law_708 rfl ?_
  refine kr_iload (pc := 709) dL_law_709 rfl ?_
  refine kr_iconst (pc := 711) dL_law_711 (by decide) ?_
  refine kr_iadd (pc := 712) dL_law_712 ⟨by omega, by omega⟩ ?_
  refine kr_sald (pc := 713) dL_law_713 sb1 (by omega) (by omega) (hx1 _) ?_
  refine kr_aload_n (pc := 714) dL_law_714 rfl ?_
  refine kr_iload (pc := 715) dL_law_715 rfl ?_
  refine kr_iconst (pc := 717) dL_law_717 (by decide) ?_
  refine kr_iadd (pc := 718) dL_law_718 ⟨by omega, by omega⟩ ?_
  refine kr_sald (pc := 719) dL_law_719 sb1 (by omega) (by omega) (hx1 _) ?_
  refine kr_v4 (pc := 720) dL_law_720 rfl rfl M1.1 (Nat.le_of_ble_eq_true rfl) rfl rfl rfl rfl (mc_setGroup M1 R1 HS (fun I' b' O2 => ?_))
  show amT _ _ _ _ _ _
  have M2 : MS (hI h1 I') (z + 1899) := M1
  have so2 : hsh (hI h1 I') (z + 1913) = (21, 1) := so1
  have J2 := J.next O O2 (okS_setGroup HS _ _ _ _)
  refine kr_istore (pc := 723) dL_law_723 (show 6 ≤ _ from by simp) (by decide) ?_
  simp only [stl, List.tail_cons, List.tail_nil]
  refine kr_aload_n (pc := 725) dL_law_725 rfl ?_
  refine kr_v0 (pc := 726) dL_law_726 rfl rfl M2.1 (Nat.le_of_ble_eq_true rfl) (m_thrown M2 ?_)
  show amT _ _ _ _ _ _
  refine kr_iload (pc := 729) dL_law_729 rfl ?_
  refine kr_icmp_eq (pc := 731) dL_law_731 rfl (fun _ => ?_) (fun h => absurd (O2.2.1.trans O.2.1.symm) h)
  refine kr_iload (pc := 736) dL_law_736 rfl ?_
  refine kr_if_ne (pc := 738) dL_law_738 rfl (fun _ => ?_) (fun hk => ?_)
  · refine kr_goto (pc := 753) dL_law_753 rfl ?_
    exact k _ _ _ J2
  · have hr0 := O.2.1.symm.trans hk
    have hv2 : hiv (hI h1 I') (z + 1913) (0 : Int).toNat = _ := (congrFun (O2.2.2.2 (z + 1913) (Or.inr (Nat.le_refl _))) 0).trans (V hk)
    have eb := O2.2.2.1 hr0
    refine kr_aload_n (pc := 741) dL_law_741 rfl ?_
    refine kr_iconst (pc := 742) dL_law_742 (by decide) ?_
    refine kr_lald (pc := 743) dL_law_743 so2 (by decide) (by decide) hv2 ?_
    refine kr_iload (pc := 744) dL_law_744 rfl ?_
    refine kr_i2l (pc := 746) dL_law_746 ?_
    refine kr_lcmp (pc := 747) dL_law_747 ?_
    refine kr_if_eq (pc := 748) dL_law_748 rfl (fun _ => ?_) (fun h => absurd (by rw [eb]; exact lc_0) h)
    refine kr_goto (pc := 753) dL_law_753 rfl ?_
    exact k _ _ _ J2
theorem lc_load {tl : List aV} (J : LI z b L xs S c h) (h0 : 0 ≤ i) (h6 : i + 6 ≤ (L : Int)) (k : ∀ h' S' tl', LI z b L xs S' (c + 1) h' → amT mL_law 1797 (vR b :: vR z :: vR (z + 1899) :: vR (z + 1913) :: vI i :: tl') [] h' Q) : amT mL_law 756 (vR b :: vR z :: vR (z + 1899) :: vR (z + 1913) :: vI i :: tl) [] h Q := by
  obtain ⟨HS, D, M, R, so, sb, hb, hx, hr, hL, n1, n2⟩ := id J
  refine kr_aload_n (pc := 756) dL_law_756 rfl ?_
  refine kr_aload_n (pc := 757) dL_law_757 rfl ?_
  refine kr_iload (pc := 758) dL_law_758 rfl ?_
  refine kr_iconst (pc := 760) dL_law_760 (by decide) ?_
  refine kr_iadd (pc := 761) dL_law_761 ⟨by omega, by omega⟩ ?_
  refine kr_sald (pc := 762) dL_law_762 sb (by omega) (by omega) (hx _) ?_
  refine kr_aload_n (pc := 763) dL_law_763 rfl ?_
  refine kr_iload (pc := 764) dL_law_764 rfl ?_
  refine kr_iconst (pc := 766) dL_law_766 (by decide) ?_
  refine kr_iadd (pc := 767) dL_law_767 ⟨by omega, by omega⟩ ?_
  refine kr_sald (pc := 768) dL_law_768 sb (by omega) (by omega) (hx _) ?_
  refine kr_s3 (pc := 769) dL_law_769 rfl rfl (Nat.le_of_ble_eq_true rfl) rfl rfl rfl (l_load D HS so (fun h1 kk O => ?_))
  show amT _ _ _ _ _ _
  obtain ⟨M1, R1, so1, sb1, hx1⟩ := J.mid O
  refine kr_istore (pc := 772) dL_law_772 (show 5 ≤ _ from by simp) (by decide) ?_
  simp only [stl, List.tail_cons, List.tail_nil]
  refine kr_aload_n (pc := 774) dL_law_774 rfl ?_
  refine kr_aload_n (pc := 775) dL_law_775 rfl ?_
  refine kr_iload (pc := 776) dL_law_776 rfl ?_
  refine kr_iconst (pc := 778) dL_law_778 (by decide) ?_
  refine kr_iadd (pc := 779) dL_law_779 ⟨by omega, by omega⟩ ?_
  refine kr_sald (pc := 780) dL_law_780 sb1 (by omega) (by omega) (hx1 _) ?_
  refine kr_aload_n (pc := 781) dL_law_781 rfl ?_
  refine kr_iload (pc := 782) dL_law_782 rfl ?_
  refine kr_iconst (pc := 784) dL_law_784 (by decide) ?_
  refine kr_iadd (pc := 785) dL_law_785 ⟨by omega, by omega⟩ ?_
  refine kr_sald (pc := 786) dL_law_786 sb1 (by omega) (by omega) (hx1 _) ?_
  refine kr_v2 (pc := 787) dL_law_787 rfl rfl M1.1 (Nat.le_of_ble_eq_true rfl) rfl rfl (mc_load M1 R1 HS (fun I' O2 => ?_))
  show amT _ _ _ _ _ _
  have M2 : MS (hI h1 I') (z + 1899) := M1
  have so2 : hsh (hI h1 I') (z + 1913) = (21, 1) := so1
  have J2 := J.next O O2 (okS_load HS _ _)
  refine kr_aload_n (pc := 790) dL_law_790 rfl ?_
  refine kr_v0 (pc := 791) dL_law_791 rfl rfl M2.1 (Nat.le_of_ble_eq_true rfl) (m_thrown M2 ?_)
  show amT _ _ _ _ _ _
  refine kr_iload (pc := 794) dL_law_794 rfl ?_
  refine kr_icmp_eq (pc := 796) dL_law_796 rfl (fun _ => ?_) (fun h => absurd (O2.2.1.trans O.2.1.symm) h)
  refine kr_goto (pc := 801) dL_law_801 rfl ?_
  exact k _ _ _ J2
theorem lc_apply {tl : List aV} (J : LI z b L xs S c h) (h0 : 0 ≤ i) (h6 : i + 6 ≤ (L : Int)) (k : ∀ h' S' tl', LI z b L xs S' (c + 1) h' → amT mL_law 1797 (vR b :: vR z :: vR (z + 1899) :: vR (z + 1913) :: vI i :: tl') [] h' Q) : amT mL_law 804 (vR b :: vR z :: vR (z + 1899) :: vR (z + 1913) :: vI i :: tl) [] h Q := by
  obtain ⟨HS, D, M, R, so, sb, hb, hx, hr, hL, n1, n2⟩ := id J
  by_cases h4 : xs (i + 4).toNat = 0
  · refine kr_aload_n (pc := 804) dL_law_804 rfl ?_
    refine kr_aload_n (pc := 805) dL_law_805 rfl ?_
    refine kr_iload (pc := 806) dL_law_806 rfl ?_
    refine kr_iconst (pc := 808) dL_law_808 (by decide) ?_
    refine kr_iadd (pc := 809) dL_law_809 ⟨by omega, by omega⟩ ?_
    refine kr_sald (pc := 810) dL_law_810 sb (by omega) (by omega) (hx _) ?_
    refine kr_aload_n (pc := 811) dL_law_811 rfl ?_
    refine kr_iload (pc := 812) dL_law_812 rfl ?_
    refine kr_iconst (pc := 814) dL_law_814 (by decide) ?_
    refine kr_iadd (pc := 815) dL_law_815 ⟨by omega, by omega⟩ ?_
    refine kr_sald (pc := 816) dL_law_816 sb (by omega) (by omega) (hx _) ?_
    refine kr_aload_n (pc := 817) dL_law_817 rfl ?_
    refine kr_iload (pc := 818) dL_law_818 rfl ?_
    refine kr_iconst (pc := 820) dL_law_820 (by decide) ?_
    refine kr_iadd (pc := 821) dL_law_821 ⟨by omega, by omega⟩ ?_
    refine kr_sald (pc := 822) dL_law_822 sb (by omega) (by omega) (hx _) ?_
    refine kr_aload_n (pc := 823) dL_law_823 rfl ?_
    refine kr_iload (pc := 824) dL_law_824 rfl ?_
    refine kr_iconst (pc := 826) dL_law_826 (by decide) ?_
    refine kr_iadd (pc := 827) dL_law_827 ⟨by omega, by omega⟩ ?_
    refine kr_sald (pc := 828) dL_law_828 sb (by omega) (by omega) (hx _) ?_
    refine kr_if_eq (pc := 829) dL_law_829 rfl (fun _ => ?_) (fun h => absurd h4 h)
    refine kr_iconst (pc := 836) dL_law_836 (by decide) ?_
    refine kr_aload_n (pc := 837) dL_law_837 rfl ?_
    refine kr_s6 (pc := 838) dL_law_838 rfl rfl (Nat.le_of_ble_eq_true rfl) rfl rfl rfl rfl rfl rfl (l_apply D HS (by have := (hr (i + 2).toNat).2; omega) (by have := (hr (i + 3).toNat).2; omega) (Or.inl rfl) so (fun h1 kk O V => ?_))
    show amT _ _ _ _ _ _
    obtain ⟨M1, R1, so1, sb1, hx1⟩ := J.mid O
    refine kr_istore (pc := 841) dL_law_841 (show 5 ≤ _ from by simp) (by decide) ?_
    simp only [stl, List.tail_cons, List.tail_nil]
    refine kr_aload_n (pc := 843) dL_law_843 rfl ?_
    refine kr_aload_n (pc := 844) dL_law_844 rfl ?_
    refine kr_iload (pc := 845) dL_law_845 rfl ?_
    refine kr_iconst (pc := 847) dL_law_847 (by decide) ?_
    refine kr_iadd (pc := 848) dL_law_848 ⟨by omega, by omega⟩ ?_
    refine kr_sald (pc := 849) dL_law_849 sb1 (by omega) (by omega) (hx1 _) ?_
    refine kr_aload_n (pc := 850) dL_law_850 rfl ?_
    refine kr_iload (pc := 851) dL_law_851 rfl ?_
    refine kr_iconst (pc := 853) dL_law_853 (by decide) ?_
    refine kr_iadd (pc := 854) dL_law_854 ⟨by omega, by omega⟩ ?_
    refine kr_sald (pc := 855) dL_law_855 sb1 (by omega) (by omega) (hx1 _) ?_
    refine kr_aload_n (pc := 856) dL_law_856 rfl ?_
    refine kr_iload (pc := 857) dL_law_857 rfl ?_
    refine kr_iconst (pc := 859) dL_law_859 (by decide) ?_
    refine kr_iadd (pc := 860) dL_law_860 ⟨by omega, by omega⟩ ?_
    refine kr_sald (pc := 861) dL_law_861 sb1 (by omega) (by omega) (hx1 _) ?_
    refine kr_aload_n (pc := 862) dL_law_862 rfl ?_
    refine kr_iload (pc := 863) dL_law_863 rfl ?_
    refine kr_iconst (pc := 865) dL_law_865 (by decide) ?_
    refine kr_iadd (pc := 866) dL_law_866 ⟨by omega, by omega⟩ ?_
    refine kr_sald (pc := 867) dL_law_867 sb1 (by omega) (by omega) (hx1 _) ?_
    refine kr_if_eq (pc := 868) dL_law_868 rfl (fun _ => ?_) (fun h => absurd h4 h)
    refine kr_iconst (pc := 875) dL_law_875 (by decide) ?_
    refine kr_v4 (pc := 876) dL_law_876 rfl rfl M1.1 (Nat.le_of_ble_eq_true rfl) rfl rfl rfl rfl (mc_apply M1 R1 HS (Or.inl rfl) (fun I' b' O2 => ?_))
    show amT _ _ _ _ _ _
    have M2 : MS (hI h1 I') (z + 1899) := M1
    have so2 : hsh (hI h1 I') (z + 1913) = (21, 1) := so1
    have J2 := J.next O O2 (okS_apply HS _ _ _ _)
    refine kr_istore (pc := 879) dL_law_879 (show 6 ≤ _ from by simp) (by decide) ?_
    simp only [stl, List.tail_cons, List.tail_nil]
    refine kr_aload_n (pc := 881) dL_law_881 rfl ?_
    refine kr_v0 (pc := 882) dL_law_882 rfl rfl M2.1 (Nat.le_of_ble_eq_true rfl) (m_thrown M2 ?_)
    show amT _ _ _ _ _ _
    refine kr_iload (pc := 885) dL_law_885 rfl ?_
    refine kr_icmp_eq (pc := 887) dL_law_887 rfl (fun _ => ?_) (fun h => absurd (O2.2.1.trans O.2.1.symm) h)
    refine kr_iload (pc := 892) dL_law_892 rfl ?_
    refine kr_if_ne (pc := 894) dL_law_894 rfl (fun _ => ?_) (fun hk => ?_)
    · refine kr_goto (pc := 909) dL_law_909 rfl ?_
      exact k _ _ _ J2
    · have hr0 := O.2.1.symm.trans hk
      have hv2 : hiv (hI h1 I') (z + 1913) (0 : Int).toNat = _ := (congrFun (O2.2.2.2 (z + 1913) (Or.inr (Nat.le_refl _))) 0).trans (V hk)
      have eb := O2.2.2.1 hr0
      refine kr_aload_n (pc := 897) dL_law_897 rfl ?_
      refine kr_iconst (pc := 898) dL_law_898 (by decide) ?_
      refine kr_lald (pc := 899) dL_law_899 so2 (by decide) (by decide) hv2 ?_
      refine kr_iload (pc := 900) dL_law_900 rfl ?_
      refine kr_i2l (pc := 902) dL_law_902 ?_
      refine kr_lcmp (pc := 903) dL_law_903 ?_
      refine kr_if_eq (pc := 904) dL_law_904 rfl (fun _ => ?_) (fun h => absurd (by rw [eb]; exact lc_0) h)
      refine kr_goto (pc := 909) dL_law_909 rfl ?_
      exact k _ _ _ J2
  · refine kr_aload_n (pc := 804) dL_law_804 rfl ?_
    refine kr_aload_n (pc := 805) dL_law_805 rfl ?_
    refine kr_iload (pc := 806) dL_law_806 rfl ?_
    refine kr_iconst (pc := 808) dL_law_808 (by decide) ?_
    refine kr_iadd (pc := 809) dL_law_809 ⟨by omega, by omega⟩ ?_
    refine kr_sald (pc := 810) dL_law_810 sb (by omega) (by omega) (hx _) ?_
    refine kr_aload_n (pc := 811) dL_law_811 rfl ?_
    refine kr_iload (pc := 812) dL_law_812 rfl ?_
    refine kr_iconst (pc := 814) dL_law_814 (by decide) ?_
    refine kr_iadd (pc := 815) dL_law_815 ⟨by omega, by omega⟩ ?_
    refine kr_sald (pc := 816) dL_law_816 sb (by omega) (by omega) (hx _) ?_
    refine kr_aload_n (pc := 817) dL_law_817 rfl ?_
    refine kr_iload (pc := 818) dL_law_818 rfl ?_
    refine kr_iconst (pc := 820) dL_law_820 (by decide) ?_
    refine kr_iadd (pc := 821) dL_law_821 ⟨by omega, by omega⟩ ?_
    refine kr_sald (pc := 822) dL_law_822 sb (by omega) (by omega) (hx _) ?_
    refine kr_aload_n (pc := 823) dL_law_823 rfl ?_
    refine kr_iload (pc := 824) dL_law_824 rfl ?_
    refine kr_iconst (pc := 826) dL_law_826 (by decide) ?_
    refine kr_iadd (pc := 827) dL_law_827 ⟨by omega, by omega⟩ ?_
    refine kr_sald (pc := 828) dL_law_828 sb (by omega) (by omega) (hx _) ?_
    refine kr_if_eq (pc := 829) dL_law_829 rfl (fun h => absurd h h4) (fun _ => ?_)
    refine kr_iconst (pc := 832) dL_law_832 (by decide) ?_
    refine kr_goto (pc := 833) dL_law_833 rfl ?_
    refine kr_aload_n (pc := 837) dL_law_837 rfl ?_
    refine kr_s6 (pc := 838) dL_law_838 rfl rfl (Nat.le_of_ble_eq_true rfl) rfl rfl rfl rfl rfl rfl (l_apply D HS (by have := (hr (i + 2).toNat).2; omega) (by have := (hr (i + 3).toNat).2; omega) (Or.inr rfl) so (fun h1 kk O V => ?_))
    show amT _ _ _ _ _ _
    obtain ⟨M1, R1, so1, sb1, hx1⟩ := J.mid O
    refine kr_istore (pc := 841) dL_law_841 (show 5 ≤ _ from by simp) (by decide) ?_
    simp only [stl, List.tail_cons, List.tail_nil]
    refine kr_aload_n (pc := 843) dL_law_843 rfl ?_
    refine kr_aload_n (pc := 844) dL_law_844 rfl ?_
    refine kr_iload (pc := 845) dL_law_845 rfl ?_
    refine kr_iconst (pc := 847) dL_law_847 (by decide) ?_
    refine kr_iadd (pc := 848) dL_law_848 ⟨by omega, by omega⟩ ?_
    refine kr_sald (pc := 849) dL_law_849 sb1 (by omega) (by omega) (hx1 _) ?_
    refine kr_aload_n (pc := 850) dL_law_850 rfl ?_
    refine kr_iload (pc := 851) dL_law_851 rfl ?_
    refine kr_iconst (pc := 853) dL_law_853 (by decide) ?_
    refine kr_iadd (pc := 854) dL_law_854 ⟨by omega, by omega⟩ ?_
    refine kr_sald (pc := 855) dL_law_855 sb1 (by omega) (by omega) (hx1 _) ?_
    refine kr_aload_n (pc := 856) dL_law_856 rfl ?_
    refine kr_iload (pc := 857) dL_law_857 rfl ?_
    refine kr_iconst (pc := 859) dL_law_859 (by decide) ?_
    refine kr_iadd (pc := 860) dL_law_860 ⟨by omega, by omega⟩ ?_
    refine kr_sald (pc := 861) dL_law_861 sb1 (by omega) (by omega) (hx1 _) ?_
    refine kr_aload_n (pc := 862) dL_law_862 rfl ?_
    refine kr_iload (pc := 863) dL_law_863 rfl ?_
    refine kr_iconst (pc := 865) dL_law_865 (by decide) ?_
    refine kr_iadd (pc := 866) dL_law_866 ⟨by omega, by omega⟩ ?_
    refine kr_sald (pc := 867) dL_law_867 sb1 (by omega) (by omega) (hx1 _) ?_
    refine kr_if_eq (pc := 868) dL_law_868 rfl (fun h => absurd h h4) (fun _ => ?_)
    refine kr_iconst (pc := 871) dL_law_871 (by decide) ?_
    refine kr_goto (pc := 872) dL_law_872 rfl ?_
    refine kr_v4 (pc := 876) dL_law_876 rfl rfl M1.1 (Nat.le_of_ble_eq_true rfl) rfl rfl rfl rfl (mc_apply M1 R1 HS (Or.inr rfl) (fun I' b' O2 => ?_))
    show amT _ _ _ _ _ _
    have M2 : MS (hI h1 I') (z + 1899) := M1
    have so2 : hsh (hI h1 I') (z + 1913) = (21, 1) := so1
    have J2 := J.next O O2 (okS_apply HS _ _ _ _)
    refine kr_istore (pc := 879) dL_law_879 (show 6 ≤ _ from by simp) (by decide) ?_
    simp only [stl, List.tail_cons, List.tail_nil]
    refine kr_aload_n (pc := 881) dL_law_881 rfl ?_
    refine kr_v0 (pc := 882) dL_law_882 rfl rfl M2.1 (Nat.le_of_ble_eq_true rfl) (m_thrown M2 ?_)
    show amT _ _ _ _ _ _
    refine kr_iload (pc := 885) dL_law_885 rfl ?_
    refine kr_icmp_eq (pc := 887) dL_law_887 rfl (fun _ => ?_) (fun h => absurd (O2.2.1.trans O.2.1.symm) h)
    refine kr_iload (pc := 892) dL_law_892 rfl ?_
    refine kr_if_ne (pc := 894) dL_law_894 rfl (fun _ => ?_) (fun hk => ?_)
    · refine kr_goto (pc := 909) dL_law_909 rfl ?_
      exact k _ _ _ J2
    · have hr0 := O.2.1.symm.trans hk
      have hv2 : hiv (hI h1 I') (z + 1913) (0 : Int).toNat = _ := (congrFun (O2.2.2.2 (z + 1913) (Or.inr (Nat.le_refl _))) 0).trans (V hk)
      have eb := O2.2.2.1 hr0
      refine kr_aload_n (pc := 897) dL_law_897 rfl ?_
      refine kr_iconst (pc := 898) dL_law_898 (by decide) ?_
      refine kr_lald (pc := 899) dL_law_899 so2 (by decide) (by decide) hv2 ?_
      refine kr_iload (pc := 900) dL_law_900 rfl ?_
      refine kr_i2l (pc := 902) dL_law_902 ?_
      refine kr_lcmp (pc := 903) dL_law_903 ?_
      refine kr_if_eq (pc := 904) dL_law_904 rfl (fun _ => ?_) (fun h => absurd (by rw [eb]; exact lc_0) h)
      refine kr_goto (pc := 909) dL_law_909 rfl ?_
      exact k _ _ _ J2
theorem lc_rule {tl : List aV} (J : LI z b L xs S c h) (h0 : 0 ≤ i) (h6 : i + 6 ≤ (L : Int)) (k : ∀ h' S' tl', LI z b L xs S' (c + 1) h' → amT mL_law 1797 (vR b :: vR z :: vR (z + 1899) :: vR (z + 1913) :: vI i :: tl') [] h' Q) : amT mL_law 912 (vR b :: vR z :: vR (z + 1899) :: vR (z + 1913) :: vI i :: tl) [] h Q := by
  obtain ⟨HS, D, M, R, so, sb, hb, hx, hr, hL, n1, n2⟩ := id J
  refine kr_aload_n (pc := 912) dL_law_912 rfl ?_
  refine kr_aload_n (pc := 913) dL_law_913 rfl ?_
  refine kr_iload (pc := 914) dL_law_914 rfl ?_
  refine kr_iconst (pc := 916) dL_law_916 (by decide) ?_
  refine kr_iadd (pc := 917) dL_law_917 ⟨by omega, by omega⟩ ?_
  refine kr_sald (pc := 918) dL_law_918 sb (by omega) (by omega) (hx _) ?_
  refine kr_aload_n (pc := 919) dL_law_919 rfl ?_
  refine kr_iload (pc := 920) dL_law_920 rfl ?_
  refine kr_iconst (pc := 922) dL_law_922 (by decide) ?_
  refine kr_iadd (pc := 923) dL_law_923 ⟨by omega, by omega⟩ ?_
  refine kr_sald (pc := 924) dL_law_924 sb (by omega) (by omega) (hx _) ?_
  refine kr_aload_n (pc := 925) dL_law_925 rfl ?_
  refine kr_iload (pc := 926) dL_law_926 rfl ?_
  refine kr_iconst (pc := 928) dL_law_928 (by decide) ?_
  refine kr_iadd (pc := 929) dL_law_929 ⟨by omega, by omega⟩ ?_
  refine kr_sald (pc := 930) dL_law_930 sb (by omega) (by omega) (hx _) ?_
  refine kr_aload_n (pc := 931) dL_law_931 rfl ?_
  refine kr_iload (pc := 932) dL_law_932 rfl ?_
  refine kr_iconst (pc := 934) dL_law_934 (by decide) ?_
  refine kr_iadd (pc := 935) dL_law_935 ⟨by omega, by omega⟩ ?_
  refine kr_sald (pc := 936) dL_law_936 sb (by omega) (by omega) (hx _) ?_
  refine kr_aload_n (pc := 937) dL_law_937 rfl ?_
  refine kr_s6 (pc := 938) dL_law_938 rfl rfl (Nat.le_of_ble_eq_true rfl) rfl rfl rfl rfl rfl rfl (l_rule D HS so (fun h1 kk O V => ?_))
  show amT _ _ _ _ _ _
  obtain ⟨M1, R1, so1, sb1, hx1⟩ := J.mid O
  refine kr_istore (pc := 941) dL_law_941 (show 5 ≤ _ from by simp) (by decide) ?_
  simp only [stl, List.tail_cons, List.tail_nil]
  refine kr_aload_n (pc := 943) dL_law_943 rfl ?_
  refine kr_aload_n (pc := 944) dL_law_944 rfl ?_
  refine kr_iload (pc := 945) dL_law_945 rfl ?_
  refine kr_iconst (pc := 947) dL_law_947 (by decide) ?_
  refine kr_iadd (pc := 948) dL_law_948 ⟨by omega, by omega⟩ ?_
  refine kr_sald (pc := 949) dL_law_949 sb1 (by omega) (by omega) (hx1 _) ?_
  refine kr_aload_n (pc := 950) dL_law_950 rfl ?_
  refine kr_iload (pc := 951) dL_law_951 rfl ?_
  refine kr_iconst (pc := 953) dL_law_953 (by decide) ?_
  refine kr_iadd (pc := 954) dL_law_954 ⟨by omega, by omega⟩ ?_
  refine kr_sald (pc := 955) dL_law_955 sb1 (by omega) (by omega) (hx1 _) ?_
  refine kr_aload_n (pc := 956) dL_law_956 rfl ?_
  refine kr_iload (pc := 957) dL_law_957 rfl ?_
  refine kr_iconst (pc := 959) dL_law_959 (by decide) ?_
  refine kr_iadd (pc := 960) dL_law_960 ⟨by omega, by omega⟩ ?_
  refine kr_sald (pc := 961) dL_law_961 sb1 (by omega) (by omega) (hx1 _) ?_
  refine kr_aload_n (pc := 962) dL_law_962 rfl ?_
  refine kr_iload (pc := 963) dL_law_963 rfl ?_
  refine kr_iconst (pc := 965) dL_law_965 (by decide) ?_
  refine kr_iadd (pc := 966) dL_law_966 ⟨by omega, by omega⟩ ?_
  refine kr_sald (pc := 967) dL_law_967 sb1 (by omega) (by omega) (hx1 _) ?_
  refine kr_v4 (pc := 968) dL_law_968 rfl rfl M1.1 (Nat.le_of_ble_eq_true rfl) rfl rfl rfl rfl (mc_rule M1 R1 HS (fun I' b' O2 => ?_))
  show amT _ _ _ _ _ _
  have M2 : MS (hI h1 I') (z + 1899) := M1
  have so2 : hsh (hI h1 I') (z + 1913) = (21, 1) := so1
  have J2 := J.next O O2 (okS_rule HS _ _ _ _)
  refine kr_istore (pc := 971) dL_law_971 (show 6 ≤ _ from by simp) (by decide) ?_
  simp only [stl, List.tail_cons, List.tail_nil]
  refine kr_aload_n (pc := 973) dL_law_973 rfl ?_
  refine kr_v0 (pc := 974) dL_law_974 rfl rfl M2.1 (Nat.le_of_ble_eq_true rfl) (m_thrown M2 ?_)
  show amT _ _ _ _ _ _
  refine kr_iload (pc := 977) dL_law_977 rfl ?_
  refine kr_icmp_eq (pc := 979) dL_law_979 rfl (fun _ => ?_) (fun h => absurd (O2.2.1.trans O.2.1.symm) h)
  refine kr_iload (pc := 984) dL_law_984 rfl ?_
  refine kr_if_ne (pc := 986) dL_law_986 rfl (fun _ => ?_) (fun hk => ?_)
  · refine kr_goto (pc := 1001) dL_law_1001 rfl ?_
    exact k _ _ _ J2
  · have hr0 := O.2.1.symm.trans hk
    have hv2 : hiv (hI h1 I') (z + 1913) (0 : Int).toNat = _ := (congrFun (O2.2.2.2 (z + 1913) (Or.inr (Nat.le_refl _))) 0).trans (V hk)
    have eb := O2.2.2.1 hr0
    refine kr_aload_n (pc := 989) dL_law_989 rfl ?_
    refine kr_iconst (pc := 990) dL_law_990 (by decide) ?_
    refine kr_lald (pc := 991) dL_law_991 so2 (by decide) (by decide) hv2 ?_
    refine kr_iload (pc := 992) dL_law_992 rfl ?_
    refine kr_i2l (pc := 994) dL_law_994 ?_
    refine kr_lcmp (pc := 995) dL_law_995 ?_
    refine kr_if_eq (pc := 996) dL_law_996 rfl (fun _ => ?_) (fun h => absurd (by rw [eb]; exact lc_0) h)
    refine kr_goto (pc := 1001) dL_law_1001 rfl ?_
    exact k _ _ _ J2
theorem lc_faults {tl : List aV} (J : LI z b L xs S c h) (h0 : 0 ≤ i) (h6 : i + 6 ≤ (L : Int)) (k : ∀ h' S' tl', LI z b L xs S' (c + 1) h' → amT mL_law 1797 (vR b :: vR z :: vR (z + 1899) :: vR (z + 1913) :: vI i :: tl') [] h' Q) : amT mL_law 1004 (vR b :: vR z :: vR (z + 1899) :: vR (z + 1913) :: vI i :: tl) [] h Q := by
  obtain ⟨HS, D, M, R, so, sb, hb, hx, hr, hL, n1, n2⟩ := id J
  refine kr_aload_n (pc := 1004) dL_law_1004 rfl ?_
  refine kr_aload_n (pc := 1005) dL_law_1005 rfl ?_
  refine kr_iload (pc := 1006) dL_law_1006 rfl ?_
  refine kr_iconst (pc := 1008) dL_law_1008 (by decide) ?_
  refine kr_iadd (pc := 1009) dL_law_1009 ⟨by omega, by omega⟩ ?_
  refine kr_sald (pc := 1010) dL_law_1010 sb (by omega) (by omega) (hx _) ?_
  refine kr_aload_n (pc := 1011) dL_law_1011 rfl ?_
  refine kr_s3 (pc := 1012) dL_law_1012 rfl rfl (Nat.le_of_ble_eq_true rfl) rfl rfl rfl (l_faults D HS (by have := (hr (i + 1).toNat).2; omega) so (fun h1 kk O V => ?_))
  show amT _ _ _ _ _ _
  obtain ⟨M1, R1, so1, sb1, hx1⟩ := J.mid O
  refine kr_istore (pc := 1015) dL_law_1015 (show 5 ≤ _ from by simp) (by decide) ?_
  simp only [stl, List.tail_cons, List.tail_nil]
  refine kr_aload_n (pc := 1017) dL_law_1017 rfl ?_
  refine kr_aload_n (pc := 1018) dL_law_1018 rfl ?_
  refine kr_iload (pc := 1019) dL_law_1019 rfl ?_
  refine kr_iconst (pc := 1021) dL_law_1021 (by decide) ?_
  refine kr_iadd (pc := 1022) dL_law_1022 ⟨by omega, by omega⟩ ?_
  refine kr_sald (pc := 1023) dL_law_1023 sb1 (by omega) (by omega) (hx1 _) ?_
  refine kr_v1 (pc := 1024) dL_law_1024 rfl rfl M1.1 (Nat.le_of_ble_eq_true rfl) rfl (mc_faults M1 R1 HS (fun I' b' O2 => ?_))
  show amT _ _ _ _ _ _
  have M2 : MS (hI h1 I') (z + 1899) := M1
  have so2 : hsh (hI h1 I') (z + 1913) = (21, 1) := so1
  have J2 := J.next O O2 (okS_faults HS _)
  refine kr_istore (pc := 1027) dL_law_1027 (show 6 ≤ _ from by simp) (by decide) ?_
  simp only [stl, List.tail_cons, List.tail_nil]
  refine kr_aload_n (pc := 1029) dL_law_1029 rfl ?_
  refine kr_v0 (pc := 1030) dL_law_1030 rfl rfl M2.1 (Nat.le_of_ble_eq_true rfl) (m_thrown M2 ?_)
  show amT _ _ _ _ _ _
  refine kr_iload (pc := 1033) dL_law_1033 rfl ?_
  refine kr_icmp_eq (pc := 1035) dL_law_1035 rfl (fun _ => ?_) (fun h => absurd (O2.2.1.trans O.2.1.symm) h)
  refine kr_iload (pc := 1040) dL_law_1040 rfl ?_
  refine kr_if_ne (pc := 1042) dL_law_1042 rfl (fun _ => ?_) (fun hk => ?_)
  · refine kr_goto (pc := 1057) dL_law_1057 rfl ?_
    exact k _ _ _ J2
  · have hr0 := O.2.1.symm.trans hk
    have hv2 : hiv (hI h1 I') (z + 1913) (0 : Int).toNat = _ := (congrFun (O2.2.2.2 (z + 1913) (Or.inr (Nat.le_refl _))) 0).trans (V hk)
    have eb := O2.2.2.1 hr0
    refine kr_aload_n (pc := 1045) dL_law_1045 rfl ?_
    refine kr_iconst (pc := 1046) dL_law_1046 (by decide) ?_
    refine kr_lald (pc := 1047) dL_law_1047 so2 (by decide) (by decide) hv2 ?_
    refine kr_iload (pc := 1048) dL_law_1048 rfl ?_
    refine kr_i2l (pc := 1050) dL_law_1050 ?_
    refine kr_lcmp (pc := 1051) dL_law_1051 ?_
    refine kr_if_eq (pc := 1052) dL_law_1052 rfl (fun _ => ?_) (fun h => absurd (by rw [eb]; exact lc_0) h)
    refine kr_goto (pc := 1057) dL_law_1057 rfl ?_
    exact k _ _ _ J2
theorem lc_commit {tl : List aV} (J : LI z b L xs S c h) (h0 : 0 ≤ i) (h6 : i + 6 ≤ (L : Int)) (k : ∀ h' S' tl', LI z b L xs S' (c + 1) h' → amT mL_law 1797 (vR b :: vR z :: vR (z + 1899) :: vR (z + 1913) :: vI i :: tl') [] h' Q) : amT mL_law 1060 (vR b :: vR z :: vR (z + 1899) :: vR (z + 1913) :: vI i :: tl) [] h Q := by
  obtain ⟨HS, D, M, R, so, sb, hb, hx, hr, hL, n1, n2⟩ := id J
  refine kr_aload_n (pc := 1060) dL_law_1060 rfl ?_
  refine kr_aload_n (pc := 1061) dL_law_1061 rfl ?_
  refine kr_iload (pc := 1062) dL_law_1062 rfl ?_
  refine kr_iconst (pc := 1064) dL_law_1064 (by decide) ?_
  refine kr_iadd (pc := 1065) dL_law_1065 ⟨by omega, by omega⟩ ?_
  refine kr_sald (pc := 1066) dL_law_1066 sb (by omega) (by omega) (hx _) ?_
  refine kr_aload_n (pc := 1067) dL_law_1067 rfl ?_
  refine kr_iload (pc := 1068) dL_law_1068 rfl ?_
  refine kr_iconst (pc := 1070) dL_law_1070 (by decide) ?_
  refine kr_iadd (pc := 1071) dL_law_1071 ⟨by omega, by omega⟩ ?_
  refine kr_sald (pc := 1072) dL_law_1072 sb (by omega) (by omega) (hx _) ?_
  refine kr_aload_n (pc := 1073) dL_law_1073 rfl ?_
  refine kr_s4 (pc := 1074) dL_law_1074 rfl rfl (Nat.le_of_ble_eq_true rfl) rfl rfl rfl rfl (l_commit D HS so (fun h1 kk O V => ?_))
  show amT _ _ _ _ _ _
  obtain ⟨M1, R1, so1, sb1, hx1⟩ := J.mid O
  refine kr_istore (pc := 1077) dL_law_1077 (show 5 ≤ _ from by simp) (by decide) ?_
  simp only [stl, List.tail_cons, List.tail_nil]
  refine kr_aload_n (pc := 1079) dL_law_1079 rfl ?_
  refine kr_aload_n (pc := 1080) dL_law_1080 rfl ?_
  refine kr_iload (pc := 1081) dL_law_1081 rfl ?_
  refine kr_iconst (pc := 1083) dL_law_1083 (by decide) ?_
  refine kr_iadd (pc := 1084) dL_law_1084 ⟨by omega, by omega⟩ ?_
  refine kr_sald (pc := 1085) dL_law_1085 sb1 (by omega) (by omega) (hx1 _) ?_
  refine kr_aload_n (pc := 1086) dL_law_1086 rfl ?_
  refine kr_iload (pc := 1087) dL_law_1087 rfl ?_
  refine kr_iconst (pc := 1089) dL_law_1089 (by decide) ?_
  refine kr_iadd (pc := 1090) dL_law_1090 ⟨by omega, by omega⟩ ?_
  refine kr_sald (pc := 1091) dL_law_1091 sb1 (by omega) (by omega) (hx1 _) ?_
  refine kr_v2 (pc := 1092) dL_law_1092 rfl rfl M1.1 (Nat.le_of_ble_eq_true rfl) rfl rfl (mc_commit M1 R1 HS (fun I' b' O2 => ?_))
  show amT _ _ _ _ _ _
  have M2 : MS (hI h1 I') (z + 1899) := M1
  have so2 : hsh (hI h1 I') (z + 1913) = (21, 1) := so1
  have J2 := J.next O O2 (okS_commit HS _ _)
  refine kr_istore (pc := 1095) dL_law_1095 (show 6 ≤ _ from by simp) (by decide) ?_
  simp only [stl, List.tail_cons, List.tail_nil]
  refine kr_aload_n (pc := 1097) dL_law_1097 rfl ?_
  refine kr_v0 (pc := 1098) dL_law_1098 rfl rfl M2.1 (Nat.le_of_ble_eq_true rfl) (m_thrown M2 ?_)
  show amT _ _ _ _ _ _
  refine kr_iload (pc := 1101) dL_law_1101 rfl ?_
  refine kr_icmp_eq (pc := 1103) dL_law_1103 rfl (fun _ => ?_) (fun h => absurd (O2.2.1.trans O.2.1.symm) h)
  refine kr_iload (pc := 1108) dL_law_1108 rfl ?_
  refine kr_if_ne (pc := 1110) dL_law_1110 rfl (fun _ => ?_) (fun hk => ?_)
  · refine kr_goto (pc := 1125) dL_law_1125 rfl ?_
    exact k _ _ _ J2
  · have hr0 := O.2.1.symm.trans hk
    have hv2 : hiv (hI h1 I') (z + 1913) (0 : Int).toNat = _ := (congrFun (O2.2.2.2 (z + 1913) (Or.inr (Nat.le_refl _))) 0).trans (V hk)
    have eb := O2.2.2.1 hr0
    refine kr_aload_n (pc := 1113) dL_law_1113 rfl ?_
    refine kr_iconst (pc := 1114) dL_law_1114 (by decide) ?_
    refine kr_lald (pc := 1115) dL_law_1115 so2 (by decide) (by decide) hv2 ?_
    refine kr_iload (pc := 1116) dL_law_1116 rfl ?_
    refine kr_i2l (pc := 1118) dL_law_1118 ?_
    refine kr_lcmp (pc := 1119) dL_law_1119 ?_
    refine kr_if_eq (pc := 1120) dL_law_1120 rfl (fun _ => ?_) (fun h => absurd (by rw [eb]; exact lc_0) h)
    refine kr_goto (pc := 1125) dL_law_1125 rfl ?_
    exact k _ _ _ J2
end XT
