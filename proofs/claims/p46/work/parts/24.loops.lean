theorem d_law_652 : decode code 652 = .ok (.iconst 0, 1) := by decide +kernel
theorem d_law_653 : decode code 653 = .ok (.istore 15, 2) := by decide +kernel
theorem d_law_655 : decode code 655 = .ok (.iconst 0, 1) := by decide +kernel
theorem d_law_656 : decode code 656 = .ok (.istore 16, 2) := by decide +kernel
theorem d_law_821 : decode code 821 = .ok (.iload 9, 2) := by decide +kernel
theorem d_law_823 : decode code 823 = .ok (.aload_n 1, 1) := by decide +kernel
theorem wm_282 : Cond.code ⟨"ThresholdRow", "meanFatigue", "()D"⟩ prog_1_method_43_code 4 (some .double) ∈ gT := gT_m (List.mem_of_getElem? (i := 282) (by decide +kernel)) (by decide +kernel)
theorem wm_279 : Cond.methodLink "ThresholdRowLaw" 115 ⟨"ThresholdRow", "meanFatigue", "()D"⟩ ∈ gT := gT_m (List.mem_of_getElem? (i := 279) (by decide +kernel)) (by decide +kernel)
theorem d_law_824 : decode code 824 = .ok (.invokevirtual 115, 3) := by decide +kernel
theorem wm_280 : Cond.instanceMethod ⟨"ThresholdRow", "meanFatigue", "()D"⟩ ∈ gT := gT_m (List.mem_of_getElem? (i := 280) (by decide +kernel)) (by decide +kernel)
theorem wm_281 : Cond.selects "ThresholdRow" ⟨"ThresholdRow", "meanFatigue", "()D"⟩ ⟨"ThresholdRow", "meanFatigue", "()D"⟩ ∈ gT := gT_m (List.mem_of_getElem? (i := 281) (by decide +kernel)) (by decide +kernel)
theorem d_law_827 : decode code 827 = .ok (.iload 15, 2) := by decide +kernel
theorem d_law_829 : decode code 829 = .ok (.i2d, 1) := by decide +kernel
theorem d_law_830 : decode code 830 = .ok (.iload_n 2, 1) := by decide +kernel
theorem d_law_831 : decode code 831 = .ok (.i2d, 1) := by decide +kernel
theorem d_law_832 : decode code 832 = .ok (.ddiv, 1) := by decide +kernel
theorem d_law_833 : decode code 833 = .ok (.dcmp .l, 1) := by decide +kernel
theorem d_law_834 : decode code 834 = .ok (.ifCond .ne 7, 3) := by decide +kernel
theorem d_law_837 : decode code 837 = .ok (.iconst 1, 1) := by decide +kernel
theorem d_law_838 : decode code 838 = .ok (.goto 4, 3) := by decide +kernel
theorem d_law_842 : decode code 842 = .ok (.iand, 1) := by decide +kernel
theorem d_law_843 : decode code 843 = .ok (.istore 9, 2) := by decide +kernel
theorem d_law_845 : decode code 845 = .ok (.iinc 11 1, 3) := by decide +kernel
theorem d_law_848 : decode code 848 = .ok (.goto (-666), 3) := by decide +kernel
theorem d_law_658 : decode code 658 = .ok (.iload 16, 2) := by decide +kernel
theorem d_law_660 : decode code 660 = .ok (.iload_n 2, 1) := by decide +kernel
theorem d_law_661 : decode code 661 = .ok (.if_icmp .ge 160, 3) := by decide +kernel
theorem d_law_664 : decode code 664 = .ok (.aload 8, 2) := by decide +kernel
theorem d_law_666 : decode code 666 = .ok (.iload 16, 2) := by decide +kernel
theorem d_law_668 : decode code 668 = .ok (.invokestatic 94, 3) := by decide +kernel
theorem d_law_671 : decode code 671 = .ok (.istore 17, 2) := by decide +kernel
theorem d_law_673 : decode code 673 = .ok (.iload 15, 2) := by decide +kernel
theorem d_law_675 : decode code 675 = .ok (.aload 5, 2) := by decide +kernel
theorem d_law_677 : decode code 677 = .ok (.iload 16, 2) := by decide +kernel
theorem d_law_679 : decode code 679 = .ok (.iaload, 1) := by decide +kernel
theorem d_law_680 : decode code 680 = .ok (.iadd, 1) := by decide +kernel
theorem d_law_681 : decode code 681 = .ok (.istore 15, 2) := by decide +kernel
theorem d_law_683 : decode code 683 = .ok (.iload 9, 2) := by decide +kernel
theorem d_law_685 : decode code 685 = .ok (.aload_n 1, 1) := by decide +kernel
theorem d_law_686 : decode code 686 = .ok (.iload 16, 2) := by decide +kernel
theorem wm_608 : Cond.codeWith ⟨"ThresholdRowLaw", "placeOf", "(LThresholdRow;I)I"⟩ method_6_code 3 (some .int) [(0, 5, 6, 25)] ∈ gT := gT_m (List.mem_of_getElem? (i := 608) (by decide +kernel)) (by decide +kernel)
theorem wm_606 : Cond.methodLink "ThresholdRowLaw" 105 ⟨"ThresholdRowLaw", "placeOf", "(LThresholdRow;I)I"⟩ ∈ gT := gT_m (List.mem_of_getElem? (i := 606) (by decide +kernel)) (by decide +kernel)
theorem wm_607 : Cond.static ⟨"ThresholdRowLaw", "placeOf", "(LThresholdRow;I)I"⟩ ∈ gT := gT_m (List.mem_of_getElem? (i := 607) (by decide +kernel)) (by decide +kernel)
theorem wq_606 : Cond.methodLink "ThresholdRowLaw" 105 ⟨"ThresholdRowLaw", "placeOf", "(LThresholdRow;I)I"⟩ ∈ lw_tbl := List.mem_of_getElem? (i := 606) (by decide +kernel)
theorem wq_607 : Cond.static ⟨"ThresholdRowLaw", "placeOf", "(LThresholdRow;I)I"⟩ ∈ lw_tbl := List.mem_of_getElem? (i := 607) (by decide +kernel)
theorem d_law_688 : decode code 688 = .ok (.invokestatic 105, 3) := by decide +kernel
theorem d_law_691 : decode code 691 = .ok (.iload 17, 2) := by decide +kernel
theorem d_law_693 : decode code 693 = .ok (.if_icmp .ne 49, 3) := by decide +kernel
theorem d_law_696 : decode code 696 = .ok (.aload_n 1, 1) := by decide +kernel
theorem d_law_697 : decode code 697 = .ok (.iload 16, 2) := by decide +kernel
theorem wm_653 : Cond.codeWith ⟨"ThresholdRowLaw", "fatigue", "(LThresholdRow;I)I"⟩ method_9_code 3 (some .int) [(0, 5, 6, 25)] ∈ gT := gT_m (List.mem_of_getElem? (i := 653) (by decide +kernel)) (by decide +kernel)
theorem wm_651 : Cond.methodLink "ThresholdRowLaw" 92 ⟨"ThresholdRowLaw", "fatigue", "(LThresholdRow;I)I"⟩ ∈ gT := gT_m (List.mem_of_getElem? (i := 651) (by decide +kernel)) (by decide +kernel)
theorem wm_652 : Cond.static ⟨"ThresholdRowLaw", "fatigue", "(LThresholdRow;I)I"⟩ ∈ gT := gT_m (List.mem_of_getElem? (i := 652) (by decide +kernel)) (by decide +kernel)
theorem wq_651 : Cond.methodLink "ThresholdRowLaw" 92 ⟨"ThresholdRowLaw", "fatigue", "(LThresholdRow;I)I"⟩ ∈ lw_tbl := List.mem_of_getElem? (i := 651) (by decide +kernel)
theorem wq_652 : Cond.static ⟨"ThresholdRowLaw", "fatigue", "(LThresholdRow;I)I"⟩ ∈ lw_tbl := List.mem_of_getElem? (i := 652) (by decide +kernel)
theorem d_law_699 : decode code 699 = .ok (.invokestatic 92, 3) := by decide +kernel
theorem d_law_702 : decode code 702 = .ok (.aload 5, 2) := by decide +kernel
theorem d_law_704 : decode code 704 = .ok (.iload 16, 2) := by decide +kernel
theorem d_law_706 : decode code 706 = .ok (.iaload, 1) := by decide +kernel
theorem d_law_707 : decode code 707 = .ok (.if_icmp .ne 35, 3) := by decide +kernel
theorem d_law_710 : decode code 710 = .ok (.aload_n 1, 1) := by decide +kernel
theorem d_law_711 : decode code 711 = .ok (.iload 16, 2) := by decide +kernel
theorem wm_660 : Cond.codeWith ⟨"ThresholdRowLaw", "hurt", "(LThresholdRow;I)I"⟩ method_10_code 3 (some .int) [(0, 5, 6, 25)] ∈ gT := gT_m (List.mem_of_getElem? (i := 660) (by decide +kernel)) (by decide +kernel)
theorem wm_658 : Cond.methodLink "ThresholdRowLaw" 107 ⟨"ThresholdRowLaw", "hurt", "(LThresholdRow;I)I"⟩ ∈ gT := gT_m (List.mem_of_getElem? (i := 658) (by decide +kernel)) (by decide +kernel)
theorem wm_659 : Cond.static ⟨"ThresholdRowLaw", "hurt", "(LThresholdRow;I)I"⟩ ∈ gT := gT_m (List.mem_of_getElem? (i := 659) (by decide +kernel)) (by decide +kernel)
theorem wq_658 : Cond.methodLink "ThresholdRowLaw" 107 ⟨"ThresholdRowLaw", "hurt", "(LThresholdRow;I)I"⟩ ∈ lw_tbl := List.mem_of_getElem? (i := 658) (by decide +kernel)
theorem wq_659 : Cond.static ⟨"ThresholdRowLaw", "hurt", "(LThresholdRow;I)I"⟩ ∈ lw_tbl := List.mem_of_getElem? (i := 659) (by decide +kernel)
theorem d_law_713 : decode code 713 = .ok (.invokestatic 107, 3) := by decide +kernel
theorem d_law_716 : decode code 716 = .ok (.aload 6, 2) := by decide +kernel
theorem d_law_718 : decode code 718 = .ok (.iload 16, 2) := by decide +kernel
theorem d_law_720 : decode code 720 = .ok (.iaload, 1) := by decide +kernel
theorem d_law_721 : decode code 721 = .ok (.if_icmp .ne 21, 3) := by decide +kernel
theorem d_law_724 : decode code 724 = .ok (.aload_n 1, 1) := by decide +kernel
theorem d_law_725 : decode code 725 = .ok (.iload 16, 2) := by decide +kernel
theorem wm_667 : Cond.codeWith ⟨"ThresholdRowLaw", "lost", "(LThresholdRow;I)I"⟩ method_11_code 3 (some .int) [(0, 5, 6, 25)] ∈ gT := gT_m (List.mem_of_getElem? (i := 667) (by decide +kernel)) (by decide +kernel)
theorem wm_665 : Cond.methodLink "ThresholdRowLaw" 109 ⟨"ThresholdRowLaw", "lost", "(LThresholdRow;I)I"⟩ ∈ gT := gT_m (List.mem_of_getElem? (i := 665) (by decide +kernel)) (by decide +kernel)
theorem wm_666 : Cond.static ⟨"ThresholdRowLaw", "lost", "(LThresholdRow;I)I"⟩ ∈ gT := gT_m (List.mem_of_getElem? (i := 666) (by decide +kernel)) (by decide +kernel)
theorem wq_665 : Cond.methodLink "ThresholdRowLaw" 109 ⟨"ThresholdRowLaw", "lost", "(LThresholdRow;I)I"⟩ ∈ lw_tbl := List.mem_of_getElem? (i := 665) (by decide +kernel)
theorem wq_666 : Cond.static ⟨"ThresholdRowLaw", "lost", "(LThresholdRow;I)I"⟩ ∈ lw_tbl := List.mem_of_getElem? (i := 666) (by decide +kernel)
theorem d_law_727 : decode code 727 = .ok (.invokestatic 109, 3) := by decide +kernel
theorem d_law_730 : decode code 730 = .ok (.aload 7, 2) := by decide +kernel
theorem d_law_732 : decode code 732 = .ok (.iload 16, 2) := by decide +kernel
theorem d_law_734 : decode code 734 = .ok (.iaload, 1) := by decide +kernel
theorem d_law_735 : decode code 735 = .ok (.if_icmp .ne 7, 3) := by decide +kernel
theorem d_law_738 : decode code 738 = .ok (.iconst 1, 1) := by decide +kernel
theorem d_law_739 : decode code 739 = .ok (.goto 4, 3) := by decide +kernel
theorem d_law_743 : decode code 743 = .ok (.iand, 1) := by decide +kernel
theorem d_law_744 : decode code 744 = .ok (.istore 9, 2) := by decide +kernel
theorem d_law_746 : decode code 746 = .ok (.iload 9, 2) := by decide +kernel
theorem d_law_748 : decode code 748 = .ok (.aload_n 1, 1) := by decide +kernel
theorem d_law_749 : decode code 749 = .ok (.iload 16, 2) := by decide +kernel
theorem wm_615 : Cond.codeWith ⟨"ThresholdRowLaw", "errorOf", "(LThresholdRow;I)I"⟩ method_7_code 3 (some .int) [(0, 5, 6, 25), (0, 5, 10, 39)] ∈ gT := gT_m (List.mem_of_getElem? (i := 615) (by decide +kernel)) (by decide +kernel)
theorem wm_613 : Cond.methodLink "ThresholdRowLaw" 111 ⟨"ThresholdRowLaw", "errorOf", "(LThresholdRow;I)I"⟩ ∈ gT := gT_m (List.mem_of_getElem? (i := 613) (by decide +kernel)) (by decide +kernel)
theorem wm_614 : Cond.static ⟨"ThresholdRowLaw", "errorOf", "(LThresholdRow;I)I"⟩ ∈ gT := gT_m (List.mem_of_getElem? (i := 614) (by decide +kernel)) (by decide +kernel)
theorem wq_613 : Cond.methodLink "ThresholdRowLaw" 111 ⟨"ThresholdRowLaw", "errorOf", "(LThresholdRow;I)I"⟩ ∈ lw_tbl := List.mem_of_getElem? (i := 613) (by decide +kernel)
theorem wq_614 : Cond.static ⟨"ThresholdRowLaw", "errorOf", "(LThresholdRow;I)I"⟩ ∈ lw_tbl := List.mem_of_getElem? (i := 614) (by decide +kernel)
theorem d_law_751 : decode code 751 = .ok (.invokestatic 111, 3) := by decide +kernel
theorem d_law_754 : decode code 754 = .ok (.iload 17, 2) := by decide +kernel
theorem d_law_756 : decode code 756 = .ok (.ifCond .ge 8, 3) := by decide +kernel
theorem d_law_764 : decode code 764 = .ok (.aload 4, 2) := by decide +kernel
theorem d_law_766 : decode code 766 = .ok (.iload 16, 2) := by decide +kernel
theorem d_law_768 : decode code 768 = .ok (.iaload, 1) := by decide +kernel
theorem d_law_769 : decode code 769 = .ok (.if_icmp .ne 42, 3) := by decide +kernel
theorem d_law_772 : decode code 772 = .ok (.aload_n 1, 1) := by decide +kernel
theorem d_law_773 : decode code 773 = .ok (.iload 16, 2) := by decide +kernel
theorem wm_642 : Cond.codeWith ⟨"ThresholdRowLaw", "strokeOf", "(LThresholdRow;I)I"⟩ method_8_code 3 (some .int) [(0, 5, 6, 25), (0, 5, 10, 39)] ∈ gT := gT_m (List.mem_of_getElem? (i := 642) (by decide +kernel)) (by decide +kernel)
theorem wm_640 : Cond.methodLink "ThresholdRowLaw" 113 ⟨"ThresholdRowLaw", "strokeOf", "(LThresholdRow;I)I"⟩ ∈ gT := gT_m (List.mem_of_getElem? (i := 640) (by decide +kernel)) (by decide +kernel)
theorem wm_641 : Cond.static ⟨"ThresholdRowLaw", "strokeOf", "(LThresholdRow;I)I"⟩ ∈ gT := gT_m (List.mem_of_getElem? (i := 641) (by decide +kernel)) (by decide +kernel)
theorem wq_640 : Cond.methodLink "ThresholdRowLaw" 113 ⟨"ThresholdRowLaw", "strokeOf", "(LThresholdRow;I)I"⟩ ∈ lw_tbl := List.mem_of_getElem? (i := 640) (by decide +kernel)
theorem wq_641 : Cond.static ⟨"ThresholdRowLaw", "strokeOf", "(LThresholdRow;I)I"⟩ ∈ lw_tbl := List.mem_of_getElem? (i := 641) (by decide +kernel)
theorem d_law_775 : decode code 775 = .ok (.invokestatic 113, 3) := by decide +kernel
theorem d_law_778 : decode code 778 = .ok (.iload 17, 2) := by decide +kernel
theorem d_law_780 : decode code 780 = .ok (.ifCond .ge 8, 3) := by decide +kernel
theorem d_law_788 : decode code 788 = .ok (.bipush 60, 2) := by decide +kernel
theorem d_law_790 : decode code 790 = .ok (.iload 17, 2) := by decide +kernel
theorem d_law_792 : decode code 792 = .ok (.imul, 1) := by decide +kernel
theorem d_law_793 : decode code 793 = .ok (.aload 8, 2) := by decide +kernel
theorem d_law_795 : decode code 795 = .ok (.iconst 0, 1) := by decide +kernel
theorem d_law_796 : decode code 796 = .ok (.iaload, 1) := by decide +kernel
theorem d_law_797 : decode code 797 = .ok (.idiv, 1) := by decide +kernel
theorem d_law_798 : decode code 798 = .ok (.aload 4, 2) := by decide +kernel
theorem d_law_800 : decode code 800 = .ok (.iload 16, 2) := by decide +kernel
theorem d_law_802 : decode code 802 = .ok (.iaload, 1) := by decide +kernel
theorem d_law_803 : decode code 803 = .ok (.iadd, 1) := by decide +kernel
theorem d_law_804 : decode code 804 = .ok (.if_icmp .ne 7, 3) := by decide +kernel
theorem d_law_807 : decode code 807 = .ok (.iconst 1, 1) := by decide +kernel
theorem d_law_808 : decode code 808 = .ok (.goto 4, 3) := by decide +kernel
theorem d_law_812 : decode code 812 = .ok (.iand, 1) := by decide +kernel
theorem d_law_813 : decode code 813 = .ok (.istore 9, 2) := by decide +kernel
theorem d_law_815 : decode code 815 = .ok (.iinc 16 1, 3) := by decide +kernel
theorem d_law_818 : decode code 818 = .ok (.goto (-160), 3) := by decide +kernel
theorem d_law_759 : decode code 759 = .ok (.ldc 20, 2) := by decide +kernel
theorem d_law_761 : decode code 761 = .ok (.goto 8, 3) := by decide +kernel
theorem d_law_783 : decode code 783 = .ok (.ldc 20, 2) := by decide +kernel
theorem d_law_785 : decode code 785 = .ok (.goto 19, 3) := by decide +kernel
theorem d_law_182 : decode code 182 = .ok (.iload 11, 2) := by decide +kernel
theorem d_law_184 : decode code 184 = .ok (.bipush 30, 2) := by decide +kernel
theorem d_law_186 : decode code 186 = .ok (.if_icmp .ge 665, 3) := by decide +kernel
theorem d_law_851 : decode code 851 = .ok (.iload 9, 2) := by decide +kernel
theorem d_law_853 : decode code 853 = .ok (.ifCond .eq 24, 3) := by decide +kernel
theorem d_law_856 : decode code 856 = .ok (.aload_n 1, 1) := by decide +kernel
theorem d_law_857 : decode code 857 = .ok (.iload_n 2, 1) := by decide +kernel
theorem d_law_858 : decode code 858 = .ok (.invokestatic 105, 3) := by decide +kernel
theorem d_law_861 : decode code 861 = .ok (.ldc 17, 2) := by decide +kernel
theorem d_law_863 : decode code 863 = .ok (.if_icmp .ne 14, 3) := by decide +kernel
theorem d_law_866 : decode code 866 = .ok (.aload_n 1, 1) := by decide +kernel
theorem wm_377 : Cond.code ⟨"ThresholdRow", "isSound", "()Z"⟩ prog_1_method_44_code 2 (some .boolean) ∈ gT := gT_m (List.mem_of_getElem? (i := 377) (by decide +kernel)) (by decide +kernel)
theorem wm_374 : Cond.methodLink "ThresholdRowLaw" 119 ⟨"ThresholdRow", "isSound", "()Z"⟩ ∈ gT := gT_m (List.mem_of_getElem? (i := 374) (by decide +kernel)) (by decide +kernel)
theorem d_law_867 : decode code 867 = .ok (.invokevirtual 119, 3) := by decide +kernel
theorem wm_375 : Cond.instanceMethod ⟨"ThresholdRow", "isSound", "()Z"⟩ ∈ gT := gT_m (List.mem_of_getElem? (i := 375) (by decide +kernel)) (by decide +kernel)
theorem wm_376 : Cond.selects "ThresholdRow" ⟨"ThresholdRow", "isSound", "()Z"⟩ ⟨"ThresholdRow", "isSound", "()Z"⟩ ∈ gT := gT_m (List.mem_of_getElem? (i := 376) (by decide +kernel)) (by decide +kernel)
theorem d_law_870 : decode code 870 = .ok (.ifCond .eq 7, 3) := by decide +kernel
theorem d_law_873 : decode code 873 = .ok (.iconst 1, 1) := by decide +kernel
theorem d_law_874 : decode code 874 = .ok (.goto 4, 3) := by decide +kernel
theorem d_law_189 : decode code 189 = .ok (.aload_n 0, 1) := by decide +kernel
theorem d_law_190 : decode code 190 = .ok (.bipush 10, 2) := by decide +kernel
theorem d_law_192 : decode code 192 = .ok (.iload 11, 2) := by decide +kernel
theorem d_law_194 : decode code 194 = .ok (.iadd, 1) := by decide +kernel
theorem d_law_195 : decode code 195 = .ok (.bipush 10, 2) := by decide +kernel
theorem wm_760 : Cond.code ⟨"ThresholdRowLaw", "in", "([III)I"⟩ method_14_code 3 (some .int) ∈ gT := gT_m (List.mem_of_getElem? (i := 760) (by decide +kernel)) (by decide +kernel)
theorem wm_758 : Cond.methodLink "ThresholdRowLaw" 80 ⟨"ThresholdRowLaw", "in", "([III)I"⟩ ∈ gT := gT_m (List.mem_of_getElem? (i := 758) (by decide +kernel)) (by decide +kernel)
theorem wm_759 : Cond.static ⟨"ThresholdRowLaw", "in", "([III)I"⟩ ∈ gT := gT_m (List.mem_of_getElem? (i := 759) (by decide +kernel)) (by decide +kernel)
theorem d_law_197 : decode code 197 = .ok (.invokestatic 80, 3) := by decide +kernel
theorem d_law_200 : decode code 200 = .ok (.istore 12, 2) := by decide +kernel
theorem d_law_202 : decode code 202 = .ok (.aload_n 0, 1) := by decide +kernel
theorem d_law_203 : decode code 203 = .ok (.bipush 50, 2) := by decide +kernel
theorem d_law_205 : decode code 205 = .ok (.iload 11, 2) := by decide +kernel
theorem d_law_207 : decode code 207 = .ok (.iadd, 1) := by decide +kernel
theorem d_law_208 : decode code 208 = .ok (.iload_n 2, 1) := by decide +kernel
theorem d_law_209 : decode code 209 = .ok (.invokestatic 80, 3) := by decide +kernel
theorem d_law_212 : decode code 212 = .ok (.istore 13, 2) := by decide +kernel
theorem d_law_214 : decode code 214 = .ok (.aload_n 0, 1) := by decide +kernel
theorem d_law_215 : decode code 215 = .ok (.bipush 90, 2) := by decide +kernel
theorem d_law_217 : decode code 217 = .ok (.iload 11, 2) := by decide +kernel
theorem d_law_219 : decode code 219 = .ok (.iadd, 1) := by decide +kernel
theorem d_law_220 : decode code 220 = .ok (.bipush 100, 2) := by decide +kernel
theorem d_law_222 : decode code 222 = .ok (.invokestatic 80, 3) := by decide +kernel
theorem d_law_225 : decode code 225 = .ok (.istore 14, 2) := by decide +kernel
theorem d_law_227 : decode code 227 = .ok (.iload 12, 2) := by decide +kernel
theorem d_law_229 : decode code 229 = .ok (.iconst 4, 1) := by decide +kernel
theorem d_law_230 : decode code 230 = .ok (.if_icmp .ge 115, 3) := by decide +kernel
theorem d_law_345 : decode code 345 = .ok (.iload 12, 2) := by decide +kernel
theorem d_law_347 : decode code 347 = .ok (.iconst 4, 1) := by decide +kernel
theorem d_law_348 : decode code 348 = .ok (.if_icmp .ne 63, 3) := by decide +kernel
theorem d_law_411 : decode code 411 = .ok (.iload 12, 2) := by decide +kernel
theorem d_law_413 : decode code 413 = .ok (.bipush 9, 2) := by decide +kernel
theorem d_law_415 : decode code 415 = .ok (.if_icmp .ge 115, 3) := by decide +kernel
set_option maxHeartbeats 4000000 in
set_option maxRecDepth 100000 in
theorem lb_check {p : Program} {l : Launch} {e : Env} {s : State} {m : MethodId} {args : Array Value} {below : List Frame} {meth : Method} {c : Code} {Q : State → Prop} {E : Nat} {D : va_G} {cI cO cZ : ClassId} {z0 sb sL : Nat} {xs : Nat → Int32} (C : lb_C l p s m args c E D cI cO cZ z0 sb sL xs) {M : gM} {H : Heap} {locs : List Loc} {ls : Array Slot} {k q : Nat} (hkk : k ≤ 400000) (hqq : q ≤ 4000000) {A : Nat → Nat} {o n day i B : Nat} {S : gS} {Z ad bn : Nat → Nat} (hn2 : 2 ≤ n) (hn7 : n ≤ 7) (hf : gw_fa z0 cO M o n (nI day) S Z ad bn) (har : gw_ar cI M A n S) (hiv : p_iv n B S) (hB : B ≤ 90000) (hday : day ≤ 1000) (kk : ∀ (H : Heap) (locs : List Loc) (ls : Array Slot), gw_H E D M s H locs → lv_has ls 19 [(0, .ref sb), (1, .ref o), (2, .int (nI n)), (3, .ref (A 0)), (4, .ref (A 1)), (5, .ref (A 2)), (6, .ref (A 3)), (7, .ref (A 4)), (8, .ref (A 5)), (9, .int 1), (10, .int (nI day)), (11, .int (nI (i + 1)))] → W p l e room_1 s m args below meth c H locs (k + 100) (q + 600) Q (F0 m 182 ls [])) (hG : gw_H E D M s H locs) (hl : lv_has ls 19 [(0, .ref sb), (1, .ref o), (2, .int (nI n)), (3, .ref (A 0)), (4, .ref (A 1)), (5, .ref (A 2)), (6, .ref (A 3)), (7, .ref (A 4)), (8, .ref (A 5)), (9, .int 1), (10, .int (nI day)), (11, .int (nI i))]) : W p l e room_1 s m args below meth c H locs k q Q (F0 m 652 ls []) := by
  obtain ⟨hx, hb, hml, hts, hown, hst, hF, hX, hsb, hsL⟩ := id C
  have hK := hF.1
  have hT := gT_hts hts
  obtain ⟨hA, fb, fe, ff, fu, fl, fg, h6, hrp⟩ := id har
  obtain ⟨r0, r1, r2, r3, r4, r5, r6⟩ := id hrp
  obtain ⟨h5, hord, hoi, hok, hmu⟩ := id hiv
  have hoo : ∀ p, p < S.1 → S.2.1 p < 1000 := fun p hp => Nat.lt_of_lt_of_le (hord p hp) (by omega)
  refine lv_iconst (v := 0) hx hb d_law_652 (by decide) ?_
  refine lv_istore (lv' := [(15, .int 0), (0, .ref sb), (1, .ref o), (2, .int (nI n)), (3, .ref (A 0)), (4, .ref (A 1)), (5, .ref (A 2)), (6, .ref (A 3)), (7, .ref (A 4)), (8, .ref (A 5)), (9, .int 1), (10, .int (nI day)), (11, .int (nI i))]) hx hb d_law_653 hl (by decide) rfl (fun ls hl => ?_)
  refine lv_iconst (v := 0) hx hb d_law_655 (by decide) ?_
  refine lv_istore (lv' := [(16, .int 0), (15, .int 0), (0, .ref sb), (1, .ref o), (2, .int (nI n)), (3, .ref (A 0)), (4, .ref (A 1)), (5, .ref (A 2)), (6, .ref (A 3)), (7, .ref (A 4)), (8, .ref (A 5)), (9, .int 1), (10, .int (nI day)), (11, .int (nI i))]) hx hb d_law_656 hl (by decide) rfl (fun ls hl => ?_)
  have K821 : ∀ (z9 : Nat) (H : Heap) (locs : List Loc) (ls : Array Slot), z9 = 0 → gw_H E D M s H locs → lv_has ls 19 [(0, .ref sb), (1, .ref o), (2, .int (nI n)), (3, .ref (A 0)), (4, .ref (A 1)), (5, .ref (A 2)), (6, .ref (A 3)), (7, .ref (A 4)), (8, .ref (A 5)), (9, .int 1), (10, .int (nI day)), (11, .int (nI i)), (15, .int (p_sum S.2.2 n))] → W p l e room_1 s m args below meth c H locs (k + 2 * n) (q + 12 * n) Q (F0 m 821 ls []) := by
    intro z9 H locs ls hz9 hG hl
    obtain ⟨sm, hsm, esm⟩ := lb_sum hiv n (Nat.le_refl _)
    obtain ⟨hnan, hcmp⟩ := lb_dbl (s := sm) (h := n) (by omega) hn2 hn7
    rw [← esm] at hnan hcmp
    refine lv_iload hx hb d_law_821 (lv_at hl 9 rfl) ?_
    refine lv_aload_n hx hb d_law_823 rfl (lv_at hl 1 rfl) ?_
    refine gw_calld (gw_runV (As := []) (rest := [.int 1]) ⟨hx, hb, hml, hown, hts⟩ (c_Row_meanFatigue l E D cI cO cZ z0 M hf (by omega) hnan) (gw_cwV 0 hts (gT_gi0 wm_282) rfl rfl rfl (hT _ wm_23) (hT _ wm_279) (hT _ wm_280) (hT _ wm_281) (by decide +kernel) ⟨Nat.le_of_ble_eq_true rfl, Nat.le_of_ble_eq_true rfl⟩) hF hG rfl hf.1 rfl hl.1 rfl (Nat.le_of_ble_eq_true rfl) d_law_824 ⟨(lb_rc (by omega)), (lb_rs (by omega))⟩) hG (fun r M1 H locs hp hG => ?_)
    obtain ⟨hr1, hM1⟩ := hp
    replace hG := gw_nm hM1.symm hG
    rw [hr1]
    refine lv_iload hx hb d_law_827 (lv_at hl 12 rfl) ?_
    refine lv_i2d hx hb d_law_829 ?_
    refine lv_iload_n hx hb d_law_830 rfl (lv_at hl 2 rfl) ?_
    refine lv_i2d hx hb d_law_831 ?_
    refine lv_ddiv hx hb d_law_832 hnan ?_
    refine lv_dcmp hx hb d_law_833 ?_
    rw [hcmp]
    refine lv_if_ne (tgt := 841) hx hb d_law_834 (by decide) (fun z_ => absurd (rfl) z_) (fun c_834 => ?_)
    refine lv_iconst (v := 1) hx hb d_law_837 (by decide) ?_
    refine lv_goto (tgt := 842) hx hb d_law_838 (by decide) ?_
    refine lv_iand hx hb d_law_842 ?_
    rw [show (1 : Int32) &&& 1 = 1 from rfl]
    refine lv_istore (lv' := [(9, .int 1), (0, .ref sb), (1, .ref o), (2, .int (nI n)), (3, .ref (A 0)), (4, .ref (A 1)), (5, .ref (A 2)), (6, .ref (A 3)), (7, .ref (A 4)), (8, .ref (A 5)), (10, .int (nI day)), (11, .int (nI i)), (15, .int (p_sum S.2.2 n))]) hx hb d_law_843 hl (by decide) rfl (fun ls hl => ?_)
    refine lv_iinc (v := nI (i + 1)) (lv' := [(11, .int (nI (i + 1))), (9, .int 1), (0, .ref sb), (1, .ref o), (2, .int (nI n)), (3, .ref (A 0)), (4, .ref (A 1)), (5, .ref (A 2)), (6, .ref (A 3)), (7, .ref (A 4)), (8, .ref (A 5)), (10, .int (nI day)), (15, .int (p_sum S.2.2 n))]) hx hb d_law_845 hl (k := 11) rfl (nI_succ (i)).symm (by decide) rfl (fun ls hl => ?_)
    refine lv_goto (tgt := 182) hx hb d_law_848 (by decide) ?_
    refine W.widen (k := k + 100) (n := q + 600) (by omega) (by omega) ?_
    exact kk _ _ _ hG (lv_sub hl [2, 3, 4, 5, 6, 7, 8, 9, 10, 1, 11, 0] rfl)
  have loopC : ∀ (d p2 : Nat), p2 + d = n → ∀ (X : gM) (H : Heap) (locs : List Loc) (ls : Array Slot), (X = M) → gw_H E D X s H locs → lv_has ls 19 [(0, .ref sb), (1, .ref o), (2, .int (nI n)), (3, .ref (A 0)), (4, .ref (A 1)), (5, .ref (A 2)), (6, .ref (A 3)), (7, .ref (A 4)), (8, .ref (A 5)), (9, .int 1), (10, .int (nI day)), (11, .int (nI i)), (15, .int (p_sum S.2.2 p2)), (16, .int (nI p2))] → W p l e room_1 s m args below meth c H locs (k + 2 * p2) (q + 12 * p2) Q (F0 m 658 ls []) := by
    intro d
    induction d with
    | zero =>
      intro p2 hi X H locs ls hI hG hl
      replace hG := gw_nm hI.symm hG
      refine lv_iload hx hb d_law_658 (lv_at hl 13 rfl) ?_
      refine lv_iload_n hx hb d_law_660 rfl (lv_at hl 2 rfl) ?_
      refine lv_icmp_ge (tgt := 821) hx hb d_law_661 (by decide) (fun c_661 => ?_) (fun z_ => absurd (nI_le (by omega) (by omega)) z_)
      have hpn : p2 = n := by omega
      rw [hpn] at hl ⊢
      exact K821 0 _ _ _ rfl hG (lv_sub hl [0, 1, 2, 3, 4, 5, 6, 7, 8, 9, 10, 11, 12] rfl)
    | succ d ih =>
      intro p2 hi X H locs ls hI hG hl
      replace hG := gw_nm hI.symm hG
      refine lv_iload hx hb d_law_658 (lv_at hl 13 rfl) ?_
      refine lv_iload_n hx hb d_law_660 rfl (lv_at hl 2 rfl) ?_
      refine lv_icmp_ge (tgt := 821) hx hb d_law_661 (by decide) (fun z_ => absurd z_ (fun z => absurd ((nI_leI (by omega) (by omega)).mp z) (by omega))) (fun c_661 => ?_)
      obtain ⟨J, hJ1, hJ2, hJ3⟩ := lb_J S.2.1 p2 S.1
      have hp2 : p2 < n := by omega
      refine lv_aload hx hb d_law_664 (lv_at hl 8 rfl) ?_
      refine lv_iload hx hb d_law_666 (lv_at hl 13 rfl) ?_
      refine gw_calli (gw_runS (As := [.ref (A 5), .int (nI p2)]) (rest := []) ⟨hx, hb, hml, hown, hts⟩ (c_Law_placeIn l E D cI cO cZ z0 M h6.2.2.2.2.2 (by omega) r5 r6 hoo (i := p2) (by omega) hoi hJ1 hJ2 hJ3) (gw_cwS 2 hts (gT_gi0 wm_785) rfl rfl rfl (hT _ wm_22) (hT _ wm_783) (hT _ wm_784) (by decide +kernel) ⟨Nat.le_of_ble_eq_true rfl, Nat.le_of_ble_eq_true rfl⟩) hF hG rfl hl.1 rfl (Nat.le_of_ble_eq_true rfl) d_law_668 ⟨(lb_rc (by omega)), (lb_rs (by omega))⟩) hG (fun r M2 H locs hp hG => ?_)
      rw [hp.1]
      replace hG := gw_nm hp.2.symm hG
      by_cases hJ : J < S.1
      · skip
        rw [if_pos hJ]
        refine lv_istore (lv' := [(17, .int (nI J)), (0, .ref sb), (1, .ref o), (2, .int (nI n)), (3, .ref (A 0)), (4, .ref (A 1)), (5, .ref (A 2)), (6, .ref (A 3)), (7, .ref (A 4)), (8, .ref (A 5)), (9, .int 1), (10, .int (nI day)), (11, .int (nI i)), (15, .int (p_sum S.2.2 p2)), (16, .int (nI p2))]) hx hb d_law_671 hl (by decide) rfl (fun ls hl => ?_)
        refine lv_iload hx hb d_law_673 (lv_at hl 13 rfl) ?_
        refine lv_aload hx hb d_law_675 (lv_at hl 6 rfl) ?_
        refine lv_iload hx hb d_law_677 (lv_at hl 14 rfl) ?_
        refine gw_iald hx hb hK hG (h6.2.2.1) (vp_in_nI (by omega) (by omega)) d_law_679 ?_
        rw [nI_clamp (n := p2) (by omega), r2 p2 hp2]
        refine lv_iadd hx hb d_law_680 ?_
        rw [show p_sum S.2.2 p2 + (S.2.2 p2).2.2.1 = (p_sum S.2.2 (p2 + 1)) from rfl]
        refine lv_istore (lv' := [(15, .int (p_sum S.2.2 (p2 + 1))), (17, .int (nI J)), (0, .ref sb), (1, .ref o), (2, .int (nI n)), (3, .ref (A 0)), (4, .ref (A 1)), (5, .ref (A 2)), (6, .ref (A 3)), (7, .ref (A 4)), (8, .ref (A 5)), (9, .int 1), (10, .int (nI day)), (11, .int (nI i)), (16, .int (nI p2))]) hx hb d_law_681 hl (by decide) rfl (fun ls hl => ?_)
        refine lv_iload hx hb d_law_683 (lv_at hl 11 rfl) ?_
        refine lv_aload_n hx hb d_law_685 rfl (lv_at hl 3 rfl) ?_
        refine lv_iload hx hb d_law_686 (lv_at hl 14 rfl) ?_
        refine gw_calli (gw_runSW (As := [.ref o, .int (nI p2)]) (rest := [.int 1]) ⟨hx, hb, hml, hown, hts⟩ (c_Law_placeOf l E D cI cO cZ z0 M hf hp2 hJ1 hJ2 hJ3) (gw_cwSW 2 hts (gT_gi0 wm_608) rfl rfl rfl (hT _ wm_22) (hT _ wm_606) (hT _ wm_607) ⟨rfl, rfl, rfl⟩ ⟨wq_606, wq_607, wq_22⟩ (by decide +kernel) ⟨Nat.le_of_ble_eq_true rfl, Nat.le_of_ble_eq_true rfl⟩) hF hG rfl hl.1 rfl (Nat.le_of_ble_eq_true rfl) d_law_688 ⟨(lb_rc (by omega)), (lb_rs (by omega))⟩) hG (fun r M3 H locs hp hG => ?_)
        rw [hp.1]
        replace hG := gw_nm hp.2.symm hG
        rw [if_pos hJ]
        refine lv_iload hx hb d_law_691 (lv_at hl 1 rfl) ?_
        refine lv_icmp_ne (tgt := 742) hx hb d_law_693 (by decide) (fun z_ => absurd (rfl) z_) (fun c_693 => ?_)
        refine lv_aload_n hx hb d_law_696 rfl (lv_at hl 3 rfl) ?_
        refine lv_iload hx hb d_law_697 (lv_at hl 14 rfl) ?_
        refine gw_calli (gw_runSW (As := [.ref o, .int (nI p2)]) (rest := [.int 1]) ⟨hx, hb, hml, hown, hts⟩ (c_Law_fatigue l E D cI cO cZ z0 M hf hp2) (gw_cwSW 2 hts (gT_gi0 wm_653) rfl rfl rfl (hT _ wm_22) (hT _ wm_651) (hT _ wm_652) ⟨rfl, rfl, rfl⟩ ⟨wq_651, wq_652, wq_22⟩ (by decide +kernel) ⟨Nat.le_of_ble_eq_true rfl, Nat.le_of_ble_eq_true rfl⟩) hF hG rfl hl.1 rfl (Nat.le_of_ble_eq_true rfl) d_law_699 ⟨(lb_rc (by omega)), (lb_rs (by omega))⟩) hG (fun r M4 H locs hp hG => ?_)
        rw [hp.1]
        replace hG := gw_nm hp.2.symm hG
        refine lv_aload hx hb d_law_702 (lv_at hl 7 rfl) ?_
        refine lv_iload hx hb d_law_704 (lv_at hl 14 rfl) ?_
        refine gw_iald hx hb hK hG (h6.2.2.1) (vp_in_nI (by omega) (by omega)) d_law_706 ?_
        rw [nI_clamp (n := p2) (by omega), r2 p2 hp2]
        refine lv_icmp_ne (tgt := 742) hx hb d_law_707 (by decide) (fun z_ => absurd (rfl) z_) (fun c_707 => ?_)
        refine lv_aload_n hx hb d_law_710 rfl (lv_at hl 3 rfl) ?_
        refine lv_iload hx hb d_law_711 (lv_at hl 14 rfl) ?_
        refine gw_calli (gw_runSW (As := [.ref o, .int (nI p2)]) (rest := [.int 1]) ⟨hx, hb, hml, hown, hts⟩ (c_Law_hurt l E D cI cO cZ z0 M hf hp2) (gw_cwSW 2 hts (gT_gi0 wm_660) rfl rfl rfl (hT _ wm_22) (hT _ wm_658) (hT _ wm_659) ⟨rfl, rfl, rfl⟩ ⟨wq_658, wq_659, wq_22⟩ (by decide +kernel) ⟨Nat.le_of_ble_eq_true rfl, Nat.le_of_ble_eq_true rfl⟩) hF hG rfl hl.1 rfl (Nat.le_of_ble_eq_true rfl) d_law_713 ⟨(lb_rc (by omega)), (lb_rs (by omega))⟩) hG (fun r M5 H locs hp hG => ?_)
        rw [hp.1]
        replace hG := gw_nm hp.2.symm hG
        refine lv_aload hx hb d_law_716 (lv_at hl 8 rfl) ?_
        refine lv_iload hx hb d_law_718 (lv_at hl 14 rfl) ?_
        refine gw_iald hx hb hK hG (h6.2.2.2.1) (vp_in_nI (by omega) (by omega)) d_law_720 ?_
        rw [nI_clamp (n := p2) (by omega), r3 p2 hp2]
        refine lv_icmp_ne (tgt := 742) hx hb d_law_721 (by decide) (fun z_ => absurd (rfl) z_) (fun c_721 => ?_)
        refine lv_aload_n hx hb d_law_724 rfl (lv_at hl 3 rfl) ?_
        refine lv_iload hx hb d_law_725 (lv_at hl 14 rfl) ?_
        refine gw_calli (gw_runSW (As := [.ref o, .int (nI p2)]) (rest := [.int 1]) ⟨hx, hb, hml, hown, hts⟩ (c_Law_lost l E D cI cO cZ z0 M hf hp2) (gw_cwSW 2 hts (gT_gi0 wm_667) rfl rfl rfl (hT _ wm_22) (hT _ wm_665) (hT _ wm_666) ⟨rfl, rfl, rfl⟩ ⟨wq_665, wq_666, wq_22⟩ (by decide +kernel) ⟨Nat.le_of_ble_eq_true rfl, Nat.le_of_ble_eq_true rfl⟩) hF hG rfl hl.1 rfl (Nat.le_of_ble_eq_true rfl) d_law_727 ⟨(lb_rc (by omega)), (lb_rs (by omega))⟩) hG (fun r M6 H locs hp hG => ?_)
        rw [hp.1]
        replace hG := gw_nm hp.2.symm hG
        refine lv_aload hx hb d_law_730 (lv_at hl 9 rfl) ?_
        refine lv_iload hx hb d_law_732 (lv_at hl 14 rfl) ?_
        refine gw_iald hx hb hK hG (h6.2.2.2.2.1) (vp_in_nI (by omega) (by omega)) d_law_734 ?_
        rw [nI_clamp (n := p2) (by omega), r4 p2 hp2]
        refine lv_icmp_ne (tgt := 742) hx hb d_law_735 (by decide) (fun z_ => absurd (rfl) z_) (fun c_735 => ?_)
        refine lv_iconst (v := 1) hx hb d_law_738 (by decide) ?_
        refine lv_goto (tgt := 743) hx hb d_law_739 (by decide) ?_
        refine lv_iand hx hb d_law_743 ?_
        rw [show (1 : Int32) &&& 1 = 1 from rfl]
        refine lv_istore (lv' := [(9, .int 1), (15, .int (p_sum S.2.2 (p2 + 1))), (17, .int (nI J)), (0, .ref sb), (1, .ref o), (2, .int (nI n)), (3, .ref (A 0)), (4, .ref (A 1)), (5, .ref (A 2)), (6, .ref (A 3)), (7, .ref (A 4)), (8, .ref (A 5)), (10, .int (nI day)), (11, .int (nI i)), (16, .int (nI p2))]) hx hb d_law_744 hl (by decide) rfl (fun ls hl => ?_)
        refine lv_iload hx hb d_law_746 (lv_at hl 0 rfl) ?_
        refine lv_aload_n hx hb d_law_748 rfl (lv_at hl 4 rfl) ?_
        refine lv_iload hx hb d_law_749 (lv_at hl 14 rfl) ?_
        refine gw_calli (gw_runSW (As := [.ref o, .int (nI p2)]) (rest := [.int 1]) ⟨hx, hb, hml, hown, hts⟩ (c_Law_errorOf l E D cI cO cZ z0 M hf hp2 hJ1 hJ2 hJ3 hJ) (gw_cwSW 2 hts (gT_gi0 wm_615) rfl rfl rfl (hT _ wm_22) (hT _ wm_613) (hT _ wm_614) ⟨rfl, rfl, rfl⟩ ⟨wq_613, wq_614, wq_22⟩ (by decide +kernel) ⟨Nat.le_of_ble_eq_true rfl, Nat.le_of_ble_eq_true rfl⟩) hF hG rfl hl.1 rfl (Nat.le_of_ble_eq_true rfl) d_law_751 ⟨(lb_rc (by omega)), (lb_rs (by omega))⟩) hG (fun r M7 H locs hp hG => ?_)
        rw [hp.1]
        replace hG := gw_nm hp.2.symm hG
        refine lv_iload hx hb d_law_754 (lv_at hl 2 rfl) ?_
        refine lv_if_ge (tgt := 764) hx hb d_law_756 (by decide) (fun c_756 => ?_) (fun z_ => absurd (nI_pos' (by omega)) z_)
        refine lv_aload hx hb d_law_764 (lv_at hl 7 rfl) ?_
        refine lv_iload hx hb d_law_766 (lv_at hl 14 rfl) ?_
        refine gw_iald hx hb hK hG (h6.2.1) (vp_in_nI (by omega) (by omega)) d_law_768 ?_
        rw [nI_clamp (n := p2) (by omega), r1 p2 hp2]
        refine lv_icmp_ne (tgt := 811) hx hb d_law_769 (by decide) (fun z_ => absurd (rfl) z_) (fun c_769 => ?_)
        refine lv_aload_n hx hb d_law_772 rfl (lv_at hl 4 rfl) ?_
        refine lv_iload hx hb d_law_773 (lv_at hl 14 rfl) ?_
        refine gw_calli (gw_runSW (As := [.ref o, .int (nI p2)]) (rest := [.int 1]) ⟨hx, hb, hml, hown, hts⟩ (c_Law_strokeOf l E D cI cO cZ z0 M hf hp2 hJ1 hJ2 hJ3 hJ) (gw_cwSW 2 hts (gT_gi0 wm_642) rfl rfl rfl (hT _ wm_22) (hT _ wm_640) (hT _ wm_641) ⟨rfl, rfl, rfl⟩ ⟨wq_640, wq_641, wq_22⟩ (by decide +kernel) ⟨Nat.le_of_ble_eq_true rfl, Nat.le_of_ble_eq_true rfl⟩) hF hG rfl hl.1 rfl (Nat.le_of_ble_eq_true rfl) d_law_775 ⟨(lb_rc (by omega)), (lb_rs (by omega))⟩) hG (fun r M8 H locs hp hG => ?_)
        rw [hp.1]
        replace hG := gw_nm hp.2.symm hG
        refine lv_iload hx hb d_law_778 (lv_at hl 2 rfl) ?_
        refine lv_if_ge (tgt := 788) hx hb d_law_780 (by decide) (fun c_780 => ?_) (fun z_ => absurd (nI_pos' (by omega)) z_)
        refine lv_bipush (v := 60) hx hb d_law_788 (by decide) ?_
        refine lv_iload hx hb d_law_790 (lv_at hl 2 rfl) ?_
        refine lv_imul hx hb d_law_792 ?_
        refine lv_aload hx hb d_law_793 (lv_at hl 11 rfl) ?_
        refine lv_iconst (v := 0) hx hb d_law_795 (by decide) ?_
        refine gw_iald hx hb hK hG (h6.2.2.2.2.2) (vp_in_nI (n := 0) (by omega) (by decide)) d_law_796 ?_
        rw [show fg (0 : Int32).toNatClampNeg = nI S.1 from r5]
        refine lv_idiv hx hb d_law_797 (nI_ne0 (by omega) (by omega)) ?_
        refine lv_aload hx hb d_law_798 (lv_at hl 7 rfl) ?_
        refine lv_iload hx hb d_law_800 (lv_at hl 14 rfl) ?_
        refine gw_iald hx hb hK hG (h6.2.1) (vp_in_nI (by omega) (by omega)) d_law_802 ?_
        rw [nI_clamp (n := p2) (by omega), r1 p2 hp2]
        refine lv_iadd hx hb d_law_803 ?_
        refine lv_icmp_ne (tgt := 811) hx hb d_law_804 (by decide) (fun z_ => absurd ((by show 60 * nI J / nI S.1 + (S.2.2 (S.2.1 J)).2.2.2.2.2 = _; rw [hJ3 hJ])) z_) (fun c_804 => ?_)
        refine lv_iconst (v := 1) hx hb d_law_807 (by decide) ?_
        refine lv_goto (tgt := 812) hx hb d_law_808 (by decide) ?_
        refine lv_iand hx hb d_law_812 ?_
        rw [show (1 : Int32) &&& 1 = 1 from rfl]
        refine lv_istore (lv' := [(9, .int 1), (15, .int (p_sum S.2.2 (p2 + 1))), (17, .int (nI J)), (0, .ref sb), (1, .ref o), (2, .int (nI n)), (3, .ref (A 0)), (4, .ref (A 1)), (5, .ref (A 2)), (6, .ref (A 3)), (7, .ref (A 4)), (8, .ref (A 5)), (10, .int (nI day)), (11, .int (nI i)), (16, .int (nI p2))]) hx hb d_law_813 hl (by decide) rfl (fun ls hl => ?_)
        refine lv_iinc (v := nI (p2 + 1)) (lv' := [(16, .int (nI (p2 + 1))), (9, .int 1), (15, .int (p_sum S.2.2 (p2 + 1))), (17, .int (nI J)), (0, .ref sb), (1, .ref o), (2, .int (nI n)), (3, .ref (A 0)), (4, .ref (A 1)), (5, .ref (A 2)), (6, .ref (A 3)), (7, .ref (A 4)), (8, .ref (A 5)), (10, .int (nI day)), (11, .int (nI i))]) hx hb d_law_815 hl (k := 14) rfl (nI_succ (p2)).symm (by decide) rfl (fun ls hl => ?_)
        refine lv_goto (tgt := 658) hx hb d_law_818 (by decide) ?_
        refine W.widen (k := k + 2 * (p2 + 1)) (n := q + 12 * (p2 + 1)) (by omega) (by omega) ?_
        exact ih (p2 + 1) (by omega) _ _ _ _ rfl hG (lv_sub hl [4, 5, 6, 7, 8, 9, 10, 11, 12, 1, 13, 14, 2, 0] rfl)
      · skip
        rw [if_neg hJ]
        refine lv_istore (lv' := [(17, .int (-1)), (0, .ref sb), (1, .ref o), (2, .int (nI n)), (3, .ref (A 0)), (4, .ref (A 1)), (5, .ref (A 2)), (6, .ref (A 3)), (7, .ref (A 4)), (8, .ref (A 5)), (9, .int 1), (10, .int (nI day)), (11, .int (nI i)), (15, .int (p_sum S.2.2 p2)), (16, .int (nI p2))]) hx hb d_law_671 hl (by decide) rfl (fun ls hl => ?_)
        refine lv_iload hx hb d_law_673 (lv_at hl 13 rfl) ?_
        refine lv_aload hx hb d_law_675 (lv_at hl 6 rfl) ?_
        refine lv_iload hx hb d_law_677 (lv_at hl 14 rfl) ?_
        refine gw_iald hx hb hK hG (h6.2.2.1) (vp_in_nI (by omega) (by omega)) d_law_679 ?_
        rw [nI_clamp (n := p2) (by omega), r2 p2 hp2]
        refine lv_iadd hx hb d_law_680 ?_
        rw [show p_sum S.2.2 p2 + (S.2.2 p2).2.2.1 = (p_sum S.2.2 (p2 + 1)) from rfl]
        refine lv_istore (lv' := [(15, .int (p_sum S.2.2 (p2 + 1))), (17, .int (-1)), (0, .ref sb), (1, .ref o), (2, .int (nI n)), (3, .ref (A 0)), (4, .ref (A 1)), (5, .ref (A 2)), (6, .ref (A 3)), (7, .ref (A 4)), (8, .ref (A 5)), (9, .int 1), (10, .int (nI day)), (11, .int (nI i)), (16, .int (nI p2))]) hx hb d_law_681 hl (by decide) rfl (fun ls hl => ?_)
        refine lv_iload hx hb d_law_683 (lv_at hl 11 rfl) ?_
        refine lv_aload_n hx hb d_law_685 rfl (lv_at hl 3 rfl) ?_
        refine lv_iload hx hb d_law_686 (lv_at hl 14 rfl) ?_
        refine gw_calli (gw_runSW (As := [.ref o, .int (nI p2)]) (rest := [.int 1]) ⟨hx, hb, hml, hown, hts⟩ (c_Law_placeOf l E D cI cO cZ z0 M hf hp2 hJ1 hJ2 hJ3) (gw_cwSW 2 hts (gT_gi0 wm_608) rfl rfl rfl (hT _ wm_22) (hT _ wm_606) (hT _ wm_607) ⟨rfl, rfl, rfl⟩ ⟨wq_606, wq_607, wq_22⟩ (by decide +kernel) ⟨Nat.le_of_ble_eq_true rfl, Nat.le_of_ble_eq_true rfl⟩) hF hG rfl hl.1 rfl (Nat.le_of_ble_eq_true rfl) d_law_688 ⟨(lb_rc (by omega)), (lb_rs (by omega))⟩) hG (fun r M3 H locs hp hG => ?_)
        rw [hp.1]
        replace hG := gw_nm hp.2.symm hG
        rw [if_neg hJ]
        refine lv_iload hx hb d_law_691 (lv_at hl 1 rfl) ?_
        refine lv_icmp_ne (tgt := 742) hx hb d_law_693 (by decide) (fun z_ => absurd (rfl) z_) (fun c_693 => ?_)
        refine lv_aload_n hx hb d_law_696 rfl (lv_at hl 3 rfl) ?_
        refine lv_iload hx hb d_law_697 (lv_at hl 14 rfl) ?_
        refine gw_calli (gw_runSW (As := [.ref o, .int (nI p2)]) (rest := [.int 1]) ⟨hx, hb, hml, hown, hts⟩ (c_Law_fatigue l E D cI cO cZ z0 M hf hp2) (gw_cwSW 2 hts (gT_gi0 wm_653) rfl rfl rfl (hT _ wm_22) (hT _ wm_651) (hT _ wm_652) ⟨rfl, rfl, rfl⟩ ⟨wq_651, wq_652, wq_22⟩ (by decide +kernel) ⟨Nat.le_of_ble_eq_true rfl, Nat.le_of_ble_eq_true rfl⟩) hF hG rfl hl.1 rfl (Nat.le_of_ble_eq_true rfl) d_law_699 ⟨(lb_rc (by omega)), (lb_rs (by omega))⟩) hG (fun r M4 H locs hp hG => ?_)
        rw [hp.1]
        replace hG := gw_nm hp.2.symm hG
        refine lv_aload hx hb d_law_702 (lv_at hl 7 rfl) ?_
        refine lv_iload hx hb d_law_704 (lv_at hl 14 rfl) ?_
        refine gw_iald hx hb hK hG (h6.2.2.1) (vp_in_nI (by omega) (by omega)) d_law_706 ?_
        rw [nI_clamp (n := p2) (by omega), r2 p2 hp2]
        refine lv_icmp_ne (tgt := 742) hx hb d_law_707 (by decide) (fun z_ => absurd (rfl) z_) (fun c_707 => ?_)
        refine lv_aload_n hx hb d_law_710 rfl (lv_at hl 3 rfl) ?_
        refine lv_iload hx hb d_law_711 (lv_at hl 14 rfl) ?_
        refine gw_calli (gw_runSW (As := [.ref o, .int (nI p2)]) (rest := [.int 1]) ⟨hx, hb, hml, hown, hts⟩ (c_Law_hurt l E D cI cO cZ z0 M hf hp2) (gw_cwSW 2 hts (gT_gi0 wm_660) rfl rfl rfl (hT _ wm_22) (hT _ wm_658) (hT _ wm_659) ⟨rfl, rfl, rfl⟩ ⟨wq_658, wq_659, wq_22⟩ (by decide +kernel) ⟨Nat.le_of_ble_eq_true rfl, Nat.le_of_ble_eq_true rfl⟩) hF hG rfl hl.1 rfl (Nat.le_of_ble_eq_true rfl) d_law_713 ⟨(lb_rc (by omega)), (lb_rs (by omega))⟩) hG (fun r M5 H locs hp hG => ?_)
        rw [hp.1]
        replace hG := gw_nm hp.2.symm hG
        refine lv_aload hx hb d_law_716 (lv_at hl 8 rfl) ?_
        refine lv_iload hx hb d_law_718 (lv_at hl 14 rfl) ?_
        refine gw_iald hx hb hK hG (h6.2.2.2.1) (vp_in_nI (by omega) (by omega)) d_law_720 ?_
        rw [nI_clamp (n := p2) (by omega), r3 p2 hp2]
        refine lv_icmp_ne (tgt := 742) hx hb d_law_721 (by decide) (fun z_ => absurd (rfl) z_) (fun c_721 => ?_)
        refine lv_aload_n hx hb d_law_724 rfl (lv_at hl 3 rfl) ?_
        refine lv_iload hx hb d_law_725 (lv_at hl 14 rfl) ?_
        refine gw_calli (gw_runSW (As := [.ref o, .int (nI p2)]) (rest := [.int 1]) ⟨hx, hb, hml, hown, hts⟩ (c_Law_lost l E D cI cO cZ z0 M hf hp2) (gw_cwSW 2 hts (gT_gi0 wm_667) rfl rfl rfl (hT _ wm_22) (hT _ wm_665) (hT _ wm_666) ⟨rfl, rfl, rfl⟩ ⟨wq_665, wq_666, wq_22⟩ (by decide +kernel) ⟨Nat.le_of_ble_eq_true rfl, Nat.le_of_ble_eq_true rfl⟩) hF hG rfl hl.1 rfl (Nat.le_of_ble_eq_true rfl) d_law_727 ⟨(lb_rc (by omega)), (lb_rs (by omega))⟩) hG (fun r M6 H locs hp hG => ?_)
        rw [hp.1]
        replace hG := gw_nm hp.2.symm hG
        refine lv_aload hx hb d_law_730 (lv_at hl 9 rfl) ?_
        refine lv_iload hx hb d_law_732 (lv_at hl 14 rfl) ?_
        refine gw_iald hx hb hK hG (h6.2.2.2.2.1) (vp_in_nI (by omega) (by omega)) d_law_734 ?_
        rw [nI_clamp (n := p2) (by omega), r4 p2 hp2]
        refine lv_icmp_ne (tgt := 742) hx hb d_law_735 (by decide) (fun z_ => absurd (rfl) z_) (fun c_735 => ?_)
        refine lv_iconst (v := 1) hx hb d_law_738 (by decide) ?_
        refine lv_goto (tgt := 743) hx hb d_law_739 (by decide) ?_
        refine lv_iand hx hb d_law_743 ?_
        rw [show (1 : Int32) &&& 1 = 1 from rfl]
        refine lv_istore (lv' := [(9, .int 1), (15, .int (p_sum S.2.2 (p2 + 1))), (17, .int (-1)), (0, .ref sb), (1, .ref o), (2, .int (nI n)), (3, .ref (A 0)), (4, .ref (A 1)), (5, .ref (A 2)), (6, .ref (A 3)), (7, .ref (A 4)), (8, .ref (A 5)), (10, .int (nI day)), (11, .int (nI i)), (16, .int (nI p2))]) hx hb d_law_744 hl (by decide) rfl (fun ls hl => ?_)
        refine lv_iload hx hb d_law_746 (lv_at hl 0 rfl) ?_
        refine lv_aload_n hx hb d_law_748 rfl (lv_at hl 4 rfl) ?_
        refine lv_iload hx hb d_law_749 (lv_at hl 14 rfl) ?_
        refine gw_calli (gw_runSW (As := [.ref o, .int (nI p2)]) (rest := [.int 1]) ⟨hx, hb, hml, hown, hts⟩ (c_Law_errorOf_x l E D cI cO cZ z0 M hst hf hp2 hJ1 hJ2 hJ3 hJ) (gw_cwSW 2 hts (gT_gi0 wm_615) rfl rfl rfl (hT _ wm_22) (hT _ wm_613) (hT _ wm_614) ⟨rfl, rfl, rfl⟩ ⟨wq_613, wq_614, wq_22⟩ (by decide +kernel) ⟨Nat.le_of_ble_eq_true rfl, Nat.le_of_ble_eq_true rfl⟩) hF hG rfl hl.1 rfl (Nat.le_of_ble_eq_true rfl) d_law_751 ⟨(lb_rc (by omega)), (lb_rs (by omega))⟩) hG (fun r M7 H locs hp hG => ?_)
        rw [hp.1]
        replace hG := gw_nm hp.2.symm hG
        refine lv_iload hx hb d_law_754 (lv_at hl 2 rfl) ?_
        refine lv_if_ge (tgt := 764) hx hb d_law_756 (by decide) (fun z_ => absurd z_ ((by decide))) (fun c_756 => ?_)
        refine lv_ldc hx hb hown (hT _ wm_503) d_law_759 ?_
        refine lv_goto (tgt := 769) hx hb d_law_761 (by decide) ?_
        refine lv_icmp_ne (tgt := 811) hx hb d_law_769 (by decide) (fun z_ => absurd (rfl) z_) (fun c_769 => ?_)
        refine lv_aload_n hx hb d_law_772 rfl (lv_at hl 4 rfl) ?_
        refine lv_iload hx hb d_law_773 (lv_at hl 14 rfl) ?_
        refine gw_calli (gw_runSW (As := [.ref o, .int (nI p2)]) (rest := [.int 1]) ⟨hx, hb, hml, hown, hts⟩ (c_Law_strokeOf_x l E D cI cO cZ z0 M hst hf hp2 hJ1 hJ2 hJ3 hJ) (gw_cwSW 2 hts (gT_gi0 wm_642) rfl rfl rfl (hT _ wm_22) (hT _ wm_640) (hT _ wm_641) ⟨rfl, rfl, rfl⟩ ⟨wq_640, wq_641, wq_22⟩ (by decide +kernel) ⟨Nat.le_of_ble_eq_true rfl, Nat.le_of_ble_eq_true rfl⟩) hF hG rfl hl.1 rfl (Nat.le_of_ble_eq_true rfl) d_law_775 ⟨(lb_rc (by omega)), (lb_rs (by omega))⟩) hG (fun r M8 H locs hp hG => ?_)
        rw [hp.1]
        replace hG := gw_nm hp.2.symm hG
        refine lv_iload hx hb d_law_778 (lv_at hl 2 rfl) ?_
        refine lv_if_ge (tgt := 788) hx hb d_law_780 (by decide) (fun z_ => absurd z_ ((by decide))) (fun c_780 => ?_)
        refine lv_ldc hx hb hown (hT _ wm_503) d_law_783 ?_
        refine lv_goto (tgt := 804) hx hb d_law_785 (by decide) ?_
        refine lv_icmp_ne (tgt := 811) hx hb d_law_804 (by decide) (fun z_ => absurd (rfl) z_) (fun c_804 => ?_)
        refine lv_iconst (v := 1) hx hb d_law_807 (by decide) ?_
        refine lv_goto (tgt := 812) hx hb d_law_808 (by decide) ?_
        refine lv_iand hx hb d_law_812 ?_
        rw [show (1 : Int32) &&& 1 = 1 from rfl]
        refine lv_istore (lv' := [(9, .int 1), (15, .int (p_sum S.2.2 (p2 + 1))), (17, .int (-1)), (0, .ref sb), (1, .ref o), (2, .int (nI n)), (3, .ref (A 0)), (4, .ref (A 1)), (5, .ref (A 2)), (6, .ref (A 3)), (7, .ref (A 4)), (8, .ref (A 5)), (10, .int (nI day)), (11, .int (nI i)), (16, .int (nI p2))]) hx hb d_law_813 hl (by decide) rfl (fun ls hl => ?_)
        refine lv_iinc (v := nI (p2 + 1)) (lv' := [(16, .int (nI (p2 + 1))), (9, .int 1), (15, .int (p_sum S.2.2 (p2 + 1))), (17, .int (-1)), (0, .ref sb), (1, .ref o), (2, .int (nI n)), (3, .ref (A 0)), (4, .ref (A 1)), (5, .ref (A 2)), (6, .ref (A 3)), (7, .ref (A 4)), (8, .ref (A 5)), (10, .int (nI day)), (11, .int (nI i))]) hx hb d_law_815 hl (k := 14) rfl (nI_succ (p2)).symm (by decide) rfl (fun ls hl => ?_)
        refine lv_goto (tgt := 658) hx hb d_law_818 (by decide) ?_
        refine W.widen (k := k + 2 * (p2 + 1)) (n := q + 12 * (p2 + 1)) (by omega) (by omega) ?_
        exact ih (p2 + 1) (by omega) _ _ _ _ rfl hG (lv_sub hl [4, 5, 6, 7, 8, 9, 10, 11, 12, 1, 13, 14, 2, 0] rfl)
  exact loopC _ _ (Nat.zero_add n) M _ _ _ rfl hG (lv_sub hl [2, 3, 4, 5, 6, 7, 8, 9, 10, 11, 12, 13, 1, 0] rfl)
set_option maxHeartbeats 4000000 in
set_option maxRecDepth 100000 in
theorem lb_thirty {p : Program} {l : Launch} {e : Env} {s : State} {m : MethodId} {args : Array Value} {below : List Frame} {meth : Method} {c : Code} {Q : State → Prop} {E : Nat} {D : va_G} {cI cO cZ : ClassId} {z0 sb sL : Nat} {xs : Nat → Int32} (C : lb_C l p s m args c E D cI cO cZ z0 sb sL xs) {M : gM} {H : Heap} {locs : List Loc} {ls : Array Slot} {k q : Nat} (hkk : k ≤ 400000) (hqq : q ≤ 4000000) {A : Nat → Nat} {o n : Nat} {S : gS} {Z ad bn : Nat → Nat} (hn2 : 2 ≤ n) (hn7 : n ≤ 7) (hk3 : k ≤ 300000) (hq3 : q ≤ 3000000) (hf : gw_fa z0 cO M o n (nI 0) S Z ad bn) (har : gw_ar cI M A n S) (hiv : p_iv n 0 S) (hret : ∀ (M1 : gM) (H : Heap) (locs : List Loc) (ls : Array Slot) (c2 n2 : Nat), c2 ≤ 500000 → n2 ≤ 5000000 → gw_H E D M1 s H locs → W p l e room_1 s m args below meth c H locs c2 n2 Q (F0 m 878 ls [.int 1])) (hG : gw_H E D M s H locs) (hl : lv_has ls 19 [(0, .ref sb), (1, .ref o), (2, .int (nI n)), (3, .ref (A 0)), (4, .ref (A 1)), (5, .ref (A 2)), (6, .ref (A 3)), (7, .ref (A 4)), (8, .ref (A 5)), (9, .int 1), (10, .int (nI 0)), (11, .int (nI 0))]) : W p l e room_1 s m args below meth c H locs k q Q (F0 m 182 ls []) := by
  obtain ⟨hx, hb, hml, hts, hown, hst, hF, hX, hsb, hsL⟩ := id C
  have hK := hF.1
  have hT := gT_hts hts
  have loopM : ∀ (d p2 : Nat), p2 + d = 30 → ∀ (X : gM) (H : Heap) (locs : List Loc) (ls : Array Slot) (S2 : gS) (Z2 : Nat → Nat) (dy : Nat), (dy ≤ 4 * p2 ∧ gw_fa z0 cO X o n (nI dy) S2 Z2 ad bn ∧ gw_ar cI X A n S2 ∧ p_iv n (200 * p2) S2) → gw_H E D X s H locs → lv_has ls 19 [(0, .ref sb), (1, .ref o), (2, .int (nI n)), (3, .ref (A 0)), (4, .ref (A 1)), (5, .ref (A 2)), (6, .ref (A 3)), (7, .ref (A 4)), (8, .ref (A 5)), (9, .int 1), (10, .int (nI dy)), (11, .int (nI p2))] → W p l e room_1 s m args below meth c H locs (k + 200 * p2) (q + 1200 * p2) Q (F0 m 182 ls []) := by
    intro d
    induction d with
    | zero =>
      intro p2 hi X H locs ls S2 Z2 dy hI hG hl
      obtain ⟨hdy, hfX, hXar, hXiv⟩ := hI
      refine lv_iload hx hb d_law_182 (lv_at hl 11 rfl) ?_
      refine lv_bipush (v := 30) hx hb d_law_184 (by decide) ?_
      refine lv_icmp_ge (tgt := 851) hx hb d_law_186 (by decide) (fun c_186 => ?_) (fun z_ => absurd ((by rw [show p2 = 30 by omega]; decide)) z_)
      refine lv_iload hx hb d_law_851 (lv_at hl 9 rfl) ?_
      refine lv_if_eq (tgt := 877) hx hb d_law_853 (by decide) (fun z_ => absurd z_ ((by decide))) (fun c_853 => ?_)
      refine lv_aload_n hx hb d_law_856 rfl (lv_at hl 1 rfl) ?_
      refine lv_iload_n hx hb d_law_857 rfl (lv_at hl 2 rfl) ?_
      refine gw_calli (gw_runSW (As := [.ref o, .int (nI n)]) (rest := []) ⟨hx, hb, hml, hown, hts⟩ (c_Law_placeOf_x l E D cI cO cZ z0 X hst hfX (i := n) (Nat.le_refl _) (by omega)) (gw_cwSW 2 hts (gT_gi0 wm_608) rfl rfl rfl (hT _ wm_22) (hT _ wm_606) (hT _ wm_607) ⟨rfl, rfl, rfl⟩ ⟨wq_606, wq_607, wq_22⟩ (by decide +kernel) ⟨Nat.le_of_ble_eq_true rfl, Nat.le_of_ble_eq_true rfl⟩) hF hG rfl hl.1 rfl (Nat.le_of_ble_eq_true rfl) d_law_858 ⟨(lb_rc (by omega)), (lb_rs (by omega))⟩) hG (fun r M1 H locs hp hG => ?_)
      rw [hp.1]
      replace hG := gw_nm hp.2.symm hG
      refine lv_ldc hx hb hown (hT _ wm_502) d_law_861 ?_
      refine lv_icmp_ne (tgt := 877) hx hb d_law_863 (by decide) (fun z_ => absurd (rfl) z_) (fun c_863 => ?_)
      refine lv_aload_n hx hb d_law_866 rfl (lv_at hl 1 rfl) ?_
      refine gw_calli (gw_runV (As := []) (rest := []) ⟨hx, hb, hml, hown, hts⟩ (c_Row_isSound l E D cI cO cZ z0 X hfX hXiv.2.2.2.2) (gw_cwV 0 hts (gT_gi0 wm_377) rfl rfl rfl (hT _ wm_23) (hT _ wm_374) (hT _ wm_375) (hT _ wm_376) (by decide +kernel) ⟨Nat.le_of_ble_eq_true rfl, Nat.le_of_ble_eq_true rfl⟩) hF hG rfl hfX.1 rfl hl.1 rfl (Nat.le_of_ble_eq_true rfl) d_law_867 ⟨(lb_rc (by omega)), (lb_rs (by omega))⟩) hG (fun r M2 H locs hp hG => ?_)
      rw [hp.1]
      replace hG := gw_nm hp.2.symm hG
      refine lv_if_eq (tgt := 877) hx hb d_law_870 (by decide) (fun z_ => absurd z_ ((by decide))) (fun c_870 => ?_)
      refine lv_iconst (v := 1) hx hb d_law_873 (by decide) ?_
      refine lv_goto (tgt := 878) hx hb d_law_874 (by decide) ?_
      exact hret _ _ _ _ _ _ (by omega) (by omega) hG
    | succ d ih =>
      intro p2 hi X H locs ls S2 Z2 dy hI hG hl
      obtain ⟨hdy, hfX, hXar, hXiv⟩ := hI
      refine lv_iload hx hb d_law_182 (lv_at hl 11 rfl) ?_
      refine lv_bipush (v := 30) hx hb d_law_184 (by decide) ?_
      refine lv_icmp_ge (tgt := 851) hx hb d_law_186 (by decide) (fun z_ => absurd z_ ((fun z => absurd ((nI_leI (a := 30) (by decide) (by omega)).mp z) (by omega)))) (fun c_186 => ?_)
      refine lv_aload_n hx hb d_law_189 rfl (lv_at hl 0 rfl) ?_
      refine lv_bipush (v := 10) hx hb d_law_190 (by decide) ?_
      refine lv_iload hx hb d_law_192 (lv_at hl 11 rfl) ?_
      refine lv_iadd hx hb d_law_194 ?_
      rw [show 10 + nI p2 = (nI (10 + p2)) from nI_add 10 p2]
      refine lv_bipush (v := 10) hx hb d_law_195 (by decide) ?_
      refine gw_calli (gw_runSs (As := [.ref sb, .int (nI (10 + p2)), .int (nI (10))]) (rest := []) ⟨hx, hb, hml, hown, hts⟩ (c_Law_in l E D cI cO cZ z0 X hsL (i := 10 + p2) (k := 10) (by omega) (by decide) (by decide)) (gw_cwS 3 hts (gT_gi0 wm_760) rfl rfl rfl (hT _ wm_22) (hT _ wm_758) (hT _ wm_759) (by decide +kernel) ⟨Nat.le_of_ble_eq_true rfl, Nat.le_of_ble_eq_true rfl⟩) hF hG hX hsb rfl hl.1 rfl (Nat.le_of_ble_eq_true rfl) d_law_197 ⟨(lb_rc (by omega)), (lb_rs (by omega))⟩) hG (fun r_ M_ H locs hp_ hG => ?_)
      obtain ⟨⟨act, hact, e_r⟩, e_M⟩ := hp_
      replace hG := gw_nm e_M.symm hG
      rw [e_r]
      refine lv_istore (lv' := [(12, .int (nI act)), (0, .ref sb), (1, .ref o), (2, .int (nI n)), (3, .ref (A 0)), (4, .ref (A 1)), (5, .ref (A 2)), (6, .ref (A 3)), (7, .ref (A 4)), (8, .ref (A 5)), (9, .int 1), (10, .int (nI dy)), (11, .int (nI p2))]) hx hb d_law_200 hl (by decide) rfl (fun ls hl => ?_)
      refine lv_aload_n hx hb d_law_202 rfl (lv_at hl 1 rfl) ?_
      refine lv_bipush (v := 50) hx hb d_law_203 (by decide) ?_
      refine lv_iload hx hb d_law_205 (lv_at hl 12 rfl) ?_
      refine lv_iadd hx hb d_law_207 ?_
      rw [show 50 + nI p2 = (nI (50 + p2)) from nI_add 50 p2]
      refine lv_iload_n hx hb d_law_208 rfl (lv_at hl 3 rfl) ?_
      refine gw_calli (gw_runSs (As := [.ref sb, .int (nI (50 + p2)), .int (nI (n))]) (rest := []) ⟨hx, hb, hml, hown, hts⟩ (c_Law_in l E D cI cO cZ z0 X hsL (i := 50 + p2) (k := n) (by omega) (by omega) (by omega)) (gw_cwS 3 hts (gT_gi0 wm_760) rfl rfl rfl (hT _ wm_22) (hT _ wm_758) (hT _ wm_759) (by decide +kernel) ⟨Nat.le_of_ble_eq_true rfl, Nat.le_of_ble_eq_true rfl⟩) hF hG hX hsb rfl hl.1 rfl (Nat.le_of_ble_eq_true rfl) d_law_209 ⟨(lb_rc (by omega)), (lb_rs (by omega))⟩) hG (fun r_ M_ H locs hp_ hG => ?_)
      obtain ⟨⟨h, hh, e_r⟩, e_M⟩ := hp_
      replace hG := gw_nm e_M.symm hG
      rw [e_r]
      refine lv_istore (lv' := [(13, .int (nI h)), (12, .int (nI act)), (0, .ref sb), (1, .ref o), (2, .int (nI n)), (3, .ref (A 0)), (4, .ref (A 1)), (5, .ref (A 2)), (6, .ref (A 3)), (7, .ref (A 4)), (8, .ref (A 5)), (9, .int 1), (10, .int (nI dy)), (11, .int (nI p2))]) hx hb d_law_212 hl (by decide) rfl (fun ls hl => ?_)
      refine lv_aload_n hx hb d_law_214 rfl (lv_at hl 2 rfl) ?_
      refine lv_bipush (v := 90) hx hb d_law_215 (by decide) ?_
      refine lv_iload hx hb d_law_217 (lv_at hl 13 rfl) ?_
      refine lv_iadd hx hb d_law_219 ?_
      rw [show 90 + nI p2 = (nI (90 + p2)) from nI_add 90 p2]
      refine lv_bipush (v := 100) hx hb d_law_220 (by decide) ?_
      refine gw_calli (gw_runSs (As := [.ref sb, .int (nI (90 + p2)), .int (nI (100))]) (rest := []) ⟨hx, hb, hml, hown, hts⟩ (c_Law_in l E D cI cO cZ z0 X hsL (i := 90 + p2) (k := 100) (by omega) (by decide) (by decide)) (gw_cwS 3 hts (gT_gi0 wm_760) rfl rfl rfl (hT _ wm_22) (hT _ wm_758) (hT _ wm_759) (by decide +kernel) ⟨Nat.le_of_ble_eq_true rfl, Nat.le_of_ble_eq_true rfl⟩) hF hG hX hsb rfl hl.1 rfl (Nat.le_of_ble_eq_true rfl) d_law_222 ⟨(lb_rc (by omega)), (lb_rs (by omega))⟩) hG (fun r_ M_ H locs hp_ hG => ?_)
      obtain ⟨⟨x, hx100, e_r⟩, e_M⟩ := hp_
      replace hG := gw_nm e_M.symm hG
      rw [e_r]
      refine lv_istore (lv' := [(14, .int (nI x)), (13, .int (nI h)), (12, .int (nI act)), (0, .ref sb), (1, .ref o), (2, .int (nI n)), (3, .ref (A 0)), (4, .ref (A 1)), (5, .ref (A 2)), (6, .ref (A 3)), (7, .ref (A 4)), (8, .ref (A 5)), (9, .int 1), (10, .int (nI dy)), (11, .int (nI p2))]) hx hb d_law_225 hl (by decide) rfl (fun ls hl => ?_)
      have K652 : ∀ (M' : gM) (H : Heap) (locs : List Loc) (ls : Array Slot) (S' : gS) (Z' : Nat → Nat) (day' : Nat), day' ≤ dy + 4 → gw_fa z0 cO M' o n (nI day') S' Z' ad bn → gw_ar cI M' A n S' → p_iv n (200 * p2 + 200) S' → gw_H E D M' s H locs → lv_has ls 19 [(0, .ref sb), (1, .ref o), (2, .int (nI n)), (3, .ref (A 0)), (4, .ref (A 1)), (5, .ref (A 2)), (6, .ref (A 3)), (7, .ref (A 4)), (8, .ref (A 5)), (9, .int 1), (10, (.int (nI day'))), (11, .int (nI p2))] → W p l e room_1 s m args below meth c H locs (k + 200 * p2 + 100) (q + 1200 * p2 + 600) Q (F0 m 652 ls []) := by
        intro M' H locs ls S' Z' day' h1 h2 h3 h4 hG hl
        refine lb_check C (by omega) (by omega) hn2 hn7 h2 h3 h4 (by omega) (by omega) (fun H locs ls hG hl => ?_) hG hl
        refine W.widen (k := k + 200 * (p2 + 1)) (n := q + 1200 * (p2 + 1)) (by omega) (by omega) ?_
        exact ih (p2 + 1) (by omega) _ _ _ _ _ _ _ ⟨by omega, h2, h3, h4.mono (by omega)⟩ hG hl
      refine lv_iload hx hb d_law_227 (lv_at hl 2 rfl) ?_
      refine lv_iconst (v := 4) hx hb d_law_229 (by decide) ?_
      refine lv_icmp_ge (tgt := 345) hx hb d_law_230 (by decide) (fun c_230 => ?_) (fun c_230 => ?_)
      · skip
        refine lv_iload hx hb d_law_345 (lv_at hl 2 rfl) ?_
        refine lv_iconst (v := 4) hx hb d_law_347 (by decide) ?_
        refine lv_icmp_ne (tgt := 411) hx hb d_law_348 (by decide) (fun c_348 => ?_) (fun c_348 => ?_)
        · skip
          refine lv_iload hx hb d_law_411 (lv_at hl 2 rfl) ?_
          refine lv_bipush (v := 9) hx hb d_law_413 (by decide) ?_
          refine lv_icmp_ge (tgt := 530) hx hb d_law_415 (by decide) (fun c_415 => ?_) (fun c_415 => ?_)
          · skip
            exact lb_act_pass C (by omega) (by omega) hn2 hn7 hfX hXar hXiv (by omega) (by omega) hh hx100 K652 hG (lv_sub hl [3, 4, 5, 6, 7, 8, 9, 10, 11, 12, 13, 14, 1, 0] rfl)
          · skip
            exact lb_act_prac C (by omega) (by omega) hn2 hn7 hfX hXar hXiv (by omega) (by omega) hh hx100 K652 hG (lv_sub hl [3, 4, 5, 6, 7, 8, 9, 10, 11, 12, 13, 14, 1, 0] rfl)
        · skip
          exact lb_act_leave C (by omega) (by omega) hn2 hn7 hfX hXar hXiv (by omega) (by omega) hh (x := x) K652 hG (lv_sub hl [3, 4, 5, 6, 7, 8, 9, 10, 11, 12, 13, 14, 1, 0] rfl)
      · skip
        exact lb_act_stand C (by omega) (by omega) hn2 hn7 hfX hXar hXiv (by omega) (by omega) hh (x := x) K652 hG (lv_sub hl [3, 4, 5, 6, 7, 8, 9, 10, 11, 12, 13, 14, 1, 0] rfl)
  exact loopM _ _ (Nat.zero_add 30) M _ _ _ S Z 0 ⟨Nat.le_refl _, hf, har, hiv⟩ hG (lv_sub hl [0, 1, 2, 3, 4, 5, 6, 7, 8, 9, 10, 11] rfl)
