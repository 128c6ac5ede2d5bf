theorem d_Row_addHand_0 : decode b_Row_addHand 0 = .ok (.iload_n 1, 1) := by decide +kernel
theorem d_Row_addHand_1 : decode b_Row_addHand 1 = .ok (.iconst 1, 1) := by decide +kernel
theorem d_Row_addHand_2 : decode b_Row_addHand 2 = .ok (.bipush 9, 2) := by decide +kernel
theorem d_Row_addHand_4 : decode b_Row_addHand 4 = .ok (.invokestatic 77, 3) := by decide +kernel
theorem d_Row_addHand_7 : decode b_Row_addHand 7 = .ok (.iload_n 2, 1) := by decide +kernel
theorem d_Row_addHand_8 : decode b_Row_addHand 8 = .ok (.bipush (-3), 2) := by decide +kernel
theorem d_Row_addHand_10 : decode b_Row_addHand 10 = .ok (.iconst 3, 1) := by decide +kernel
theorem d_Row_addHand_11 : decode b_Row_addHand 11 = .ok (.invokestatic 77, 3) := by decide +kernel
theorem d_Row_addHand_14 : decode b_Row_addHand 14 = .ok (.aload_n 0, 1) := by decide +kernel
theorem d_Row_addHand_15 : decode b_Row_addHand 15 = .ok (.getfield 10, 3) := by decide +kernel
theorem d_Row_addHand_18 : decode b_Row_addHand 18 = .ok (.invokevirtual 81, 3) := by decide +kernel
theorem d_Row_addHand_21 : decode b_Row_addHand 21 = .ok (.bipush 8, 2) := by decide +kernel
theorem d_Row_addHand_23 : decode b_Row_addHand 23 = .ok (.if_icmp .lt 13, 3) := by decide +kernel
theorem d_Row_addHand_36 : decode b_Row_addHand 36 = .ok (.aload_n 0, 1) := by decide +kernel
theorem d_Row_addHand_37 : decode b_Row_addHand 37 = .ok (.getfield 10, 3) := by decide +kernel
theorem wm_458 : Cond.instantiable "ThresholdRow$Hand" 10 ∈ gT := gT_m (List.mem_of_getElem? (i := 458) (by decide +kernel)) (by decide +kernel)
theorem d_Row_addHand_40 : decode b_Row_addHand 40 = .ok (.new 92, 3) := by decide +kernel
theorem d_Row_addHand_43 : decode b_Row_addHand 43 = .ok (.dup, 1) := by decide +kernel
theorem d_Row_addHand_44 : decode b_Row_addHand 44 = .ok (.iload_n 1, 1) := by decide +kernel
theorem d_Row_addHand_45 : decode b_Row_addHand 45 = .ok (.iload_n 2, 1) := by decide +kernel
theorem wm_461 : Cond.code ⟨"ThresholdRow$Hand", "<init>", "(II)V"⟩ prog_5_method_1_code 3 none ∈ gT := gT_m (List.mem_of_getElem? (i := 461) (by decide +kernel)) (by decide +kernel)
theorem wm_459 : Cond.methodLink "ThresholdRow" 94 ⟨"ThresholdRow$Hand", "<init>", "(II)V"⟩ ∈ gT := gT_m (List.mem_of_getElem? (i := 459) (by decide +kernel)) (by decide +kernel)
theorem d_Row_addHand_46 : decode b_Row_addHand 46 = .ok (.invokespecial 94, 3) := by decide +kernel
theorem wm_460 : Cond.instanceMethod ⟨"ThresholdRow$Hand", "<init>", "(II)V"⟩ ∈ gT := gT_m (List.mem_of_getElem? (i := 460) (by decide +kernel)) (by decide +kernel)
theorem wm_175 : Cond.methodLink "ThresholdRow" 73 ⟨"java/util/ArrayList", "add", "(Ljava/lang/Object;)Z"⟩ ∈ gT := gT_m (List.mem_of_getElem? (i := 175) (by decide +kernel)) (by decide +kernel)
theorem d_Row_addHand_49 : decode b_Row_addHand 49 = .ok (.invokevirtual 73, 3) := by decide +kernel
theorem d_Row_addHand_52 : decode b_Row_addHand 52 = .ok (.pop, 1) := by decide +kernel
theorem d_Row_addHand_53 : decode b_Row_addHand 53 = .ok (.aload_n 0, 1) := by decide +kernel
theorem d_Row_addHand_54 : decode b_Row_addHand 54 = .ok (.getfield 10, 3) := by decide +kernel
theorem d_Row_addHand_57 : decode b_Row_addHand 57 = .ok (.invokevirtual 81, 3) := by decide +kernel
theorem d_Row_addHand_60 : decode b_Row_addHand 60 = .ok (.iconst 1, 1) := by decide +kernel
theorem d_Row_addHand_61 : decode b_Row_addHand 61 = .ok (.isub, 1) := by decide +kernel
theorem d_Row_addHand_62 : decode b_Row_addHand 62 = .ok (.ireturn, 1) := by decide +kernel
theorem d_Row_meanFatigue_0 : decode b_Row_meanFatigue 0 = .ok (.aload_n 0, 1) := by decide +kernel
theorem d_Row_meanFatigue_1 : decode b_Row_meanFatigue 1 = .ok (.getfield 10, 3) := by decide +kernel
theorem d_Row_meanFatigue_4 : decode b_Row_meanFatigue 4 = .ok (.invokevirtual 81, 3) := by decide +kernel
theorem d_Row_meanFatigue_7 : decode b_Row_meanFatigue 7 = .ok (.istore_n 1, 1) := by decide +kernel
theorem d_Row_meanFatigue_8 : decode b_Row_meanFatigue 8 = .ok (.iload_n 1, 1) := by decide +kernel
theorem d_Row_meanFatigue_9 : decode b_Row_meanFatigue 9 = .ok (.ifCond .gt 14, 3) := by decide +kernel
theorem d_Row_meanFatigue_23 : decode b_Row_meanFatigue 23 = .ok (.iconst 0, 1) := by decide +kernel
theorem d_Row_meanFatigue_24 : decode b_Row_meanFatigue 24 = .ok (.istore_n 2, 1) := by decide +kernel
theorem d_Row_meanFatigue_25 : decode b_Row_meanFatigue 25 = .ok (.iconst 0, 1) := by decide +kernel
theorem d_Row_meanFatigue_26 : decode b_Row_meanFatigue 26 = .ok (.istore_n 3, 1) := by decide +kernel
theorem d_Row_meanFatigue_27 : decode b_Row_meanFatigue 27 = .ok (.iload_n 3, 1) := by decide +kernel
theorem d_Row_meanFatigue_28 : decode b_Row_meanFatigue 28 = .ok (.iload_n 1, 1) := by decide +kernel
theorem d_Row_meanFatigue_29 : decode b_Row_meanFatigue 29 = .ok (.if_icmp .ge 26, 3) := by decide +kernel
theorem d_Row_meanFatigue_55 : decode b_Row_meanFatigue 55 = .ok (.iload_n 2, 1) := by decide +kernel
theorem d_Row_meanFatigue_56 : decode b_Row_meanFatigue 56 = .ok (.i2d, 1) := by decide +kernel
theorem d_Row_meanFatigue_57 : decode b_Row_meanFatigue 57 = .ok (.iload_n 1, 1) := by decide +kernel
theorem d_Row_meanFatigue_58 : decode b_Row_meanFatigue 58 = .ok (.i2d, 1) := by decide +kernel
theorem d_Row_meanFatigue_59 : decode b_Row_meanFatigue 59 = .ok (.ddiv, 1) := by decide +kernel
theorem d_Row_meanFatigue_60 : decode b_Row_meanFatigue 60 = .ok (.dreturn, 1) := by decide +kernel
theorem d_Row_meanFatigue_32 : decode b_Row_meanFatigue 32 = .ok (.iload_n 2, 1) := by decide +kernel
theorem d_Row_meanFatigue_33 : decode b_Row_meanFatigue 33 = .ok (.aload_n 0, 1) := by decide +kernel
theorem d_Row_meanFatigue_34 : decode b_Row_meanFatigue 34 = .ok (.getfield 10, 3) := by decide +kernel
theorem d_Row_meanFatigue_37 : decode b_Row_meanFatigue 37 = .ok (.iload_n 3, 1) := by decide +kernel
theorem d_Row_meanFatigue_38 : decode b_Row_meanFatigue 38 = .ok (.invokevirtual 354, 3) := by decide +kernel
theorem d_Row_meanFatigue_41 : decode b_Row_meanFatigue 41 = .ok (.checkcast 92, 3) := by decide +kernel
theorem d_Row_meanFatigue_44 : decode b_Row_meanFatigue 44 = .ok (.getfield 137, 3) := by decide +kernel
theorem d_Row_meanFatigue_47 : decode b_Row_meanFatigue 47 = .ok (.iadd, 1) := by decide +kernel
theorem d_Row_meanFatigue_48 : decode b_Row_meanFatigue 48 = .ok (.istore_n 2, 1) := by decide +kernel
theorem d_Row_meanFatigue_49 : decode b_Row_meanFatigue 49 = .ok (.iinc 3 1, 3) := by decide +kernel
theorem d_Row_meanFatigue_52 : decode b_Row_meanFatigue 52 = .ok (.goto (-25), 3) := by decide +kernel
theorem d_Row_sumCame_0 : decode b_Row_sumCame 0 = .ok (.iconst 0, 1) := by decide +kernel
theorem d_Row_sumCame_1 : decode b_Row_sumCame 1 = .ok (.istore_n 1, 1) := by decide +kernel
theorem d_Row_sumCame_2 : decode b_Row_sumCame 2 = .ok (.iconst 0, 1) := by decide +kernel
theorem d_Row_sumCame_3 : decode b_Row_sumCame 3 = .ok (.istore_n 2, 1) := by decide +kernel
theorem d_Row_sumCame_4 : decode b_Row_sumCame 4 = .ok (.iload_n 2, 1) := by decide +kernel
theorem d_Row_sumCame_5 : decode b_Row_sumCame 5 = .ok (.aload_n 0, 1) := by decide +kernel
theorem wm_237 : Cond.fieldLink "ThresholdRow" 16 "ThresholdRow" "lots" "Ljava/util/ArrayList;" ∈ gT := gT_m (List.mem_of_getElem? (i := 237) (by decide +kernel)) (by decide +kernel)
theorem d_Row_sumCame_6 : decode b_Row_sumCame 6 = .ok (.getfield 16, 3) := by decide +kernel
theorem d_Row_sumCame_9 : decode b_Row_sumCame 9 = .ok (.invokevirtual 81, 3) := by decide +kernel
theorem d_Row_sumCame_12 : decode b_Row_sumCame 12 = .ok (.if_icmp .ge 26, 3) := by decide +kernel
theorem d_Row_sumCame_38 : decode b_Row_sumCame 38 = .ok (.iload_n 1, 1) := by decide +kernel
theorem d_Row_sumCame_39 : decode b_Row_sumCame 39 = .ok (.ireturn, 1) := by decide +kernel
theorem d_Row_sumEars_0 : decode b_Row_sumEars 0 = .ok (.iconst 0, 1) := by decide +kernel
theorem d_Row_sumEars_1 : decode b_Row_sumEars 1 = .ok (.istore_n 1, 1) := by decide +kernel
theorem d_Row_sumEars_2 : decode b_Row_sumEars 2 = .ok (.iconst 0, 1) := by decide +kernel
theorem d_Row_sumEars_3 : decode b_Row_sumEars 3 = .ok (.istore_n 2, 1) := by decide +kernel
theorem d_Row_sumEars_4 : decode b_Row_sumEars 4 = .ok (.iload_n 2, 1) := by decide +kernel
theorem d_Row_sumEars_5 : decode b_Row_sumEars 5 = .ok (.aload_n 0, 1) := by decide +kernel
theorem d_Row_sumEars_6 : decode b_Row_sumEars 6 = .ok (.getfield 16, 3) := by decide +kernel
theorem d_Row_sumEars_9 : decode b_Row_sumEars 9 = .ok (.invokevirtual 81, 3) := by decide +kernel
theorem d_Row_sumEars_12 : decode b_Row_sumEars 12 = .ok (.if_icmp .ge 26, 3) := by decide +kernel
theorem d_Row_sumEars_38 : decode b_Row_sumEars 38 = .ok (.iload_n 1, 1) := by decide +kernel
theorem d_Row_sumEars_39 : decode b_Row_sumEars 39 = .ok (.ireturn, 1) := by decide +kernel
theorem d_Row_sumHeaps_0 : decode b_Row_sumHeaps 0 = .ok (.iconst 0, 1) := by decide +kernel
theorem d_Row_sumHeaps_1 : decode b_Row_sumHeaps 1 = .ok (.istore_n 1, 1) := by decide +kernel
theorem d_Row_sumHeaps_2 : decode b_Row_sumHeaps 2 = .ok (.iconst 0, 1) := by decide +kernel
theorem d_Row_sumHeaps_3 : decode b_Row_sumHeaps 3 = .ok (.istore_n 2, 1) := by decide +kernel
theorem d_Row_sumHeaps_4 : decode b_Row_sumHeaps 4 = .ok (.iload_n 2, 1) := by decide +kernel
theorem d_Row_sumHeaps_5 : decode b_Row_sumHeaps 5 = .ok (.aload_n 0, 1) := by decide +kernel
theorem d_Row_sumHeaps_6 : decode b_Row_sumHeaps 6 = .ok (.getfield 16, 3) := by decide +kernel
theorem d_Row_sumHeaps_9 : decode b_Row_sumHeaps 9 = .ok (.invokevirtual 81, 3) := by decide +kernel
theorem d_Row_sumHeaps_12 : decode b_Row_sumHeaps 12 = .ok (.if_icmp .ge 26, 3) := by decide +kernel
theorem d_Row_sumHeaps_38 : decode b_Row_sumHeaps 38 = .ok (.iload_n 1, 1) := by decide +kernel
theorem d_Row_sumHeaps_39 : decode b_Row_sumHeaps 39 = .ok (.ireturn, 1) := by decide +kernel
theorem d_Row_heapsSound_0 : decode b_Row_heapsSound 0 = .ok (.iconst 0, 1) := by decide +kernel
theorem d_Row_heapsSound_1 : decode b_Row_heapsSound 1 = .ok (.istore_n 1, 1) := by decide +kernel
theorem d_Row_heapsSound_2 : decode b_Row_heapsSound 2 = .ok (.iload_n 1, 1) := by decide +kernel
theorem d_Row_heapsSound_3 : decode b_Row_heapsSound 3 = .ok (.aload_n 0, 1) := by decide +kernel
theorem d_Row_heapsSound_4 : decode b_Row_heapsSound 4 = .ok (.getfield 16, 3) := by decide +kernel
theorem d_Row_heapsSound_7 : decode b_Row_heapsSound 7 = .ok (.invokevirtual 81, 3) := by decide +kernel
theorem d_Row_heapsSound_10 : decode b_Row_heapsSound 10 = .ok (.if_icmp .ge 45, 3) := by decide +kernel
theorem d_Row_heapsSound_55 : decode b_Row_heapsSound 55 = .ok (.iconst 1, 1) := by decide +kernel
theorem d_Row_heapsSound_56 : decode b_Row_heapsSound 56 = .ok (.ireturn, 1) := by decide +kernel
theorem d_Row_sumBins_0 : decode b_Row_sumBins 0 = .ok (.iconst 0, 1) := by decide +kernel
theorem d_Row_sumBins_1 : decode b_Row_sumBins 1 = .ok (.istore_n 1, 1) := by decide +kernel
theorem d_Row_sumBins_2 : decode b_Row_sumBins 2 = .ok (.iconst 0, 1) := by decide +kernel
theorem d_Row_sumBins_3 : decode b_Row_sumBins 3 = .ok (.istore_n 2, 1) := by decide +kernel
theorem d_Row_sumBins_4 : decode b_Row_sumBins 4 = .ok (.iload_n 2, 1) := by decide +kernel
theorem d_Row_sumBins_5 : decode b_Row_sumBins 5 = .ok (.aload_n 0, 1) := by decide +kernel
theorem wm_238 : Cond.fieldLink "ThresholdRow" 19 "ThresholdRow" "bins" "Ljava/util/ArrayList;" ∈ gT := gT_m (List.mem_of_getElem? (i := 238) (by decide +kernel)) (by decide +kernel)
theorem d_Row_sumBins_6 : decode b_Row_sumBins 6 = .ok (.getfield 19, 3) := by decide +kernel
theorem d_Row_sumBins_9 : decode b_Row_sumBins 9 = .ok (.invokevirtual 81, 3) := by decide +kernel
theorem d_Row_sumBins_12 : decode b_Row_sumBins 12 = .ok (.if_icmp .ge 26, 3) := by decide +kernel
theorem d_Row_sumBins_38 : decode b_Row_sumBins 38 = .ok (.iload_n 1, 1) := by decide +kernel
theorem d_Row_sumBins_39 : decode b_Row_sumBins 39 = .ok (.ireturn, 1) := by decide +kernel
theorem d_Row_sumBins_15 : decode b_Row_sumBins 15 = .ok (.iload_n 1, 1) := by decide +kernel
theorem d_Row_sumBins_16 : decode b_Row_sumBins 16 = .ok (.aload_n 0, 1) := by decide +kernel
theorem d_Row_sumBins_17 : decode b_Row_sumBins 17 = .ok (.getfield 19, 3) := by decide +kernel
theorem d_Row_sumBins_20 : decode b_Row_sumBins 20 = .ok (.iload_n 2, 1) := by decide +kernel
theorem d_Row_sumBins_21 : decode b_Row_sumBins 21 = .ok (.invokevirtual 354, 3) := by decide +kernel
theorem wm_150 : Cond.classLink "ThresholdRow" 70 "ThresholdRow$Bin" ∈ gT := gT_m (List.mem_of_getElem? (i := 150) (by decide +kernel)) (by decide +kernel)
theorem d_Row_sumBins_24 : decode b_Row_sumBins 24 = .ok (.checkcast 70, 3) := by decide +kernel
theorem wm_159 : Cond.fieldLink "ThresholdRow" 268 "ThresholdRow$Bin" "grain" "I" ∈ gT := gT_m (List.mem_of_getElem? (i := 159) (by decide +kernel)) (by decide +kernel)
theorem d_Row_sumBins_27 : decode b_Row_sumBins 27 = .ok (.getfield 268, 3) := by decide +kernel
theorem d_Row_sumBins_30 : decode b_Row_sumBins 30 = .ok (.iadd, 1) := by decide +kernel
theorem d_Row_sumBins_31 : decode b_Row_sumBins 31 = .ok (.istore_n 1, 1) := by decide +kernel
theorem d_Row_sumBins_32 : decode b_Row_sumBins 32 = .ok (.iinc 2 1, 3) := by decide +kernel
theorem d_Row_sumBins_35 : decode b_Row_sumBins 35 = .ok (.goto (-31), 3) := by decide +kernel
theorem d_Row_binsSound_0 : decode b_Row_binsSound 0 = .ok (.iconst 0, 1) := by decide +kernel
theorem d_Row_binsSound_1 : decode b_Row_binsSound 1 = .ok (.istore_n 1, 1) := by decide +kernel
theorem d_Row_binsSound_2 : decode b_Row_binsSound 2 = .ok (.iload_n 1, 1) := by decide +kernel
theorem d_Row_binsSound_3 : decode b_Row_binsSound 3 = .ok (.aload_n 0, 1) := by decide +kernel
theorem d_Row_binsSound_4 : decode b_Row_binsSound 4 = .ok (.getfield 19, 3) := by decide +kernel
theorem d_Row_binsSound_7 : decode b_Row_binsSound 7 = .ok (.invokevirtual 81, 3) := by decide +kernel
theorem d_Row_binsSound_10 : decode b_Row_binsSound 10 = .ok (.if_icmp .ge 62, 3) := by decide +kernel
theorem d_Row_binsSound_72 : decode b_Row_binsSound 72 = .ok (.iconst 1, 1) := by decide +kernel
theorem d_Row_binsSound_73 : decode b_Row_binsSound 73 = .ok (.ireturn, 1) := by decide +kernel
theorem d_Row_binsSound_13 : decode b_Row_binsSound 13 = .ok (.aload_n 0, 1) := by decide +kernel
theorem d_Row_binsSound_14 : decode b_Row_binsSound 14 = .ok (.getfield 19, 3) := by decide +kernel
theorem d_Row_binsSound_17 : decode b_Row_binsSound 17 = .ok (.iload_n 1, 1) := by decide +kernel
theorem d_Row_binsSound_18 : decode b_Row_binsSound 18 = .ok (.invokevirtual 354, 3) := by decide +kernel
theorem d_Row_binsSound_21 : decode b_Row_binsSound 21 = .ok (.checkcast 70, 3) := by decide +kernel
theorem d_Row_binsSound_24 : decode b_Row_binsSound 24 = .ok (.astore_n 2, 1) := by decide +kernel
theorem d_Row_binsSound_25 : decode b_Row_binsSound 25 = .ok (.aload_n 2, 1) := by decide +kernel
theorem wm_161 : Cond.fieldLink "ThresholdRow" 279 "ThresholdRow$Bin" "bruised" "I" ∈ gT := gT_m (List.mem_of_getElem? (i := 161) (by decide +kernel)) (by decide +kernel)
theorem d_Row_binsSound_26 : decode b_Row_binsSound 26 = .ok (.getfield 279, 3) := by decide +kernel
theorem d_Row_binsSound_29 : decode b_Row_binsSound 29 = .ok (.aload_n 2, 1) := by decide +kernel
theorem d_Row_binsSound_30 : decode b_Row_binsSound 30 = .ok (.getfield 268, 3) := by decide +kernel
theorem d_Row_binsSound_33 : decode b_Row_binsSound 33 = .ok (.if_icmp .gt 14, 3) := by decide +kernel
theorem d_Row_binsSound_36 : decode b_Row_binsSound 36 = .ok (.aload_n 2, 1) := by decide +kernel
theorem wm_163 : Cond.fieldLink "ThresholdRow" 280 "ThresholdRow$Bin" "foreign" "I" ∈ gT := gT_m (List.mem_of_getElem? (i := 163) (by decide +kernel)) (by decide +kernel)
theorem d_Row_binsSound_37 : decode b_Row_binsSound 37 = .ok (.getfield 280, 3) := by decide +kernel
theorem d_Row_binsSound_40 : decode b_Row_binsSound 40 = .ok (.aload_n 2, 1) := by decide +kernel
theorem d_Row_binsSound_41 : decode b_Row_binsSound 41 = .ok (.getfield 268, 3) := by decide +kernel
theorem d_Row_binsSound_44 : decode b_Row_binsSound 44 = .ok (.if_icmp .le 5, 3) := by decide +kernel
theorem d_Row_binsSound_49 : decode b_Row_binsSound 49 = .ok (.aload_n 2, 1) := by decide +kernel
theorem d_Row_binsSound_50 : decode b_Row_binsSound 50 = .ok (.getfield 268, 3) := by decide +kernel
theorem d_Row_binsSound_53 : decode b_Row_binsSound 53 = .ok (.ifCond .ne 13, 3) := by decide +kernel
theorem d_Row_binsSound_56 : decode b_Row_binsSound 56 = .ok (.aload_n 2, 1) := by decide +kernel
theorem wm_157 : Cond.fieldLink "ThresholdRow" 264 "ThresholdRow$Bin" "crop" "I" ∈ gT := gT_m (List.mem_of_getElem? (i := 157) (by decide +kernel)) (by decide +kernel)
theorem d_Row_binsSound_57 : decode b_Row_binsSound 57 = .ok (.getfield 264, 3) := by decide +kernel
theorem d_Row_binsSound_60 : decode b_Row_binsSound 60 = .ok (.iconst (-1), 1) := by decide +kernel
theorem d_Row_binsSound_61 : decode b_Row_binsSound 61 = .ok (.if_icmp .eq 5, 3) := by decide +kernel
theorem d_Row_binsSound_66 : decode b_Row_binsSound 66 = .ok (.iinc 1 1, 3) := by decide +kernel
theorem d_Row_binsSound_69 : decode b_Row_binsSound 69 = .ok (.goto (-67), 3) := by decide +kernel
theorem d_Ledger_sumGone_0 : decode b_Ledger_sumGone 0 = .ok (.aload_n 0, 1) := by decide +kernel
theorem wm_121 : Cond.fieldLink "ThresholdRow$Ledger" 7 "ThresholdRow$Ledger" "tithe" "I" ∈ gT := gT_m (List.mem_of_getElem? (i := 121) (by decide +kernel)) (by decide +kernel)
theorem d_Ledger_sumGone_1 : decode b_Ledger_sumGone 1 = .ok (.getfield 7, 3) := by decide +kernel
theorem d_Ledger_sumGone_4 : decode b_Ledger_sumGone 4 = .ok (.aload_n 0, 1) := by decide +kernel
theorem wm_122 : Cond.fieldLink "ThresholdRow$Ledger" 13 "ThresholdRow$Ledger" "gleaned" "I" ∈ gT := gT_m (List.mem_of_getElem? (i := 122) (by decide +kernel)) (by decide +kernel)
theorem d_Ledger_sumGone_5 : decode b_Ledger_sumGone 5 = .ok (.getfield 13, 3) := by decide +kernel
theorem d_Ledger_sumGone_8 : decode b_Ledger_sumGone 8 = .ok (.iadd, 1) := by decide +kernel
theorem d_Ledger_sumGone_9 : decode b_Ledger_sumGone 9 = .ok (.aload_n 0, 1) := by decide +kernel
theorem wm_123 : Cond.fieldLink "ThresholdRow$Ledger" 16 "ThresholdRow$Ledger" "straw" "I" ∈ gT := gT_m (List.mem_of_getElem? (i := 123) (by decide +kernel)) (by decide +kernel)
theorem d_Ledger_sumGone_10 : decode b_Ledger_sumGone 10 = .ok (.getfield 16, 3) := by decide +kernel
theorem d_Ledger_sumGone_13 : decode b_Ledger_sumGone 13 = .ok (.iadd, 1) := by decide +kernel
theorem d_Ledger_sumGone_14 : decode b_Ledger_sumGone 14 = .ok (.aload_n 0, 1) := by decide +kernel
theorem wm_124 : Cond.fieldLink "ThresholdRow$Ledger" 19 "ThresholdRow$Ledger" "blown" "I" ∈ gT := gT_m (List.mem_of_getElem? (i := 124) (by decide +kernel)) (by decide +kernel)
theorem d_Ledger_sumGone_15 : decode b_Ledger_sumGone 15 = .ok (.getfield 19, 3) := by decide +kernel
theorem d_Ledger_sumGone_18 : decode b_Ledger_sumGone 18 = .ok (.iadd, 1) := by decide +kernel
theorem d_Ledger_sumGone_19 : decode b_Ledger_sumGone 19 = .ok (.aload_n 0, 1) := by decide +kernel
theorem wm_125 : Cond.fieldLink "ThresholdRow$Ledger" 22 "ThresholdRow$Ledger" "burnt" "I" ∈ gT := gT_m (List.mem_of_getElem? (i := 125) (by decide +kernel)) (by decide +kernel)
theorem d_Ledger_sumGone_20 : decode b_Ledger_sumGone 20 = .ok (.getfield 22, 3) := by decide +kernel
theorem d_Ledger_sumGone_23 : decode b_Ledger_sumGone 23 = .ok (.iadd, 1) := by decide +kernel
theorem d_Ledger_sumGone_24 : decode b_Ledger_sumGone 24 = .ok (.aload_n 0, 1) := by decide +kernel
theorem wm_126 : Cond.fieldLink "ThresholdRow$Ledger" 25 "ThresholdRow$Ledger" "cleaned" "I" ∈ gT := gT_m (List.mem_of_getElem? (i := 126) (by decide +kernel)) (by decide +kernel)
theorem d_Ledger_sumGone_25 : decode b_Ledger_sumGone 25 = .ok (.getfield 25, 3) := by decide +kernel
theorem d_Ledger_sumGone_28 : decode b_Ledger_sumGone 28 = .ok (.iadd, 1) := by decide +kernel
theorem d_Ledger_sumGone_29 : decode b_Ledger_sumGone 29 = .ok (.aload_n 0, 1) := by decide +kernel
theorem wm_127 : Cond.fieldLink "ThresholdRow$Ledger" 28 "ThresholdRow$Ledger" "eaten" "I" ∈ gT := gT_m (List.mem_of_getElem? (i := 127) (by decide +kernel)) (by decide +kernel)
theorem d_Ledger_sumGone_30 : decode b_Ledger_sumGone 30 = .ok (.getfield 28, 3) := by decide +kernel
theorem d_Ledger_sumGone_33 : decode b_Ledger_sumGone 33 = .ok (.iadd, 1) := by decide +kernel
theorem d_Ledger_sumGone_34 : decode b_Ledger_sumGone 34 = .ok (.aload_n 0, 1) := by decide +kernel
theorem wm_129 : Cond.fieldLink "ThresholdRow$Ledger" 31 "ThresholdRow$Ledger" "ground" "I" ∈ gT := gT_m (List.mem_of_getElem? (i := 129) (by decide +kernel)) (by decide +kernel)
theorem d_Ledger_sumGone_35 : decode b_Ledger_sumGone 35 = .ok (.getfield 31, 3) := by decide +kernel
theorem d_Ledger_sumGone_38 : decode b_Ledger_sumGone 38 = .ok (.iadd, 1) := by decide +kernel
theorem d_Ledger_sumGone_39 : decode b_Ledger_sumGone 39 = .ok (.aload_n 0, 1) := by decide +kernel
theorem wm_130 : Cond.fieldLink "ThresholdRow$Ledger" 34 "ThresholdRow$Ledger" "sold" "I" ∈ gT := gT_m (List.mem_of_getElem? (i := 130) (by decide +kernel)) (by decide +kernel)
theorem d_Ledger_sumGone_40 : decode b_Ledger_sumGone 40 = .ok (.getfield 34, 3) := by decide +kernel
theorem d_Ledger_sumGone_43 : decode b_Ledger_sumGone 43 = .ok (.iadd, 1) := by decide +kernel
theorem d_Ledger_sumGone_44 : decode b_Ledger_sumGone 44 = .ok (.ireturn, 1) := by decide +kernel
theorem d_Row_isSound_0 : decode b_Row_isSound 0 = .ok (.aload_n 0, 1) := by decide +kernel
theorem wm_381 : Cond.code ⟨"ThresholdRow", "sumEars", "()I"⟩ prog_1_method_60_code 3 (some .int) ∈ gT := gT_m (List.mem_of_getElem? (i := 381) (by decide +kernel)) (by decide +kernel)
theorem wm_378 : Cond.methodLink "ThresholdRow" 337 ⟨"ThresholdRow", "sumEars", "()I"⟩ ∈ gT := gT_m (List.mem_of_getElem? (i := 378) (by decide +kernel)) (by decide +kernel)
theorem d_Row_isSound_1 : decode b_Row_isSound 1 = .ok (.invokevirtual 337, 3) := by decide +kernel
theorem wm_380 : Cond.instanceMethod ⟨"ThresholdRow", "sumEars", "()I"⟩ ∈ gT := gT_m (List.mem_of_getElem? (i := 380) (by decide +kernel)) (by decide +kernel)
theorem wm_4 : Cond.selects "ThresholdRow" ⟨"ThresholdRow", "sumEars", "()I"⟩ ⟨"ThresholdRow", "sumEars", "()I"⟩ ∈ gT := gT_m (List.mem_of_getElem? (i := 4) (by decide +kernel)) (by decide +kernel)
theorem d_Row_isSound_4 : decode b_Row_isSound 4 = .ok (.aload_n 0, 1) := by decide +kernel
theorem wm_386 : Cond.code ⟨"ThresholdRow", "sumHeaps", "()I"⟩ prog_1_method_61_code 3 (some .int) ∈ gT := gT_m (List.mem_of_getElem? (i := 386) (by decide +kernel)) (by decide +kernel)
theorem wm_383 : Cond.methodLink "ThresholdRow" 340 ⟨"ThresholdRow", "sumHeaps", "()I"⟩ ∈ gT := gT_m (List.mem_of_getElem? (i := 383) (by decide +kernel)) (by decide +kernel)
theorem d_Row_isSound_5 : decode b_Row_isSound 5 = .ok (.invokevirtual 340, 3) := by decide +kernel
theorem wm_385 : Cond.instanceMethod ⟨"ThresholdRow", "sumHeaps", "()I"⟩ ∈ gT := gT_m (List.mem_of_getElem? (i := 385) (by decide +kernel)) (by decide +kernel)
theorem wm_5 : Cond.selects "ThresholdRow" ⟨"ThresholdRow", "sumHeaps", "()I"⟩ ⟨"ThresholdRow", "sumHeaps", "()I"⟩ ∈ gT := gT_m (List.mem_of_getElem? (i := 5) (by decide +kernel)) (by decide +kernel)
theorem d_Row_isSound_8 : decode b_Row_isSound 8 = .ok (.iadd, 1) := by decide +kernel
theorem d_Row_isSound_9 : decode b_Row_isSound 9 = .ok (.aload_n 0, 1) := by decide +kernel
theorem wm_240 : Cond.fieldLink "ThresholdRow" 32 "ThresholdRow" "drum" "LThresholdRow$Drum;" ∈ gT := gT_m (List.mem_of_getElem? (i := 240) (by decide +kernel)) (by decide +kernel)
theorem d_Row_isSound_10 : decode b_Row_isSound 10 = .ok (.getfield 32, 3) := by decide +kernel
theorem wm_104 : Cond.fieldLink "ThresholdRow" 241 "ThresholdRow$Drum" "carries" "I" ∈ gT := gT_m (List.mem_of_getElem? (i := 104) (by decide +kernel)) (by decide +kernel)
theorem d_Row_isSound_13 : decode b_Row_isSound 13 = .ok (.getfield 241, 3) := by decide +kernel
theorem d_Row_isSound_16 : decode b_Row_isSound 16 = .ok (.iadd, 1) := by decide +kernel
theorem d_Row_isSound_17 : decode b_Row_isSound 17 = .ok (.aload_n 0, 1) := by decide +kernel
theorem wm_390 : Cond.code ⟨"ThresholdRow", "sumBins", "()I"⟩ prog_1_method_62_code 3 (some .int) ∈ gT := gT_m (List.mem_of_getElem? (i := 390) (by decide +kernel)) (by decide +kernel)
theorem wm_387 : Cond.methodLink "ThresholdRow" 343 ⟨"ThresholdRow", "sumBins", "()I"⟩ ∈ gT := gT_m (List.mem_of_getElem? (i := 387) (by decide +kernel)) (by decide +kernel)
theorem d_Row_isSound_18 : decode b_Row_isSound 18 = .ok (.invokevirtual 343, 3) := by decide +kernel
theorem wm_389 : Cond.instanceMethod ⟨"ThresholdRow", "sumBins", "()I"⟩ ∈ gT := gT_m (List.mem_of_getElem? (i := 389) (by decide +kernel)) (by decide +kernel)
theorem wm_6 : Cond.selects "ThresholdRow" ⟨"ThresholdRow", "sumBins", "()I"⟩ ⟨"ThresholdRow", "sumBins", "()I"⟩ ∈ gT := gT_m (List.mem_of_getElem? (i := 6) (by decide +kernel)) (by decide +kernel)
theorem d_Row_isSound_21 : decode b_Row_isSound 21 = .ok (.iadd, 1) := by decide +kernel
theorem d_Row_isSound_22 : decode b_Row_isSound 22 = .ok (.aload_n 0, 1) := by decide +kernel
theorem wm_241 : Cond.fieldLink "ThresholdRow" 39 "ThresholdRow" "ledger" "LThresholdRow$Ledger;" ∈ gT := gT_m (List.mem_of_getElem? (i := 241) (by decide +kernel)) (by decide +kernel)
theorem d_Row_isSound_23 : decode b_Row_isSound 23 = .ok (.getfield 39, 3) := by decide +kernel
theorem wm_394 : Cond.code ⟨"ThresholdRow$Ledger", "sumGone", "()I"⟩ prog_6_method_3_code 1 (some .int) ∈ gT := gT_m (List.mem_of_getElem? (i := 394) (by decide +kernel)) (by decide +kernel)
theorem wm_29 : Cond.initialized "ThresholdRow$Ledger" ∈ gT := gT_m (List.mem_of_getElem? (i := 29) (by decide +kernel)) (by decide +kernel)
theorem wm_391 : Cond.methodLink "ThresholdRow" 367 ⟨"ThresholdRow$Ledger", "sumGone", "()I"⟩ ∈ gT := gT_m (List.mem_of_getElem? (i := 391) (by decide +kernel)) (by decide +kernel)
theorem d_Row_isSound_26 : decode b_Row_isSound 26 = .ok (.invokevirtual 367, 3) := by decide +kernel
theorem wm_392 : Cond.instanceMethod ⟨"ThresholdRow$Ledger", "sumGone", "()I"⟩ ∈ gT := gT_m (List.mem_of_getElem? (i := 392) (by decide +kernel)) (by decide +kernel)
theorem wm_393 : Cond.selects "ThresholdRow$Ledger" ⟨"ThresholdRow$Ledger", "sumGone", "()I"⟩ ⟨"ThresholdRow$Ledger", "sumGone", "()I"⟩ ∈ gT := gT_m (List.mem_of_getElem? (i := 393) (by decide +kernel)) (by decide +kernel)
theorem d_Row_isSound_29 : decode b_Row_isSound 29 = .ok (.iadd, 1) := by decide +kernel
theorem d_Row_isSound_30 : decode b_Row_isSound 30 = .ok (.istore_n 1, 1) := by decide +kernel
theorem d_Row_isSound_31 : decode b_Row_isSound 31 = .ok (.iload_n 1, 1) := by decide +kernel
theorem d_Row_isSound_32 : decode b_Row_isSound 32 = .ok (.aload_n 0, 1) := by decide +kernel
theorem wm_398 : Cond.code ⟨"ThresholdRow", "sumCame", "()I"⟩ prog_1_method_59_code 3 (some .int) ∈ gT := gT_m (List.mem_of_getElem? (i := 398) (by decide +kernel)) (by decide +kernel)
theorem wm_395 : Cond.methodLink "ThresholdRow" 334 ⟨"ThresholdRow", "sumCame", "()I"⟩ ∈ gT := gT_m (List.mem_of_getElem? (i := 395) (by decide +kernel)) (by decide +kernel)
theorem d_Row_isSound_33 : decode b_Row_isSound 33 = .ok (.invokevirtual 334, 3) := by decide +kernel
theorem wm_397 : Cond.instanceMethod ⟨"ThresholdRow", "sumCame", "()I"⟩ ∈ gT := gT_m (List.mem_of_getElem? (i := 397) (by decide +kernel)) (by decide +kernel)
theorem wm_7 : Cond.selects "ThresholdRow" ⟨"ThresholdRow", "sumCame", "()I"⟩ ⟨"ThresholdRow", "sumCame", "()I"⟩ ∈ gT := gT_m (List.mem_of_getElem? (i := 7) (by decide +kernel)) (by decide +kernel)
theorem d_Row_isSound_36 : decode b_Row_isSound 36 = .ok (.if_icmp .ne 31, 3) := by decide +kernel
theorem d_Row_isSound_39 : decode b_Row_isSound 39 = .ok (.aload_n 0, 1) := by decide +kernel
theorem wm_402 : Cond.code ⟨"ThresholdRow", "heapsSound", "()Z"⟩ prog_1_method_63_code 3 (some .boolean) ∈ gT := gT_m (List.mem_of_getElem? (i := 402) (by decide +kernel)) (by decide +kernel)
theorem wm_399 : Cond.methodLink "ThresholdRow" 370 ⟨"ThresholdRow", "heapsSound", "()Z"⟩ ∈ gT := gT_m (List.mem_of_getElem? (i := 399) (by decide +kernel)) (by decide +kernel)
theorem d_Row_isSound_40 : decode b_Row_isSound 40 = .ok (.invokevirtual 370, 3) := by decide +kernel
theorem wm_401 : Cond.instanceMethod ⟨"ThresholdRow", "heapsSound", "()Z"⟩ ∈ gT := gT_m (List.mem_of_getElem? (i := 401) (by decide +kernel)) (by decide +kernel)
theorem wm_8 : Cond.selects "ThresholdRow" ⟨"ThresholdRow", "heapsSound", "()Z"⟩ ⟨"ThresholdRow", "heapsSound", "()Z"⟩ ∈ gT := gT_m (List.mem_of_getElem? (i := 8) (by decide +kernel)) (by decide +kernel)
theorem d_Row_isSound_43 : decode b_Row_isSound 43 = .ok (.ifCond .eq 24, 3) := by decide +kernel
theorem d_Row_isSound_46 : decode b_Row_isSound 46 = .ok (.aload_n 0, 1) := by decide +kernel
theorem wm_406 : Cond.code ⟨"ThresholdRow", "binsSound", "()Z"⟩ prog_1_method_64_code 3 (some .boolean) ∈ gT := gT_m (List.mem_of_getElem? (i := 406) (by decide +kernel)) (by decide +kernel)
theorem wm_403 : Cond.methodLink "ThresholdRow" 373 ⟨"ThresholdRow", "binsSound", "()Z"⟩ ∈ gT := gT_m (List.mem_of_getElem? (i := 403) (by decide +kernel)) (by decide +kernel)
theorem d_Row_isSound_47 : decode b_Row_isSound 47 = .ok (.invokevirtual 373, 3) := by decide +kernel
theorem wm_405 : Cond.instanceMethod ⟨"ThresholdRow", "binsSound", "()Z"⟩ ∈ gT := gT_m (List.mem_of_getElem? (i := 405) (by decide +kernel)) (by decide +kernel)
theorem wm_9 : Cond.selects "ThresholdRow" ⟨"ThresholdRow", "binsSound", "()Z"⟩ ⟨"ThresholdRow", "binsSound", "()Z"⟩ ∈ gT := gT_m (List.mem_of_getElem? (i := 9) (by decide +kernel)) (by decide +kernel)
theorem d_Row_isSound_50 : decode b_Row_isSound 50 = .ok (.ifCond .eq 17, 3) := by decide +kernel
theorem d_Row_isSound_53 : decode b_Row_isSound 53 = .ok (.aload_n 0, 1) := by decide +kernel
theorem d_Row_isSound_54 : decode b_Row_isSound 54 = .ok (.getfield 25, 3) := by decide +kernel
theorem wm_410 : Cond.code ⟨"ThresholdRow$Gang", "hasHurt", "()Z"⟩ prog_4_method_16_code 2 (some .boolean) ∈ gT := gT_m (List.mem_of_getElem? (i := 410) (by decide +kernel)) (by decide +kernel)
theorem wm_407 : Cond.methodLink "ThresholdRow" 376 ⟨"ThresholdRow$Gang", "hasHurt", "()Z"⟩ ∈ gT := gT_m (List.mem_of_getElem? (i := 407) (by decide +kernel)) (by decide +kernel)
theorem d_Row_isSound_57 : decode b_Row_isSound 57 = .ok (.invokevirtual 376, 3) := by decide +kernel
theorem wm_408 : Cond.instanceMethod ⟨"ThresholdRow$Gang", "hasHurt", "()Z"⟩ ∈ gT := gT_m (List.mem_of_getElem? (i := 408) (by decide +kernel)) (by decide +kernel)
theorem wm_409 : Cond.selects "ThresholdRow$Gang" ⟨"ThresholdRow$Gang", "hasHurt", "()Z"⟩ ⟨"ThresholdRow$Gang", "hasHurt", "()Z"⟩ ∈ gT := gT_m (List.mem_of_getElem? (i := 409) (by decide +kernel)) (by decide +kernel)
theorem d_Row_isSound_60 : decode b_Row_isSound 60 = .ok (.ifCond .ne 7, 3) := by decide +kernel
theorem d_Row_isSound_63 : decode b_Row_isSound 63 = .ok (.iconst 1, 1) := by decide +kernel
theorem d_Row_isSound_64 : decode b_Row_isSound 64 = .ok (.goto 4, 3) := by decide +kernel
theorem d_Row_isSound_68 : decode b_Row_isSound 68 = .ok (.ireturn, 1) := by decide +kernel
set_option maxHeartbeats 4000000 in
set_option maxRecDepth 100000 in
theorem c_Row_addHand (l : Launch) (E : Nat) (D : va_G) (cI cO cZ : ClassId) (z0 : Nat) (M : gM) {o n : Nat} {day : Int32} {S : gS} {Z ad bn : Nat → Nat} (hf : gw_fa z0 cO M o n day S Z ad bn) {x y : Int32} (q1 : ¬ x < 1) (q2 : x ≤ 9) (q3 : ¬ y < (-3)) (q4 : y ≤ 3) (hn8 : n < 8) : Met l y_Row_addHand (Cond.code y_Row_addHand b_Row_addHand 3 (some .int) :: gT) ({ frames := 5, cells := 2, slots := 20, locals := 101 }) (gw_Pc E D cI cO cZ z0 M [.ref o, .int x, .int y]) (gw_Qi E D (fun r M' => r = nI n ∧ ∃ Z' ad' : Nat → Nat, gw_fa z0 cO M' o (n + 1) day (S.1, S.2.1, fun i => if i = n then (x, y, 0, 0, 0, 0) else S.2.2 i) Z' ad' bn ∧ gw_ints M M')) 2 20 (gw_A E) := by
  refine gw_ofW (cc := b_Row_addHand) (maxL := 3) (ret := (some .int)) (by decide) rfl (Nat.le_of_ble_eq_true rfl) ?_
  intro p e s m args below meth c hx hb hr hml hts hown hlk hnm hF hG ls hl
  have hT : ∀ w ∈ gT, w.before args s = true := fun w h => hts w (List.mem_cons_of_mem _ h)
  have hK := hF.1
  have hl : lv_has ls 3 [(0, .ref o), (1, .int x), (2, .int y)] := hl
  obtain ⟨hro, hLh, hLl, hLb, hbn, hgg, hLg, hdr, hlg, hhd, had, hord, hoi, hne, har⟩ := id hf
  obtain ⟨kh, hhl, h10, -⟩ := id hLh
  have hz0 := gw_z0 hF hG
  refine lv_iload_n hx hb d_Row_addHand_0 rfl (lv_at hl 1 rfl) ?_
  refine lv_iconst (v := 1) hx hb d_Row_addHand_1 (by decide) ?_
  refine lv_bipush (v := 9) hx hb d_Row_addHand_2 (by decide) ?_
  refine gw_callv (gw_runS (As := [.int x, .int 1, .int 9]) (rest := []) ⟨hx, hb, hml, hown, hts⟩ (c_Row_checkRange l E D cI cO cZ z0 M q1 q2) (gw_cwS 3 hts (gT_gi wm_425) rfl rfl rfl (hT _ wm_23) (hT _ wm_423) (hT _ wm_424) (by decide +kernel) ⟨Nat.le_of_ble_eq_true rfl, Nat.le_of_ble_eq_true rfl⟩) hF hG rfl hl.1 rfl (Nat.le_of_ble_eq_true rfl) d_Row_addHand_4 ⟨Nat.le_of_ble_eq_true rfl, Nat.le_of_ble_eq_true rfl⟩) hG (fun M1 H locs hp hG => ?_)
  replace hG := gw_nm hp.symm hG
  refine lv_iload_n hx hb d_Row_addHand_7 rfl (lv_at hl 2 rfl) ?_
  refine lv_bipush (v := (-3)) hx hb d_Row_addHand_8 (by decide) ?_
  refine lv_iconst (v := 3) hx hb d_Row_addHand_10 (by decide) ?_
  refine gw_callv (gw_runS (As := [.int y, .int (-3), .int 3]) (rest := []) ⟨hx, hb, hml, hown, hts⟩ (c_Row_checkRange l E D cI cO cZ z0 M q3 q4) (gw_cwS 3 hts (gT_gi wm_425) rfl rfl rfl (hT _ wm_23) (hT _ wm_423) (hT _ wm_424) (by decide +kernel) ⟨Nat.le_of_ble_eq_true rfl, Nat.le_of_ble_eq_true rfl⟩) hF hG rfl hl.1 rfl (Nat.le_of_ble_eq_true rfl) d_Row_addHand_11 ⟨Nat.le_of_ble_eq_true rfl, Nat.le_of_ble_eq_true rfl⟩) hG (fun M2 H locs hp hG => ?_)
  replace hG := gw_nm hp.symm hG
  refine lv_aload_n hx hb d_Row_addHand_14 rfl (lv_at hl 0 rfl) ?_
  refine gw_get hx hb hT i_Row hown hK hG hro rfl 0 (by decide) (hT _ wm_236) (fun _ h => h) rfl d_Row_addHand_15 ?_
  refine gw_calli (gw_runV (As := []) (rest := []) ⟨hx, hb, hml, hown, hts⟩ (c_L_size l E D cI cO cZ z0 M hLh) (gw_cwV 0 hts (gT_gi wm_286) rfl rfl rfl (hT _ wm_26) (hT _ wm_283) (hT _ wm_284) (hT _ wm_285) (by decide +kernel) ⟨Nat.le_of_ble_eq_true rfl, Nat.le_of_ble_eq_true rfl⟩) hF hG rfl hhl rfl hl.1 rfl (Nat.le_of_ble_eq_true rfl) d_Row_addHand_18 ⟨Nat.le_of_ble_eq_true rfl, Nat.le_of_ble_eq_true rfl⟩) hG (fun r M3 H locs hp hG => ?_)
  rw [hp.1]
  replace hG := gw_nm hp.2.symm hG
  refine lv_bipush (v := 8) hx hb d_Row_addHand_21 (by decide) ?_
  refine lv_icmp_lt (tgt := 36) hx hb d_Row_addHand_23 (by decide) (fun c_23 => ?_) (fun z_ => absurd (show nI n < nI 8 from nI_lt hn8 (by decide)) z_)
  refine lv_aload_n hx hb d_Row_addHand_36 rfl (lv_at hl 0 rfl) ?_
  refine gw_get hx hb hT i_Row hown hK hG hro rfl 0 (by decide) (hT _ wm_236) (fun _ h => h) rfl d_Row_addHand_37 ?_
  refine gw_new (fs := [.int 0, .int 0, .int 0, .int 0, .int 0, .int 0, .int 0, .int 0, .int 0, .int 0]) (C := R_Hand) (T := F_Hand) (N := 10) (ci := 6) hx hb hT i_Hand t_Hand t_Hand_ok hown (hT _ wm_373) (hT _ wm_458) (hT _ wm_40) hK hF.2.1 hG rfl (fun j hj => by rcases (show j = 0 ∨ j = 1 ∨ j = 2 ∨ j = 3 ∨ j = 4 ∨ j = 5 ∨ j = 6 ∨ j = 7 ∨ j = 8 ∨ j = 9 by omega) with rfl | rfl | rfl | rfl | rfl | rfl | rfl | rfl | rfl | rfl <;> rfl) (Nat.le_of_ble_eq_true rfl) (Nat.le_of_ble_eq_true rfl) d_Row_addHand_40 (fun q H hq_q hG => ?_)
  have ne_o_q : o ≠ q := gw_neF hq_q hro
  have ne__Z_0__q : (Z 0) ≠ q := gw_neF hq_q hhl
  have ne__Z_5__q : (Z 5) ≠ q := gw_neF hq_q hgg
  obtain ⟨M4, e_M4⟩ : ∃ Y_ : gM, Y_ = gw_up M q (.inr (6, [.int 0, .int 0, .int 0, .int 0, .int 0, .int 0, .int 0, .int 0, .int 0, .int 0])) := ⟨_, rfl⟩
  replace hG := gw_nm e_M4 hG
  have hM4_o := (congrFun e_M4 o).trans ((gw_miss ne_o_q).trans hro)
  have hM4__Z_0_ := (congrFun e_M4 ((Z 0))).trans ((gw_miss ne__Z_0__q).trans hhl)
  have hM4__Z_5_ := (congrFun e_M4 ((Z 5))).trans ((gw_miss ne__Z_5__q).trans hgg)
  have hM4_q := (congrFun e_M4 q).trans gw_hit
  refine lv_dup hx hb d_Row_addHand_43 rfl ?_
  refine lv_iload_n hx hb d_Row_addHand_44 rfl (lv_at hl 1 rfl) ?_
  refine lv_iload_n hx hb d_Row_addHand_45 rfl (lv_at hl 2 rfl) ?_
  refine gw_callv (gw_runI (As := [.int x, .int y]) (rest := [.ref q, .ref (Z 0)]) ⟨hx, hb, hml, hown, hts⟩ (c_Hand_init l E D cI cO cZ z0 M4 hM4_q) (cwI 2 hts (gT_gi wm_461) rfl rfl rfl (hT _ wm_40) (hT _ wm_459) (hT _ wm_460) rfl (by decide +kernel) ⟨Nat.le_of_ble_eq_true rfl, Nat.le_of_ble_eq_true rfl⟩) hF hG rfl hl.1 rfl (Nat.le_of_ble_eq_true rfl) d_Row_addHand_46 ⟨Nat.le_of_ble_eq_true rfl, Nat.le_of_ble_eq_true rfl⟩) hG (fun M5 H locs hp hG => ?_)
  have hM5_o := (congrFun hp o).trans ((gw_miss ne_o_q).trans hM4_o)
  have hM5__Z_0_ := (congrFun hp ((Z 0))).trans ((gw_miss ne__Z_0__q).trans hM4__Z_0_)
  have hM5__Z_5_ := (congrFun hp ((Z 5))).trans ((gw_miss ne__Z_5__q).trans hM4__Z_5_)
  have hM5_q := (congrFun hp q).trans gw_hit
  have e_M5 := hp
  have hM2 : ∀ b, b ≠ q → M5 b = M b := fun b h => by rw [e_M5, gw_miss h, e_M4, gw_miss h]
  have hL2 : gw_L z0 cO M5 (Z 0) (Z 1) n ad := hLh.kept (hM2 _ ne__Z_0__q) (fun f hf => hM2 _ (gw_neF hq_q hf))
  refine gw_calli (gw_runV (As := [.ref q]) (rest := []) ⟨hx, hb, hml, hown, hts⟩ (c_AL_add l E D cI cO cZ z0 M5 hL2 hM5_q rfl wq_796 (by omega) (ne__Z_0__q).symm) (gw_cwV 1 hts (gT_gi wm_178) rfl rfl rfl (hT _ wm_26) (hT _ wm_175) (hT _ wm_176) (hT _ wm_177) (by decide +kernel) ⟨Nat.le_of_ble_eq_true rfl, Nat.le_of_ble_eq_true rfl⟩) hF hG rfl hM5__Z_0_ rfl hl.1 rfl (Nat.le_of_ble_eq_true rfl) d_Row_addHand_49 ⟨Nat.le_of_ble_eq_true rfl, Nat.le_of_ble_eq_true rfl⟩) hG (fun r M6 H locs hp hG => ?_)
  obtain ⟨rfl, t', h1, h2, h3⟩ := hp
  have hz2 : M5 z0 = none := by cases h : M5 z0 with
      | none => rfl
      | some e => by_cases hzq : z0 = q
                  · have := gw_z0 hF hG
                    by_cases hzt : z0 = t'
                    · rcases h1 with h1 | h1
                      · rw [← hzt] at h2
                        obtain ⟨k9, -, -, q9⟩ := h2
                        rcases q9 with ⟨q9, -⟩ | ⟨f9, q9, -⟩
                        · omega
                        · rw [this] at q9; cases q9
                      · rw [← hzt, h] at h1; cases h1
                    · have hz0l : z0 ≠ Z 0 := fun z => by rw [z, hhl] at hz0; cases hz0
                      rw [h3 z0 hz0l hzt, h] at this; cases this
                  · rw [hM2 z0 hzq, hz0] at h; cases h
  have hqz : q ≠ z0 := fun z => by rw [← z, hM5_q] at hz2; cases hz2
  have hqt : q ≠ t' := by
      rcases h1 with h1 | h1
      · rw [h1]
        obtain ⟨k9, -, -, q9⟩ := hLh
        rcases q9 with ⟨-, q9⟩ | ⟨f9, q9, -⟩
        · rw [q9]; exact hqz
        · exact (gw_neF hq_q q9).symm
      · exact gw_neF h1 hM5_q
  have ht1 : t' = Z 1 ∨ M t' = none := by
      rcases h1 with h1 | h1
      · exact Or.inl h1
      · exact Or.inr (by rw [hM2 t' hqt.symm] at h1; exact h1)
  have hfr : ∀ b e, M b = some e → b ≠ Z 0 → b ≠ t' → M6 b = M b := fun b e hb q5 q6 => (h3 b q5 q6).trans (hM2 b (gw_neF hq_q hb))
  have hf2 := hf.hand (M' := M6) (u := (x, y, 0, 0, 0, 0)) hz0 h2 hq_q ((h3 q (ne__Z_0__q).symm hqt).trans hM5_q) hfr ht1
  have hro3 : M6 o = some (gw_ro Z day) := hf2.1
  obtain ⟨k3, hhl3, -⟩ := id h2
  refine lv_pop hx hb d_Row_addHand_52 rfl ?_
  refine lv_aload_n hx hb d_Row_addHand_53 rfl (lv_at hl 0 rfl) ?_
  refine gw_get hx hb hT i_Row hown hK hG hro3 rfl 0 (by decide) (hT _ wm_236) (fun _ h => h) rfl d_Row_addHand_54 ?_
  refine gw_calli (gw_runV (As := []) (rest := []) ⟨hx, hb, hml, hown, hts⟩ (c_L_size l E D cI cO cZ z0 M6 h2) (gw_cwV 0 hts (gT_gi wm_286) rfl rfl rfl (hT _ wm_26) (hT _ wm_283) (hT _ wm_284) (hT _ wm_285) (by decide +kernel) ⟨Nat.le_of_ble_eq_true rfl, Nat.le_of_ble_eq_true rfl⟩) hF hG rfl hhl3 rfl hl.1 rfl (Nat.le_of_ble_eq_true rfl) d_Row_addHand_57 ⟨Nat.le_of_ble_eq_true rfl, Nat.le_of_ble_eq_true rfl⟩) hG (fun r M7 H locs hp hG => ?_)
  rw [hp.1]
  replace hG := gw_nm hp.2.symm hG
  refine lv_iconst (v := 1) hx hb d_Row_addHand_60 (by decide) ?_
  refine lv_isub hx hb d_Row_addHand_61 ?_
  rw [show nI (n + 1) - 1 = (nI n) from nI_pred n]
  exact gw_iret (v := (nI n)) hx hb hr hlk hG (⟨rfl, _, _, hf2, gw_ints.of hLh hz0 (fun b e hb q5 q6 _ => hfr b e hb q5 q6) ht1⟩) (Nat.le_of_ble_eq_true rfl) (Nat.le_of_ble_eq_true rfl) d_Row_addHand_62
set_option maxHeartbeats 4000000 in
set_option maxRecDepth 100000 in
theorem c_Row_addHand_x (l : Launch) (E : Nat) (D : va_G) (cI cO cZ : ClassId) (z0 : Nat) (M : gM) (hst : l.stackTraces = false) {o n : Nat} {day : Int32} {S : gS} {Z ad bn : Nat → Nat} (hf : gw_fa z0 cO M o n day S Z ad bn) {x y : Int32} (q1 : x < 1 ∨ (¬ x < 1 ∧ x ≤ 9 ∧ 3 < y)) : vx_Met l y_Row_addHand (Cond.code y_Row_addHand b_Row_addHand 3 (some .int) :: gT) ({ frames := 7, cells := 1, slots := 6, locals := 104 }) (gw_Pc E D cI cO cZ z0 M [.ref o, .int x, .int y]) (gw_Qi E D (fun _ _ => False)) (gw_XC E D "java/lang/IllegalArgumentException" M) 1 6 (gw_A E) := by
  refine gw_ofX (cc := b_Row_addHand) (maxL := 3) (ret := (some .int)) (by decide) rfl (Nat.le_of_ble_eq_true rfl) ?_
  intro p e s m args below meth c hx hb hr hml hts hown hlk hnt hF hG ls hl
  have hT : ∀ w ∈ gT, w.before args s = true := fun w h => hts w (List.mem_cons_of_mem _ h)
  have hK := hF.1
  have hl : lv_has ls 3 [(0, .ref o), (1, .int x), (2, .int y)] := hl
  obtain ⟨hro, hLh, hLl, hLb, hbn, hgg, hLg, hdr, hlg, hhd, had, hord, hoi, hne, har⟩ := id hf
  obtain ⟨kh, hhl, h10, -⟩ := id hLh
  have hz0 := gw_z0 hF hG
  rcases q1 with q1 | ⟨q1, q2, q3⟩
  · skip
    refine lv_iload_n hx hb d_Row_addHand_0 rfl (lv_at hl 1 rfl) ?_
    refine lv_iconst (v := 1) hx hb d_Row_addHand_1 (by decide) ?_
    refine lv_bipush (v := 9) hx hb d_Row_addHand_2 (by decide) ?_
    refine gw_xcallv (cls := "java/lang/IllegalArgumentException") (gw_xrunS (As := [.int x, .int 1, .int 9]) (rest := []) ⟨hx, hb, hml, hown, hts⟩ (c_Row_checkRange_x l E D cI cO cZ z0 M hst (x := x) (y := 1) (z := 9) (Or.inl q1)) (gw_cwS 3 hts (gT_gi wm_425) rfl rfl rfl (hT _ wm_23) (hT _ wm_423) (hT _ wm_424) (by decide +kernel) ⟨Nat.le_of_ble_eq_true rfl, Nat.le_of_ble_eq_true rfl⟩) hF hG rfl hl.1 rfl (Nat.le_of_ble_eq_true rfl) d_Row_addHand_4 ⟨Nat.le_of_ble_eq_true rfl, Nat.le_of_ble_eq_true rfl⟩) hG (fun ce q H locs hG hq1 hq2 hq3 => ?_)
    exact gw_xout hnt hlk hG hq1 hq2 hq3 (Nat.le_of_ble_eq_true rfl) (Nat.le_of_ble_eq_true rfl)
  · skip
    refine lv_iload_n hx hb d_Row_addHand_0 rfl (lv_at hl 1 rfl) ?_
    refine lv_iconst (v := 1) hx hb d_Row_addHand_1 (by decide) ?_
    refine lv_bipush (v := 9) hx hb d_Row_addHand_2 (by decide) ?_
    refine gw_callv (gw_runS (As := [.int x, .int 1, .int 9]) (rest := []) ⟨hx, hb, hml, hown, hts⟩ (c_Row_checkRange l E D cI cO cZ z0 M q1 q2) (gw_cwS 3 hts (gT_gi wm_425) rfl rfl rfl (hT _ wm_23) (hT _ wm_423) (hT _ wm_424) (by decide +kernel) ⟨Nat.le_of_ble_eq_true rfl, Nat.le_of_ble_eq_true rfl⟩) hF hG rfl hl.1 rfl (Nat.le_of_ble_eq_true rfl) d_Row_addHand_4 ⟨Nat.le_of_ble_eq_true rfl, Nat.le_of_ble_eq_true rfl⟩) hG (fun M1 H locs hp hG => ?_)
    replace hG := gw_nm hp.symm hG
    refine lv_iload_n hx hb d_Row_addHand_7 rfl (lv_at hl 2 rfl) ?_
    refine lv_bipush (v := (-3)) hx hb d_Row_addHand_8 (by decide) ?_
    refine lv_iconst (v := 3) hx hb d_Row_addHand_10 (by decide) ?_
    refine gw_xcallv (cls := "java/lang/IllegalArgumentException") (gw_xrunS (As := [.int y, .int (-3), .int 3]) (rest := []) ⟨hx, hb, hml, hown, hts⟩ (c_Row_checkRange_x l E D cI cO cZ z0 M hst (x := y) (y := -3) (z := 3) (Or.inr q3)) (gw_cwS 3 hts (gT_gi wm_425) rfl rfl rfl (hT _ wm_23) (hT _ wm_423) (hT _ wm_424) (by decide +kernel) ⟨Nat.le_of_ble_eq_true rfl, Nat.le_of_ble_eq_true rfl⟩) hF hG rfl hl.1 rfl (Nat.le_of_ble_eq_true rfl) d_Row_addHand_11 ⟨Nat.le_of_ble_eq_true rfl, Nat.le_of_ble_eq_true rfl⟩) hG (fun ce q H locs hG hq1 hq2 hq3 => ?_)
    exact gw_xout hnt hlk hG hq1 hq2 hq3 (Nat.le_of_ble_eq_true rfl) (Nat.le_of_ble_eq_true rfl)
set_option maxHeartbeats 4000000 in
set_option maxRecDepth 100000 in
theorem c_Row_meanFatigue (l : Launch) (E : Nat) (D : va_G) (cI cO cZ : ClassId) (z0 : Nat) (M : gM) {o n : Nat} {day : Int32} {S : gS} {Z ad bn : Nat → Nat} (hf : gw_fa z0 cO M o n day S Z ad bn) (hn0 : 0 < n) (hnan : vf_n64 (FP.ddiv (FP.i2d (p_sum S.2.2 n)) (FP.i2d (nI n)))) : Met l y_Row_meanFatigue (Cond.code y_Row_meanFatigue b_Row_meanFatigue 4 (some .double) :: gT) ({ frames := 3, cells := 0, slots := 0, locals := 64 }) (gw_Pc E D cI cO cZ z0 M [.ref o]) (gw_Qd E D (fun r M' => r = FP.ddiv (FP.i2d (p_sum S.2.2 n)) (FP.i2d (nI n)) ∧ M' = M)) 0 0 (gw_A E) := by
  refine gw_ofW (cc := b_Row_meanFatigue) (maxL := 4) (ret := (some .double)) (by decide) rfl (Nat.le_of_ble_eq_true rfl) ?_
  intro p e s m args below meth c hx hb hr hml hts hown hlk hnm hF hG ls hl
  have hT : ∀ w ∈ gT, w.before args s = true := fun w h => hts w (List.mem_cons_of_mem _ h)
  have hK := hF.1
  have hl : lv_has ls 4 [(0, .ref o)] := hl
  obtain ⟨hro, hLh, hLl, hLb, hbn, hgg, hLg, hdr, hlg, hhd, had, hord, hoi, hne, har⟩ := id hf
  obtain ⟨kh, hhl, h10, -⟩ := id hLh
  have hz0 := gw_z0 hF hG
  refine lv_aload_n hx hb d_Row_meanFatigue_0 rfl (lv_at hl 0 rfl) ?_
  refine gw_get hx hb hT i_Row hown hK hG hro rfl 0 (by decide) (hT _ wm_236) (fun _ h => h) rfl d_Row_meanFatigue_1 ?_
  refine gw_calli (gw_runV (As := []) (rest := []) ⟨hx, hb, hml, hown, hts⟩ (c_L_size l E D cI cO cZ z0 M hLh) (gw_cwV 0 hts (gT_gi wm_286) rfl rfl rfl (hT _ wm_26) (hT _ wm_283) (hT _ wm_284) (hT _ wm_285) (by decide +kernel) ⟨Nat.le_of_ble_eq_true rfl, Nat.le_of_ble_eq_true rfl⟩) hF hG rfl hhl rfl hl.1 rfl (Nat.le_of_ble_eq_true rfl) d_Row_meanFatigue_4 ⟨Nat.le_of_ble_eq_true rfl, Nat.le_of_ble_eq_true rfl⟩) hG (fun r M1 H locs hp hG => ?_)
  rw [hp.1]
  replace hG := gw_nm hp.2.symm hG
  refine lv_istore_n (lv' := [(1, .int (nI n)), (0, .ref o)]) hx hb d_Row_meanFatigue_7 rfl hl (by decide) rfl (fun ls hl => ?_)
  refine lv_iload_n hx hb d_Row_meanFatigue_8 rfl (lv_at hl 0 rfl) ?_
  refine lv_if_gt (tgt := 23) hx hb d_Row_meanFatigue_9 (by decide) (fun c_9 => ?_) (fun z_ => absurd (show nI 0 < nI n from nI_lt hn0 (by omega)) z_)
  refine lv_iconst (v := 0) hx hb d_Row_meanFatigue_23 (by decide) ?_
  refine lv_istore_n (lv' := [(2, .int 0), (1, .int (nI n)), (0, .ref o)]) hx hb d_Row_meanFatigue_24 rfl hl (by decide) rfl (fun ls hl => ?_)
  refine lv_iconst (v := 0) hx hb d_Row_meanFatigue_25 (by decide) ?_
  refine lv_istore_n (lv' := [(3, .int 0), (2, .int 0), (1, .int (nI n)), (0, .ref o)]) hx hb d_Row_meanFatigue_26 rfl hl (by decide) rfl (fun ls hl => ?_)
  have loop : ∀ (d i : Nat), i + d = n → ∀ (X : gM) (H : Heap) (locs : List Loc) (ls : Array Slot), (X = M) → gw_H E D X s H locs → lv_has ls 4 [(1, .int (nI n)), (2, .int (p_sum S.2.2 i)), (3, .int (nI i)), (0, .ref o)] → W p l e ({ frames := 3, cells := 0, slots := 0, locals := 64 } : Room) s m args below meth c H locs 0 0 (MQ below (gw_Qd E D (fun r M' => r = FP.ddiv (FP.i2d (p_sum S.2.2 n)) (FP.i2d (nI n)) ∧ M' = M)) args s 0 0 (gw_A E)) (F0 m 27 ls []) := by
    intro d
    induction d with
    | zero =>
      intro i hi X H locs ls hI hG hl
      replace hG := gw_nm hI.symm hG
      have hin : i = n := by omega
      rw [hin] at hl
      refine lv_iload_n hx hb d_Row_meanFatigue_27 rfl (lv_at hl 2 rfl) ?_
      refine lv_iload_n hx hb d_Row_meanFatigue_28 rfl (lv_at hl 0 rfl) ?_
      refine lv_icmp_ge (tgt := 55) hx hb d_Row_meanFatigue_29 (by decide) (fun c_29 => ?_) (fun z_ => absurd (nI_le (by omega) (by omega)) z_)
      refine lv_iload_n hx hb d_Row_meanFatigue_55 rfl (lv_at hl 1 rfl) ?_
      refine lv_i2d hx hb d_Row_meanFatigue_56 ?_
      refine lv_iload_n hx hb d_Row_meanFatigue_57 rfl (lv_at hl 0 rfl) ?_
      refine lv_i2d hx hb d_Row_meanFatigue_58 ?_
      refine lv_ddiv hx hb d_Row_meanFatigue_59 hnan ?_
      exact gw_dret hx hb hr hlk hG ⟨rfl, rfl⟩ (Nat.le_of_ble_eq_true rfl) (Nat.le_of_ble_eq_true rfl) d_Row_meanFatigue_60
    | succ d ih =>
      intro i hi X H locs ls hI hG hl
      replace hG := gw_nm hI.symm hG
      refine lv_iload_n hx hb d_Row_meanFatigue_27 rfl (lv_at hl 2 rfl) ?_
      refine lv_iload_n hx hb d_Row_meanFatigue_28 rfl (lv_at hl 0 rfl) ?_
      refine lv_icmp_ge (tgt := 55) hx hb d_Row_meanFatigue_29 (by decide) (fun z_ => absurd z_ (nI_ge (by omega) (by omega))) (fun c_29 => ?_)
      refine lv_iload_n hx hb d_Row_meanFatigue_32 rfl (lv_at hl 1 rfl) ?_
      refine lv_aload_n hx hb d_Row_meanFatigue_33 rfl (lv_at hl 3 rfl) ?_
      refine gw_get hx hb hT i_Row hown hK hG hro rfl 0 (by decide) (hT _ wm_236) (fun _ h => h) rfl d_Row_meanFatigue_34 ?_
      refine lv_iload_n hx hb d_Row_meanFatigue_37 rfl (lv_at hl 2 rfl) ?_
      refine gw_callq (gw_runV (As := [.int (nI i)]) (rest := [.int (p_sum S.2.2 i)]) ⟨hx, hb, hml, hown, hts⟩ (c_L_get l E D cI cO cZ z0 M hLh (p := i) (by omega)) (gw_cwV 1 hts (gT_gi wm_362) rfl rfl rfl (hT _ wm_26) (hT _ wm_359) (hT _ wm_360) (hT _ wm_361) (by decide +kernel) ⟨Nat.le_of_ble_eq_true rfl, Nat.le_of_ble_eq_true rfl⟩) hF hG rfl hhl rfl hl.1 rfl (Nat.le_of_ble_eq_true rfl) d_Row_meanFatigue_38 ⟨Nat.le_of_ble_eq_true rfl, Nat.le_of_ble_eq_true rfl⟩) hG (fun r M2 H locs hp hG => ?_)
      rw [hp.1]
      replace hG := gw_nm hp.2.symm hG
      have hgi := hhd i (by omega)
      refine gw_cast (ci := 6) (r := (R_Hand, F_Hand, 10)) hx hb hown (hT _ wm_373) hF hG rfl hgi d_Row_meanFatigue_41 ?_
      refine gw_get hx hb hT i_Hand hown hK hG hgi rfl 2 (by decide) (hT _ wm_467) (fun _ h => h) rfl d_Row_meanFatigue_44 ?_
      refine lv_iadd hx hb d_Row_meanFatigue_47 ?_
      rw [show p_sum S.2.2 i + (S.2.2 i).2.2.1 = (p_sum S.2.2 (i + 1)) from rfl]
      refine lv_istore_n (lv' := [(2, .int (p_sum S.2.2 (i + 1))), (1, .int (nI n)), (3, .int (nI i)), (0, .ref o)]) hx hb d_Row_meanFatigue_48 rfl hl (by decide) rfl (fun ls hl => ?_)
      refine lv_iinc (v := nI (i + 1)) (lv' := [(3, .int (nI (i + 1))), (2, .int (p_sum S.2.2 (i + 1))), (1, .int (nI n)), (0, .ref o)]) hx hb d_Row_meanFatigue_49 hl (k := 2) rfl (nI_succ i).symm (by decide) rfl (fun ls hl => ?_)
      refine lv_goto (tgt := 27) hx hb d_Row_meanFatigue_52 (by decide) ?_
      exact ih (i + 1) (by omega) M _ _ _ rfl hG (lv_sub hl [2, 1, 0, 3] rfl)
  exact loop _ _ (Nat.zero_add n) M _ _ _ rfl hG (lv_sub hl [2, 1, 0, 3] rfl)
set_option maxHeartbeats 4000000 in
set_option maxRecDepth 100000 in
theorem c_Row_sumCame (l : Launch) (E : Nat) (D : va_G) (cI cO cZ : ClassId) (z0 : Nat) (M : gM) {o n : Nat} {day : Int32} {S : gS} {Z ad bn : Nat → Nat} (hf : gw_fa z0 cO M o n day S Z ad bn) : Met l y_Row_sumCame (Cond.code y_Row_sumCame b_Row_sumCame 3 (some .int) :: gT) ({ frames := 1, cells := 0, slots := 0, locals := 20 }) (gw_Pc E D cI cO cZ z0 M [.ref o]) (gw_Qi E D (fun r M' => r = 0 ∧ M' = M)) 0 0 (gw_A E) := by
  refine gw_ofW (cc := b_Row_sumCame) (maxL := 3) (ret := (some .int)) (by decide) rfl (Nat.le_of_ble_eq_true rfl) ?_
  intro p e s m args below meth c hx hb hr hml hts hown hlk hnm hF hG ls hl
  have hT : ∀ w ∈ gT, w.before args s = true := fun w h => hts w (List.mem_cons_of_mem _ h)
  have hK := hF.1
  have hl : lv_has ls 3 [(0, .ref o)] := hl
  obtain ⟨hro, hLh, hLl, hLb, hbn, hgg, hLg, hdr, hlg, hhd, had, hord, hoi, hne, har⟩ := id hf
  obtain ⟨kh, hhl, h10, -⟩ := id hLh
  have hz0 := gw_z0 hF hG
  obtain ⟨kl, hll, -⟩ := id hLl
  refine lv_iconst (v := 0) hx hb d_Row_sumCame_0 (by decide) ?_
  refine lv_istore_n (lv' := [(1, .int 0), (0, .ref o)]) hx hb d_Row_sumCame_1 rfl hl (by decide) rfl (fun ls hl => ?_)
  refine lv_iconst (v := 0) hx hb d_Row_sumCame_2 (by decide) ?_
  refine lv_istore_n (lv' := [(2, .int 0), (1, .int 0), (0, .ref o)]) hx hb d_Row_sumCame_3 rfl hl (by decide) rfl (fun ls hl => ?_)
  refine lv_iload_n hx hb d_Row_sumCame_4 rfl (lv_at hl 0 rfl) ?_
  refine lv_aload_n hx hb d_Row_sumCame_5 rfl (lv_at hl 2 rfl) ?_
  refine gw_get hx hb hT i_Row hown hK hG hro rfl 1 (by decide) (hT _ wm_237) (fun _ h => h) rfl d_Row_sumCame_6 ?_
  refine gw_calli (gw_runV (As := []) (rest := [.int 0]) ⟨hx, hb, hml, hown, hts⟩ (c_L_size l E D cI cO cZ z0 M hLl) (gw_cwV 0 hts (gT_gi wm_286) rfl rfl rfl (hT _ wm_26) (hT _ wm_283) (hT _ wm_284) (hT _ wm_285) (by decide +kernel) ⟨Nat.le_of_ble_eq_true rfl, Nat.le_of_ble_eq_true rfl⟩) hF hG rfl hll rfl hl.1 rfl (Nat.le_of_ble_eq_true rfl) d_Row_sumCame_9 ⟨Nat.le_of_ble_eq_true rfl, Nat.le_of_ble_eq_true rfl⟩) hG (fun r M1 H locs hp hG => ?_)
  rw [hp.1]
  replace hG := gw_nm hp.2.symm hG
  refine lv_icmp_ge (tgt := 38) hx hb d_Row_sumCame_12 (by decide) (fun c_12 => ?_) (fun z_ => absurd (by decide) z_)
  refine lv_iload_n hx hb d_Row_sumCame_38 rfl (lv_at hl 1 rfl) ?_
  exact gw_iret (v := 0) hx hb hr hlk hG (⟨rfl, rfl⟩) (Nat.le_of_ble_eq_true rfl) (Nat.le_of_ble_eq_true rfl) d_Row_sumCame_39
set_option maxHeartbeats 4000000 in
set_option maxRecDepth 100000 in
theorem c_Row_sumEars (l : Launch) (E : Nat) (D : va_G) (cI cO cZ : ClassId) (z0 : Nat) (M : gM) {o n : Nat} {day : Int32} {S : gS} {Z ad bn : Nat → Nat} (hf : gw_fa z0 cO M o n day S Z ad bn) : Met l y_Row_sumEars (Cond.code y_Row_sumEars b_Row_sumEars 3 (some .int) :: gT) ({ frames := 1, cells := 0, slots := 0, locals := 20 }) (gw_Pc E D cI cO cZ z0 M [.ref o]) (gw_Qi E D (fun r M' => r = 0 ∧ M' = M)) 0 0 (gw_A E) := by
  refine gw_ofW (cc := b_Row_sumEars) (maxL := 3) (ret := (some .int)) (by decide) rfl (Nat.le_of_ble_eq_true rfl) ?_
  intro p e s m args below meth c hx hb hr hml hts hown hlk hnm hF hG ls hl
  have hT : ∀ w ∈ gT, w.before args s = true := fun w h => hts w (List.mem_cons_of_mem _ h)
  have hK := hF.1
  have hl : lv_has ls 3 [(0, .ref o)] := hl
  obtain ⟨hro, hLh, hLl, hLb, hbn, hgg, hLg, hdr, hlg, hhd, had, hord, hoi, hne, har⟩ := id hf
  obtain ⟨kh, hhl, h10, -⟩ := id hLh
  have hz0 := gw_z0 hF hG
  obtain ⟨kl, hll, -⟩ := id hLl
  refine lv_iconst (v := 0) hx hb d_Row_sumEars_0 (by decide) ?_
  refine lv_istore_n (lv' := [(1, .int 0), (0, .ref o)]) hx hb d_Row_sumEars_1 rfl hl (by decide) rfl (fun ls hl => ?_)
  refine lv_iconst (v := 0) hx hb d_Row_sumEars_2 (by decide) ?_
  refine lv_istore_n (lv' := [(2, .int 0), (1, .int 0), (0, .ref o)]) hx hb d_Row_sumEars_3 rfl hl (by decide) rfl (fun ls hl => ?_)
  refine lv_iload_n hx hb d_Row_sumEars_4 rfl (lv_at hl 0 rfl) ?_
  refine lv_aload_n hx hb d_Row_sumEars_5 rfl (lv_at hl 2 rfl) ?_
  refine gw_get hx hb hT i_Row hown hK hG hro rfl 1 (by decide) (hT _ wm_237) (fun _ h => h) rfl d_Row_sumEars_6 ?_
  refine gw_calli (gw_runV (As := []) (rest := [.int 0]) ⟨hx, hb, hml, hown, hts⟩ (c_L_size l E D cI cO cZ z0 M hLl) (gw_cwV 0 hts (gT_gi wm_286) rfl rfl rfl (hT _ wm_26) (hT _ wm_283) (hT _ wm_284) (hT _ wm_285) (by decide +kernel) ⟨Nat.le_of_ble_eq_true rfl, Nat.le_of_ble_eq_true rfl⟩) hF hG rfl hll rfl hl.1 rfl (Nat.le_of_ble_eq_true rfl) d_Row_sumEars_9 ⟨Nat.le_of_ble_eq_true rfl, Nat.le_of_ble_eq_true rfl⟩) hG (fun r M1 H locs hp hG => ?_)
  rw [hp.1]
  replace hG := gw_nm hp.2.symm hG
  refine lv_icmp_ge (tgt := 38) hx hb d_Row_sumEars_12 (by decide) (fun c_12 => ?_) (fun z_ => absurd (by decide) z_)
  refine lv_iload_n hx hb d_Row_sumEars_38 rfl (lv_at hl 1 rfl) ?_
  exact gw_iret (v := 0) hx hb hr hlk hG (⟨rfl, rfl⟩) (Nat.le_of_ble_eq_true rfl) (Nat.le_of_ble_eq_true rfl) d_Row_sumEars_39
set_option maxHeartbeats 4000000 in
set_option maxRecDepth 100000 in
theorem c_Row_sumHeaps (l : Launch) (E : Nat) (D : va_G) (cI cO cZ : ClassId) (z0 : Nat) (M : gM) {o n : Nat} {day : Int32} {S : gS} {Z ad bn : Nat → Nat} (hf : gw_fa z0 cO M o n day S Z ad bn) : Met l y_Row_sumHeaps (Cond.code y_Row_sumHeaps b_Row_sumHeaps 3 (some .int) :: gT) ({ frames := 1, cells := 0, slots := 0, locals := 20 }) (gw_Pc E D cI cO cZ z0 M [.ref o]) (gw_Qi E D (fun r M' => r = 0 ∧ M' = M)) 0 0 (gw_A E) := by
  refine gw_ofW (cc := b_Row_sumHeaps) (maxL := 3) (ret := (some .int)) (by decide) rfl (Nat.le_of_ble_eq_true rfl) ?_
  intro p e s m args below meth c hx hb hr hml hts hown hlk hnm hF hG ls hl
  have hT : ∀ w ∈ gT, w.before args s = true := fun w h => hts w (List.mem_cons_of_mem _ h)
  have hK := hF.1
  have hl : lv_has ls 3 [(0, .ref o)] := hl
  obtain ⟨hro, hLh, hLl, hLb, hbn, hgg, hLg, hdr, hlg, hhd, had, hord, hoi, hne, har⟩ := id hf
  obtain ⟨kh, hhl, h10, -⟩ := id hLh
  have hz0 := gw_z0 hF hG
  obtain ⟨kl, hll, -⟩ := id hLl
  refine lv_iconst (v := 0) hx hb d_Row_sumHeaps_0 (by decide) ?_
  refine lv_istore_n (lv' := [(1, .int 0), (0, .ref o)]) hx hb d_Row_sumHeaps_1 rfl hl (by decide) rfl (fun ls hl => ?_)
  refine lv_iconst (v := 0) hx hb d_Row_sumHeaps_2 (by decide) ?_
  refine lv_istore_n (lv' := [(2, .int 0), (1, .int 0), (0, .ref o)]) hx hb d_Row_sumHeaps_3 rfl hl (by decide) rfl (fun ls hl => ?_)
  refine lv_iload_n hx hb d_Row_sumHeaps_4 rfl (lv_at hl 0 rfl) ?_
  refine lv_aload_n hx hb d_Row_sumHeaps_5 rfl (lv_at hl 2 rfl) ?_
  refine gw_get hx hb hT i_Row hown hK hG hro rfl 1 (by decide) (hT _ wm_237) (fun _ h => h) rfl d_Row_sumHeaps_6 ?_
  refine gw_calli (gw_runV (As := []) (rest := [.int 0]) ⟨hx, hb, hml, hown, hts⟩ (c_L_size l E D cI cO cZ z0 M hLl) (gw_cwV 0 hts (gT_gi wm_286) rfl rfl rfl (hT _ wm_26) (hT _ wm_283) (hT _ wm_284) (hT _ wm_285) (by decide +kernel) ⟨Nat.le_of_ble_eq_true rfl, Nat.le_of_ble_eq_true rfl⟩) hF hG rfl hll rfl hl.1 rfl (Nat.le_of_ble_eq_true rfl) d_Row_sumHeaps_9 ⟨Nat.le_of_ble_eq_true rfl, Nat.le_of_ble_eq_true rfl⟩) hG (fun r M1 H locs hp hG => ?_)
  rw [hp.1]
  replace hG := gw_nm hp.2.symm hG
  refine lv_icmp_ge (tgt := 38) hx hb d_Row_sumHeaps_12 (by decide) (fun c_12 => ?_) (fun z_ => absurd (by decide) z_)
  refine lv_iload_n hx hb d_Row_sumHeaps_38 rfl (lv_at hl 1 rfl) ?_
  exact gw_iret (v := 0) hx hb hr hlk hG (⟨rfl, rfl⟩) (Nat.le_of_ble_eq_true rfl) (Nat.le_of_ble_eq_true rfl) d_Row_sumHeaps_39
set_option maxHeartbeats 4000000 in
set_option maxRecDepth 100000 in
theorem c_Row_heapsSound (l : Launch) (E : Nat) (D : va_G) (cI cO cZ : ClassId) (z0 : Nat) (M : gM) {o n : Nat} {day : Int32} {S : gS} {Z ad bn : Nat → Nat} (hf : gw_fa z0 cO M o n day S Z ad bn) : Met l y_Row_heapsSound (Cond.code y_Row_heapsSound b_Row_heapsSound 3 (some .boolean) :: gT) ({ frames := 1, cells := 0, slots := 0, locals := 20 }) (gw_Pc E D cI cO cZ z0 M [.ref o]) (gw_Qi E D (fun r M' => r = 1 ∧ M' = M)) 0 0 (gw_A E) := by
  refine gw_ofW (cc := b_Row_heapsSound) (maxL := 3) (ret := (some .boolean)) (by decide) rfl (Nat.le_of_ble_eq_true rfl) ?_
  intro p e s m args below meth c hx hb hr hml hts hown hlk hnm hF hG ls hl
  have hT : ∀ w ∈ gT, w.before args s = true := fun w h => hts w (List.mem_cons_of_mem _ h)
  have hK := hF.1
  have hl : lv_has ls 3 [(0, .ref o)] := hl
  obtain ⟨hro, hLh, hLl, hLb, hbn, hgg, hLg, hdr, hlg, hhd, had, hord, hoi, hne, har⟩ := id hf
  obtain ⟨kh, hhl, h10, -⟩ := id hLh
  have hz0 := gw_z0 hF hG
  obtain ⟨kl, hll, -⟩ := id hLl
  refine lv_iconst (v := 0) hx hb d_Row_heapsSound_0 (by decide) ?_
  refine lv_istore_n (lv' := [(1, .int 0), (0, .ref o)]) hx hb d_Row_heapsSound_1 rfl hl (by decide) rfl (fun ls hl => ?_)
  refine lv_iload_n hx hb d_Row_heapsSound_2 rfl (lv_at hl 0 rfl) ?_
  refine lv_aload_n hx hb d_Row_heapsSound_3 rfl (lv_at hl 1 rfl) ?_
  refine gw_get hx hb hT i_Row hown hK hG hro rfl 1 (by decide) (hT _ wm_237) (fun _ h => h) rfl d_Row_heapsSound_4 ?_
  refine gw_calli (gw_runV (As := []) (rest := [.int 0]) ⟨hx, hb, hml, hown, hts⟩ (c_L_size l E D cI cO cZ z0 M hLl) (gw_cwV 0 hts (gT_gi wm_286) rfl rfl rfl (hT _ wm_26) (hT _ wm_283) (hT _ wm_284) (hT _ wm_285) (by decide +kernel) ⟨Nat.le_of_ble_eq_true rfl, Nat.le_of_ble_eq_true rfl⟩) hF hG rfl hll rfl hl.1 rfl (Nat.le_of_ble_eq_true rfl) d_Row_heapsSound_7 ⟨Nat.le_of_ble_eq_true rfl, Nat.le_of_ble_eq_true rfl⟩) hG (fun r M1 H locs hp hG => ?_)
  rw [hp.1]
  replace hG := gw_nm hp.2.symm hG
  refine lv_icmp_ge (tgt := 55) hx hb d_Row_heapsSound_10 (by decide) (fun c_10 => ?_) (fun z_ => absurd (by decide) z_)
  refine lv_iconst (v := 1) hx hb d_Row_heapsSound_55 (by decide) ?_
  exact gw_zret (v := 1) hx hb hr hlk hG rfl ⟨rfl, rfl⟩ (Nat.le_of_ble_eq_true rfl) (Nat.le_of_ble_eq_true rfl) d_Row_heapsSound_56
set_option maxHeartbeats 4000000 in
set_option maxRecDepth 100000 in
theorem c_Row_sumBins (l : Launch) (E : Nat) (D : va_G) (cI cO cZ : ClassId) (z0 : Nat) (M : gM) {o n : Nat} {day : Int32} {S : gS} {Z ad bn : Nat → Nat} (hf : gw_fa z0 cO M o n day S Z ad bn) : Met l y_Row_sumBins (Cond.code y_Row_sumBins b_Row_sumBins 3 (some .int) :: gT) ({ frames := 3, cells := 0, slots := 0, locals := 64 }) (gw_Pc E D cI cO cZ z0 M [.ref o]) (gw_Qi E D (fun r M' => r = 0 ∧ M' = M)) 0 0 (gw_A E) := by
  refine gw_ofW (cc := b_Row_sumBins) (maxL := 3) (ret := (some .int)) (by decide) rfl (Nat.le_of_ble_eq_true rfl) ?_
  intro p e s m args below meth c hx hb hr hml hts hown hlk hnm hF hG ls hl
  have hT : ∀ w ∈ gT, w.before args s = true := fun w h => hts w (List.mem_cons_of_mem _ h)
  have hK := hF.1
  have hl : lv_has ls 3 [(0, .ref o)] := hl
  obtain ⟨hro, hLh, hLl, hLb, hbn, hgg, hLg, hdr, hlg, hhd, had, hord, hoi, hne, har⟩ := id hf
  obtain ⟨kh, hhl, h10, -⟩ := id hLh
  have hz0 := gw_z0 hF hG
  obtain ⟨kb, hbl, -⟩ := id hLb
  refine lv_iconst (v := 0) hx hb d_Row_sumBins_0 (by decide) ?_
  refine lv_istore_n (lv' := [(1, .int 0), (0, .ref o)]) hx hb d_Row_sumBins_1 rfl hl (by decide) rfl (fun ls hl => ?_)
  refine lv_iconst (v := 0) hx hb d_Row_sumBins_2 (by decide) ?_
  refine lv_istore_n (lv' := [(2, .int 0), (1, .int 0), (0, .ref o)]) hx hb d_Row_sumBins_3 rfl hl (by decide) rfl (fun ls hl => ?_)
  have loop : ∀ (d i : Nat), i + d = 6 → ∀ (X : gM) (H : Heap) (locs : List Loc) (ls : Array Slot), (X = M) → gw_H E D X s H locs → lv_has ls 3 [(2, .int (nI i)), (1, .int 0), (0, .ref o)] → W p l e ({ frames := 3, cells := 0, slots := 0, locals := 64 } : Room) s m args below meth c H locs 0 0 (MQ below (gw_Qi E D (fun r M' => r = 0 ∧ M' = M)) args s 0 0 (gw_A E)) (F0 m 4 ls []) := by
    intro d
    induction d with
    | zero =>
      intro i hi X H locs ls hI hG hl
      replace hG := gw_nm hI.symm hG
      refine lv_iload_n hx hb d_Row_sumBins_4 rfl (lv_at hl 0 rfl) ?_
      refine lv_aload_n hx hb d_Row_sumBins_5 rfl (lv_at hl 2 rfl) ?_
      refine gw_get hx hb hT i_Row hown hK hG hro rfl 2 (by decide) (hT _ wm_238) (fun _ h => h) rfl d_Row_sumBins_6 ?_
      refine gw_calli (gw_runV (As := []) (rest := [.int (nI i)]) ⟨hx, hb, hml, hown, hts⟩ (c_L_size l E D cI cO cZ z0 M hLb) (gw_cwV 0 hts (gT_gi wm_286) rfl rfl rfl (hT _ wm_26) (hT _ wm_283) (hT _ wm_284) (hT _ wm_285) (by decide +kernel) ⟨Nat.le_of_ble_eq_true rfl, Nat.le_of_ble_eq_true rfl⟩) hF hG rfl hbl rfl hl.1 rfl (Nat.le_of_ble_eq_true rfl) d_Row_sumBins_9 ⟨Nat.le_of_ble_eq_true rfl, Nat.le_of_ble_eq_true rfl⟩) hG (fun r M1 H locs hp hG => ?_)
      rw [hp.1]
      replace hG := gw_nm hp.2.symm hG
      refine lv_icmp_ge (tgt := 38) hx hb d_Row_sumBins_12 (by decide) (fun c_12 => ?_) (fun z_ => absurd (nI_le (by omega) (by omega)) z_)
      refine lv_iload_n hx hb d_Row_sumBins_38 rfl (lv_at hl 1 rfl) ?_
      exact gw_iret (v := 0) hx hb hr hlk hG (⟨rfl, rfl⟩) (Nat.le_of_ble_eq_true rfl) (Nat.le_of_ble_eq_true rfl) d_Row_sumBins_39
    | succ d ih =>
      intro i hi X H locs ls hI hG hl
      replace hG := gw_nm hI.symm hG
      refine lv_iload_n hx hb d_Row_sumBins_4 rfl (lv_at hl 0 rfl) ?_
      refine lv_aload_n hx hb d_Row_sumBins_5 rfl (lv_at hl 2 rfl) ?_
      refine gw_get hx hb hT i_Row hown hK hG hro rfl 2 (by decide) (hT _ wm_238) (fun _ h => h) rfl d_Row_sumBins_6 ?_
      refine gw_calli (gw_runV (As := []) (rest := [.int (nI i)]) ⟨hx, hb, hml, hown, hts⟩ (c_L_size l E D cI cO cZ z0 M hLb) (gw_cwV 0 hts (gT_gi wm_286) rfl rfl rfl (hT _ wm_26) (hT _ wm_283) (hT _ wm_284) (hT _ wm_285) (by decide +kernel) ⟨Nat.le_of_ble_eq_true rfl, Nat.le_of_ble_eq_true rfl⟩) hF hG rfl hbl rfl hl.1 rfl (Nat.le_of_ble_eq_true rfl) d_Row_sumBins_9 ⟨Nat.le_of_ble_eq_true rfl, Nat.le_of_ble_eq_true rfl⟩) hG (fun r M2 H locs hp hG => ?_)
      rw [hp.1]
      replace hG := gw_nm hp.2.symm hG
      refine lv_icmp_ge (tgt := 38) hx hb d_Row_sumBins_12 (by decide) (fun z_ => absurd z_ (nI_ge (by omega) (by decide))) (fun c_12 => ?_)
      refine lv_iload_n hx hb d_Row_sumBins_15 rfl (lv_at hl 1 rfl) ?_
      refine lv_aload_n hx hb d_Row_sumBins_16 rfl (lv_at hl 2 rfl) ?_
      refine gw_get hx hb hT i_Row hown hK hG hro rfl 2 (by decide) (hT _ wm_238) (fun _ h => h) rfl d_Row_sumBins_17 ?_
      refine lv_iload_n hx hb d_Row_sumBins_20 rfl (lv_at hl 0 rfl) ?_
      refine gw_callq (gw_runV (As := [.int (nI i)]) (rest := [.int 0]) ⟨hx, hb, hml, hown, hts⟩ (c_L_get l E D cI cO cZ z0 M hLb (p := i) (by omega)) (gw_cwV 1 hts (gT_gi wm_362) rfl rfl rfl (hT _ wm_26) (hT _ wm_359) (hT _ wm_360) (hT _ wm_361) (by decide +kernel) ⟨Nat.le_of_ble_eq_true rfl, Nat.le_of_ble_eq_true rfl⟩) hF hG rfl hbl rfl hl.1 rfl (Nat.le_of_ble_eq_true rfl) d_Row_sumBins_21 ⟨Nat.le_of_ble_eq_true rfl, Nat.le_of_ble_eq_true rfl⟩) hG (fun r M3 H locs hp hG => ?_)
      rw [hp.1]
      replace hG := gw_nm hp.2.symm hG
      have hgi := hbn i (by omega)
      refine gw_cast (ci := 5) (r := (R_Bin, F_Bin, 4)) hx hb hown (hT _ wm_150) hF hG rfl hgi d_Row_sumBins_24 ?_
      refine gw_get hx hb hT i_Bin hown hK hG hgi rfl 1 (by decide) (hT _ wm_159) (fun _ h => h) rfl d_Row_sumBins_27 ?_
      refine lv_iadd hx hb d_Row_sumBins_30 ?_
      rw [show (0 : Int32) + 0 = 0 from by decide]
      refine lv_istore_n (lv' := [(1, .int 0), (2, .int (nI i)), (0, .ref o)]) hx hb d_Row_sumBins_31 rfl hl (by decide) rfl (fun ls hl => ?_)
      refine lv_iinc (v := nI (i + 1)) (lv' := [(2, .int (nI (i + 1))), (1, .int 0), (0, .ref o)]) hx hb d_Row_sumBins_32 hl (k := 1) rfl (nI_succ i).symm (by decide) rfl (fun ls hl => ?_)
      refine lv_goto (tgt := 4) hx hb d_Row_sumBins_35 (by decide) ?_
      exact ih (i + 1) (by omega) M _ _ _ rfl hG (lv_sub hl [0, 1, 2] rfl)
  exact loop _ _ (Nat.zero_add 6) M _ _ _ rfl hG (lv_sub hl [0, 1, 2] rfl)
set_option maxHeartbeats 4000000 in
set_option maxRecDepth 100000 in
theorem c_Row_binsSound (l : Launch) (E : Nat) (D : va_G) (cI cO cZ : ClassId) (z0 : Nat) (M : gM) {o n : Nat} {day : Int32} {S : gS} {Z ad bn : Nat → Nat} (hf : gw_fa z0 cO M o n day S Z ad bn) : Met l y_Row_binsSound (Cond.code y_Row_binsSound b_Row_binsSound 3 (some .boolean) :: gT) ({ frames := 3, cells := 0, slots := 0, locals := 64 }) (gw_Pc E D cI cO cZ z0 M [.ref o]) (gw_Qi E D (fun r M' => r = 1 ∧ M' = M)) 0 0 (gw_A E) := by
  refine gw_ofW (cc := b_Row_binsSound) (maxL := 3) (ret := (some .boolean)) (by decide) rfl (Nat.le_of_ble_eq_true rfl) ?_
  intro p e s m args below meth c hx hb hr hml hts hown hlk hnm hF hG ls hl
  have hT : ∀ w ∈ gT, w.before args s = true := fun w h => hts w (List.mem_cons_of_mem _ h)
  have hK := hF.1
  have hl : lv_has ls 3 [(0, .ref o)] := hl
  obtain ⟨hro, hLh, hLl, hLb, hbn, hgg, hLg, hdr, hlg, hhd, had, hord, hoi, hne, har⟩ := id hf
  obtain ⟨kh, hhl, h10, -⟩ := id hLh
  have hz0 := gw_z0 hF hG
  obtain ⟨kb, hbl, -⟩ := id hLb
  refine lv_iconst (v := 0) hx hb d_Row_binsSound_0 (by decide) ?_
  refine lv_istore_n (lv' := [(1, .int 0), (0, .ref o)]) hx hb d_Row_binsSound_1 rfl hl (by decide) rfl (fun ls hl => ?_)
  have loop : ∀ (d i : Nat), i + d = 6 → ∀ (X : gM) (H : Heap) (locs : List Loc) (ls : Array Slot), (X = M) → gw_H E D X s H locs → lv_has ls 3 [(1, .int (nI i)), (0, .ref o)] → W p l e ({ frames := 3, cells := 0, slots := 0, locals := 64 } : Room) s m args below meth c H locs 0 0 (MQ below (gw_Qi E D (fun r M' => r = 1 ∧ M' = M)) args s 0 0 (gw_A E)) (F0 m 2 ls []) := by
    intro d
    induction d with
    | zero =>
      intro i hi X H locs ls hI hG hl
      replace hG := gw_nm hI.symm hG
      refine lv_iload_n hx hb d_Row_binsSound_2 rfl (lv_at hl 0 rfl) ?_
      refine lv_aload_n hx hb d_Row_binsSound_3 rfl (lv_at hl 1 rfl) ?_
      refine gw_get hx hb hT i_Row hown hK hG hro rfl 2 (by decide) (hT _ wm_238) (fun _ h => h) rfl d_Row_binsSound_4 ?_
      refine gw_calli (gw_runV (As := []) (rest := [.int (nI i)]) ⟨hx, hb, hml, hown, hts⟩ (c_L_size l E D cI cO cZ z0 M hLb) (gw_cwV 0 hts (gT_gi wm_286) rfl rfl rfl (hT _ wm_26) (hT _ wm_283) (hT _ wm_284) (hT _ wm_285) (by decide +kernel) ⟨Nat.le_of_ble_eq_true rfl, Nat.le_of_ble_eq_true rfl⟩) hF hG rfl hbl rfl hl.1 rfl (Nat.le_of_ble_eq_true rfl) d_Row_binsSound_7 ⟨Nat.le_of_ble_eq_true rfl, Nat.le_of_ble_eq_true rfl⟩) hG (fun r M1 H locs hp hG => ?_)
      rw [hp.1]
      replace hG := gw_nm hp.2.symm hG
      refine lv_icmp_ge (tgt := 72) hx hb d_Row_binsSound_10 (by decide) (fun c_10 => ?_) (fun z_ => absurd (nI_le (by omega) (by omega)) z_)
      refine lv_iconst (v := 1) hx hb d_Row_binsSound_72 (by decide) ?_
      exact gw_zret (v := 1) hx hb hr hlk hG rfl ⟨rfl, rfl⟩ (Nat.le_of_ble_eq_true rfl) (Nat.le_of_ble_eq_true rfl) d_Row_binsSound_73
    | succ d ih =>
      intro i hi X H locs ls hI hG hl
      replace hG := gw_nm hI.symm hG
      refine lv_iload_n hx hb d_Row_binsSound_2 rfl (lv_at hl 0 rfl) ?_
      refine lv_aload_n hx hb d_Row_binsSound_3 rfl (lv_at hl 1 rfl) ?_
      refine gw_get hx hb hT i_Row hown hK hG hro rfl 2 (by decide) (hT _ wm_238) (fun _ h => h) rfl d_Row_binsSound_4 ?_
      refine gw_calli (gw_runV (As := []) (rest := [.int (nI i)]) ⟨hx, hb, hml, hown, hts⟩ (c_L_size l E D cI cO cZ z0 M hLb) (gw_cwV 0 hts (gT_gi wm_286) rfl rfl rfl (hT _ wm_26) (hT _ wm_283) (hT _ wm_284) (hT _ wm_285) (by decide +kernel) ⟨Nat.le_of_ble_eq_true rfl, Nat.le_of_ble_eq_true rfl⟩) hF hG rfl hbl rfl hl.1 rfl (Nat.le_of_ble_eq_true rfl) d_Row_binsSound_7 ⟨Nat.le_of_ble_eq_true rfl, Nat.le_of_ble_eq_true rfl⟩) hG (fun r M2 H locs hp hG => ?_)
      rw [hp.1]
      replace hG := gw_nm hp.2.symm hG
      refine lv_icmp_ge (tgt := 72) hx hb d_Row_binsSound_10 (by decide) (fun z_ => absurd z_ (nI_ge (by omega) (by decide))) (fun c_10 => ?_)
      refine lv_aload_n hx hb d_Row_binsSound_13 rfl (lv_at hl 1 rfl) ?_
      refine gw_get hx hb hT i_Row hown hK hG hro rfl 2 (by decide) (hT _ wm_238) (fun _ h => h) rfl d_Row_binsSound_14 ?_
      refine lv_iload_n hx hb d_Row_binsSound_17 rfl (lv_at hl 0 rfl) ?_
      refine gw_callq (gw_runV (As := [.int (nI i)]) (rest := []) ⟨hx, hb, hml, hown, hts⟩ (c_L_get l E D cI cO cZ z0 M hLb (p := i) (by omega)) (gw_cwV 1 hts (gT_gi wm_362) rfl rfl rfl (hT _ wm_26) (hT _ wm_359) (hT _ wm_360) (hT _ wm_361) (by decide +kernel) ⟨Nat.le_of_ble_eq_true rfl, Nat.le_of_ble_eq_true rfl⟩) hF hG rfl hbl rfl hl.1 rfl (Nat.le_of_ble_eq_true rfl) d_Row_binsSound_18 ⟨Nat.le_of_ble_eq_true rfl, Nat.le_of_ble_eq_true rfl⟩) hG (fun r M3 H locs hp hG => ?_)
      rw [hp.1]
      replace hG := gw_nm hp.2.symm hG
      have hgi := hbn i (by omega)
      refine gw_cast (ci := 5) (r := (R_Bin, F_Bin, 4)) hx hb hown (hT _ wm_150) hF hG rfl hgi d_Row_binsSound_21 ?_
      refine lv_astore_n (lv' := [(2, .ref (bn i)), (1, .int (nI i)), (0, .ref o)]) hx hb d_Row_binsSound_24 rfl hl (by decide) rfl (fun ls hl => ?_)
      refine lv_aload_n hx hb d_Row_binsSound_25 rfl (lv_at hl 0 rfl) ?_
      refine gw_get hx hb hT i_Bin hown hK hG hgi rfl 2 (by decide) (hT _ wm_161) (fun _ h => h) rfl d_Row_binsSound_26 ?_
      refine lv_aload_n hx hb d_Row_binsSound_29 rfl (lv_at hl 0 rfl) ?_
      refine gw_get hx hb hT i_Bin hown hK hG hgi rfl 1 (by decide) (hT _ wm_159) (fun _ h => h) rfl d_Row_binsSound_30 ?_
      refine lv_icmp_gt (tgt := 47) hx hb d_Row_binsSound_33 (by decide) (fun z_ => absurd z_ (by decide)) (fun c_33 => ?_)
      refine lv_aload_n hx hb d_Row_binsSound_36 rfl (lv_at hl 0 rfl) ?_
      refine gw_get hx hb hT i_Bin hown hK hG hgi rfl 3 (by decide) (hT _ wm_163) (fun _ h => h) rfl d_Row_binsSound_37 ?_
      refine lv_aload_n hx hb d_Row_binsSound_40 rfl (lv_at hl 0 rfl) ?_
      refine gw_get hx hb hT i_Bin hown hK hG hgi rfl 1 (by decide) (hT _ wm_159) (fun _ h => h) rfl d_Row_binsSound_41 ?_
      refine lv_icmp_le (tgt := 49) hx hb d_Row_binsSound_44 (by decide) (fun c_44 => ?_) (fun z_ => absurd (by decide) z_)
      refine lv_aload_n hx hb d_Row_binsSound_49 rfl (lv_at hl 0 rfl) ?_
      refine gw_get hx hb hT i_Bin hown hK hG hgi rfl 1 (by decide) (hT _ wm_159) (fun _ h => h) rfl d_Row_binsSound_50 ?_
      refine lv_if_ne (tgt := 66) hx hb d_Row_binsSound_53 (by decide) (fun z_ => absurd (rfl) z_) (fun c_53 => ?_)
      refine lv_aload_n hx hb d_Row_binsSound_56 rfl (lv_at hl 0 rfl) ?_
      refine gw_get hx hb hT i_Bin hown hK hG hgi rfl 0 (by decide) (hT _ wm_157) (fun _ h => h) rfl d_Row_binsSound_57 ?_
      refine lv_iconst (v := (-1)) hx hb d_Row_binsSound_60 (by decide) ?_
      refine lv_icmp_eq (tgt := 66) hx hb d_Row_binsSound_61 (by decide) (fun c_61 => ?_) (fun z_ => absurd (rfl) z_)
      refine lv_iinc (v := nI (i + 1)) (lv' := [(1, .int (nI (i + 1))), (2, .ref (bn i)), (0, .ref o)]) hx hb d_Row_binsSound_66 hl (k := 1) rfl (nI_succ i).symm (by decide) rfl (fun ls hl => ?_)
      refine lv_goto (tgt := 2) hx hb d_Row_binsSound_69 (by decide) ?_
      exact ih (i + 1) (by omega) M _ _ _ rfl hG (lv_sub hl [0, 2] rfl)
  exact loop _ _ (Nat.zero_add 6) M _ _ _ rfl hG (lv_sub hl [0, 1] rfl)
set_option maxHeartbeats 4000000 in
set_option maxRecDepth 100000 in
theorem c_Ledger_sumGone (l : Launch) (E : Nat) (D : va_G) (cI cO cZ : ClassId) (z0 : Nat) (M : gM) {a : Nat} (ha : M a = some (.inr (4, [.int 0, .int 0, .int 0, .int 0, .int 0, .int 0, .int 0, .int 0, .int 0]))) : Met l y_Ledger_sumGone (Cond.code y_Ledger_sumGone b_Ledger_sumGone 1 (some .int) :: gT) ({ frames := 0, cells := 0, slots := 0, locals := 0 }) (gw_Pc E D cI cO cZ z0 M [.ref a]) (gw_Qi E D (fun r M' => r = 0 ∧ M' = M)) 0 0 (gw_A E) := by
  refine gw_ofW (cc := b_Ledger_sumGone) (maxL := 1) (ret := (some .int)) (by decide) rfl (Nat.le_of_ble_eq_true rfl) ?_
  intro p e s m args below meth c hx hb hr hml hts hown hlk hnm hF hG ls hl
  have hT : ∀ w ∈ gT, w.before args s = true := fun w h => hts w (List.mem_cons_of_mem _ h)
  have hK := hF.1
  have hl : lv_has ls 1 [(0, .ref a)] := hl
  refine lv_aload_n hx hb d_Ledger_sumGone_0 rfl (lv_at hl 0 rfl) ?_
  refine gw_get hx hb hT i_Ledger hown hK hG ha rfl 0 (by decide) (hT _ wm_121) (fun _ h => h) rfl d_Ledger_sumGone_1 ?_
  refine lv_aload_n hx hb d_Ledger_sumGone_4 rfl (lv_at hl 0 rfl) ?_
  refine gw_get hx hb hT i_Ledger hown hK hG ha rfl 1 (by decide) (hT _ wm_122) (fun _ h => h) rfl d_Ledger_sumGone_5 ?_
  refine lv_iadd hx hb d_Ledger_sumGone_8 ?_
  refine lv_aload_n hx hb d_Ledger_sumGone_9 rfl (lv_at hl 0 rfl) ?_
  refine gw_get hx hb hT i_Ledger hown hK hG ha rfl 2 (by decide) (hT _ wm_123) (fun _ h => h) rfl d_Ledger_sumGone_10 ?_
  refine lv_iadd hx hb d_Ledger_sumGone_13 ?_
  refine lv_aload_n hx hb d_Ledger_sumGone_14 rfl (lv_at hl 0 rfl) ?_
  refine gw_get hx hb hT i_Ledger hown hK hG ha rfl 3 (by decide) (hT _ wm_124) (fun _ h => h) rfl d_Ledger_sumGone_15 ?_
  refine lv_iadd hx hb d_Ledger_sumGone_18 ?_
  refine lv_aload_n hx hb d_Ledger_sumGone_19 rfl (lv_at hl 0 rfl) ?_
  refine gw_get hx hb hT i_Ledger hown hK hG ha rfl 4 (by decide) (hT _ wm_125) (fun _ h => h) rfl d_Ledger_sumGone_20 ?_
  refine lv_iadd hx hb d_Ledger_sumGone_23 ?_
  refine lv_aload_n hx hb d_Ledger_sumGone_24 rfl (lv_at hl 0 rfl) ?_
  refine gw_get hx hb hT i_Ledger hown hK hG ha rfl 5 (by decide) (hT _ wm_126) (fun _ h => h) rfl d_Ledger_sumGone_25 ?_
  refine lv_iadd hx hb d_Ledger_sumGone_28 ?_
  refine lv_aload_n hx hb d_Ledger_sumGone_29 rfl (lv_at hl 0 rfl) ?_
  refine gw_get hx hb hT i_Ledger hown hK hG ha rfl 6 (by decide) (hT _ wm_127) (fun _ h => h) rfl d_Ledger_sumGone_30 ?_
  refine lv_iadd hx hb d_Ledger_sumGone_33 ?_
  refine lv_aload_n hx hb d_Ledger_sumGone_34 rfl (lv_at hl 0 rfl) ?_
  refine gw_get hx hb hT i_Ledger hown hK hG ha rfl 7 (by decide) (hT _ wm_129) (fun _ h => h) rfl d_Ledger_sumGone_35 ?_
  refine lv_iadd hx hb d_Ledger_sumGone_38 ?_
  refine lv_aload_n hx hb d_Ledger_sumGone_39 rfl (lv_at hl 0 rfl) ?_
  refine gw_get hx hb hT i_Ledger hown hK hG ha rfl 8 (by decide) (hT _ wm_130) (fun _ h => h) rfl d_Ledger_sumGone_40 ?_
  refine lv_iadd hx hb d_Ledger_sumGone_43 ?_
  exact gw_iret (v := 0) hx hb hr hlk hG ⟨rfl, rfl⟩ (Nat.le_of_ble_eq_true rfl) (Nat.le_of_ble_eq_true rfl) d_Ledger_sumGone_44
set_option maxHeartbeats 4000000 in
set_option maxRecDepth 100000 in
theorem c_Row_isSound (l : Launch) (E : Nat) (D : va_G) (cI cO cZ : ClassId) (z0 : Nat) (M : gM) {o n : Nat} {day : Int32} {S : gS} {Z ad bn : Nat → Nat} (hf : gw_fa z0 cO M o n day S Z ad bn) (hu : ∀ p, p < S.1 → (S.2.2 (S.2.1 p)).2.2.2.1 = 0) : Met l y_Row_isSound (Cond.code y_Row_isSound b_Row_isSound 2 (some .boolean) :: gT) ({ frames := 4, cells := 0, slots := 0, locals := 86 }) (gw_Pc E D cI cO cZ z0 M [.ref o]) (gw_Qi E D (fun r M' => r = 1 ∧ M' = M)) 0 0 (gw_A E) := by
  refine gw_ofW (cc := b_Row_isSound) (maxL := 2) (ret := (some .boolean)) (by decide) rfl (Nat.le_of_ble_eq_true rfl) ?_
  intro p e s m args below meth c hx hb hr hml hts hown hlk hnm hF hG ls hl
  have hT : ∀ w ∈ gT, w.before args s = true := fun w h => hts w (List.mem_cons_of_mem _ h)
  have hK := hF.1
  have hl : lv_has ls 2 [(0, .ref o)] := hl
  obtain ⟨hro, hLh, hLl, hLb, hbn, hgg, hLg, hdr, hlg, hhd, had, hord, hoi, hne, har⟩ := id hf
  obtain ⟨kh, hhl, h10, -⟩ := id hLh
  have hz0 := gw_z0 hF hG
  refine lv_aload_n hx hb d_Row_isSound_0 rfl (lv_at hl 0 rfl) ?_
  refine gw_calli (gw_runV (As := []) (rest := []) ⟨hx, hb, hml, hown, hts⟩ (c_Row_sumEars l E D cI cO cZ z0 M hf) (gw_cwV 0 hts (gT_gi wm_381) rfl rfl rfl (hT _ wm_23) (hT _ wm_378) (hT _ wm_380) (hT _ wm_4) (by decide +kernel) ⟨Nat.le_of_ble_eq_true rfl, Nat.le_of_ble_eq_true rfl⟩) hF hG rfl hro rfl hl.1 rfl (Nat.le_of_ble_eq_true rfl) d_Row_isSound_1 ⟨Nat.le_of_ble_eq_true rfl, Nat.le_of_ble_eq_true rfl⟩) hG (fun r M1 H locs hp hG => ?_)
  rw [hp.1]
  replace hG := gw_nm hp.2.symm hG
  refine lv_aload_n hx hb d_Row_isSound_4 rfl (lv_at hl 0 rfl) ?_
  refine gw_calli (gw_runV (As := []) (rest := [.int 0]) ⟨hx, hb, hml, hown, hts⟩ (c_Row_sumHeaps l E D cI cO cZ z0 M hf) (gw_cwV 0 hts (gT_gi wm_386) rfl rfl rfl (hT _ wm_23) (hT _ wm_383) (hT _ wm_385) (hT _ wm_5) (by decide +kernel) ⟨Nat.le_of_ble_eq_true rfl, Nat.le_of_ble_eq_true rfl⟩) hF hG rfl hro rfl hl.1 rfl (Nat.le_of_ble_eq_true rfl) d_Row_isSound_5 ⟨Nat.le_of_ble_eq_true rfl, Nat.le_of_ble_eq_true rfl⟩) hG (fun r M2 H locs hp hG => ?_)
  rw [hp.1]
  replace hG := gw_nm hp.2.symm hG
  refine lv_iadd hx hb d_Row_isSound_8 ?_
  rw [show (0 : Int32) + 0 = 0 from by decide]
  refine lv_aload_n hx hb d_Row_isSound_9 rfl (lv_at hl 0 rfl) ?_
  refine gw_get hx hb hT i_Row hown hK hG hro rfl 4 (by decide) (hT _ wm_240) (fun _ h => h) rfl d_Row_isSound_10 ?_
  refine gw_get hx hb hT i_Drum hown hK hG hdr rfl 2 (by decide) (hT _ wm_104) (fun _ h => h) rfl d_Row_isSound_13 ?_
  refine lv_iadd hx hb d_Row_isSound_16 ?_
  rw [show (0 : Int32) + 0 = 0 from by decide]
  refine lv_aload_n hx hb d_Row_isSound_17 rfl (lv_at hl 0 rfl) ?_
  refine gw_calli (gw_runV (As := []) (rest := [.int 0]) ⟨hx, hb, hml, hown, hts⟩ (c_Row_sumBins l E D cI cO cZ z0 M hf) (gw_cwV 0 hts (gT_gi wm_390) rfl rfl rfl (hT _ wm_23) (hT _ wm_387) (hT _ wm_389) (hT _ wm_6) (by decide +kernel) ⟨Nat.le_of_ble_eq_true rfl, Nat.le_of_ble_eq_true rfl⟩) hF hG rfl hro rfl hl.1 rfl (Nat.le_of_ble_eq_true rfl) d_Row_isSound_18 ⟨Nat.le_of_ble_eq_true rfl, Nat.le_of_ble_eq_true rfl⟩) hG (fun r M3 H locs hp hG => ?_)
  rw [hp.1]
  replace hG := gw_nm hp.2.symm hG
  refine lv_iadd hx hb d_Row_isSound_21 ?_
  rw [show (0 : Int32) + 0 = 0 from by decide]
  refine lv_aload_n hx hb d_Row_isSound_22 rfl (lv_at hl 0 rfl) ?_
  refine gw_get hx hb hT i_Row hown hK hG hro rfl 5 (by decide) (hT _ wm_241) (fun _ h => h) rfl d_Row_isSound_23 ?_
  refine gw_calli (gw_runV (As := []) (rest := [.int 0]) ⟨hx, hb, hml, hown, hts⟩ (c_Ledger_sumGone l E D cI cO cZ z0 M hlg) (gw_cwV 0 hts (gT_gi wm_394) rfl rfl rfl (hT _ wm_29) (hT _ wm_391) (hT _ wm_392) (hT _ wm_393) (by decide +kernel) ⟨Nat.le_of_ble_eq_true rfl, Nat.le_of_ble_eq_true rfl⟩) hF hG rfl hlg rfl hl.1 rfl (Nat.le_of_ble_eq_true rfl) d_Row_isSound_26 ⟨Nat.le_of_ble_eq_true rfl, Nat.le_of_ble_eq_true rfl⟩) hG (fun r M4 H locs hp hG => ?_)
  rw [hp.1]
  replace hG := gw_nm hp.2.symm hG
  refine lv_iadd hx hb d_Row_isSound_29 ?_
  rw [show (0 : Int32) + 0 = 0 from by decide]
  refine lv_istore_n (lv' := [(1, .int 0), (0, .ref o)]) hx hb d_Row_isSound_30 rfl hl (by decide) rfl (fun ls hl => ?_)
  refine lv_iload_n hx hb d_Row_isSound_31 rfl (lv_at hl 0 rfl) ?_
  refine lv_aload_n hx hb d_Row_isSound_32 rfl (lv_at hl 1 rfl) ?_
  refine gw_calli (gw_runV (As := []) (rest := [.int 0]) ⟨hx, hb, hml, hown, hts⟩ (c_Row_sumCame l E D cI cO cZ z0 M hf) (gw_cwV 0 hts (gT_gi wm_398) rfl rfl rfl (hT _ wm_23) (hT _ wm_395) (hT _ wm_397) (hT _ wm_7) (by decide +kernel) ⟨Nat.le_of_ble_eq_true rfl, Nat.le_of_ble_eq_true rfl⟩) hF hG rfl hro rfl hl.1 rfl (Nat.le_of_ble_eq_true rfl) d_Row_isSound_33 ⟨Nat.le_of_ble_eq_true rfl, Nat.le_of_ble_eq_true rfl⟩) hG (fun r M5 H locs hp hG => ?_)
  rw [hp.1]
  replace hG := gw_nm hp.2.symm hG
  refine lv_icmp_ne (tgt := 67) hx hb d_Row_isSound_36 (by decide) (fun z_ => absurd (rfl) z_) (fun c_36 => ?_)
  refine lv_aload_n hx hb d_Row_isSound_39 rfl (lv_at hl 1 rfl) ?_
  refine gw_calli (gw_runV (As := []) (rest := []) ⟨hx, hb, hml, hown, hts⟩ (c_Row_heapsSound l E D cI cO cZ z0 M hf) (gw_cwV 0 hts (gT_gi wm_402) rfl rfl rfl (hT _ wm_23) (hT _ wm_399) (hT _ wm_401) (hT _ wm_8) (by decide +kernel) ⟨Nat.le_of_ble_eq_true rfl, Nat.le_of_ble_eq_true rfl⟩) hF hG rfl hro rfl hl.1 rfl (Nat.le_of_ble_eq_true rfl) d_Row_isSound_40 ⟨Nat.le_of_ble_eq_true rfl, Nat.le_of_ble_eq_true rfl⟩) hG (fun r M6 H locs hp hG => ?_)
  rw [hp.1]
  replace hG := gw_nm hp.2.symm hG
  refine lv_if_eq (tgt := 67) hx hb d_Row_isSound_43 (by decide) (fun z_ => absurd z_ (by decide)) (fun c_43 => ?_)
  refine lv_aload_n hx hb d_Row_isSound_46 rfl (lv_at hl 1 rfl) ?_
  refine gw_calli (gw_runV (As := []) (rest := []) ⟨hx, hb, hml, hown, hts⟩ (c_Row_binsSound l E D cI cO cZ z0 M hf) (gw_cwV 0 hts (gT_gi wm_406) rfl rfl rfl (hT _ wm_23) (hT _ wm_403) (hT _ wm_405) (hT _ wm_9) (by decide +kernel) ⟨Nat.le_of_ble_eq_true rfl, Nat.le_of_ble_eq_true rfl⟩) hF hG rfl hro rfl hl.1 rfl (Nat.le_of_ble_eq_true rfl) d_Row_isSound_47 ⟨Nat.le_of_ble_eq_true rfl, Nat.le_of_ble_eq_true rfl⟩) hG (fun r M7 H locs hp hG => ?_)
  rw [hp.1]
  replace hG := gw_nm hp.2.symm hG
  refine lv_if_eq (tgt := 67) hx hb d_Row_isSound_50 (by decide) (fun z_ => absurd z_ (by decide)) (fun c_50 => ?_)
  refine lv_aload_n hx hb d_Row_isSound_53 rfl (lv_at hl 1 rfl) ?_
  refine gw_get hx hb hT i_Row hown hK hG hro rfl 3 (by decide) (hT _ wm_239) (fun _ h => h) rfl d_Row_isSound_54 ?_
  refine gw_calli (gw_runV (As := []) (rest := []) ⟨hx, hb, hml, hown, hts⟩ (c_Gang_hasHurt l E D cI cO cZ z0 M hf.gg hu) (gw_cwV 0 hts (gT_gi wm_410) rfl rfl rfl (hT _ wm_27) (hT _ wm_407) (hT _ wm_408) (hT _ wm_409) (by decide +kernel) ⟨Nat.le_of_ble_eq_true rfl, Nat.le_of_ble_eq_true rfl⟩) hF hG rfl hgg rfl hl.1 rfl (Nat.le_of_ble_eq_true rfl) d_Row_isSound_57 ⟨Nat.le_of_ble_eq_true rfl, Nat.le_of_ble_eq_true rfl⟩) hG (fun r M8 H locs hp hG => ?_)
  rw [hp.1]
  replace hG := gw_nm hp.2.symm hG
  refine lv_if_ne (tgt := 67) hx hb d_Row_isSound_60 (by decide) (fun z_ => absurd (rfl) z_) (fun c_60 => ?_)
  refine lv_iconst (v := 1) hx hb d_Row_isSound_63 (by decide) ?_
  refine lv_goto (tgt := 68) hx hb d_Row_isSound_64 (by decide) ?_
  exact gw_zret (v := 1) hx hb hr hlk hG rfl ⟨rfl, rfl⟩ (Nat.le_of_ble_eq_true rfl) (Nat.le_of_ble_eq_true rfl) d_Row_isSound_68
