theorem d_Bin_init_0 : decode b_Bin_init 0 = .ok (.aload_n 0, 1) := by decide +kernel
theorem wm_155 : Cond.methodLink "ThresholdRow$Bin" 3 ⟨"java/lang/Object", "<init>", "()V"⟩ ∈ gT := gT_m (List.mem_of_getElem? (i := 155) (by decide +kernel)) (by decide +kernel)
theorem d_Bin_init_1 : decode b_Bin_init 1 = .ok (.invokespecial 3, 3) := by decide +kernel
theorem d_Bin_init_4 : decode b_Bin_init 4 = .ok (.aload_n 0, 1) := by decide +kernel
theorem d_Bin_init_5 : decode b_Bin_init 5 = .ok (.iconst (-1), 1) := by decide +kernel
theorem wm_156 : Cond.fieldLink "ThresholdRow$Bin" 9 "ThresholdRow$Bin" "crop" "I" ∈ gT := gT_m (List.mem_of_getElem? (i := 156) (by decide +kernel)) (by decide +kernel)
theorem d_Bin_init_6 : decode b_Bin_init 6 = .ok (.putfield 9, 3) := by decide +kernel
theorem d_Bin_init_9 : decode b_Bin_init 9 = .ok (.aload_n 0, 1) := by decide +kernel
theorem d_Bin_init_10 : decode b_Bin_init 10 = .ok (.iconst 0, 1) := by decide +kernel
theorem wm_158 : Cond.fieldLink "ThresholdRow$Bin" 15 "ThresholdRow$Bin" "grain" "I" ∈ gT := gT_m (List.mem_of_getElem? (i := 158) (by decide +kernel)) (by decide +kernel)
theorem d_Bin_init_11 : decode b_Bin_init 11 = .ok (.putfield 15, 3) := by decide +kernel
theorem d_Bin_init_14 : decode b_Bin_init 14 = .ok (.aload_n 0, 1) := by decide +kernel
theorem d_Bin_init_15 : decode b_Bin_init 15 = .ok (.iconst 0, 1) := by decide +kernel
theorem wm_160 : Cond.fieldLink "ThresholdRow$Bin" 18 "ThresholdRow$Bin" "bruised" "I" ∈ gT := gT_m (List.mem_of_getElem? (i := 160) (by decide +kernel)) (by decide +kernel)
theorem d_Bin_init_16 : decode b_Bin_init 16 = .ok (.putfield 18, 3) := by decide +kernel
theorem d_Bin_init_19 : decode b_Bin_init 19 = .ok (.aload_n 0, 1) := by decide +kernel
theorem d_Bin_init_20 : decode b_Bin_init 20 = .ok (.iconst 0, 1) := by decide +kernel
theorem wm_162 : Cond.fieldLink "ThresholdRow$Bin" 21 "ThresholdRow$Bin" "foreign" "I" ∈ gT := gT_m (List.mem_of_getElem? (i := 162) (by decide +kernel)) (by decide +kernel)
theorem d_Bin_init_21 : decode b_Bin_init 21 = .ok (.putfield 21, 3) := by decide +kernel
theorem d_Bin_init_24 : decode b_Bin_init 24 = .ok (.return_, 1) := by decide +kernel
theorem d_Drum_init_0 : decode b_Drum_init 0 = .ok (.aload_n 0, 1) := by decide +kernel
theorem wm_100 : Cond.methodLink "ThresholdRow$Drum" 3 ⟨"java/lang/Object", "<init>", "()V"⟩ ∈ gT := gT_m (List.mem_of_getElem? (i := 100) (by decide +kernel)) (by decide +kernel)
theorem d_Drum_init_1 : decode b_Drum_init 1 = .ok (.invokespecial 3, 3) := by decide +kernel
theorem d_Drum_init_4 : decode b_Drum_init 4 = .ok (.aload_n 0, 1) := by decide +kernel
theorem d_Drum_init_5 : decode b_Drum_init 5 = .ok (.iconst 0, 1) := by decide +kernel
theorem wm_101 : Cond.fieldLink "ThresholdRow$Drum" 9 "ThresholdRow$Drum" "hiredTill" "I" ∈ gT := gT_m (List.mem_of_getElem? (i := 101) (by decide +kernel)) (by decide +kernel)
theorem d_Drum_init_6 : decode b_Drum_init 6 = .ok (.putfield 9, 3) := by decide +kernel
theorem d_Drum_init_9 : decode b_Drum_init 9 = .ok (.aload_n 0, 1) := by decide +kernel
theorem d_Drum_init_10 : decode b_Drum_init 10 = .ok (.iconst (-1), 1) := by decide +kernel
theorem wm_102 : Cond.fieldLink "ThresholdRow$Drum" 15 "ThresholdRow$Drum" "testedOn" "I" ∈ gT := gT_m (List.mem_of_getElem? (i := 102) (by decide +kernel)) (by decide +kernel)
theorem d_Drum_init_11 : decode b_Drum_init 11 = .ok (.putfield 15, 3) := by decide +kernel
theorem d_Drum_init_14 : decode b_Drum_init 14 = .ok (.aload_n 0, 1) := by decide +kernel
theorem d_Drum_init_15 : decode b_Drum_init 15 = .ok (.iconst 0, 1) := by decide +kernel
theorem wm_103 : Cond.fieldLink "ThresholdRow$Drum" 18 "ThresholdRow$Drum" "carries" "I" ∈ gT := gT_m (List.mem_of_getElem? (i := 103) (by decide +kernel)) (by decide +kernel)
theorem d_Drum_init_16 : decode b_Drum_init 16 = .ok (.putfield 18, 3) := by decide +kernel
theorem d_Drum_init_19 : decode b_Drum_init 19 = .ok (.aload_n 0, 1) := by decide +kernel
theorem d_Drum_init_20 : decode b_Drum_init 20 = .ok (.iconst (-1), 1) := by decide +kernel
theorem wm_105 : Cond.fieldLink "ThresholdRow$Drum" 21 "ThresholdRow$Drum" "carriedCrop" "I" ∈ gT := gT_m (List.mem_of_getElem? (i := 105) (by decide +kernel)) (by decide +kernel)
theorem d_Drum_init_21 : decode b_Drum_init 21 = .ok (.putfield 21, 3) := by decide +kernel
theorem d_Drum_init_24 : decode b_Drum_init 24 = .ok (.return_, 1) := by decide +kernel
theorem d_Ledger_init_0 : decode b_Ledger_init 0 = .ok (.aload_n 0, 1) := by decide +kernel
theorem wm_120 : Cond.methodLink "ThresholdRow$Ledger" 1 ⟨"java/lang/Object", "<init>", "()V"⟩ ∈ gT := gT_m (List.mem_of_getElem? (i := 120) (by decide +kernel)) (by decide +kernel)
theorem d_Ledger_init_1 : decode b_Ledger_init 1 = .ok (.invokespecial 1, 3) := by decide +kernel
theorem d_Ledger_init_4 : decode b_Ledger_init 4 = .ok (.aload_n 0, 1) := by decide +kernel
theorem d_Ledger_init_5 : decode b_Ledger_init 5 = .ok (.iconst 0, 1) := by decide +kernel
theorem d_Ledger_init_6 : decode b_Ledger_init 6 = .ok (.putfield 7, 3) := by decide +kernel
theorem d_Ledger_init_9 : decode b_Ledger_init 9 = .ok (.aload_n 0, 1) := by decide +kernel
theorem d_Ledger_init_10 : decode b_Ledger_init 10 = .ok (.iconst 0, 1) := by decide +kernel
theorem d_Ledger_init_11 : decode b_Ledger_init 11 = .ok (.putfield 13, 3) := by decide +kernel
theorem d_Ledger_init_14 : decode b_Ledger_init 14 = .ok (.aload_n 0, 1) := by decide +kernel
theorem d_Ledger_init_15 : decode b_Ledger_init 15 = .ok (.iconst 0, 1) := by decide +kernel
theorem d_Ledger_init_16 : decode b_Ledger_init 16 = .ok (.putfield 16, 3) := by decide +kernel
theorem d_Ledger_init_19 : decode b_Ledger_init 19 = .ok (.aload_n 0, 1) := by decide +kernel
theorem d_Ledger_init_20 : decode b_Ledger_init 20 = .ok (.iconst 0, 1) := by decide +kernel
theorem d_Ledger_init_21 : decode b_Ledger_init 21 = .ok (.putfield 19, 3) := by decide +kernel
theorem d_Ledger_init_24 : decode b_Ledger_init 24 = .ok (.aload_n 0, 1) := by decide +kernel
theorem d_Ledger_init_25 : decode b_Ledger_init 25 = .ok (.iconst 0, 1) := by decide +kernel
theorem d_Ledger_init_26 : decode b_Ledger_init 26 = .ok (.putfield 22, 3) := by decide +kernel
theorem d_Ledger_init_29 : decode b_Ledger_init 29 = .ok (.aload_n 0, 1) := by decide +kernel
theorem d_Ledger_init_30 : decode b_Ledger_init 30 = .ok (.iconst 0, 1) := by decide +kernel
theorem d_Ledger_init_31 : decode b_Ledger_init 31 = .ok (.putfield 25, 3) := by decide +kernel
theorem d_Ledger_init_34 : decode b_Ledger_init 34 = .ok (.aload_n 0, 1) := by decide +kernel
theorem d_Ledger_init_35 : decode b_Ledger_init 35 = .ok (.iconst 0, 1) := by decide +kernel
theorem d_Ledger_init_36 : decode b_Ledger_init 36 = .ok (.putfield 28, 3) := by decide +kernel
theorem d_Ledger_init_39 : decode b_Ledger_init 39 = .ok (.aload_n 0, 1) := by decide +kernel
theorem d_Ledger_init_40 : decode b_Ledger_init 40 = .ok (.iconst 0, 1) := by decide +kernel
theorem d_Ledger_init_41 : decode b_Ledger_init 41 = .ok (.putfield 31, 3) := by decide +kernel
theorem d_Ledger_init_44 : decode b_Ledger_init 44 = .ok (.aload_n 0, 1) := by decide +kernel
theorem d_Ledger_init_45 : decode b_Ledger_init 45 = .ok (.iconst 0, 1) := by decide +kernel
theorem d_Ledger_init_46 : decode b_Ledger_init 46 = .ok (.putfield 34, 3) := by decide +kernel
theorem d_Ledger_init_49 : decode b_Ledger_init 49 = .ok (.return_, 1) := by decide +kernel
theorem d_Row_init_0 : decode b_Row_init 0 = .ok (.aload_n 0, 1) := by decide +kernel
theorem wm_54 : Cond.methodLink "ThresholdRow" 1 ⟨"java/lang/Object", "<init>", "()V"⟩ ∈ gT := gT_m (List.mem_of_getElem? (i := 54) (by decide +kernel)) (by decide +kernel)
theorem d_Row_init_1 : decode b_Row_init 1 = .ok (.invokespecial 1, 3) := by decide +kernel
theorem d_Row_init_4 : decode b_Row_init 4 = .ok (.aload_n 0, 1) := by decide +kernel
theorem wm_57 : Cond.classLink "ThresholdRow" 7 "java/util/ArrayList" ∈ gT := gT_m (List.mem_of_getElem? (i := 57) (by decide +kernel)) (by decide +kernel)
theorem d_Row_init_5 : decode b_Row_init 5 = .ok (.new 7, 3) := by decide +kernel
theorem d_Row_init_8 : decode b_Row_init 8 = .ok (.dup, 1) := by decide +kernel
theorem wm_59 : Cond.methodLink "ThresholdRow" 9 ⟨"java/util/ArrayList", "<init>", "()V"⟩ ∈ gT := gT_m (List.mem_of_getElem? (i := 59) (by decide +kernel)) (by decide +kernel)
theorem d_Row_init_9 : decode b_Row_init 9 = .ok (.invokespecial 9, 3) := by decide +kernel
theorem d_Row_init_12 : decode b_Row_init 12 = .ok (.putfield 10, 3) := by decide +kernel
theorem d_Row_init_15 : decode b_Row_init 15 = .ok (.aload_n 0, 1) := by decide +kernel
theorem d_Row_init_16 : decode b_Row_init 16 = .ok (.new 7, 3) := by decide +kernel
theorem d_Row_init_19 : decode b_Row_init 19 = .ok (.dup, 1) := by decide +kernel
theorem d_Row_init_20 : decode b_Row_init 20 = .ok (.invokespecial 9, 3) := by decide +kernel
theorem d_Row_init_23 : decode b_Row_init 23 = .ok (.putfield 16, 3) := by decide +kernel
theorem d_Row_init_26 : decode b_Row_init 26 = .ok (.aload_n 0, 1) := by decide +kernel
theorem d_Row_init_27 : decode b_Row_init 27 = .ok (.new 7, 3) := by decide +kernel
theorem d_Row_init_30 : decode b_Row_init 30 = .ok (.dup, 1) := by decide +kernel
theorem d_Row_init_31 : decode b_Row_init 31 = .ok (.invokespecial 9, 3) := by decide +kernel
theorem d_Row_init_34 : decode b_Row_init 34 = .ok (.putfield 19, 3) := by decide +kernel
theorem d_Row_init_37 : decode b_Row_init 37 = .ok (.aload_n 0, 1) := by decide +kernel
theorem wm_83 : Cond.classLink "ThresholdRow" 22 "ThresholdRow$Gang" ∈ gT := gT_m (List.mem_of_getElem? (i := 83) (by decide +kernel)) (by decide +kernel)
theorem wm_84 : Cond.instantiable "ThresholdRow$Gang" 1 ∈ gT := gT_m (List.mem_of_getElem? (i := 84) (by decide +kernel)) (by decide +kernel)
theorem d_Row_init_38 : decode b_Row_init 38 = .ok (.new 22, 3) := by decide +kernel
theorem d_Row_init_41 : decode b_Row_init 41 = .ok (.dup, 1) := by decide +kernel
theorem d_Row_init_42 : decode b_Row_init 42 = .ok (.invokespecial 24, 3) := by decide +kernel
theorem wq_85 : Cond.methodLinkNest "ThresholdRow" 24 ⟨"ThresholdRow$Gang", "<init>", "()V"⟩ "ThresholdRow" ∈ lw_tbl := List.mem_of_getElem? (i := 85) (by decide +kernel)
theorem wm_87 : Cond.code ⟨"ThresholdRow$Gang", "<init>", "()V"⟩ prog_4_method_1_code 1 none ∈ gT := gT_m (List.mem_of_getElem? (i := 87) (by decide +kernel)) (by decide +kernel)
theorem wm_86 : Cond.instanceMethod ⟨"ThresholdRow$Gang", "<init>", "()V"⟩ ∈ gT := gT_m (List.mem_of_getElem? (i := 86) (by decide +kernel)) (by decide +kernel)
theorem d_Row_init_45 : decode b_Row_init 45 = .ok (.putfield 25, 3) := by decide +kernel
theorem d_Row_init_48 : decode b_Row_init 48 = .ok (.aload_n 0, 1) := by decide +kernel
theorem wm_95 : Cond.classLink "ThresholdRow" 29 "ThresholdRow$Drum" ∈ gT := gT_m (List.mem_of_getElem? (i := 95) (by decide +kernel)) (by decide +kernel)
theorem wm_96 : Cond.instantiable "ThresholdRow$Drum" 4 ∈ gT := gT_m (List.mem_of_getElem? (i := 96) (by decide +kernel)) (by decide +kernel)
theorem wm_28 : Cond.initialized "ThresholdRow$Drum" ∈ gT := gT_m (List.mem_of_getElem? (i := 28) (by decide +kernel)) (by decide +kernel)
theorem d_Row_init_49 : decode b_Row_init 49 = .ok (.new 29, 3) := by decide +kernel
theorem d_Row_init_52 : decode b_Row_init 52 = .ok (.dup, 1) := by decide +kernel
theorem d_Row_init_53 : decode b_Row_init 53 = .ok (.invokespecial 31, 3) := by decide +kernel
theorem wq_97 : Cond.methodLinkNest "ThresholdRow" 31 ⟨"ThresholdRow$Drum", "<init>", "()V"⟩ "ThresholdRow" ∈ lw_tbl := List.mem_of_getElem? (i := 97) (by decide +kernel)
theorem wm_99 : Cond.code ⟨"ThresholdRow$Drum", "<init>", "()V"⟩ prog_3_method_1_code 1 none ∈ gT := gT_m (List.mem_of_getElem? (i := 99) (by decide +kernel)) (by decide +kernel)
theorem wm_98 : Cond.instanceMethod ⟨"ThresholdRow$Drum", "<init>", "()V"⟩ ∈ gT := gT_m (List.mem_of_getElem? (i := 98) (by decide +kernel)) (by decide +kernel)
theorem d_Row_init_56 : decode b_Row_init 56 = .ok (.putfield 32, 3) := by decide +kernel
theorem d_Row_init_59 : decode b_Row_init 59 = .ok (.aload_n 0, 1) := by decide +kernel
theorem wm_115 : Cond.classLink "ThresholdRow" 36 "ThresholdRow$Ledger" ∈ gT := gT_m (List.mem_of_getElem? (i := 115) (by decide +kernel)) (by decide +kernel)
theorem wm_116 : Cond.instantiable "ThresholdRow$Ledger" 9 ∈ gT := gT_m (List.mem_of_getElem? (i := 116) (by decide +kernel)) (by decide +kernel)
theorem d_Row_init_60 : decode b_Row_init 60 = .ok (.new 36, 3) := by decide +kernel
theorem d_Row_init_63 : decode b_Row_init 63 = .ok (.dup, 1) := by decide +kernel
theorem d_Row_init_64 : decode b_Row_init 64 = .ok (.invokespecial 38, 3) := by decide +kernel
theorem wq_117 : Cond.methodLinkNest "ThresholdRow" 38 ⟨"ThresholdRow$Ledger", "<init>", "()V"⟩ "ThresholdRow" ∈ lw_tbl := List.mem_of_getElem? (i := 117) (by decide +kernel)
theorem wm_119 : Cond.code ⟨"ThresholdRow$Ledger", "<init>", "()V"⟩ prog_6_method_1_code 1 none ∈ gT := gT_m (List.mem_of_getElem? (i := 119) (by decide +kernel)) (by decide +kernel)
theorem wm_118 : Cond.instanceMethod ⟨"ThresholdRow$Ledger", "<init>", "()V"⟩ ∈ gT := gT_m (List.mem_of_getElem? (i := 118) (by decide +kernel)) (by decide +kernel)
theorem d_Row_init_67 : decode b_Row_init 67 = .ok (.putfield 39, 3) := by decide +kernel
theorem d_Row_init_70 : decode b_Row_init 70 = .ok (.aload_n 0, 1) := by decide +kernel
theorem d_Row_init_71 : decode b_Row_init 71 = .ok (.iconst 4, 1) := by decide +kernel
theorem wm_173 : Cond.arrayClass .int ∈ gT := gT_m (List.mem_of_getElem? (i := 173) (by decide +kernel)) (by decide +kernel)
theorem d_Row_init_72 : decode b_Row_init 72 = .ok (.newarray .int, 2) := by decide +kernel
theorem wm_242 : Cond.fieldLink "ThresholdRow" 43 "ThresholdRow" "bushelPints" "[I" ∈ gT := gT_m (List.mem_of_getElem? (i := 242) (by decide +kernel)) (by decide +kernel)
theorem d_Row_init_74 : decode b_Row_init 74 = .ok (.putfield 43, 3) := by decide +kernel
theorem d_Row_init_77 : decode b_Row_init 77 = .ok (.aload_n 0, 1) := by decide +kernel
theorem d_Row_init_78 : decode b_Row_init 78 = .ok (.iconst 4, 1) := by decide +kernel
theorem wm_174 : Cond.arrayClass .boolean ∈ gT := gT_m (List.mem_of_getElem? (i := 174) (by decide +kernel)) (by decide +kernel)
theorem d_Row_init_79 : decode b_Row_init 79 = .ok (.newarray .boolean, 2) := by decide +kernel
theorem wm_243 : Cond.fieldLink "ThresholdRow" 47 "ThresholdRow" "customs" "[Z" ∈ gT := gT_m (List.mem_of_getElem? (i := 243) (by decide +kernel)) (by decide +kernel)
theorem d_Row_init_81 : decode b_Row_init 81 = .ok (.putfield 47, 3) := by decide +kernel
theorem d_Row_init_84 : decode b_Row_init 84 = .ok (.aload_n 0, 1) := by decide +kernel
theorem d_Row_init_85 : decode b_Row_init 85 = .ok (.iconst 0, 1) := by decide +kernel
theorem d_Row_init_86 : decode b_Row_init 86 = .ok (.putfield 51, 3) := by decide +kernel
theorem d_Row_init_89 : decode b_Row_init 89 = .ok (.aload_n 0, 1) := by decide +kernel
theorem d_Row_init_90 : decode b_Row_init 90 = .ok (.iconst 1, 1) := by decide +kernel
theorem wm_245 : Cond.fieldLink "ThresholdRow" 55 "ThresholdRow" "z" "I" ∈ gT := gT_m (List.mem_of_getElem? (i := 245) (by decide +kernel)) (by decide +kernel)
theorem d_Row_init_91 : decode b_Row_init 91 = .ok (.putfield 55, 3) := by decide +kernel
theorem d_Row_init_94 : decode b_Row_init 94 = .ok (.aload_n 0, 1) := by decide +kernel
theorem d_Row_init_95 : decode b_Row_init 95 = .ok (.iconst 0, 1) := by decide +kernel
theorem d_Row_init_96 : decode b_Row_init 96 = .ok (.putfield 58, 3) := by decide +kernel
theorem d_Row_init_99 : decode b_Row_init 99 = .ok (.aload_n 0, 1) := by decide +kernel
theorem d_Row_init_100 : decode b_Row_init 100 = .ok (.iconst 0, 1) := by decide +kernel
theorem wm_247 : Cond.fieldLink "ThresholdRow" 61 "ThresholdRow" "owls" "I" ∈ gT := gT_m (List.mem_of_getElem? (i := 247) (by decide +kernel)) (by decide +kernel)
theorem d_Row_init_101 : decode b_Row_init 101 = .ok (.putfield 61, 3) := by decide +kernel
theorem d_Row_init_104 : decode b_Row_init 104 = .ok (.aload_n 0, 1) := by decide +kernel
theorem d_Row_init_105 : decode b_Row_init 105 = .ok (.iconst 0, 1) := by decide +kernel
theorem wm_248 : Cond.fieldLink "ThresholdRow" 64 "ThresholdRow" "flour" "I" ∈ gT := gT_m (List.mem_of_getElem? (i := 248) (by decide +kernel)) (by decide +kernel)
theorem d_Row_init_106 : decode b_Row_init 106 = .ok (.putfield 64, 3) := by decide +kernel
theorem d_Row_init_109 : decode b_Row_init 109 = .ok (.aload_n 0, 1) := by decide +kernel
theorem d_Row_init_110 : decode b_Row_init 110 = .ok (.iconst 0, 1) := by decide +kernel
theorem wm_249 : Cond.fieldLink "ThresholdRow" 67 "ThresholdRow" "money" "I" ∈ gT := gT_m (List.mem_of_getElem? (i := 249) (by decide +kernel)) (by decide +kernel)
theorem d_Row_init_111 : decode b_Row_init 111 = .ok (.putfield 67, 3) := by decide +kernel
theorem d_Row_init_114 : decode b_Row_init 114 = .ok (.iconst 0, 1) := by decide +kernel
theorem d_Row_init_115 : decode b_Row_init 115 = .ok (.istore_n 1, 1) := by decide +kernel
theorem d_Row_init_116 : decode b_Row_init 116 = .ok (.iload_n 1, 1) := by decide +kernel
theorem d_Row_init_117 : decode b_Row_init 117 = .ok (.bipush 6, 2) := by decide +kernel
theorem d_Row_init_119 : decode b_Row_init 119 = .ok (.if_icmp .ge 24, 3) := by decide +kernel
theorem d_Row_init_122 : decode b_Row_init 122 = .ok (.aload_n 0, 1) := by decide +kernel
theorem d_Row_init_123 : decode b_Row_init 123 = .ok (.getfield 19, 3) := by decide +kernel
theorem wm_151 : Cond.instantiable "ThresholdRow$Bin" 4 ∈ gT := gT_m (List.mem_of_getElem? (i := 151) (by decide +kernel)) (by decide +kernel)
theorem wm_30 : Cond.initialized "ThresholdRow$Bin" ∈ gT := gT_m (List.mem_of_getElem? (i := 30) (by decide +kernel)) (by decide +kernel)
theorem d_Row_init_126 : decode b_Row_init 126 = .ok (.new 70, 3) := by decide +kernel
theorem d_Row_init_129 : decode b_Row_init 129 = .ok (.dup, 1) := by decide +kernel
theorem d_Row_init_130 : decode b_Row_init 130 = .ok (.invokespecial 72, 3) := by decide +kernel
theorem wq_152 : Cond.methodLinkNest "ThresholdRow" 72 ⟨"ThresholdRow$Bin", "<init>", "()V"⟩ "ThresholdRow" ∈ lw_tbl := List.mem_of_getElem? (i := 152) (by decide +kernel)
theorem wm_154 : Cond.code ⟨"ThresholdRow$Bin", "<init>", "()V"⟩ prog_2_method_1_code 1 none ∈ gT := gT_m (List.mem_of_getElem? (i := 154) (by decide +kernel)) (by decide +kernel)
theorem wm_153 : Cond.instanceMethod ⟨"ThresholdRow$Bin", "<init>", "()V"⟩ ∈ gT := gT_m (List.mem_of_getElem? (i := 153) (by decide +kernel)) (by decide +kernel)
theorem wq_793 : Cond.castable "ThresholdRow$Bin" "java/lang/Object" ∈ lw_tbl := List.mem_of_getElem? (i := 793) (by decide +kernel)
theorem d_Row_init_133 : decode b_Row_init 133 = .ok (.invokevirtual 73, 3) := by decide +kernel
theorem d_Row_init_136 : decode b_Row_init 136 = .ok (.pop, 1) := by decide +kernel
theorem d_Row_init_137 : decode b_Row_init 137 = .ok (.iinc 1 1, 3) := by decide +kernel
theorem d_Row_init_140 : decode b_Row_init 140 = .ok (.goto (-24), 3) := by decide +kernel
theorem d_Row_init_143 : decode b_Row_init 143 = .ok (.iconst 0, 1) := by decide +kernel
theorem d_Row_init_144 : decode b_Row_init 144 = .ok (.istore_n 1, 1) := by decide +kernel
theorem d_Row_init_145 : decode b_Row_init 145 = .ok (.iload_n 1, 1) := by decide +kernel
theorem d_Row_init_146 : decode b_Row_init 146 = .ok (.aload_n 0, 1) := by decide +kernel
theorem d_Row_init_147 : decode b_Row_init 147 = .ok (.getfield 43, 3) := by decide +kernel
theorem d_Row_init_150 : decode b_Row_init 150 = .ok (.arraylength, 1) := by decide +kernel
theorem d_Row_init_151 : decode b_Row_init 151 = .ok (.if_icmp .ge 17, 3) := by decide +kernel
theorem d_Row_init_154 : decode b_Row_init 154 = .ok (.aload_n 0, 1) := by decide +kernel
theorem d_Row_init_155 : decode b_Row_init 155 = .ok (.getfield 43, 3) := by decide +kernel
theorem d_Row_init_158 : decode b_Row_init 158 = .ok (.iload_n 1, 1) := by decide +kernel
theorem d_Row_init_159 : decode b_Row_init 159 = .ok (.bipush 64, 2) := by decide +kernel
theorem d_Row_init_161 : decode b_Row_init 161 = .ok (.iastore, 1) := by decide +kernel
theorem d_Row_init_162 : decode b_Row_init 162 = .ok (.iinc 1 1, 3) := by decide +kernel
theorem d_Row_init_165 : decode b_Row_init 165 = .ok (.goto (-20), 3) := by decide +kernel
theorem d_Row_init_168 : decode b_Row_init 168 = .ok (.iconst 0, 1) := by decide +kernel
theorem d_Row_init_169 : decode b_Row_init 169 = .ok (.istore_n 1, 1) := by decide +kernel
theorem d_Row_init_170 : decode b_Row_init 170 = .ok (.iload_n 1, 1) := by decide +kernel
theorem d_Row_init_171 : decode b_Row_init 171 = .ok (.aload_n 0, 1) := by decide +kernel
theorem d_Row_init_172 : decode b_Row_init 172 = .ok (.getfield 47, 3) := by decide +kernel
theorem d_Row_init_175 : decode b_Row_init 175 = .ok (.arraylength, 1) := by decide +kernel
theorem d_Row_init_176 : decode b_Row_init 176 = .ok (.if_icmp .ge 16, 3) := by decide +kernel
theorem d_Row_init_179 : decode b_Row_init 179 = .ok (.aload_n 0, 1) := by decide +kernel
theorem d_Row_init_180 : decode b_Row_init 180 = .ok (.getfield 47, 3) := by decide +kernel
theorem d_Row_init_183 : decode b_Row_init 183 = .ok (.iload_n 1, 1) := by decide +kernel
theorem d_Row_init_184 : decode b_Row_init 184 = .ok (.iconst 1, 1) := by decide +kernel
theorem d_Row_init_185 : decode b_Row_init 185 = .ok (.bastore, 1) := by decide +kernel
theorem d_Row_init_186 : decode b_Row_init 186 = .ok (.iinc 1 1, 3) := by decide +kernel
theorem d_Row_init_189 : decode b_Row_init 189 = .ok (.goto (-19), 3) := by decide +kernel
theorem d_Row_init_192 : decode b_Row_init 192 = .ok (.return_, 1) := by decide +kernel
theorem gw_fa.upI {z0 : Nat} {cO : ClassId} {M : gM} {o n : Nat} {day : Int32} {S : gS} {Z ad bn : Nat → Nat} (h : gw_fa z0 cO M o n day S Z ad bn) {a : Nat} {e e' : va_E} (ha : M a = some e) (he : gw_isI e) : gw_fa z0 cO (gw_up M a e') o n day S Z ad bn := h.kept (fun b f hb hf => gw_miss (fun z => hf (by rw [z, ha] at hb; cases hb; exact he)))
theorem gw_fa.newI {z0 : Nat} {cO : ClassId} {M : gM} {o n : Nat} {day : Int32} {S : gS} {Z ad bn : Nat → Nat} (h : gw_fa z0 cO M o n day S Z ad bn) {a : Nat} {e' : va_E} (ha : M a = none) : gw_fa z0 cO (gw_up M a e') o n day S Z ad bn := h.kept (fun b f hb _ => gw_miss (gw_neF ha hb))
section GZ
variable {p : Program} {l : Launch} {e : Env} {R : Room} {s : State} {m : MethodId} {args : Array Value} {below : List Frame} {meth : Method} {c : Code} {H : Heap} {locs : List Loc} {cells slots : Nat} {Q : State → Prop}
variable {cc : ByteArray} {pc : Nat} {ls : Array Slot} {rest : List Value} {D : va_G} {a : Nat} {E : Nat} {M : gM} {cI cO cZ : ClassId}
theorem gw_zast (hx : p.tables.exec = Jvm.exec) (hb : c.code = cc) (hK : va_K D classes (gw_ty cI cO cZ) s) (hG : gw_H E D M s H locs) {n : Nat} {f : Nat → Int32} (he : M a = some (.inl (cZ, n, .inl f))) {i x : Int32} (hin : vp_in i n) (hdg : decode cc pc = .ok (.bastore, 1))
    (kk : ∀ (H1 : Heap) (locs1 : List Loc), gw_H E D (gw_up M a (.inl (cZ, n, .inl (upd f i.toNatClampNeg (vp_nar .boolean x))))) s H1 locs1 → W p l e R s m args below meth c H1 locs1 cells slots Q (F0 m (pc + 1) ls rest)) : W p l e R s m args below meth c H locs cells slots Q (F0 m pc ls (.int x :: .int i :: .ref a :: rest)) := by
  obtain ⟨ws, hP, hD, hm⟩ := gw_list hG.1 hG.2.1
  obtain ⟨i0, hi⟩ := (hm a _).mp he
  exact va_zast hx hb hK hP hD hG.2.2 i0 2 hi rfl hin hdg (fun H1 locs1 h1 _ h3 => kk H1 locs1 ⟨gw_set (E := E) (H := H) hm hi h1, gw_setE hG.2.1 he, h3⟩)
end GZ
/-- the bins' list while the bins come -/
abbrev gw_bin : va_E := .inr (5, [.int (-1), .int 0, .int 0, .int 0])
def gw_bs (z0 : Nat) (cO : ClassId) (M0 X : gM) (bl bt i : Nat) (bn : Nat → Nat) : Prop := gw_L z0 cO X bl bt i bn ∧ (∀ p, p < i → X (bn p) = some gw_bin) ∧ (∀ b e, M0 b = some e → b ≠ bl → X b = M0 b) ∧ (bt = z0 ∨ M0 bt = none)
theorem gw_bs.step {z0 : Nat} {cO : ClassId} {M0 X M2 X' : gM} {bl bt i q : Nat} {bn : Nat → Nat} (h : gw_bs z0 cO M0 X bl bt i bn) (hz : X z0 = none) {e0 : va_E} (hbl : M0 bl = some e0) (hq : X q = none) (hM2 : ∀ b, b ≠ q → M2 b = X b) (hM2q : M2 q = some gw_bin) (hz2 : M2 z0 = none) (hadd : ∃ t', (t' = bt ∨ M2 t' = none) ∧ gw_L z0 cO X' bl t' (i + 1) (va_up bn i q) ∧ ∀ b, b ≠ bl → b ≠ t' → X' b = M2 b) : ∃ t', gw_bs z0 cO M0 X' bl t' (i + 1) (va_up bn i q) := by
  obtain ⟨hL, hb, hfr, ht⟩ := h
  obtain ⟨t', h1, h2, h3⟩ := hadd
  obtain ⟨k, ha, -, hf⟩ := hL
  have hqz : q ≠ z0 := fun z => by rw [← z, hM2q] at hz2; cases hz2
  have hqbl : q ≠ bl := fun z => by rw [z, ha] at hq; cases hq
  have hqt : q ≠ t' := by
    rcases h1 with h1 | h1
    · rw [h1]
      rcases hf with ⟨-, hf⟩ | ⟨f, hf, -⟩
      · rw [hf]; exact hqz
      · exact fun z => by rw [z, hf] at hq; cases hq
    · exact fun z => by rw [← z, hM2q] at h1; cases h1
  have ot : ∀ b j fs, X b = some (.inr (j, fs)) → b ≠ t' := by
    intro b j fs hbb
    rcases h1 with h1 | h1
    · rw [h1]
      rcases hf with ⟨-, hf⟩ | ⟨f, hf, -⟩
      · rw [hf]; exact gw_neF hz hbb
      · exact (gw_neA hf hbb).symm
    · intro z
      rw [← z, hM2 b (gw_neF hq hbb), hbb] at h1; cases h1
  refine ⟨t', h2, fun p hp => ?_, fun b e hb0 hbb => ?_, ?_⟩
  · unfold va_up
    by_cases hpi : p = i
    · rw [if_pos hpi, h3 q hqbl hqt]; exact hM2q
    · rw [if_neg hpi]
      have e1 := hb p (by omega)
      rw [h3 _ (gw_neO e1 ha (by decide)) (ot _ _ _ e1), hM2 _ (gw_neF hq e1)]
      exact e1
  · have e1 := (hfr b e hb0 hbb).trans hb0
    have hbq : b ≠ q := gw_neF hq e1
    have hbt : b ≠ t' := by
      rcases h1 with h1 | h1
      · rw [h1]
        rcases ht with ht | ht
        · rw [ht]; exact gw_neF hz e1
        · exact gw_neF ht hb0
      · exact fun z => by rw [← z, hM2 b hbq, e1] at h1; cases h1
    rw [h3 b hbb hbt, hM2 b hbq]
    exact hfr b e hb0 hbb
  · rcases h1 with h1 | h1
    · rw [h1]; exact ht
    · refine Or.inr ?_
      cases h0 : M0 t' with
      | none => rfl
      | some e =>
        by_cases hbl2 : t' = bl
        · rw [hbl2, hM2 bl hqbl.symm, ha] at h1; cases h1
        · have e1 := (hfr t' e h0 hbl2).trans h0
          rw [hM2 t' hqt.symm, e1] at h1; cases h1
set_option maxHeartbeats 4000000 in
set_option maxRecDepth 100000 in
theorem c_Bin_init (l : Launch) (E : Nat) (D : va_G) (cI cO cZ : ClassId) (z0 : Nat) (M : gM) {a : Nat} (ha : M a = some (.inr (5, [.int 0, .int 0, .int 0, .int 0]))) : Met l y_Bin_init (Cond.code y_Bin_init b_Bin_init 1 none :: gT) ({ frames := 1, cells := 0, slots := 0, locals := 12 }) (gw_Pc E D cI cO cZ z0 M [.ref a]) (gw_Qv E D (fun M' => M' = gw_up M a (.inr (5, [.int (-1), .int 0, .int 0, .int 0])))) 0 0 (gw_A E) := by
  refine gw_ofW (cc := b_Bin_init) (maxL := 1) (ret := none) (by decide) rfl (Nat.le_of_ble_eq_true rfl) ?_
  intro p e s m args below meth c hx hb hr hml hts hown hlk hnm hF hG ls hl
  have hT : ∀ w ∈ gT, w.before args s = true := fun w h => hts w (List.mem_cons_of_mem _ h)
  have hK := hF.1
  have hl : lv_has ls 1 [(0, .ref a)] := hl
  refine lv_aload_n hx hb d_Bin_init_0 rfl (lv_at hl 0 rfl) ?_
  refine gw_objI hx hb hown (hml.trans hl.1.symm) (hT _ wm_155) (hT _ wm_55) (hT _ wm_56) (Nat.le_of_ble_eq_true rfl) (Nat.le_of_ble_eq_true rfl) d_Bin_init_1 ?_
  refine lv_aload_n hx hb d_Bin_init_4 rfl (lv_at hl 0 rfl) ?_
  refine lv_iconst (v := (-1)) hx hb d_Bin_init_5 (by decide) ?_
  refine gw_put (v := .int (-1)) hx hb hT i_Bin t_Bin t_Bin_ok n_Bin hown hK hG ha rfl 0 (by decide) (hT _ wm_156) (fun _ h => h) rfl rfl rfl (Nat.le_of_ble_eq_true rfl) d_Bin_init_6 (fun H locs hG => ?_)
  obtain ⟨M1, e_M1⟩ : ∃ Y_ : gM, Y_ = gw_up M a (.inr (5, [.int (-1), .int 0, .int 0, .int 0])) := ⟨_, rfl⟩
  replace hG := gw_nm e_M1 hG
  have hM1_a := (congrFun e_M1 a).trans gw_hit
  refine lv_aload_n hx hb d_Bin_init_9 rfl (lv_at hl 0 rfl) ?_
  refine lv_iconst (v := 0) hx hb d_Bin_init_10 (by decide) ?_
  refine gw_put (v := .int 0) hx hb hT i_Bin t_Bin t_Bin_ok n_Bin hown hK hG hM1_a rfl 1 (by decide) (hT _ wm_158) (fun _ h => h) rfl rfl rfl (Nat.le_of_ble_eq_true rfl) d_Bin_init_11 (fun H locs hG => ?_)
  obtain ⟨M2, e_M2⟩ : ∃ Y_ : gM, Y_ = gw_up M1 a (.inr (5, [.int (-1), .int 0, .int 0, .int 0])) := ⟨_, rfl⟩
  replace hG := gw_nm e_M2 hG
  have hM2_a := (congrFun e_M2 a).trans gw_hit
  refine lv_aload_n hx hb d_Bin_init_14 rfl (lv_at hl 0 rfl) ?_
  refine lv_iconst (v := 0) hx hb d_Bin_init_15 (by decide) ?_
  refine gw_put (v := .int 0) hx hb hT i_Bin t_Bin t_Bin_ok n_Bin hown hK hG hM2_a rfl 2 (by decide) (hT _ wm_160) (fun _ h => h) rfl rfl rfl (Nat.le_of_ble_eq_true rfl) d_Bin_init_16 (fun H locs hG => ?_)
  obtain ⟨M3, e_M3⟩ : ∃ Y_ : gM, Y_ = gw_up M2 a (.inr (5, [.int (-1), .int 0, .int 0, .int 0])) := ⟨_, rfl⟩
  replace hG := gw_nm e_M3 hG
  have hM3_a := (congrFun e_M3 a).trans gw_hit
  refine lv_aload_n hx hb d_Bin_init_19 rfl (lv_at hl 0 rfl) ?_
  refine lv_iconst (v := 0) hx hb d_Bin_init_20 (by decide) ?_
  refine gw_put (v := .int 0) hx hb hT i_Bin t_Bin t_Bin_ok n_Bin hown hK hG hM3_a rfl 3 (by decide) (hT _ wm_162) (fun _ h => h) rfl rfl rfl (Nat.le_of_ble_eq_true rfl) d_Bin_init_21 (fun H locs hG => ?_)
  obtain ⟨M4, e_M4⟩ : ∃ Y_ : gM, Y_ = gw_up M3 a (.inr (5, [.int (-1), .int 0, .int 0, .int 0])) := ⟨_, rfl⟩
  replace hG := gw_nm e_M4 hG
  have hM4_a := (congrFun e_M4 a).trans gw_hit
  exact gw_vret hx hb hr hlk hG (by rw [e_M4, e_M3, e_M2, e_M1, gw_twice, gw_twice, gw_twice]) (Nat.le_of_ble_eq_true rfl) (Nat.le_of_ble_eq_true rfl) d_Bin_init_24
set_option maxHeartbeats 4000000 in
set_option maxRecDepth 100000 in
theorem c_Drum_init (l : Launch) (E : Nat) (D : va_G) (cI cO cZ : ClassId) (z0 : Nat) (M : gM) {a : Nat} (ha : M a = some (.inr (3, [.int 0, .int 0, .int 0, .int 0]))) : Met l y_Drum_init (Cond.code y_Drum_init b_Drum_init 1 none :: gT) ({ frames := 1, cells := 0, slots := 0, locals := 12 }) (gw_Pc E D cI cO cZ z0 M [.ref a]) (gw_Qv E D (fun M' => M' = gw_up M a (.inr (3, [.int 0, .int (-1), .int 0, .int (-1)])))) 0 0 (gw_A E) := by
  refine gw_ofW (cc := b_Drum_init) (maxL := 1) (ret := none) (by decide) rfl (Nat.le_of_ble_eq_true rfl) ?_
  intro p e s m args below meth c hx hb hr hml hts hown hlk hnm hF hG ls hl
  have hT : ∀ w ∈ gT, w.before args s = true := fun w h => hts w (List.mem_cons_of_mem _ h)
  have hK := hF.1
  have hl : lv_has ls 1 [(0, .ref a)] := hl
  refine lv_aload_n hx hb d_Drum_init_0 rfl (lv_at hl 0 rfl) ?_
  refine gw_objI hx hb hown (hml.trans hl.1.symm) (hT _ wm_100) (hT _ wm_55) (hT _ wm_56) (Nat.le_of_ble_eq_true rfl) (Nat.le_of_ble_eq_true rfl) d_Drum_init_1 ?_
  refine lv_aload_n hx hb d_Drum_init_4 rfl (lv_at hl 0 rfl) ?_
  refine lv_iconst (v := 0) hx hb d_Drum_init_5 (by decide) ?_
  refine gw_put (v := .int 0) hx hb hT i_Drum t_Drum t_Drum_ok n_Drum hown hK hG ha rfl 0 (by decide) (hT _ wm_101) (fun _ h => h) rfl rfl rfl (Nat.le_of_ble_eq_true rfl) d_Drum_init_6 (fun H locs hG => ?_)
  obtain ⟨M1, e_M1⟩ : ∃ Y_ : gM, Y_ = gw_up M a (.inr (3, [.int 0, .int 0, .int 0, .int 0])) := ⟨_, rfl⟩
  replace hG := gw_nm e_M1 hG
  have hM1_a := (congrFun e_M1 a).trans gw_hit
  refine lv_aload_n hx hb d_Drum_init_9 rfl (lv_at hl 0 rfl) ?_
  refine lv_iconst (v := (-1)) hx hb d_Drum_init_10 (by decide) ?_
  refine gw_put (v := .int (-1)) hx hb hT i_Drum t_Drum t_Drum_ok n_Drum hown hK hG hM1_a rfl 1 (by decide) (hT _ wm_102) (fun _ h => h) rfl rfl rfl (Nat.le_of_ble_eq_true rfl) d_Drum_init_11 (fun H locs hG => ?_)
  obtain ⟨M2, e_M2⟩ : ∃ Y_ : gM, Y_ = gw_up M1 a (.inr (3, [.int 0, .int (-1), .int 0, .int 0])) := ⟨_, rfl⟩
  replace hG := gw_nm e_M2 hG
  have hM2_a := (congrFun e_M2 a).trans gw_hit
  refine lv_aload_n hx hb d_Drum_init_14 rfl (lv_at hl 0 rfl) ?_
  refine lv_iconst (v := 0) hx hb d_Drum_init_15 (by decide) ?_
  refine gw_put (v := .int 0) hx hb hT i_Drum t_Drum t_Drum_ok n_Drum hown hK hG hM2_a rfl 2 (by decide) (hT _ wm_103) (fun _ h => h) rfl rfl rfl (Nat.le_of_ble_eq_true rfl) d_Drum_init_16 (fun H locs hG => ?_)
  obtain ⟨M3, e_M3⟩ : ∃ Y_ : gM, Y_ = gw_up M2 a (.inr (3, [.int 0, .int (-1), .int 0, .int 0])) := ⟨_, rfl⟩
  replace hG := gw_nm e_M3 hG
  have hM3_a := (congrFun e_M3 a).trans gw_hit
  refine lv_aload_n hx hb d_Drum_init_19 rfl (lv_at hl 0 rfl) ?_
  refine lv_iconst (v := (-1)) hx hb d_Drum_init_20 (by decide) ?_
  refine gw_put (v := .int (-1)) hx hb hT i_Drum t_Drum t_Drum_ok n_Drum hown hK hG hM3_a rfl 3 (by decide) (hT _ wm_105) (fun _ h => h) rfl rfl rfl (Nat.le_of_ble_eq_true rfl) d_Drum_init_21 (fun H locs hG => ?_)
  obtain ⟨M4, e_M4⟩ : ∃ Y_ : gM, Y_ = gw_up M3 a (.inr (3, [.int 0, .int (-1), .int 0, .int (-1)])) := ⟨_, rfl⟩
  replace hG := gw_nm e_M4 hG
  have hM4_a := (congrFun e_M4 a).trans gw_hit
  exact gw_vret hx hb hr hlk hG (by rw [e_M4, e_M3, e_M2, e_M1, gw_twice, gw_twice, gw_twice]) (Nat.le_of_ble_eq_true rfl) (Nat.le_of_ble_eq_true rfl) d_Drum_init_24
set_option maxHeartbeats 4000000 in
set_option maxRecDepth 100000 in
theorem c_Ledger_init (l : Launch) (E : Nat) (D : va_G) (cI cO cZ : ClassId) (z0 : Nat) (M : gM) {a : Nat} (ha : M a = some (.inr (4, [.int 0, .int 0, .int 0, .int 0, .int 0, .int 0, .int 0, .int 0, .int 0]))) : Met l y_Ledger_init (Cond.code y_Ledger_init b_Ledger_init 1 none :: gT) ({ frames := 1, cells := 0, slots := 0, locals := 12 }) (gw_Pc E D cI cO cZ z0 M [.ref a]) (gw_Qv E D (fun M' => M' = gw_up M a (.inr (4, [.int 0, .int 0, .int 0, .int 0, .int 0, .int 0, .int 0, .int 0, .int 0])))) 0 0 (gw_A E) := by
  refine gw_ofW (cc := b_Ledger_init) (maxL := 1) (ret := none) (by decide) rfl (Nat.le_of_ble_eq_true rfl) ?_
  intro p e s m args below meth c hx hb hr hml hts hown hlk hnm hF hG ls hl
  have hT : ∀ w ∈ gT, w.before args s = true := fun w h => hts w (List.mem_cons_of_mem _ h)
  have hK := hF.1
  have hl : lv_has ls 1 [(0, .ref a)] := hl
  refine lv_aload_n hx hb d_Ledger_init_0 rfl (lv_at hl 0 rfl) ?_
  refine gw_objI hx hb hown (hml.trans hl.1.symm) (hT _ wm_120) (hT _ wm_55) (hT _ wm_56) (Nat.le_of_ble_eq_true rfl) (Nat.le_of_ble_eq_true rfl) d_Ledger_init_1 ?_
  refine lv_aload_n hx hb d_Ledger_init_4 rfl (lv_at hl 0 rfl) ?_
  refine lv_iconst (v := 0) hx hb d_Ledger_init_5 (by decide) ?_
  refine gw_put (v := .int 0) hx hb hT i_Ledger t_Ledger t_Ledger_ok n_Ledger hown hK hG ha rfl 0 (by decide) (hT _ wm_121) (fun _ h => h) rfl rfl rfl (Nat.le_of_ble_eq_true rfl) d_Ledger_init_6 (fun H locs hG => ?_)
  obtain ⟨M1, e_M1⟩ : ∃ Y_ : gM, Y_ = gw_up M a (.inr (4, [.int 0, .int 0, .int 0, .int 0, .int 0, .int 0, .int 0, .int 0, .int 0])) := ⟨_, rfl⟩
  replace hG := gw_nm e_M1 hG
  have hM1_a := (congrFun e_M1 a).trans gw_hit
  refine lv_aload_n hx hb d_Ledger_init_9 rfl (lv_at hl 0 rfl) ?_
  refine lv_iconst (v := 0) hx hb d_Ledger_init_10 (by decide) ?_
  refine gw_put (v := .int 0) hx hb hT i_Ledger t_Ledger t_Ledger_ok n_Ledger hown hK hG hM1_a rfl 1 (by decide) (hT _ wm_122) (fun _ h => h) rfl rfl rfl (Nat.le_of_ble_eq_true rfl) d_Ledger_init_11 (fun H locs hG => ?_)
  obtain ⟨M2, e_M2⟩ : ∃ Y_ : gM, Y_ = gw_up M1 a (.inr (4, [.int 0, .int 0, .int 0, .int 0, .int 0, .int 0, .int 0, .int 0, .int 0])) := ⟨_, rfl⟩
  replace hG := gw_nm e_M2 hG
  have hM2_a := (congrFun e_M2 a).trans gw_hit
  refine lv_aload_n hx hb d_Ledger_init_14 rfl (lv_at hl 0 rfl) ?_
  refine lv_iconst (v := 0) hx hb d_Ledger_init_15 (by decide) ?_
  refine gw_put (v := .int 0) hx hb hT i_Ledger t_Ledger t_Ledger_ok n_Ledger hown hK hG hM2_a rfl 2 (by decide) (hT _ wm_123) (fun _ h => h) rfl rfl rfl (Nat.le_of_ble_eq_true rfl) d_Ledger_init_16 (fun H locs hG => ?_)
  obtain ⟨M3, e_M3⟩ : ∃ Y_ : gM, Y_ = gw_up M2 a (.inr (4, [.int 0, .int 0, .int 0, .int 0, .int 0, .int 0, .int 0, .int 0, .int 0])) := ⟨_, rfl⟩
  replace hG := gw_nm e_M3 hG
  have hM3_a := (congrFun e_M3 a).trans gw_hit
  refine lv_aload_n hx hb d_Ledger_init_19 rfl (lv_at hl 0 rfl) ?_
  refine lv_iconst (v := 0) hx hb d_Ledger_init_20 (by decide) ?_
  refine gw_put (v := .int 0) hx hb hT i_Ledger t_Ledger t_Ledger_ok n_Ledger hown hK hG hM3_a rfl 3 (by decide) (hT _ wm_124) (fun _ h => h) rfl rfl rfl (Nat.le_of_ble_eq_true rfl) d_Ledger_init_21 (fun H locs hG => ?_)
  obtain ⟨M4, e_M4⟩ : ∃ Y_ : gM, Y_ = gw_up M3 a (.inr (4, [.int 0, .int 0, .int 0, .int 0, .int 0, .int 0, .int 0, .int 0, .int 0])) := ⟨_, rfl⟩
  replace hG := gw_nm e_M4 hG
  have hM4_a := (congrFun e_M4 a).trans gw_hit
  refine lv_aload_n hx hb d_Ledger_init_24 rfl (lv_at hl 0 rfl) ?_
  refine lv_iconst (v := 0) hx hb d_Ledger_init_25 (by decide) ?_
  refine gw_put (v := .int 0) hx hb hT i_Ledger t_Ledger t_Ledger_ok n_Ledger hown hK hG hM4_a rfl 4 (by decide) (hT _ wm_125) (fun _ h => h) rfl rfl rfl (Nat.le_of_ble_eq_true rfl) d_Ledger_init_26 (fun H locs hG => ?_)
  obtain ⟨M5, e_M5⟩ : ∃ Y_ : gM, Y_ = gw_up M4 a (.inr (4, [.int 0, .int 0, .int 0, .int 0, .int 0, .int 0, .int 0, .int 0, .int 0])) := ⟨_, rfl⟩
  replace hG := gw_nm e_M5 hG
  have hM5_a := (congrFun e_M5 a).trans gw_hit
  refine lv_aload_n hx hb d_Ledger_init_29 rfl (lv_at hl 0 rfl) ?_
  refine lv_iconst (v := 0) hx hb d_Ledger_init_30 (by decide) ?_
  refine gw_put (v := .int 0) hx hb hT i_Ledger t_Ledger t_Ledger_ok n_Ledger hown hK hG hM5_a rfl 5 (by decide) (hT _ wm_126) (fun _ h => h) rfl rfl rfl (Nat.le_of_ble_eq_true rfl) d_Ledger_init_31 (fun H locs hG => ?_)
  obtain ⟨M6, e_M6⟩ : ∃ Y_ : gM, Y_ = gw_up M5 a (.inr (4, [.int 0, .int 0, .int 0, .int 0, .int 0, .int 0, .int 0, .int 0, .int 0])) := ⟨_, rfl⟩
  replace hG := gw_nm e_M6 hG
  have hM6_a := (congrFun e_M6 a).trans gw_hit
  refine lv_aload_n hx hb d_Ledger_init_34 rfl (lv_at hl 0 rfl) ?_
  refine lv_iconst (v := 0) hx hb d_Ledger_init_35 (by decide) ?_
  refine gw_put (v := .int 0) hx hb hT i_Ledger t_Ledger t_Ledger_ok n_Ledger hown hK hG hM6_a rfl 6 (by decide) (hT _ wm_127) (fun _ h => h) rfl rfl rfl (Nat.le_of_ble_eq_true rfl) d_Ledger_init_36 (fun H locs hG => ?_)
  obtain ⟨M7, e_M7⟩ : ∃ Y_ : gM, Y_ = gw_up M6 a (.inr (4, [.int 0, .int 0, .int 0, .int 0, .int 0, .int 0, .int 0, .int 0, .int 0])) := ⟨_, rfl⟩
  replace hG := gw_nm e_M7 hG
  have hM7_a := (congrFun e_M7 a).trans gw_hit
  refine lv_aload_n hx hb d_Ledger_init_39 rfl (lv_at hl 0 rfl) ?_
  refine lv_iconst (v := 0) hx hb d_Ledger_init_40 (by decide) ?_
  refine gw_put (v := .int 0) hx hb hT i_Ledger t_Ledger t_Ledger_ok n_Ledger hown hK hG hM7_a rfl 7 (by decide) (hT _ wm_129) (fun _ h => h) rfl rfl rfl (Nat.le_of_ble_eq_true rfl) d_Ledger_init_41 (fun H locs hG => ?_)
  obtain ⟨M8, e_M8⟩ : ∃ Y_ : gM, Y_ = gw_up M7 a (.inr (4, [.int 0, .int 0, .int 0, .int 0, .int 0, .int 0, .int 0, .int 0, .int 0])) := ⟨_, rfl⟩
  replace hG := gw_nm e_M8 hG
  have hM8_a := (congrFun e_M8 a).trans gw_hit
  refine lv_aload_n hx hb d_Ledger_init_44 rfl (lv_at hl 0 rfl) ?_
  refine lv_iconst (v := 0) hx hb d_Ledger_init_45 (by decide) ?_
  refine gw_put (v := .int 0) hx hb hT i_Ledger t_Ledger t_Ledger_ok n_Ledger hown hK hG hM8_a rfl 8 (by decide) (hT _ wm_130) (fun _ h => h) rfl rfl rfl (Nat.le_of_ble_eq_true rfl) d_Ledger_init_46 (fun H locs hG => ?_)
  obtain ⟨M9, e_M9⟩ : ∃ Y_ : gM, Y_ = gw_up M8 a (.inr (4, [.int 0, .int 0, .int 0, .int 0, .int 0, .int 0, .int 0, .int 0, .int 0])) := ⟨_, rfl⟩
  replace hG := gw_nm e_M9 hG
  have hM9_a := (congrFun e_M9 a).trans gw_hit
  exact gw_vret hx hb hr hlk hG (by rw [e_M9, e_M8, e_M7, e_M6, e_M5, e_M4, e_M3, e_M2, e_M1, gw_twice, gw_twice, gw_twice, gw_twice, gw_twice, gw_twice, gw_twice, gw_twice]) (Nat.le_of_ble_eq_true rfl) (Nat.le_of_ble_eq_true rfl) d_Ledger_init_49
set_option maxHeartbeats 4000000 in
set_option maxRecDepth 100000 in
theorem c_Row_init (l : Launch) (E : Nat) (D : va_G) (cI cO cZ : ClassId) (z0 : Nat) (M : gM) {o : Nat} (ho : M o = some (.inr (0, [.null, .null, .null, .null, .null, .null, .null, .null, .int 0, .int 0, .int 0, .int 0, .int 0, .int 0]))) : Met l y_Row_init (Cond.code y_Row_init b_Row_init 2 none :: gT) ({ frames := 5, cells := 21, slots := 118, locals := 101 }) (gw_Pc E D cI cO cZ z0 M [.ref o]) (gw_Qv E D (fun M' => ∃ (Z ad bn : Nat → Nat), gw_fa z0 cO M' o 0 0 (0, fun p => p, fun _ => (0, 0, 0, 0, 0, 0)) Z ad bn)) 21 118 (gw_A E) := by
  refine gw_ofW (cc := b_Row_init) (maxL := 2) (ret := none) (by decide) rfl (Nat.le_of_ble_eq_true rfl) ?_
  intro p e s m args below meth c hx hb hr hml hts hown hlk hnm hF hG ls hl
  have hT : ∀ w ∈ gT, w.before args s = true := fun w h => hts w (List.mem_cons_of_mem _ h)
  have hK := hF.1
  have hl : lv_has ls 2 [(0, .ref o)] := hl
  refine lv_aload_n hx hb d_Row_init_0 rfl (lv_at hl 0 rfl) ?_
  refine gw_objI hx hb hown (hml.trans hl.1.symm) (hT _ wm_54) (hT _ wm_55) (hT _ wm_56) (Nat.le_of_ble_eq_true rfl) (Nat.le_of_ble_eq_true rfl) d_Row_init_1 ?_
  refine lv_aload_n hx hb d_Row_init_4 rfl (lv_at hl 0 rfl) ?_
  refine gw_new (fs := [.int 0, .null, .int 0]) (C := R_List) (T := F_List) (N := 3) (ci := 1) hx hb hT i_List t_List t_List_ok hown (hT _ wm_57) (hT _ wm_58) (hT _ wm_26) hK hF.2.1 hG rfl (fun j hj => by rcases (show j = 0 ∨ j = 1 ∨ j = 2 by omega) with rfl | rfl | rfl <;> rfl) (Nat.le_of_ble_eq_true rfl) (Nat.le_of_ble_eq_true rfl) d_Row_init_5 (fun qh H hq_qh hG => ?_)
  have ne_o_qh : o ≠ qh := gw_neF hq_qh ho
  obtain ⟨M1, e_M1⟩ : ∃ Y_ : gM, Y_ = gw_up M qh (.inr (1, [.int 0, .null, .int 0])) := ⟨_, rfl⟩
  replace hG := gw_nm e_M1 hG
  have hM1_o := (congrFun e_M1 o).trans ((gw_miss ne_o_qh).trans ho)
  have hM1_qh := (congrFun e_M1 qh).trans gw_hit
  refine lv_dup hx hb d_Row_init_8 rfl ?_
  refine gw_callv (gw_runI (As := []) (rest := [.ref qh, .ref o]) ⟨hx, hb, hml, hown, hts⟩ (c_AL_init l E D cI cO cZ z0 M1 hM1_qh) (cwI 0 hts (gT_gi wm_61) rfl rfl rfl (hT _ wm_26) (hT _ wm_59) (hT _ wm_60) rfl (by decide +kernel) ⟨Nat.le_of_ble_eq_true rfl, Nat.le_of_ble_eq_true rfl⟩) hF hG rfl hl.1 rfl (Nat.le_of_ble_eq_true rfl) d_Row_init_9 ⟨Nat.le_of_ble_eq_true rfl, Nat.le_of_ble_eq_true rfl⟩) hG (fun M2 H locs hp hG => ?_)
  have hM2_o := (congrFun hp o).trans ((gw_miss ne_o_qh).trans hM1_o)
  have hM2_qh := (congrFun hp qh).trans gw_hit
  have e_M2 := hp
  refine gw_putF (v := .ref qh) hx hb hT i_Row t_Row t_Row_ok n_Row hown hK hG hM2_o rfl 0 (by decide) (hT _ wm_236) (fun _ h => h) rfl hnm rfl rfl rfl (Nat.le_of_ble_eq_true rfl) d_Row_init_12 (fun H locs hG => ?_)
  obtain ⟨M3, e_M3⟩ : ∃ Y_ : gM, Y_ = gw_up M2 o (.inr (0, [.ref qh, .null, .null, .null, .null, .null, .null, .null, .int 0, .int 0, .int 0, .int 0, .int 0, .int 0])) := ⟨_, rfl⟩
  replace hG := gw_nm e_M3 hG
  have hM3_qh := (congrFun e_M3 qh).trans ((gw_miss ne_o_qh.symm).trans hM2_qh)
  have hM3_o := (congrFun e_M3 o).trans gw_hit
  refine lv_aload_n hx hb d_Row_init_15 rfl (lv_at hl 0 rfl) ?_
  refine gw_new (fs := [.int 0, .null, .int 0]) (C := R_List) (T := F_List) (N := 3) (ci := 1) hx hb hT i_List t_List t_List_ok hown (hT _ wm_57) (hT _ wm_58) (hT _ wm_26) hK hF.2.1 hG rfl (fun j hj => by rcases (show j = 0 ∨ j = 1 ∨ j = 2 by omega) with rfl | rfl | rfl <;> rfl) (Nat.le_of_ble_eq_true rfl) (Nat.le_of_ble_eq_true rfl) d_Row_init_16 (fun ql H hq_ql hG => ?_)
  have ne_qh_ql : qh ≠ ql := gw_neF hq_ql hM3_qh
  have ne_o_ql : o ≠ ql := gw_neF hq_ql hM3_o
  obtain ⟨M4, e_M4⟩ : ∃ Y_ : gM, Y_ = gw_up M3 ql (.inr (1, [.int 0, .null, .int 0])) := ⟨_, rfl⟩
  replace hG := gw_nm e_M4 hG
  have hM4_qh := (congrFun e_M4 qh).trans ((gw_miss ne_qh_ql).trans hM3_qh)
  have hM4_o := (congrFun e_M4 o).trans ((gw_miss ne_o_ql).trans hM3_o)
  have hM4_ql := (congrFun e_M4 ql).trans gw_hit
  refine lv_dup hx hb d_Row_init_19 rfl ?_
  refine gw_callv (gw_runI (As := []) (rest := [.ref ql, .ref o]) ⟨hx, hb, hml, hown, hts⟩ (c_AL_init l E D cI cO cZ z0 M4 hM4_ql) (cwI 0 hts (gT_gi wm_61) rfl rfl rfl (hT _ wm_26) (hT _ wm_59) (hT _ wm_60) rfl (by decide +kernel) ⟨Nat.le_of_ble_eq_true rfl, Nat.le_of_ble_eq_true rfl⟩) hF hG rfl hl.1 rfl (Nat.le_of_ble_eq_true rfl) d_Row_init_20 ⟨Nat.le_of_ble_eq_true rfl, Nat.le_of_ble_eq_true rfl⟩) hG (fun M5 H locs hp hG => ?_)
  have hM5_qh := (congrFun hp qh).trans ((gw_miss ne_qh_ql).trans hM4_qh)
  have hM5_o := (congrFun hp o).trans ((gw_miss ne_o_ql).trans hM4_o)
  have hM5_ql := (congrFun hp ql).trans gw_hit
  have e_M5 := hp
  refine gw_putF (v := .ref ql) hx hb hT i_Row t_Row t_Row_ok n_Row hown hK hG hM5_o rfl 1 (by decide) (hT _ wm_237) (fun _ h => h) rfl hnm rfl rfl rfl (Nat.le_of_ble_eq_true rfl) d_Row_init_23 (fun H locs hG => ?_)
  obtain ⟨M6, e_M6⟩ : ∃ Y_ : gM, Y_ = gw_up M5 o (.inr (0, [.ref qh, .ref ql, .null, .null, .null, .null, .null, .null, .int 0, .int 0, .int 0, .int 0, .int 0, .int 0])) := ⟨_, rfl⟩
  replace hG := gw_nm e_M6 hG
  have hM6_qh := (congrFun e_M6 qh).trans ((gw_miss ne_o_qh.symm).trans hM5_qh)
  have hM6_ql := (congrFun e_M6 ql).trans ((gw_miss ne_o_ql.symm).trans hM5_ql)
  have hM6_o := (congrFun e_M6 o).trans gw_hit
  refine lv_aload_n hx hb d_Row_init_26 rfl (lv_at hl 0 rfl) ?_
  refine gw_new (fs := [.int 0, .null, .int 0]) (C := R_List) (T := F_List) (N := 3) (ci := 1) hx hb hT i_List t_List t_List_ok hown (hT _ wm_57) (hT _ wm_58) (hT _ wm_26) hK hF.2.1 hG rfl (fun j hj => by rcases (show j = 0 ∨ j = 1 ∨ j = 2 by omega) with rfl | rfl | rfl <;> rfl) (Nat.le_of_ble_eq_true rfl) (Nat.le_of_ble_eq_true rfl) d_Row_init_27 (fun qb H hq_qb hG => ?_)
  have ne_qh_qb : qh ≠ qb := gw_neF hq_qb hM6_qh
  have ne_ql_qb : ql ≠ qb := gw_neF hq_qb hM6_ql
  have ne_o_qb : o ≠ qb := gw_neF hq_qb hM6_o
  obtain ⟨M7, e_M7⟩ : ∃ Y_ : gM, Y_ = gw_up M6 qb (.inr (1, [.int 0, .null, .int 0])) := ⟨_, rfl⟩
  replace hG := gw_nm e_M7 hG
  have hM7_qh := (congrFun e_M7 qh).trans ((gw_miss ne_qh_qb).trans hM6_qh)
  have hM7_ql := (congrFun e_M7 ql).trans ((gw_miss ne_ql_qb).trans hM6_ql)
  have hM7_o := (congrFun e_M7 o).trans ((gw_miss ne_o_qb).trans hM6_o)
  have hM7_qb := (congrFun e_M7 qb).trans gw_hit
  refine lv_dup hx hb d_Row_init_30 rfl ?_
  refine gw_callv (gw_runI (As := []) (rest := [.ref qb, .ref o]) ⟨hx, hb, hml, hown, hts⟩ (c_AL_init l E D cI cO cZ z0 M7 hM7_qb) (cwI 0 hts (gT_gi wm_61) rfl rfl rfl (hT _ wm_26) (hT _ wm_59) (hT _ wm_60) rfl (by decide +kernel) ⟨Nat.le_of_ble_eq_true rfl, Nat.le_of_ble_eq_true rfl⟩) hF hG rfl hl.1 rfl (Nat.le_of_ble_eq_true rfl) d_Row_init_31 ⟨Nat.le_of_ble_eq_true rfl, Nat.le_of_ble_eq_true rfl⟩) hG (fun M8 H locs hp hG => ?_)
  have hM8_qh := (congrFun hp qh).trans ((gw_miss ne_qh_qb).trans hM7_qh)
  have hM8_ql := (congrFun hp ql).trans ((gw_miss ne_ql_qb).trans hM7_ql)
  have hM8_o := (congrFun hp o).trans ((gw_miss ne_o_qb).trans hM7_o)
  have hM8_qb := (congrFun hp qb).trans gw_hit
  have e_M8 := hp
  refine gw_putF (v := .ref qb) hx hb hT i_Row t_Row t_Row_ok n_Row hown hK hG hM8_o rfl 2 (by decide) (hT _ wm_238) (fun _ h => h) rfl hnm rfl rfl rfl (Nat.le_of_ble_eq_true rfl) d_Row_init_34 (fun H locs hG => ?_)
  obtain ⟨M9, e_M9⟩ : ∃ Y_ : gM, Y_ = gw_up M8 o (.inr (0, [.ref qh, .ref ql, .ref qb, .null, .null, .null, .null, .null, .int 0, .int 0, .int 0, .int 0, .int 0, .int 0])) := ⟨_, rfl⟩
  replace hG := gw_nm e_M9 hG
  have hM9_qh := (congrFun e_M9 qh).trans ((gw_miss ne_o_qh.symm).trans hM8_qh)
  have hM9_ql := (congrFun e_M9 ql).trans ((gw_miss ne_o_ql.symm).trans hM8_ql)
  have hM9_qb := (congrFun e_M9 qb).trans ((gw_miss ne_o_qb.symm).trans hM8_qb)
  have hM9_o := (congrFun e_M9 o).trans gw_hit
  refine lv_aload_n hx hb d_Row_init_37 rfl (lv_at hl 0 rfl) ?_
  refine gw_new (fs := [.null]) (C := R_Gang) (T := F_Gang) (N := 1) (ci := 2) hx hb hT i_Gang t_Gang t_Gang_ok hown (hT _ wm_83) (hT _ wm_84) (hT _ wm_27) hK hF.2.1 hG rfl (fun j hj => by rcases (show j = 0 by omega) with rfl <;> rfl) (Nat.le_of_ble_eq_true rfl) (Nat.le_of_ble_eq_true rfl) d_Row_init_38 (fun gg H hq_gg hG => ?_)
  have ne_qh_gg : qh ≠ gg := gw_neF hq_gg hM9_qh
  have ne_ql_gg : ql ≠ gg := gw_neF hq_gg hM9_ql
  have ne_qb_gg : qb ≠ gg := gw_neF hq_gg hM9_qb
  have ne_o_gg : o ≠ gg := gw_neF hq_gg hM9_o
  obtain ⟨M10, e_M10⟩ : ∃ Y_ : gM, Y_ = gw_up M9 gg (.inr (2, [.null])) := ⟨_, rfl⟩
  replace hG := gw_nm e_M10 hG
  have hM10_qh := (congrFun e_M10 qh).trans ((gw_miss ne_qh_gg).trans hM9_qh)
  have hM10_ql := (congrFun e_M10 ql).trans ((gw_miss ne_ql_gg).trans hM9_ql)
  have hM10_qb := (congrFun e_M10 qb).trans ((gw_miss ne_qb_gg).trans hM9_qb)
  have hM10_o := (congrFun e_M10 o).trans ((gw_miss ne_o_gg).trans hM9_o)
  have hM10_gg := (congrFun e_M10 gg).trans gw_hit
  refine lv_dup hx hb d_Row_init_41 rfl ?_
  refine gw_callv (gw_runIN (As := []) (rest := [.ref gg, .ref o]) ⟨hx, hb, hml, hown, hts⟩ (c_Gang_init l E D cI cO cZ z0 M10 hM10_gg) ⟨va_cnB 0 hts (gT_gi wm_87) rfl rfl rfl (gW_m hF.2.2.2.2.2.2 wq_85 rfl) (hT _ wm_27) (by decide +kernel) ⟨Nat.le_of_ble_eq_true rfl, Nat.le_of_ble_eq_true rfl⟩, rfl, (hT _ wm_86)⟩ hF hG rfl hl.1 rfl (Nat.le_of_ble_eq_true rfl) d_Row_init_42 ⟨Nat.le_of_ble_eq_true rfl, Nat.le_of_ble_eq_true rfl⟩) hG (fun M11 H locs hp hG => ?_)
  obtain ⟨qg, hq_qg, e0_M11⟩ := hp
  have ne_qh_qg : qh ≠ qg := gw_neF hq_qg hM10_qh
  have ne_ql_qg : ql ≠ qg := gw_neF hq_qg hM10_ql
  have ne_qb_qg : qb ≠ qg := gw_neF hq_qg hM10_qb
  have ne_o_qg : o ≠ qg := gw_neF hq_qg hM10_o
  have ne_gg_qg : gg ≠ qg := gw_neF hq_qg hM10_gg
  obtain ⟨M12, e_M12⟩ : ∃ Y_ : gM, Y_ = gw_up M10 qg (.inr (1, [.int 0, .ref z0, .int 0])) := ⟨_, rfl⟩
  rw [← e_M12] at e0_M11
  have hM12_qh := (congrFun e_M12 qh).trans ((gw_miss ne_qh_qg).trans hM10_qh)
  have hM12_ql := (congrFun e_M12 ql).trans ((gw_miss ne_ql_qg).trans hM10_ql)
  have hM12_qb := (congrFun e_M12 qb).trans ((gw_miss ne_qb_qg).trans hM10_qb)
  have hM12_o := (congrFun e_M12 o).trans ((gw_miss ne_o_qg).trans hM10_o)
  have hM12_gg := (congrFun e_M12 gg).trans ((gw_miss ne_gg_qg).trans hM10_gg)
  have hM12_qg := (congrFun e_M12 qg).trans gw_hit
  have hM11_qh := (congrFun e0_M11 qh).trans ((gw_miss ne_qh_gg).trans hM12_qh)
  have hM11_ql := (congrFun e0_M11 ql).trans ((gw_miss ne_ql_gg).trans hM12_ql)
  have hM11_qb := (congrFun e0_M11 qb).trans ((gw_miss ne_qb_gg).trans hM12_qb)
  have hM11_o := (congrFun e0_M11 o).trans ((gw_miss ne_o_gg).trans hM12_o)
  have hM11_qg := (congrFun e0_M11 qg).trans ((gw_miss ne_gg_qg.symm).trans hM12_qg)
  have hM11_gg := (congrFun e0_M11 gg).trans gw_hit
  refine gw_putF (v := .ref gg) hx hb hT i_Row t_Row t_Row_ok n_Row hown hK hG hM11_o rfl 3 (by decide) (hT _ wm_239) (fun _ h => h) rfl hnm rfl rfl rfl (Nat.le_of_ble_eq_true rfl) d_Row_init_45 (fun H locs hG => ?_)
  obtain ⟨M13, e_M13⟩ : ∃ Y_ : gM, Y_ = gw_up M11 o (.inr (0, [.ref qh, .ref ql, .ref qb, .ref gg, .null, .null, .null, .null, .int 0, .int 0, .int 0, .int 0, .int 0, .int 0])) := ⟨_, rfl⟩
  replace hG := gw_nm e_M13 hG
  have hM13_qh := (congrFun e_M13 qh).trans ((gw_miss ne_o_qh.symm).trans hM11_qh)
  have hM13_ql := (congrFun e_M13 ql).trans ((gw_miss ne_o_ql.symm).trans hM11_ql)
  have hM13_qb := (congrFun e_M13 qb).trans ((gw_miss ne_o_qb.symm).trans hM11_qb)
  have hM13_qg := (congrFun e_M13 qg).trans ((gw_miss ne_o_qg.symm).trans hM11_qg)
  have hM13_gg := (congrFun e_M13 gg).trans ((gw_miss ne_o_gg.symm).trans hM11_gg)
  have hM13_o := (congrFun e_M13 o).trans gw_hit
  refine lv_aload_n hx hb d_Row_init_48 rfl (lv_at hl 0 rfl) ?_
  refine gw_new (fs := [.int 0, .int 0, .int 0, .int 0]) (C := R_Drum) (T := F_Drum) (N := 4) (ci := 3) hx hb hT i_Drum t_Drum t_Drum_ok hown (hT _ wm_95) (hT _ wm_96) (hT _ wm_28) hK hF.2.1 hG rfl (fun j hj => by rcases (show j = 0 ∨ j = 1 ∨ j = 2 ∨ j = 3 by omega) with rfl | rfl | rfl | rfl <;> rfl) (Nat.le_of_ble_eq_true rfl) (Nat.le_of_ble_eq_true rfl) d_Row_init_49 (fun dr H hq_dr hG => ?_)
  have ne_qh_dr : qh ≠ dr := gw_neF hq_dr hM13_qh
  have ne_ql_dr : ql ≠ dr := gw_neF hq_dr hM13_ql
  have ne_qb_dr : qb ≠ dr := gw_neF hq_dr hM13_qb
  have ne_qg_dr : qg ≠ dr := gw_neF hq_dr hM13_qg
  have ne_gg_dr : gg ≠ dr := gw_neF hq_dr hM13_gg
  have ne_o_dr : o ≠ dr := gw_neF hq_dr hM13_o
  obtain ⟨M14, e_M14⟩ : ∃ Y_ : gM, Y_ = gw_up M13 dr (.inr (3, [.int 0, .int 0, .int 0, .int 0])) := ⟨_, rfl⟩
  replace hG := gw_nm e_M14 hG
  have hM14_qh := (congrFun e_M14 qh).trans ((gw_miss ne_qh_dr).trans hM13_qh)
  have hM14_ql := (congrFun e_M14 ql).trans ((gw_miss ne_ql_dr).trans hM13_ql)
  have hM14_qb := (congrFun e_M14 qb).trans ((gw_miss ne_qb_dr).trans hM13_qb)
  have hM14_qg := (congrFun e_M14 qg).trans ((gw_miss ne_qg_dr).trans hM13_qg)
  have hM14_gg := (congrFun e_M14 gg).trans ((gw_miss ne_gg_dr).trans hM13_gg)
  have hM14_o := (congrFun e_M14 o).trans ((gw_miss ne_o_dr).trans hM13_o)
  have hM14_dr := (congrFun e_M14 dr).trans gw_hit
  refine lv_dup hx hb d_Row_init_52 rfl ?_
  refine gw_callv (gw_runIN (As := []) (rest := [.ref dr, .ref o]) ⟨hx, hb, hml, hown, hts⟩ (c_Drum_init l E D cI cO cZ z0 M14 hM14_dr) ⟨va_cnB 0 hts (gT_gi wm_99) rfl rfl rfl (gW_m hF.2.2.2.2.2.2 wq_97 rfl) (hT _ wm_28) (by decide +kernel) ⟨Nat.le_of_ble_eq_true rfl, Nat.le_of_ble_eq_true rfl⟩, rfl, (hT _ wm_98)⟩ hF hG rfl hl.1 rfl (Nat.le_of_ble_eq_true rfl) d_Row_init_53 ⟨Nat.le_of_ble_eq_true rfl, Nat.le_of_ble_eq_true rfl⟩) hG (fun M15 H locs hp hG => ?_)
  have hM15_qh := (congrFun hp qh).trans ((gw_miss ne_qh_dr).trans hM14_qh)
  have hM15_ql := (congrFun hp ql).trans ((gw_miss ne_ql_dr).trans hM14_ql)
  have hM15_qb := (congrFun hp qb).trans ((gw_miss ne_qb_dr).trans hM14_qb)
  have hM15_qg := (congrFun hp qg).trans ((gw_miss ne_qg_dr).trans hM14_qg)
  have hM15_gg := (congrFun hp gg).trans ((gw_miss ne_gg_dr).trans hM14_gg)
  have hM15_o := (congrFun hp o).trans ((gw_miss ne_o_dr).trans hM14_o)
  have hM15_dr := (congrFun hp dr).trans gw_hit
  have e_M15 := hp
  refine gw_putF (v := .ref dr) hx hb hT i_Row t_Row t_Row_ok n_Row hown hK hG hM15_o rfl 4 (by decide) (hT _ wm_240) (fun _ h => h) rfl hnm rfl rfl rfl (Nat.le_of_ble_eq_true rfl) d_Row_init_56 (fun H locs hG => ?_)
  obtain ⟨M16, e_M16⟩ : ∃ Y_ : gM, Y_ = gw_up M15 o (.inr (0, [.ref qh, .ref ql, .ref qb, .ref gg, .ref dr, .null, .null, .null, .int 0, .int 0, .int 0, .int 0, .int 0, .int 0])) := ⟨_, rfl⟩
  replace hG := gw_nm e_M16 hG
  have hM16_qh := (congrFun e_M16 qh).trans ((gw_miss ne_o_qh.symm).trans hM15_qh)
  have hM16_ql := (congrFun e_M16 ql).trans ((gw_miss ne_o_ql.symm).trans hM15_ql)
  have hM16_qb := (congrFun e_M16 qb).trans ((gw_miss ne_o_qb.symm).trans hM15_qb)
  have hM16_qg := (congrFun e_M16 qg).trans ((gw_miss ne_o_qg.symm).trans hM15_qg)
  have hM16_gg := (congrFun e_M16 gg).trans ((gw_miss ne_o_gg.symm).trans hM15_gg)
  have hM16_dr := (congrFun e_M16 dr).trans ((gw_miss ne_o_dr.symm).trans hM15_dr)
  have hM16_o := (congrFun e_M16 o).trans gw_hit
  refine lv_aload_n hx hb d_Row_init_59 rfl (lv_at hl 0 rfl) ?_
  refine gw_new (fs := [.int 0, .int 0, .int 0, .int 0, .int 0, .int 0, .int 0, .int 0, .int 0]) (C := R_Ledger) (T := F_Ledger) (N := 9) (ci := 4) hx hb hT i_Ledger t_Ledger t_Ledger_ok hown (hT _ wm_115) (hT _ wm_116) (hT _ wm_29) hK hF.2.1 hG rfl (fun j hj => by rcases (show j = 0 ∨ j = 1 ∨ j = 2 ∨ j = 3 ∨ j = 4 ∨ j = 5 ∨ j = 6 ∨ j = 7 ∨ j = 8 by omega) with rfl | rfl | rfl | rfl | rfl | rfl | rfl | rfl | rfl <;> rfl) (Nat.le_of_ble_eq_true rfl) (Nat.le_of_ble_eq_true rfl) d_Row_init_60 (fun lg H hq_lg hG => ?_)
  have ne_qh_lg : qh ≠ lg := gw_neF hq_lg hM16_qh
  have ne_ql_lg : ql ≠ lg := gw_neF hq_lg hM16_ql
  have ne_qb_lg : qb ≠ lg := gw_neF hq_lg hM16_qb
  have ne_qg_lg : qg ≠ lg := gw_neF hq_lg hM16_qg
  have ne_gg_lg : gg ≠ lg := gw_neF hq_lg hM16_gg
  have ne_dr_lg : dr ≠ lg := gw_neF hq_lg hM16_dr
  have ne_o_lg : o ≠ lg := gw_neF hq_lg hM16_o
  obtain ⟨M17, e_M17⟩ : ∃ Y_ : gM, Y_ = gw_up M16 lg (.inr (4, [.int 0, .int 0, .int 0, .int 0, .int 0, .int 0, .int 0, .int 0, .int 0])) := ⟨_, rfl⟩
  replace hG := gw_nm e_M17 hG
  have hM17_qh := (congrFun e_M17 qh).trans ((gw_miss ne_qh_lg).trans hM16_qh)
  have hM17_ql := (congrFun e_M17 ql).trans ((gw_miss ne_ql_lg).trans hM16_ql)
  have hM17_qb := (congrFun e_M17 qb).trans ((gw_miss ne_qb_lg).trans hM16_qb)
  have hM17_qg := (congrFun e_M17 qg).trans ((gw_miss ne_qg_lg).trans hM16_qg)
  have hM17_gg := (congrFun e_M17 gg).trans ((gw_miss ne_gg_lg).trans hM16_gg)
  have hM17_dr := (congrFun e_M17 dr).trans ((gw_miss ne_dr_lg).trans hM16_dr)
  have hM17_o := (congrFun e_M17 o).trans ((gw_miss ne_o_lg).trans hM16_o)
  have hM17_lg := (congrFun e_M17 lg).trans gw_hit
  refine lv_dup hx hb d_Row_init_63 rfl ?_
  refine gw_callv (gw_runIN (As := []) (rest := [.ref lg, .ref o]) ⟨hx, hb, hml, hown, hts⟩ (c_Ledger_init l E D cI cO cZ z0 M17 hM17_lg) ⟨va_cnB 0 hts (gT_gi wm_119) rfl rfl rfl (gW_m hF.2.2.2.2.2.2 wq_117 rfl) (hT _ wm_29) (by decide +kernel) ⟨Nat.le_of_ble_eq_true rfl, Nat.le_of_ble_eq_true rfl⟩, rfl, (hT _ wm_118)⟩ hF hG rfl hl.1 rfl (Nat.le_of_ble_eq_true rfl) d_Row_init_64 ⟨Nat.le_of_ble_eq_true rfl, Nat.le_of_ble_eq_true rfl⟩) hG (fun M18 H locs hp hG => ?_)
  have hM18_qh := (congrFun hp qh).trans ((gw_miss ne_qh_lg).trans hM17_qh)
  have hM18_ql := (congrFun hp ql).trans ((gw_miss ne_ql_lg).trans hM17_ql)
  have hM18_qb := (congrFun hp qb).trans ((gw_miss ne_qb_lg).trans hM17_qb)
  have hM18_qg := (congrFun hp qg).trans ((gw_miss ne_qg_lg).trans hM17_qg)
  have hM18_gg := (congrFun hp gg).trans ((gw_miss ne_gg_lg).trans hM17_gg)
  have hM18_dr := (congrFun hp dr).trans ((gw_miss ne_dr_lg).trans hM17_dr)
  have hM18_o := (congrFun hp o).trans ((gw_miss ne_o_lg).trans hM17_o)
  have hM18_lg := (congrFun hp lg).trans gw_hit
  have e_M18 := hp
  refine gw_putF (v := .ref lg) hx hb hT i_Row t_Row t_Row_ok n_Row hown hK hG hM18_o rfl 5 (by decide) (hT _ wm_241) (fun _ h => h) rfl hnm rfl rfl rfl (Nat.le_of_ble_eq_true rfl) d_Row_init_67 (fun H locs hG => ?_)
  obtain ⟨M19, e_M19⟩ : ∃ Y_ : gM, Y_ = gw_up M18 o (.inr (0, [.ref qh, .ref ql, .ref qb, .ref gg, .ref dr, .ref lg, .null, .null, .int 0, .int 0, .int 0, .int 0, .int 0, .int 0])) := ⟨_, rfl⟩
  replace hG := gw_nm e_M19 hG
  have hM19_qh := (congrFun e_M19 qh).trans ((gw_miss ne_o_qh.symm).trans hM18_qh)
  have hM19_ql := (congrFun e_M19 ql).trans ((gw_miss ne_o_ql.symm).trans hM18_ql)
  have hM19_qb := (congrFun e_M19 qb).trans ((gw_miss ne_o_qb.symm).trans hM18_qb)
  have hM19_qg := (congrFun e_M19 qg).trans ((gw_miss ne_o_qg.symm).trans hM18_qg)
  have hM19_gg := (congrFun e_M19 gg).trans ((gw_miss ne_o_gg.symm).trans hM18_gg)
  have hM19_dr := (congrFun e_M19 dr).trans ((gw_miss ne_o_dr.symm).trans hM18_dr)
  have hM19_lg := (congrFun e_M19 lg).trans ((gw_miss ne_o_lg.symm).trans hM18_lg)
  have hM19_o := (congrFun e_M19 o).trans gw_hit
  refine lv_aload_n hx hb d_Row_init_70 rfl (lv_at hl 0 rfl) ?_
  refine lv_iconst (v := 4) hx hb d_Row_init_71 (by decide) ?_
  refine gw_newI (N := 4) hx hb (hT _ wm_173) hK hF.2.1 hG (by decide) (by decide) (Nat.le_of_ble_eq_true rfl) (Nat.le_of_ble_eq_true rfl) (Nat.le_of_ble_eq_true rfl) d_Row_init_72 (fun bp H hq_bp hG => ?_)
  have ne_qh_bp : qh ≠ bp := gw_neF hq_bp hM19_qh
  have ne_ql_bp : ql ≠ bp := gw_neF hq_bp hM19_ql
  have ne_qb_bp : qb ≠ bp := gw_neF hq_bp hM19_qb
  have ne_qg_bp : qg ≠ bp := gw_neF hq_bp hM19_qg
  have ne_gg_bp : gg ≠ bp := gw_neF hq_bp hM19_gg
  have ne_dr_bp : dr ≠ bp := gw_neF hq_bp hM19_dr
  have ne_lg_bp : lg ≠ bp := gw_neF hq_bp hM19_lg
  have ne_o_bp : o ≠ bp := gw_neF hq_bp hM19_o
  obtain ⟨M20, e_M20⟩ : ∃ Y_ : gM, Y_ = gw_up M19 bp (.inl (cI, 4, .inl (fun _ => 0))) := ⟨_, rfl⟩
  replace hG := gw_nm e_M20 hG
  have hM20_qh := (congrFun e_M20 qh).trans ((gw_miss ne_qh_bp).trans hM19_qh)
  have hM20_ql := (congrFun e_M20 ql).trans ((gw_miss ne_ql_bp).trans hM19_ql)
  have hM20_qb := (congrFun e_M20 qb).trans ((gw_miss ne_qb_bp).trans hM19_qb)
  have hM20_qg := (congrFun e_M20 qg).trans ((gw_miss ne_qg_bp).trans hM19_qg)
  have hM20_gg := (congrFun e_M20 gg).trans ((gw_miss ne_gg_bp).trans hM19_gg)
  have hM20_dr := (congrFun e_M20 dr).trans ((gw_miss ne_dr_bp).trans hM19_dr)
  have hM20_lg := (congrFun e_M20 lg).trans ((gw_miss ne_lg_bp).trans hM19_lg)
  have hM20_o := (congrFun e_M20 o).trans ((gw_miss ne_o_bp).trans hM19_o)
  have hM20_bp := (congrFun e_M20 bp).trans gw_hit
  refine gw_putF (v := .ref bp) hx hb hT i_Row t_Row t_Row_ok n_Row hown hK hG hM20_o rfl 6 (by decide) (hT _ wm_242) (fun _ h => h) rfl hnm rfl rfl rfl (Nat.le_of_ble_eq_true rfl) d_Row_init_74 (fun H locs hG => ?_)
  obtain ⟨M21, e_M21⟩ : ∃ Y_ : gM, Y_ = gw_up M20 o (.inr (0, [.ref qh, .ref ql, .ref qb, .ref gg, .ref dr, .ref lg, .ref bp, .null, .int 0, .int 0, .int 0, .int 0, .int 0, .int 0])) := ⟨_, rfl⟩
  replace hG := gw_nm e_M21 hG
  have hM21_qh := (congrFun e_M21 qh).trans ((gw_miss ne_o_qh.symm).trans hM20_qh)
  have hM21_ql := (congrFun e_M21 ql).trans ((gw_miss ne_o_ql.symm).trans hM20_ql)
  have hM21_qb := (congrFun e_M21 qb).trans ((gw_miss ne_o_qb.symm).trans hM20_qb)
  have hM21_qg := (congrFun e_M21 qg).trans ((gw_miss ne_o_qg.symm).trans hM20_qg)
  have hM21_gg := (congrFun e_M21 gg).trans ((gw_miss ne_o_gg.symm).trans hM20_gg)
  have hM21_dr := (congrFun e_M21 dr).trans ((gw_miss ne_o_dr.symm).trans hM20_dr)
  have hM21_lg := (congrFun e_M21 lg).trans ((gw_miss ne_o_lg.symm).trans hM20_lg)
  have hM21_bp := (congrFun e_M21 bp).trans ((gw_miss ne_o_bp.symm).trans hM20_bp)
  have hM21_o := (congrFun e_M21 o).trans gw_hit
  refine lv_aload_n hx hb d_Row_init_77 rfl (lv_at hl 0 rfl) ?_
  refine lv_iconst (v := 4) hx hb d_Row_init_78 (by decide) ?_
  refine gw_newZ (N := 4) hx hb (hT _ wm_174) hK hF.2.1 hG (by decide) (by decide) (Nat.le_of_ble_eq_true rfl) (Nat.le_of_ble_eq_true rfl) (Nat.le_of_ble_eq_true rfl) d_Row_init_79 (fun cu H hq_cu hG => ?_)
  have ne_qh_cu : qh ≠ cu := gw_neF hq_cu hM21_qh
  have ne_ql_cu : ql ≠ cu := gw_neF hq_cu hM21_ql
  have ne_qb_cu : qb ≠ cu := gw_neF hq_cu hM21_qb
  have ne_qg_cu : qg ≠ cu := gw_neF hq_cu hM21_qg
  have ne_gg_cu : gg ≠ cu := gw_neF hq_cu hM21_gg
  have ne_dr_cu : dr ≠ cu := gw_neF hq_cu hM21_dr
  have ne_lg_cu : lg ≠ cu := gw_neF hq_cu hM21_lg
  have ne_bp_cu : bp ≠ cu := gw_neF hq_cu hM21_bp
  have ne_o_cu : o ≠ cu := gw_neF hq_cu hM21_o
  obtain ⟨M22, e_M22⟩ : ∃ Y_ : gM, Y_ = gw_up M21 cu (.inl (cZ, 4, .inl (fun _ => 0))) := ⟨_, rfl⟩
  replace hG := gw_nm e_M22 hG
  have hM22_qh := (congrFun e_M22 qh).trans ((gw_miss ne_qh_cu).trans hM21_qh)
  have hM22_ql := (congrFun e_M22 ql).trans ((gw_miss ne_ql_cu).trans hM21_ql)
  have hM22_qb := (congrFun e_M22 qb).trans ((gw_miss ne_qb_cu).trans hM21_qb)
  have hM22_qg := (congrFun e_M22 qg).trans ((gw_miss ne_qg_cu).trans hM21_qg)
  have hM22_gg := (congrFun e_M22 gg).trans ((gw_miss ne_gg_cu).trans hM21_gg)
  have hM22_dr := (congrFun e_M22 dr).trans ((gw_miss ne_dr_cu).trans hM21_dr)
  have hM22_lg := (congrFun e_M22 lg).trans ((gw_miss ne_lg_cu).trans hM21_lg)
  have hM22_bp := (congrFun e_M22 bp).trans ((gw_miss ne_bp_cu).trans hM21_bp)
  have hM22_o := (congrFun e_M22 o).trans ((gw_miss ne_o_cu).trans hM21_o)
  have hM22_cu := (congrFun e_M22 cu).trans gw_hit
  refine gw_putF (v := .ref cu) hx hb hT i_Row t_Row t_Row_ok n_Row hown hK hG hM22_o rfl 7 (by decide) (hT _ wm_243) (fun _ h => h) rfl hnm rfl rfl rfl (Nat.le_of_ble_eq_true rfl) d_Row_init_81 (fun H locs hG => ?_)
  obtain ⟨M23, e_M23⟩ : ∃ Y_ : gM, Y_ = gw_up M22 o (.inr (0, [.ref qh, .ref ql, .ref qb, .ref gg, .ref dr, .ref lg, .ref bp, .ref cu, .int 0, .int 0, .int 0, .int 0, .int 0, .int 0])) := ⟨_, rfl⟩
  replace hG := gw_nm e_M23 hG
  have hM23_qh := (congrFun e_M23 qh).trans ((gw_miss ne_o_qh.symm).trans hM22_qh)
  have hM23_ql := (congrFun e_M23 ql).trans ((gw_miss ne_o_ql.symm).trans hM22_ql)
  have hM23_qb := (congrFun e_M23 qb).trans ((gw_miss ne_o_qb.symm).trans hM22_qb)
  have hM23_qg := (congrFun e_M23 qg).trans ((gw_miss ne_o_qg.symm).trans hM22_qg)
  have hM23_gg := (congrFun e_M23 gg).trans ((gw_miss ne_o_gg.symm).trans hM22_gg)
  have hM23_dr := (congrFun e_M23 dr).trans ((gw_miss ne_o_dr.symm).trans hM22_dr)
  have hM23_lg := (congrFun e_M23 lg).trans ((gw_miss ne_o_lg.symm).trans hM22_lg)
  have hM23_bp := (congrFun e_M23 bp).trans ((gw_miss ne_o_bp.symm).trans hM22_bp)
  have hM23_cu := (congrFun e_M23 cu).trans ((gw_miss ne_o_cu.symm).trans hM22_cu)
  have hM23_o := (congrFun e_M23 o).trans gw_hit
  refine lv_aload_n hx hb d_Row_init_84 rfl (lv_at hl 0 rfl) ?_
  refine lv_iconst (v := 0) hx hb d_Row_init_85 (by decide) ?_
  refine gw_put (v := .int 0) hx hb hT i_Row t_Row t_Row_ok n_Row hown hK hG hM23_o rfl 8 (by decide) (hT _ wm_244) (fun _ h => h) rfl rfl rfl (Nat.le_of_ble_eq_true rfl) d_Row_init_86 (fun H locs hG => ?_)
  obtain ⟨M24, e_M24⟩ : ∃ Y_ : gM, Y_ = gw_up M23 o (.inr (0, [.ref qh, .ref ql, .ref qb, .ref gg, .ref dr, .ref lg, .ref bp, .ref cu, .int 0, .int 0, .int 0, .int 0, .int 0, .int 0])) := ⟨_, rfl⟩
  replace hG := gw_nm e_M24 hG
  have hM24_qh := (congrFun e_M24 qh).trans ((gw_miss ne_o_qh.symm).trans hM23_qh)
  have hM24_ql := (congrFun e_M24 ql).trans ((gw_miss ne_o_ql.symm).trans hM23_ql)
  have hM24_qb := (congrFun e_M24 qb).trans ((gw_miss ne_o_qb.symm).trans hM23_qb)
  have hM24_qg := (congrFun e_M24 qg).trans ((gw_miss ne_o_qg.symm).trans hM23_qg)
  have hM24_gg := (congrFun e_M24 gg).trans ((gw_miss ne_o_gg.symm).trans hM23_gg)
  have hM24_dr := (congrFun e_M24 dr).trans ((gw_miss ne_o_dr.symm).trans hM23_dr)
  have hM24_lg := (congrFun e_M24 lg).trans ((gw_miss ne_o_lg.symm).trans hM23_lg)
  have hM24_bp := (congrFun e_M24 bp).trans ((gw_miss ne_o_bp.symm).trans hM23_bp)
  have hM24_cu := (congrFun e_M24 cu).trans ((gw_miss ne_o_cu.symm).trans hM23_cu)
  have hM24_o := (congrFun e_M24 o).trans gw_hit
  refine lv_aload_n hx hb d_Row_init_89 rfl (lv_at hl 0 rfl) ?_
  refine lv_iconst (v := 1) hx hb d_Row_init_90 (by decide) ?_
  refine gw_put (v := .int 1) hx hb hT i_Row t_Row t_Row_ok n_Row hown hK hG hM24_o rfl 9 (by decide) (hT _ wm_245) (fun _ h => h) rfl rfl rfl (Nat.le_of_ble_eq_true rfl) d_Row_init_91 (fun H locs hG => ?_)
  obtain ⟨M25, e_M25⟩ : ∃ Y_ : gM, Y_ = gw_up M24 o (.inr (0, [.ref qh, .ref ql, .ref qb, .ref gg, .ref dr, .ref lg, .ref bp, .ref cu, .int 0, .int 1, .int 0, .int 0, .int 0, .int 0])) := ⟨_, rfl⟩
  replace hG := gw_nm e_M25 hG
  have hM25_qh := (congrFun e_M25 qh).trans ((gw_miss ne_o_qh.symm).trans hM24_qh)
  have hM25_ql := (congrFun e_M25 ql).trans ((gw_miss ne_o_ql.symm).trans hM24_ql)
  have hM25_qb := (congrFun e_M25 qb).trans ((gw_miss ne_o_qb.symm).trans hM24_qb)
  have hM25_qg := (congrFun e_M25 qg).trans ((gw_miss ne_o_qg.symm).trans hM24_qg)
  have hM25_gg := (congrFun e_M25 gg).trans ((gw_miss ne_o_gg.symm).trans hM24_gg)
  have hM25_dr := (congrFun e_M25 dr).trans ((gw_miss ne_o_dr.symm).trans hM24_dr)
  have hM25_lg := (congrFun e_M25 lg).trans ((gw_miss ne_o_lg.symm).trans hM24_lg)
  have hM25_bp := (congrFun e_M25 bp).trans ((gw_miss ne_o_bp.symm).trans hM24_bp)
  have hM25_cu := (congrFun e_M25 cu).trans ((gw_miss ne_o_cu.symm).trans hM24_cu)
  have hM25_o := (congrFun e_M25 o).trans gw_hit
  refine lv_aload_n hx hb d_Row_init_94 rfl (lv_at hl 0 rfl) ?_
  refine lv_iconst (v := 0) hx hb d_Row_init_95 (by decide) ?_
  refine gw_put (v := .int 0) hx hb hT i_Row t_Row t_Row_ok n_Row hown hK hG hM25_o rfl 10 (by decide) (hT _ wm_246) (fun _ h => h) rfl rfl rfl (Nat.le_of_ble_eq_true rfl) d_Row_init_96 (fun H locs hG => ?_)
  obtain ⟨M26, e_M26⟩ : ∃ Y_ : gM, Y_ = gw_up M25 o (.inr (0, [.ref qh, .ref ql, .ref qb, .ref gg, .ref dr, .ref lg, .ref bp, .ref cu, .int 0, .int 1, .int 0, .int 0, .int 0, .int 0])) := ⟨_, rfl⟩
  replace hG := gw_nm e_M26 hG
  have hM26_qh := (congrFun e_M26 qh).trans ((gw_miss ne_o_qh.symm).trans hM25_qh)
  have hM26_ql := (congrFun e_M26 ql).trans ((gw_miss ne_o_ql.symm).trans hM25_ql)
  have hM26_qb := (congrFun e_M26 qb).trans ((gw_miss ne_o_qb.symm).trans hM25_qb)
  have hM26_qg := (congrFun e_M26 qg).trans ((gw_miss ne_o_qg.symm).trans hM25_qg)
  have hM26_gg := (congrFun e_M26 gg).trans ((gw_miss ne_o_gg.symm).trans hM25_gg)
  have hM26_dr := (congrFun e_M26 dr).trans ((gw_miss ne_o_dr.symm).trans hM25_dr)
  have hM26_lg := (congrFun e_M26 lg).trans ((gw_miss ne_o_lg.symm).trans hM25_lg)
  have hM26_bp := (congrFun e_M26 bp).trans ((gw_miss ne_o_bp.symm).trans hM25_bp)
  have hM26_cu := (congrFun e_M26 cu).trans ((gw_miss ne_o_cu.symm).trans hM25_cu)
  have hM26_o := (congrFun e_M26 o).trans gw_hit
  refine lv_aload_n hx hb d_Row_init_99 rfl (lv_at hl 0 rfl) ?_
  refine lv_iconst (v := 0) hx hb d_Row_init_100 (by decide) ?_
  refine gw_put (v := .int 0) hx hb hT i_Row t_Row t_Row_ok n_Row hown hK hG hM26_o rfl 11 (by decide) (hT _ wm_247) (fun _ h => h) rfl rfl rfl (Nat.le_of_ble_eq_true rfl) d_Row_init_101 (fun H locs hG => ?_)
  obtain ⟨M27, e_M27⟩ : ∃ Y_ : gM, Y_ = gw_up M26 o (.inr (0, [.ref qh, .ref ql, .ref qb, .ref gg, .ref dr, .ref lg, .ref bp, .ref cu, .int 0, .int 1, .int 0, .int 0, .int 0, .int 0])) := ⟨_, rfl⟩
  replace hG := gw_nm e_M27 hG
  have hM27_qh := (congrFun e_M27 qh).trans ((gw_miss ne_o_qh.symm).trans hM26_qh)
  have hM27_ql := (congrFun e_M27 ql).trans ((gw_miss ne_o_ql.symm).trans hM26_ql)
  have hM27_qb := (congrFun e_M27 qb).trans ((gw_miss ne_o_qb.symm).trans hM26_qb)
  have hM27_qg := (congrFun e_M27 qg).trans ((gw_miss ne_o_qg.symm).trans hM26_qg)
  have hM27_gg := (congrFun e_M27 gg).trans ((gw_miss ne_o_gg.symm).trans hM26_gg)
  have hM27_dr := (congrFun e_M27 dr).trans ((gw_miss ne_o_dr.symm).trans hM26_dr)
  have hM27_lg := (congrFun e_M27 lg).trans ((gw_miss ne_o_lg.symm).trans hM26_lg)
  have hM27_bp := (congrFun e_M27 bp).trans ((gw_miss ne_o_bp.symm).trans hM26_bp)
  have hM27_cu := (congrFun e_M27 cu).trans ((gw_miss ne_o_cu.symm).trans hM26_cu)
  have hM27_o := (congrFun e_M27 o).trans gw_hit
  refine lv_aload_n hx hb d_Row_init_104 rfl (lv_at hl 0 rfl) ?_
  refine lv_iconst (v := 0) hx hb d_Row_init_105 (by decide) ?_
  refine gw_put (v := .int 0) hx hb hT i_Row t_Row t_Row_ok n_Row hown hK hG hM27_o rfl 12 (by decide) (hT _ wm_248) (fun _ h => h) rfl rfl rfl (Nat.le_of_ble_eq_true rfl) d_Row_init_106 (fun H locs hG => ?_)
  obtain ⟨M28, e_M28⟩ : ∃ Y_ : gM, Y_ = gw_up M27 o (.inr (0, [.ref qh, .ref ql, .ref qb, .ref gg, .ref dr, .ref lg, .ref bp, .ref cu, .int 0, .int 1, .int 0, .int 0, .int 0, .int 0])) := ⟨_, rfl⟩
  replace hG := gw_nm e_M28 hG
  have hM28_qh := (congrFun e_M28 qh).trans ((gw_miss ne_o_qh.symm).trans hM27_qh)
  have hM28_ql := (congrFun e_M28 ql).trans ((gw_miss ne_o_ql.symm).trans hM27_ql)
  have hM28_qb := (congrFun e_M28 qb).trans ((gw_miss ne_o_qb.symm).trans hM27_qb)
  have hM28_qg := (congrFun e_M28 qg).trans ((gw_miss ne_o_qg.symm).trans hM27_qg)
  have hM28_gg := (congrFun e_M28 gg).trans ((gw_miss ne_o_gg.symm).trans hM27_gg)
  have hM28_dr := (congrFun e_M28 dr).trans ((gw_miss ne_o_dr.symm).trans hM27_dr)
  have hM28_lg := (congrFun e_M28 lg).trans ((gw_miss ne_o_lg.symm).trans hM27_lg)
  have hM28_bp := (congrFun e_M28 bp).trans ((gw_miss ne_o_bp.symm).trans hM27_bp)
  have hM28_cu := (congrFun e_M28 cu).trans ((gw_miss ne_o_cu.symm).trans hM27_cu)
  have hM28_o := (congrFun e_M28 o).trans gw_hit
  refine lv_aload_n hx hb d_Row_init_109 rfl (lv_at hl 0 rfl) ?_
  refine lv_iconst (v := 0) hx hb d_Row_init_110 (by decide) ?_
  refine gw_put (v := .int 0) hx hb hT i_Row t_Row t_Row_ok n_Row hown hK hG hM28_o rfl 13 (by decide) (hT _ wm_249) (fun _ h => h) rfl rfl rfl (Nat.le_of_ble_eq_true rfl) d_Row_init_111 (fun H locs hG => ?_)
  obtain ⟨M29, e_M29⟩ : ∃ Y_ : gM, Y_ = gw_up M28 o (.inr (0, [.ref qh, .ref ql, .ref qb, .ref gg, .ref dr, .ref lg, .ref bp, .ref cu, .int 0, .int 1, .int 0, .int 0, .int 0, .int 0])) := ⟨_, rfl⟩
  replace hG := gw_nm e_M29 hG
  have hM29_qh := (congrFun e_M29 qh).trans ((gw_miss ne_o_qh.symm).trans hM28_qh)
  have hM29_ql := (congrFun e_M29 ql).trans ((gw_miss ne_o_ql.symm).trans hM28_ql)
  have hM29_qb := (congrFun e_M29 qb).trans ((gw_miss ne_o_qb.symm).trans hM28_qb)
  have hM29_qg := (congrFun e_M29 qg).trans ((gw_miss ne_o_qg.symm).trans hM28_qg)
  have hM29_gg := (congrFun e_M29 gg).trans ((gw_miss ne_o_gg.symm).trans hM28_gg)
  have hM29_dr := (congrFun e_M29 dr).trans ((gw_miss ne_o_dr.symm).trans hM28_dr)
  have hM29_lg := (congrFun e_M29 lg).trans ((gw_miss ne_o_lg.symm).trans hM28_lg)
  have hM29_bp := (congrFun e_M29 bp).trans ((gw_miss ne_o_bp.symm).trans hM28_bp)
  have hM29_cu := (congrFun e_M29 cu).trans ((gw_miss ne_o_cu.symm).trans hM28_cu)
  have hM29_o := (congrFun e_M29 o).trans gw_hit
  refine lv_iconst (v := 0) hx hb d_Row_init_114 (by decide) ?_
  refine lv_istore_n (lv' := [(1, .int 0), (0, .ref o)]) hx hb d_Row_init_115 rfl hl (by decide) rfl (fun ls hl => ?_)
  have h0_qh := hM29_qh
  have h0_ql := hM29_ql
  have h0_qb := hM29_qb
  have h0_qg := hM29_qg
  have h0_gg := hM29_gg
  have h0_dr := hM29_dr
  have h0_lg := hM29_lg
  have h0_bp := hM29_bp
  have h0_cu := hM29_cu
  have h0_o := hM29_o
  have hbs0 : gw_bs z0 cO M29 M29 qb z0 0 (fun _ => 0) := ⟨⟨0, h0_qb, by omega, Or.inl ⟨rfl, rfl⟩⟩, fun p hp => by omega, fun _ _ _ _ => rfl, Or.inl rfl⟩
  have hzz0 := gw_z0 hF hG
  refine lv_iload_n hx hb d_Row_init_116 rfl (lv_at hl 0 rfl) ?_
  refine lv_bipush (v := 6) hx hb d_Row_init_117 (by decide) ?_
  refine lv_icmp_ge (tgt := 143) hx hb d_Row_init_119 (by decide) (fun z_ => absurd z_ (by decide)) (fun c_119 => ?_)
  refine lv_aload_n hx hb d_Row_init_122 rfl (lv_at hl 1 rfl) ?_
  refine gw_get hx hb hT i_Row hown hK hG hM29_o rfl 2 (by decide) (hT _ wm_238) (fun _ h => h) rfl d_Row_init_123 ?_
  refine gw_new (fs := [.int 0, .int 0, .int 0, .int 0]) (C := R_Bin) (T := F_Bin) (N := 4) (ci := 5) hx hb hT i_Bin t_Bin t_Bin_ok hown (hT _ wm_150) (hT _ wm_151) (hT _ wm_30) hK hF.2.1 hG rfl (fun j hj => by rcases (show j = 0 ∨ j = 1 ∨ j = 2 ∨ j = 3 by omega) with rfl | rfl | rfl | rfl <;> rfl) (Nat.le_of_ble_eq_true rfl) (Nat.le_of_ble_eq_true rfl) d_Row_init_126 (fun b0 H hq_b0 hG => ?_)
  have ne_qb_b0 : qb ≠ b0 := gw_neF hq_b0 hM29_qb
  have ne_o_b0 : o ≠ b0 := gw_neF hq_b0 hM29_o
  obtain ⟨M30, e_M30⟩ : ∃ Y_ : gM, Y_ = gw_up M29 b0 (.inr (5, [.int 0, .int 0, .int 0, .int 0])) := ⟨_, rfl⟩
  replace hG := gw_nm e_M30 hG
  have hM30_qb := (congrFun e_M30 qb).trans ((gw_miss ne_qb_b0).trans hM29_qb)
  have hM30_o := (congrFun e_M30 o).trans ((gw_miss ne_o_b0).trans hM29_o)
  have hM30_b0 := (congrFun e_M30 b0).trans gw_hit
  refine lv_dup hx hb d_Row_init_129 rfl ?_
  refine gw_callv (gw_runIN (As := []) (rest := [.ref b0, .ref qb]) ⟨hx, hb, hml, hown, hts⟩ (c_Bin_init l E D cI cO cZ z0 M30 hM30_b0) ⟨va_cnB 0 hts (gT_gi wm_154) rfl rfl rfl (gW_m hF.2.2.2.2.2.2 wq_152 rfl) (hT _ wm_30) (by decide +kernel) ⟨Nat.le_of_ble_eq_true rfl, Nat.le_of_ble_eq_true rfl⟩, rfl, (hT _ wm_153)⟩ hF hG rfl hl.1 rfl (Nat.le_of_ble_eq_true rfl) d_Row_init_130 ⟨Nat.le_of_ble_eq_true rfl, Nat.le_of_ble_eq_true rfl⟩) hG (fun M31 H locs hp hG => ?_)
  have hM31_qb := (congrFun hp qb).trans ((gw_miss ne_qb_b0).trans hM30_qb)
  have hM31_o := (congrFun hp o).trans ((gw_miss ne_o_b0).trans hM30_o)
  have hM31_b0 := (congrFun hp b0).trans gw_hit
  have e_M31 := hp
  have hM2_0 : ∀ b, b ≠ b0 → M31 b = M29 b := fun b h => by rw [e_M31, gw_miss h, e_M30, gw_miss h]
  have hz2_0 := gw_z0 hF hG
  have hL2_0 : gw_L z0 cO M31 qb z0 0 (fun _ => 0) := hbs0.1.kept (hM2_0 _ ne_qb_b0) (fun f hf => hM2_0 _ (gw_neF hq_b0 hf))
  refine gw_calli (gw_runV (As := [.ref b0]) (rest := []) ⟨hx, hb, hml, hown, hts⟩ (c_AL_add l E D cI cO cZ z0 M31 hL2_0 hM31_b0 rfl wq_793 (by omega) (ne_qb_b0.symm)) (gw_cwV 1 hts (gT_gi wm_178) rfl rfl rfl (hT _ wm_26) (hT _ wm_175) (hT _ wm_176) (hT _ wm_177) (by decide +kernel) ⟨Nat.le_of_ble_eq_true rfl, Nat.le_of_ble_eq_true rfl⟩) hF hG rfl hM31_qb rfl hl.1 rfl (Nat.le_of_ble_eq_true rfl) d_Row_init_133 ⟨Nat.le_of_ble_eq_true rfl, Nat.le_of_ble_eq_true rfl⟩) hG (fun r M32 H locs hp hG => ?_)
  obtain ⟨rfl, hadd0⟩ := hp
  obtain ⟨t0, hbs1⟩ := hbs0.step hzz0 h0_qb hq_b0 hM2_0 hM31_b0 hz2_0 hadd0
  have ho_0 := (hbs1.2.2.1 o _ h0_o (gw_neO h0_o h0_qb (by decide))).trans h0_o
  obtain ⟨kb0, hbq_0, -⟩ := id hbs1.1
  refine lv_pop hx hb d_Row_init_136 rfl ?_
  refine lv_iinc (v := 1) (lv' := [(1, .int 1), (0, .ref o)]) hx hb d_Row_init_137 hl (k := 0) rfl (by decide) (by decide) rfl (fun ls hl => ?_)
  refine lv_goto (tgt := 116) hx hb d_Row_init_140 (by decide) ?_
  have hzz1 := gw_z0 hF hG
  refine lv_iload_n hx hb d_Row_init_116 rfl (lv_at hl 0 rfl) ?_
  refine lv_bipush (v := 6) hx hb d_Row_init_117 (by decide) ?_
  refine lv_icmp_ge (tgt := 143) hx hb d_Row_init_119 (by decide) (fun z_ => absurd z_ (by decide)) (fun c_119 => ?_)
  refine lv_aload_n hx hb d_Row_init_122 rfl (lv_at hl 1 rfl) ?_
  refine gw_get hx hb hT i_Row hown hK hG ho_0 rfl 2 (by decide) (hT _ wm_238) (fun _ h => h) rfl d_Row_init_123 ?_
  refine gw_new (fs := [.int 0, .int 0, .int 0, .int 0]) (C := R_Bin) (T := F_Bin) (N := 4) (ci := 5) hx hb hT i_Bin t_Bin t_Bin_ok hown (hT _ wm_150) (hT _ wm_151) (hT _ wm_30) hK hF.2.1 hG rfl (fun j hj => by rcases (show j = 0 ∨ j = 1 ∨ j = 2 ∨ j = 3 by omega) with rfl | rfl | rfl | rfl <;> rfl) (Nat.le_of_ble_eq_true rfl) (Nat.le_of_ble_eq_true rfl) d_Row_init_126 (fun b1 H hq_b1 hG => ?_)
  have ne_o_b1 : o ≠ b1 := gw_neF hq_b1 ho_0
  have ne_qb_b1 : qb ≠ b1 := gw_neF hq_b1 hbq_0
  obtain ⟨M33, e_M33⟩ : ∃ Y_ : gM, Y_ = gw_up M32 b1 (.inr (5, [.int 0, .int 0, .int 0, .int 0])) := ⟨_, rfl⟩
  replace hG := gw_nm e_M33 hG
  have hM33_o := (congrFun e_M33 o).trans ((gw_miss ne_o_b1).trans ho_0)
  have hM33_qb := (congrFun e_M33 qb).trans ((gw_miss ne_qb_b1).trans hbq_0)
  have hM33_b1 := (congrFun e_M33 b1).trans gw_hit
  refine lv_dup hx hb d_Row_init_129 rfl ?_
  refine gw_callv (gw_runIN (As := []) (rest := [.ref b1, .ref qb]) ⟨hx, hb, hml, hown, hts⟩ (c_Bin_init l E D cI cO cZ z0 M33 hM33_b1) ⟨va_cnB 0 hts (gT_gi wm_154) rfl rfl rfl (gW_m hF.2.2.2.2.2.2 wq_152 rfl) (hT _ wm_30) (by decide +kernel) ⟨Nat.le_of_ble_eq_true rfl, Nat.le_of_ble_eq_true rfl⟩, rfl, (hT _ wm_153)⟩ hF hG rfl hl.1 rfl (Nat.le_of_ble_eq_true rfl) d_Row_init_130 ⟨Nat.le_of_ble_eq_true rfl, Nat.le_of_ble_eq_true rfl⟩) hG (fun M34 H locs hp hG => ?_)
  have hM34_o := (congrFun hp o).trans ((gw_miss ne_o_b1).trans hM33_o)
  have hM34_qb := (congrFun hp qb).trans ((gw_miss ne_qb_b1).trans hM33_qb)
  have hM34_b1 := (congrFun hp b1).trans gw_hit
  have e_M34 := hp
  have hM2_1 : ∀ b, b ≠ b1 → M34 b = M32 b := fun b h => by rw [e_M34, gw_miss h, e_M33, gw_miss h]
  have hz2_1 := gw_z0 hF hG
  have hL2_1 : gw_L z0 cO M34 qb t0 1 (va_up (fun _ => 0) 0 b0) := hbs1.1.kept (hM2_1 _ ne_qb_b1) (fun f hf => hM2_1 _ (gw_neF hq_b1 hf))
  refine gw_calli (gw_runV (As := [.ref b1]) (rest := []) ⟨hx, hb, hml, hown, hts⟩ (c_AL_add l E D cI cO cZ z0 M34 hL2_1 hM34_b1 rfl wq_793 (by omega) (ne_qb_b1.symm)) (gw_cwV 1 hts (gT_gi wm_178) rfl rfl rfl (hT _ wm_26) (hT _ wm_175) (hT _ wm_176) (hT _ wm_177) (by decide +kernel) ⟨Nat.le_of_ble_eq_true rfl, Nat.le_of_ble_eq_true rfl⟩) hF hG rfl hM34_qb rfl hl.1 rfl (Nat.le_of_ble_eq_true rfl) d_Row_init_133 ⟨Nat.le_of_ble_eq_true rfl, Nat.le_of_ble_eq_true rfl⟩) hG (fun r M35 H locs hp hG => ?_)
  obtain ⟨rfl, hadd1⟩ := hp
  obtain ⟨t1, hbs2⟩ := hbs1.step hzz1 h0_qb hq_b1 hM2_1 hM34_b1 hz2_1 hadd1
  have ho_1 := (hbs2.2.2.1 o _ h0_o (gw_neO h0_o h0_qb (by decide))).trans h0_o
  obtain ⟨kb1, hbq_1, -⟩ := id hbs2.1
  refine lv_pop hx hb d_Row_init_136 rfl ?_
  refine lv_iinc (v := 2) (lv' := [(1, .int 2), (0, .ref o)]) hx hb d_Row_init_137 hl (k := 0) rfl (by decide) (by decide) rfl (fun ls hl => ?_)
  refine lv_goto (tgt := 116) hx hb d_Row_init_140 (by decide) ?_
  have hzz2 := gw_z0 hF hG
  refine lv_iload_n hx hb d_Row_init_116 rfl (lv_at hl 0 rfl) ?_
  refine lv_bipush (v := 6) hx hb d_Row_init_117 (by decide) ?_
  refine lv_icmp_ge (tgt := 143) hx hb d_Row_init_119 (by decide) (fun z_ => absurd z_ (by decide)) (fun c_119 => ?_)
  refine lv_aload_n hx hb d_Row_init_122 rfl (lv_at hl 1 rfl) ?_
  refine gw_get hx hb hT i_Row hown hK hG ho_1 rfl 2 (by decide) (hT _ wm_238) (fun _ h => h) rfl d_Row_init_123 ?_
  refine gw_new (fs := [.int 0, .int 0, .int 0, .int 0]) (C := R_Bin) (T := F_Bin) (N := 4) (ci := 5) hx hb hT i_Bin t_Bin t_Bin_ok hown (hT _ wm_150) (hT _ wm_151) (hT _ wm_30) hK hF.2.1 hG rfl (fun j hj => by rcases (show j = 0 ∨ j = 1 ∨ j = 2 ∨ j = 3 by omega) with rfl | rfl | rfl | rfl <;> rfl) (Nat.le_of_ble_eq_true rfl) (Nat.le_of_ble_eq_true rfl) d_Row_init_126 (fun b2 H hq_b2 hG => ?_)
  have ne_o_b2 : o ≠ b2 := gw_neF hq_b2 ho_1
  have ne_qb_b2 : qb ≠ b2 := gw_neF hq_b2 hbq_1
  obtain ⟨M36, e_M36⟩ : ∃ Y_ : gM, Y_ = gw_up M35 b2 (.inr (5, [.int 0, .int 0, .int 0, .int 0])) := ⟨_, rfl⟩
  replace hG := gw_nm e_M36 hG
  have hM36_o := (congrFun e_M36 o).trans ((gw_miss ne_o_b2).trans ho_1)
  have hM36_qb := (congrFun e_M36 qb).trans ((gw_miss ne_qb_b2).trans hbq_1)
  have hM36_b2 := (congrFun e_M36 b2).trans gw_hit
  refine lv_dup hx hb d_Row_init_129 rfl ?_
  refine gw_callv (gw_runIN (As := []) (rest := [.ref b2, .ref qb]) ⟨hx, hb, hml, hown, hts⟩ (c_Bin_init l E D cI cO cZ z0 M36 hM36_b2) ⟨va_cnB 0 hts (gT_gi wm_154) rfl rfl rfl (gW_m hF.2.2.2.2.2.2 wq_152 rfl) (hT _ wm_30) (by decide +kernel) ⟨Nat.le_of_ble_eq_true rfl, Nat.le_of_ble_eq_true rfl⟩, rfl, (hT _ wm_153)⟩ hF hG rfl hl.1 rfl (Nat.le_of_ble_eq_true rfl) d_Row_init_130 ⟨Nat.le_of_ble_eq_true rfl, Nat.le_of_ble_eq_true rfl⟩) hG (fun M37 H locs hp hG => ?_)
  have hM37_o := (congrFun hp o).trans ((gw_miss ne_o_b2).trans hM36_o)
  have hM37_qb := (congrFun hp qb).trans ((gw_miss ne_qb_b2).trans hM36_qb)
  have hM37_b2 := (congrFun hp b2).trans gw_hit
  have e_M37 := hp
  have hM2_2 : ∀ b, b ≠ b2 → M37 b = M35 b := fun b h => by rw [e_M37, gw_miss h, e_M36, gw_miss h]
  have hz2_2 := gw_z0 hF hG
  have hL2_2 : gw_L z0 cO M37 qb t1 2 (va_up (va_up (fun _ => 0) 0 b0) 1 b1) := hbs2.1.kept (hM2_2 _ ne_qb_b2) (fun f hf => hM2_2 _ (gw_neF hq_b2 hf))
  refine gw_calli (gw_runV (As := [.ref b2]) (rest := []) ⟨hx, hb, hml, hown, hts⟩ (c_AL_add l E D cI cO cZ z0 M37 hL2_2 hM37_b2 rfl wq_793 (by omega) (ne_qb_b2.symm)) (gw_cwV 1 hts (gT_gi wm_178) rfl rfl rfl (hT _ wm_26) (hT _ wm_175) (hT _ wm_176) (hT _ wm_177) (by decide +kernel) ⟨Nat.le_of_ble_eq_true rfl, Nat.le_of_ble_eq_true rfl⟩) hF hG rfl hM37_qb rfl hl.1 rfl (Nat.le_of_ble_eq_true rfl) d_Row_init_133 ⟨Nat.le_of_ble_eq_true rfl, Nat.le_of_ble_eq_true rfl⟩) hG (fun r M38 H locs hp hG => ?_)
  obtain ⟨rfl, hadd2⟩ := hp
  obtain ⟨t2, hbs3⟩ := hbs2.step hzz2 h0_qb hq_b2 hM2_2 hM37_b2 hz2_2 hadd2
  have ho_2 := (hbs3.2.2.1 o _ h0_o (gw_neO h0_o h0_qb (by decide))).trans h0_o
  obtain ⟨kb2, hbq_2, -⟩ := id hbs3.1
  refine lv_pop hx hb d_Row_init_136 rfl ?_
  refine lv_iinc (v := 3) (lv' := [(1, .int 3), (0, .ref o)]) hx hb d_Row_init_137 hl (k := 0) rfl (by decide) (by decide) rfl (fun ls hl => ?_)
  refine lv_goto (tgt := 116) hx hb d_Row_init_140 (by decide) ?_
  have hzz3 := gw_z0 hF hG
  refine lv_iload_n hx hb d_Row_init_116 rfl (lv_at hl 0 rfl) ?_
  refine lv_bipush (v := 6) hx hb d_Row_init_117 (by decide) ?_
  refine lv_icmp_ge (tgt := 143) hx hb d_Row_init_119 (by decide) (fun z_ => absurd z_ (by decide)) (fun c_119 => ?_)
  refine lv_aload_n hx hb d_Row_init_122 rfl (lv_at hl 1 rfl) ?_
  refine gw_get hx hb hT i_Row hown hK hG ho_2 rfl 2 (by decide) (hT _ wm_238) (fun _ h => h) rfl d_Row_init_123 ?_
  refine gw_new (fs := [.int 0, .int 0, .int 0, .int 0]) (C := R_Bin) (T := F_Bin) (N := 4) (ci := 5) hx hb hT i_Bin t_Bin t_Bin_ok hown (hT _ wm_150) (hT _ wm_151) (hT _ wm_30) hK hF.2.1 hG rfl (fun j hj => by rcases (show j = 0 ∨ j = 1 ∨ j = 2 ∨ j = 3 by omega) with rfl | rfl | rfl | rfl <;> rfl) (Nat.le_of_ble_eq_true rfl) (Nat.le_of_ble_eq_true rfl) d_Row_init_126 (fun b3 H hq_b3 hG => ?_)
  have ne_o_b3 : o ≠ b3 := gw_neF hq_b3 ho_2
  have ne_qb_b3 : qb ≠ b3 := gw_neF hq_b3 hbq_2
  obtain ⟨M39, e_M39⟩ : ∃ Y_ : gM, Y_ = gw_up M38 b3 (.inr (5, [.int 0, .int 0, .int 0, .int 0])) := ⟨_, rfl⟩
  replace hG := gw_nm e_M39 hG
  have hM39_o := (congrFun e_M39 o).trans ((gw_miss ne_o_b3).trans ho_2)
  have hM39_qb := (congrFun e_M39 qb).trans ((gw_miss ne_qb_b3).trans hbq_2)
  have hM39_b3 := (congrFun e_M39 b3).trans gw_hit
  refine lv_dup hx hb d_Row_init_129 rfl ?_
  refine gw_callv (gw_runIN (As := []) (rest := [.ref b3, .ref qb]) ⟨hx, hb, hml, hown, hts⟩ (c_Bin_init l E D cI cO cZ z0 M39 hM39_b3) ⟨va_cnB 0 hts (gT_gi wm_154) rfl rfl rfl (gW_m hF.2.2.2.2.2.2 wq_152 rfl) (hT _ wm_30) (by decide +kernel) ⟨Nat.le_of_ble_eq_true rfl, Nat.le_of_ble_eq_true rfl⟩, rfl, (hT _ wm_153)⟩ hF hG rfl hl.1 rfl (Nat.le_of_ble_eq_true rfl) d_Row_init_130 ⟨Nat.le_of_ble_eq_true rfl, Nat.le_of_ble_eq_true rfl⟩) hG (fun M40 H locs hp hG => ?_)
  have hM40_o := (congrFun hp o).trans ((gw_miss ne_o_b3).trans hM39_o)
  have hM40_qb := (congrFun hp qb).trans ((gw_miss ne_qb_b3).trans hM39_qb)
  have hM40_b3 := (congrFun hp b3).trans gw_hit
  have e_M40 := hp
  have hM2_3 : ∀ b, b ≠ b3 → M40 b = M38 b := fun b h => by rw [e_M40, gw_miss h, e_M39, gw_miss h]
  have hz2_3 := gw_z0 hF hG
  have hL2_3 : gw_L z0 cO M40 qb t2 3 (va_up (va_up (va_up (fun _ => 0) 0 b0) 1 b1) 2 b2) := hbs3.1.kept (hM2_3 _ ne_qb_b3) (fun f hf => hM2_3 _ (gw_neF hq_b3 hf))
  refine gw_calli (gw_runV (As := [.ref b3]) (rest := []) ⟨hx, hb, hml, hown, hts⟩ (c_AL_add l E D cI cO cZ z0 M40 hL2_3 hM40_b3 rfl wq_793 (by omega) (ne_qb_b3.symm)) (gw_cwV 1 hts (gT_gi wm_178) rfl rfl rfl (hT _ wm_26) (hT _ wm_175) (hT _ wm_176) (hT _ wm_177) (by decide +kernel) ⟨Nat.le_of_ble_eq_true rfl, Nat.le_of_ble_eq_true rfl⟩) hF hG rfl hM40_qb rfl hl.1 rfl (Nat.le_of_ble_eq_true rfl) d_Row_init_133 ⟨Nat.le_of_ble_eq_true rfl, Nat.le_of_ble_eq_true rfl⟩) hG (fun r M41 H locs hp hG => ?_)
  obtain ⟨rfl, hadd3⟩ := hp
  obtain ⟨t3, hbs4⟩ := hbs3.step hzz3 h0_qb hq_b3 hM2_3 hM40_b3 hz2_3 hadd3
  have ho_3 := (hbs4.2.2.1 o _ h0_o (gw_neO h0_o h0_qb (by decide))).trans h0_o
  obtain ⟨kb3, hbq_3, -⟩ := id hbs4.1
  refine lv_pop hx hb d_Row_init_136 rfl ?_
  refine lv_iinc (v := 4) (lv' := [(1, .int 4), (0, .ref o)]) hx hb d_Row_init_137 hl (k := 0) rfl (by decide) (by decide) rfl (fun ls hl => ?_)
  refine lv_goto (tgt := 116) hx hb d_Row_init_140 (by decide) ?_
  have hzz4 := gw_z0 hF hG
  refine lv_iload_n hx hb d_Row_init_116 rfl (lv_at hl 0 rfl) ?_
  refine lv_bipush (v := 6) hx hb d_Row_init_117 (by decide) ?_
  refine lv_icmp_ge (tgt := 143) hx hb d_Row_init_119 (by decide) (fun z_ => absurd z_ (by decide)) (fun c_119 => ?_)
  refine lv_aload_n hx hb d_Row_init_122 rfl (lv_at hl 1 rfl) ?_
  refine gw_get hx hb hT i_Row hown hK hG ho_3 rfl 2 (by decide) (hT _ wm_238) (fun _ h => h) rfl d_Row_init_123 ?_
  refine gw_new (fs := [.int 0, .int 0, .int 0, .int 0]) (C := R_Bin) (T := F_Bin) (N := 4) (ci := 5) hx hb hT i_Bin t_Bin t_Bin_ok hown (hT _ wm_150) (hT _ wm_151) (hT _ wm_30) hK hF.2.1 hG rfl (fun j hj => by rcases (show j = 0 ∨ j = 1 ∨ j = 2 ∨ j = 3 by omega) with rfl | rfl | rfl | rfl <;> rfl) (Nat.le_of_ble_eq_true rfl) (Nat.le_of_ble_eq_true rfl) d_Row_init_126 (fun b4 H hq_b4 hG => ?_)
  have ne_o_b4 : o ≠ b4 := gw_neF hq_b4 ho_3
  have ne_qb_b4 : qb ≠ b4 := gw_neF hq_b4 hbq_3
  obtain ⟨M42, e_M42⟩ : ∃ Y_ : gM, Y_ = gw_up M41 b4 (.inr (5, [.int 0, .int 0, .int 0, .int 0])) := ⟨_, rfl⟩
  replace hG := gw_nm e_M42 hG
  have hM42_o := (congrFun e_M42 o).trans ((gw_miss ne_o_b4).trans ho_3)
  have hM42_qb := (congrFun e_M42 qb).trans ((gw_miss ne_qb_b4).trans hbq_3)
  have hM42_b4 := (congrFun e_M42 b4).trans gw_hit
  refine lv_dup hx hb d_Row_init_129 rfl ?_
  refine gw_callv (gw_runIN (As := []) (rest := [.ref b4, .ref qb]) ⟨hx, hb, hml, hown, hts⟩ (c_Bin_init l E D cI cO cZ z0 M42 hM42_b4) ⟨va_cnB 0 hts (gT_gi wm_154) rfl rfl rfl (gW_m hF.2.2.2.2.2.2 wq_152 rfl) (hT _ wm_30) (by decide +kernel) ⟨Nat.le_of_ble_eq_true rfl, Nat.le_of_ble_eq_true rfl⟩, rfl, (hT _ wm_153)⟩ hF hG rfl hl.1 rfl (Nat.le_of_ble_eq_true rfl) d_Row_init_130 ⟨Nat.le_of_ble_eq_true rfl, Nat.le_of_ble_eq_true rfl⟩) hG (fun M43 H locs hp hG => ?_)
  have hM43_o := (congrFun hp o).trans ((gw_miss ne_o_b4).trans hM42_o)
  have hM43_qb := (congrFun hp qb).trans ((gw_miss ne_qb_b4).trans hM42_qb)
  have hM43_b4 := (congrFun hp b4).trans gw_hit
  have e_M43 := hp
  have hM2_4 : ∀ b, b ≠ b4 → M43 b = M41 b := fun b h => by rw [e_M43, gw_miss h, e_M42, gw_miss h]
  have hz2_4 := gw_z0 hF hG
  have hL2_4 : gw_L z0 cO M43 qb t3 4 (va_up (va_up (va_up (va_up (fun _ => 0) 0 b0) 1 b1) 2 b2) 3 b3) := hbs4.1.kept (hM2_4 _ ne_qb_b4) (fun f hf => hM2_4 _ (gw_neF hq_b4 hf))
  refine gw_calli (gw_runV (As := [.ref b4]) (rest := []) ⟨hx, hb, hml, hown, hts⟩ (c_AL_add l E D cI cO cZ z0 M43 hL2_4 hM43_b4 rfl wq_793 (by omega) (ne_qb_b4.symm)) (gw_cwV 1 hts (gT_gi wm_178) rfl rfl rfl (hT _ wm_26) (hT _ wm_175) (hT _ wm_176) (hT _ wm_177) (by decide +kernel) ⟨Nat.le_of_ble_eq_true rfl, Nat.le_of_ble_eq_true rfl⟩) hF hG rfl hM43_qb rfl hl.1 rfl (Nat.le_of_ble_eq_true rfl) d_Row_init_133 ⟨Nat.le_of_ble_eq_true rfl, Nat.le_of_ble_eq_true rfl⟩) hG (fun r M44 H locs hp hG => ?_)
  obtain ⟨rfl, hadd4⟩ := hp
  obtain ⟨t4, hbs5⟩ := hbs4.step hzz4 h0_qb hq_b4 hM2_4 hM43_b4 hz2_4 hadd4
  have ho_4 := (hbs5.2.2.1 o _ h0_o (gw_neO h0_o h0_qb (by decide))).trans h0_o
  obtain ⟨kb4, hbq_4, -⟩ := id hbs5.1
  refine lv_pop hx hb d_Row_init_136 rfl ?_
  refine lv_iinc (v := 5) (lv' := [(1, .int 5), (0, .ref o)]) hx hb d_Row_init_137 hl (k := 0) rfl (by decide) (by decide) rfl (fun ls hl => ?_)
  refine lv_goto (tgt := 116) hx hb d_Row_init_140 (by decide) ?_
  have hzz5 := gw_z0 hF hG
  refine lv_iload_n hx hb d_Row_init_116 rfl (lv_at hl 0 rfl) ?_
  refine lv_bipush (v := 6) hx hb d_Row_init_117 (by decide) ?_
  refine lv_icmp_ge (tgt := 143) hx hb d_Row_init_119 (by decide) (fun z_ => absurd z_ (by decide)) (fun c_119 => ?_)
  refine lv_aload_n hx hb d_Row_init_122 rfl (lv_at hl 1 rfl) ?_
  refine gw_get hx hb hT i_Row hown hK hG ho_4 rfl 2 (by decide) (hT _ wm_238) (fun _ h => h) rfl d_Row_init_123 ?_
  refine gw_new (fs := [.int 0, .int 0, .int 0, .int 0]) (C := R_Bin) (T := F_Bin) (N := 4) (ci := 5) hx hb hT i_Bin t_Bin t_Bin_ok hown (hT _ wm_150) (hT _ wm_151) (hT _ wm_30) hK hF.2.1 hG rfl (fun j hj => by rcases (show j = 0 ∨ j = 1 ∨ j = 2 ∨ j = 3 by omega) with rfl | rfl | rfl | rfl <;> rfl) (Nat.le_of_ble_eq_true rfl) (Nat.le_of_ble_eq_true rfl) d_Row_init_126 (fun b5 H hq_b5 hG => ?_)
  have ne_o_b5 : o ≠ b5 := gw_neF hq_b5 ho_4
  have ne_qb_b5 : qb ≠ b5 := gw_neF hq_b5 hbq_4
  obtain ⟨M45, e_M45⟩ : ∃ Y_ : gM, Y_ = gw_up M44 b5 (.inr (5, [.int 0, .int 0, .int 0, .int 0])) := ⟨_, rfl⟩
  replace hG := gw_nm e_M45 hG
  have hM45_o := (congrFun e_M45 o).trans ((gw_miss ne_o_b5).trans ho_4)
  have hM45_qb := (congrFun e_M45 qb).trans ((gw_miss ne_qb_b5).trans hbq_4)
  have hM45_b5 := (congrFun e_M45 b5).trans gw_hit
  refine lv_dup hx hb d_Row_init_129 rfl ?_
  refine gw_callv (gw_runIN (As := []) (rest := [.ref b5, .ref qb]) ⟨hx, hb, hml, hown, hts⟩ (c_Bin_init l E D cI cO cZ z0 M45 hM45_b5) ⟨va_cnB 0 hts (gT_gi wm_154) rfl rfl rfl (gW_m hF.2.2.2.2.2.2 wq_152 rfl) (hT _ wm_30) (by decide +kernel) ⟨Nat.le_of_ble_eq_true rfl, Nat.le_of_ble_eq_true rfl⟩, rfl, (hT _ wm_153)⟩ hF hG rfl hl.1 rfl (Nat.le_of_ble_eq_true rfl) d_Row_init_130 ⟨Nat.le_of_ble_eq_true rfl, Nat.le_of_ble_eq_true rfl⟩) hG (fun M46 H locs hp hG => ?_)
  have hM46_o := (congrFun hp o).trans ((gw_miss ne_o_b5).trans hM45_o)
  have hM46_qb := (congrFun hp qb).trans ((gw_miss ne_qb_b5).trans hM45_qb)
  have hM46_b5 := (congrFun hp b5).trans gw_hit
  have e_M46 := hp
  have hM2_5 : ∀ b, b ≠ b5 → M46 b = M44 b := fun b h => by rw [e_M46, gw_miss h, e_M45, gw_miss h]
  have hz2_5 := gw_z0 hF hG
  have hL2_5 : gw_L z0 cO M46 qb t4 5 (va_up (va_up (va_up (va_up (va_up (fun _ => 0) 0 b0) 1 b1) 2 b2) 3 b3) 4 b4) := hbs5.1.kept (hM2_5 _ ne_qb_b5) (fun f hf => hM2_5 _ (gw_neF hq_b5 hf))
  refine gw_calli (gw_runV (As := [.ref b5]) (rest := []) ⟨hx, hb, hml, hown, hts⟩ (c_AL_add l E D cI cO cZ z0 M46 hL2_5 hM46_b5 rfl wq_793 (by omega) (ne_qb_b5.symm)) (gw_cwV 1 hts (gT_gi wm_178) rfl rfl rfl (hT _ wm_26) (hT _ wm_175) (hT _ wm_176) (hT _ wm_177) (by decide +kernel) ⟨Nat.le_of_ble_eq_true rfl, Nat.le_of_ble_eq_true rfl⟩) hF hG rfl hM46_qb rfl hl.1 rfl (Nat.le_of_ble_eq_true rfl) d_Row_init_133 ⟨Nat.le_of_ble_eq_true rfl, Nat.le_of_ble_eq_true rfl⟩) hG (fun r M47 H locs hp hG => ?_)
  obtain ⟨rfl, hadd5⟩ := hp
  obtain ⟨t5, hbs6⟩ := hbs5.step hzz5 h0_qb hq_b5 hM2_5 hM46_b5 hz2_5 hadd5
  have ho_5 := (hbs6.2.2.1 o _ h0_o (gw_neO h0_o h0_qb (by decide))).trans h0_o
  obtain ⟨kb5, hbq_5, -⟩ := id hbs6.1
  refine lv_pop hx hb d_Row_init_136 rfl ?_
  refine lv_iinc (v := 6) (lv' := [(1, .int 6), (0, .ref o)]) hx hb d_Row_init_137 hl (k := 0) rfl (by decide) (by decide) rfl (fun ls hl => ?_)
  refine lv_goto (tgt := 116) hx hb d_Row_init_140 (by decide) ?_
  refine lv_iload_n hx hb d_Row_init_116 rfl (lv_at hl 0 rfl) ?_
  refine lv_bipush (v := 6) hx hb d_Row_init_117 (by decide) ?_
  refine lv_icmp_ge (tgt := 143) hx hb d_Row_init_119 (by decide) (fun c_119 => ?_) (fun z_ => absurd (by decide) z_)
  have hx_o := (hbs6.2.2.1 o _ h0_o (gw_neO h0_o h0_qb (by decide))).trans h0_o
  have hx_qh := (hbs6.2.2.1 qh _ h0_qh ne_qh_qb).trans h0_qh
  have hx_ql := (hbs6.2.2.1 ql _ h0_ql ne_ql_qb).trans h0_ql
  have hx_gg := (hbs6.2.2.1 gg _ h0_gg (gw_neO h0_gg h0_qb (by decide))).trans h0_gg
  have hx_qg := (hbs6.2.2.1 qg _ h0_qg ne_qb_qg.symm).trans h0_qg
  have hx_dr := (hbs6.2.2.1 dr _ h0_dr (gw_neO h0_dr h0_qb (by decide))).trans h0_dr
  have hx_lg := (hbs6.2.2.1 lg _ h0_lg (gw_neO h0_lg h0_qb (by decide))).trans h0_lg
  have hx_bp := (hbs6.2.2.1 bp _ h0_bp (gw_neA h0_bp h0_qb)).trans h0_bp
  have hx_cu := (hbs6.2.2.1 cu _ h0_cu (gw_neA h0_cu h0_qb)).trans h0_cu
  have hfa : gw_fa z0 cO M47 o 0 0 (0, fun p => p, fun _ => (0, 0, 0, 0, 0, 0)) (fun k => ([qh, z0, ql, qb, t5, gg, qg, z0, dr, lg, bp, cu] : List Nat).getD k 0) (fun p => p) (va_up (va_up (va_up (va_up (va_up (va_up (fun _ => 0) 0 b0) 1 b1) 2 b2) 3 b3) 4 b4) 5 b5) := ⟨hx_o, ⟨0, hx_qh, by omega, Or.inl ⟨rfl, rfl⟩⟩, ⟨0, hx_ql, by omega, Or.inl ⟨rfl, rfl⟩⟩, hbs6.1, hbs6.2.1, hx_gg, ⟨0, hx_qg, by omega, Or.inl ⟨rfl, rfl⟩⟩, hx_dr, hx_lg, fun i hi => by omega, fun i j hi => by omega, fun p hp => absurd hp (Nat.not_lt_zero p), fun p q hp => absurd hp (Nat.not_lt_zero p), ⟨ne_qh_ql, ne_qh_qb, ne_qh_qg, ne_ql_qb, ne_ql_qg, ne_qb_qg⟩, fun _ => rfl, fun _ => rfl, fun h => h⟩
  refine lv_iconst (v := 0) hx hb d_Row_init_143 (by decide) ?_
  refine lv_istore_n (lv' := [(1, .int 0), (0, .ref o)]) hx hb d_Row_init_144 rfl hl (by decide) rfl (fun ls hl => ?_)
  refine lv_iload_n hx hb d_Row_init_145 rfl (lv_at hl 0 rfl) ?_
  refine lv_aload_n hx hb d_Row_init_146 rfl (lv_at hl 1 rfl) ?_
  refine gw_get hx hb hT i_Row hown hK hG hx_o rfl 6 (by decide) (hT _ wm_242) (fun _ h => h) rfl d_Row_init_147 ?_
  refine gw_alen (v := 4) hx hb hK hG 0 hx_bp rfl rfl d_Row_init_150 ?_
  refine lv_icmp_ge (tgt := 168) hx hb d_Row_init_151 (by decide) (fun z_ => absurd z_ (by decide)) (fun c_151 => ?_)
  refine lv_aload_n hx hb d_Row_init_154 rfl (lv_at hl 1 rfl) ?_
  refine gw_get hx hb hT i_Row hown hK hG hx_o rfl 6 (by decide) (hT _ wm_242) (fun _ h => h) rfl d_Row_init_155 ?_
  refine lv_iload_n hx hb d_Row_init_158 rfl (lv_at hl 0 rfl) ?_
  refine lv_bipush (v := 64) hx hb d_Row_init_159 (by decide) ?_
  refine gw_iast hx hb hK hG hx_bp (by unfold vp_in; decide) d_Row_init_161 (fun H locs hG => ?_)
  obtain ⟨M48, e_M48⟩ : ∃ Y_ : gM, Y_ = gw_up M47 bp (.inl (cI, 4, .inl (upd (fun _ => 0) (0 : Int32).toNatClampNeg 64))) := ⟨_, rfl⟩
  replace hG := gw_nm e_M48 hG
  have hM48_o := (congrFun e_M48 o).trans ((gw_miss (gw_neA hx_bp hx_o).symm).trans hx_o)
  have hM48_cu := (congrFun e_M48 cu).trans ((gw_miss ne_bp_cu.symm).trans hx_cu)
  have hM48_bp := (congrFun e_M48 bp).trans gw_hit
  have hfa_M48 := hfa.upI (e' := .inl (cI, 4, .inl (upd (fun _ => 0) (0 : Int32).toNatClampNeg 64))) hx_bp ⟨_, _, _, rfl⟩
  rw [← e_M48] at hfa_M48
  refine lv_iinc (v := 1) (lv' := [(1, .int 1), (0, .ref o)]) hx hb d_Row_init_162 hl (k := 0) rfl (by decide) (by decide) rfl (fun ls hl => ?_)
  refine lv_goto (tgt := 145) hx hb d_Row_init_165 (by decide) ?_
  refine lv_iload_n hx hb d_Row_init_145 rfl (lv_at hl 0 rfl) ?_
  refine lv_aload_n hx hb d_Row_init_146 rfl (lv_at hl 1 rfl) ?_
  refine gw_get hx hb hT i_Row hown hK hG hM48_o rfl 6 (by decide) (hT _ wm_242) (fun _ h => h) rfl d_Row_init_147 ?_
  refine gw_alen (v := 4) hx hb hK hG 0 hM48_bp rfl rfl d_Row_init_150 ?_
  refine lv_icmp_ge (tgt := 168) hx hb d_Row_init_151 (by decide) (fun z_ => absurd z_ (by decide)) (fun c_151 => ?_)
  refine lv_aload_n hx hb d_Row_init_154 rfl (lv_at hl 1 rfl) ?_
  refine gw_get hx hb hT i_Row hown hK hG hM48_o rfl 6 (by decide) (hT _ wm_242) (fun _ h => h) rfl d_Row_init_155 ?_
  refine lv_iload_n hx hb d_Row_init_158 rfl (lv_at hl 0 rfl) ?_
  refine lv_bipush (v := 64) hx hb d_Row_init_159 (by decide) ?_
  refine gw_iast hx hb hK hG hM48_bp (by unfold vp_in; decide) d_Row_init_161 (fun H locs hG => ?_)
  obtain ⟨M49, e_M49⟩ : ∃ Y_ : gM, Y_ = gw_up M48 bp (.inl (cI, 4, .inl (upd (upd (fun _ => 0) (0 : Int32).toNatClampNeg 64) (1 : Int32).toNatClampNeg 64))) := ⟨_, rfl⟩
  replace hG := gw_nm e_M49 hG
  have hM49_o := (congrFun e_M49 o).trans ((gw_miss (gw_neA hM48_bp hM48_o).symm).trans hM48_o)
  have hM49_cu := (congrFun e_M49 cu).trans ((gw_miss ne_bp_cu.symm).trans hM48_cu)
  have hM49_bp := (congrFun e_M49 bp).trans gw_hit
  have hfa_M49 := hfa_M48.upI (e' := .inl (cI, 4, .inl (upd (upd (fun _ => 0) (0 : Int32).toNatClampNeg 64) (1 : Int32).toNatClampNeg 64))) hM48_bp ⟨_, _, _, rfl⟩
  rw [← e_M49] at hfa_M49
  refine lv_iinc (v := 2) (lv' := [(1, .int 2), (0, .ref o)]) hx hb d_Row_init_162 hl (k := 0) rfl (by decide) (by decide) rfl (fun ls hl => ?_)
  refine lv_goto (tgt := 145) hx hb d_Row_init_165 (by decide) ?_
  refine lv_iload_n hx hb d_Row_init_145 rfl (lv_at hl 0 rfl) ?_
  refine lv_aload_n hx hb d_Row_init_146 rfl (lv_at hl 1 rfl) ?_
  refine gw_get hx hb hT i_Row hown hK hG hM49_o rfl 6 (by decide) (hT _ wm_242) (fun _ h => h) rfl d_Row_init_147 ?_
  refine gw_alen (v := 4) hx hb hK hG 0 hM49_bp rfl rfl d_Row_init_150 ?_
  refine lv_icmp_ge (tgt := 168) hx hb d_Row_init_151 (by decide) (fun z_ => absurd z_ (by decide)) (fun c_151 => ?_)
  refine lv_aload_n hx hb d_Row_init_154 rfl (lv_at hl 1 rfl) ?_
  refine gw_get hx hb hT i_Row hown hK hG hM49_o rfl 6 (by decide) (hT _ wm_242) (fun _ h => h) rfl d_Row_init_155 ?_
  refine lv_iload_n hx hb d_Row_init_158 rfl (lv_at hl 0 rfl) ?_
  refine lv_bipush (v := 64) hx hb d_Row_init_159 (by decide) ?_
  refine gw_iast hx hb hK hG hM49_bp (by unfold vp_in; decide) d_Row_init_161 (fun H locs hG => ?_)
  obtain ⟨M50, e_M50⟩ : ∃ Y_ : gM, Y_ = gw_up M49 bp (.inl (cI, 4, .inl (upd (upd (upd (fun _ => 0) (0 : Int32).toNatClampNeg 64) (1 : Int32).toNatClampNeg 64) (2 : Int32).toNatClampNeg 64))) := ⟨_, rfl⟩
  replace hG := gw_nm e_M50 hG
  have hM50_o := (congrFun e_M50 o).trans ((gw_miss (gw_neA hM49_bp hM49_o).symm).trans hM49_o)
  have hM50_cu := (congrFun e_M50 cu).trans ((gw_miss ne_bp_cu.symm).trans hM49_cu)
  have hM50_bp := (congrFun e_M50 bp).trans gw_hit
  have hfa_M50 := hfa_M49.upI (e' := .inl (cI, 4, .inl (upd (upd (upd (fun _ => 0) (0 : Int32).toNatClampNeg 64) (1 : Int32).toNatClampNeg 64) (2 : Int32).toNatClampNeg 64))) hM49_bp ⟨_, _, _, rfl⟩
  rw [← e_M50] at hfa_M50
  refine lv_iinc (v := 3) (lv' := [(1, .int 3), (0, .ref o)]) hx hb d_Row_init_162 hl (k := 0) rfl (by decide) (by decide) rfl (fun ls hl => ?_)
  refine lv_goto (tgt := 145) hx hb d_Row_init_165 (by decide) ?_
  refine lv_iload_n hx hb d_Row_init_145 rfl (lv_at hl 0 rfl) ?_
  refine lv_aload_n hx hb d_Row_init_146 rfl (lv_at hl 1 rfl) ?_
  refine gw_get hx hb hT i_Row hown hK hG hM50_o rfl 6 (by decide) (hT _ wm_242) (fun _ h => h) rfl d_Row_init_147 ?_
  refine gw_alen (v := 4) hx hb hK hG 0 hM50_bp rfl rfl d_Row_init_150 ?_
  refine lv_icmp_ge (tgt := 168) hx hb d_Row_init_151 (by decide) (fun z_ => absurd z_ (by decide)) (fun c_151 => ?_)
  refine lv_aload_n hx hb d_Row_init_154 rfl (lv_at hl 1 rfl) ?_
  refine gw_get hx hb hT i_Row hown hK hG hM50_o rfl 6 (by decide) (hT _ wm_242) (fun _ h => h) rfl d_Row_init_155 ?_
  refine lv_iload_n hx hb d_Row_init_158 rfl (lv_at hl 0 rfl) ?_
  refine lv_bipush (v := 64) hx hb d_Row_init_159 (by decide) ?_
  refine gw_iast hx hb hK hG hM50_bp (by unfold vp_in; decide) d_Row_init_161 (fun H locs hG => ?_)
  obtain ⟨M51, e_M51⟩ : ∃ Y_ : gM, Y_ = gw_up M50 bp (.inl (cI, 4, .inl (upd (upd (upd (upd (fun _ => 0) (0 : Int32).toNatClampNeg 64) (1 : Int32).toNatClampNeg 64) (2 : Int32).toNatClampNeg 64) (3 : Int32).toNatClampNeg 64))) := ⟨_, rfl⟩
  replace hG := gw_nm e_M51 hG
  have hM51_o := (congrFun e_M51 o).trans ((gw_miss (gw_neA hM50_bp hM50_o).symm).trans hM50_o)
  have hM51_cu := (congrFun e_M51 cu).trans ((gw_miss ne_bp_cu.symm).trans hM50_cu)
  have hM51_bp := (congrFun e_M51 bp).trans gw_hit
  have hfa_M51 := hfa_M50.upI (e' := .inl (cI, 4, .inl (upd (upd (upd (upd (fun _ => 0) (0 : Int32).toNatClampNeg 64) (1 : Int32).toNatClampNeg 64) (2 : Int32).toNatClampNeg 64) (3 : Int32).toNatClampNeg 64))) hM50_bp ⟨_, _, _, rfl⟩
  rw [← e_M51] at hfa_M51
  refine lv_iinc (v := 4) (lv' := [(1, .int 4), (0, .ref o)]) hx hb d_Row_init_162 hl (k := 0) rfl (by decide) (by decide) rfl (fun ls hl => ?_)
  refine lv_goto (tgt := 145) hx hb d_Row_init_165 (by decide) ?_
  refine lv_iload_n hx hb d_Row_init_145 rfl (lv_at hl 0 rfl) ?_
  refine lv_aload_n hx hb d_Row_init_146 rfl (lv_at hl 1 rfl) ?_
  refine gw_get hx hb hT i_Row hown hK hG hM51_o rfl 6 (by decide) (hT _ wm_242) (fun _ h => h) rfl d_Row_init_147 ?_
  refine gw_alen (v := 4) hx hb hK hG 0 hM51_bp rfl rfl d_Row_init_150 ?_
  refine lv_icmp_ge (tgt := 168) hx hb d_Row_init_151 (by decide) (fun c_151 => ?_) (fun z_ => absurd (by decide) z_)
  refine lv_iconst (v := 0) hx hb d_Row_init_168 (by decide) ?_
  refine lv_istore_n (lv' := [(1, .int 0), (0, .ref o)]) hx hb d_Row_init_169 rfl hl (by decide) rfl (fun ls hl => ?_)
  refine lv_iload_n hx hb d_Row_init_170 rfl (lv_at hl 0 rfl) ?_
  refine lv_aload_n hx hb d_Row_init_171 rfl (lv_at hl 1 rfl) ?_
  refine gw_get hx hb hT i_Row hown hK hG hM51_o rfl 7 (by decide) (hT _ wm_243) (fun _ h => h) rfl d_Row_init_172 ?_
  refine gw_alen (v := 4) hx hb hK hG 2 hM51_cu rfl rfl d_Row_init_175 ?_
  refine lv_icmp_ge (tgt := 192) hx hb d_Row_init_176 (by decide) (fun z_ => absurd z_ (by decide)) (fun c_176 => ?_)
  refine lv_aload_n hx hb d_Row_init_179 rfl (lv_at hl 1 rfl) ?_
  refine gw_get hx hb hT i_Row hown hK hG hM51_o rfl 7 (by decide) (hT _ wm_243) (fun _ h => h) rfl d_Row_init_180 ?_
  refine lv_iload_n hx hb d_Row_init_183 rfl (lv_at hl 0 rfl) ?_
  refine lv_iconst (v := 1) hx hb d_Row_init_184 (by decide) ?_
  refine gw_zast hx hb hK hG hM51_cu (by unfold vp_in; decide) d_Row_init_185 (fun H locs hG => ?_)
  obtain ⟨M52, e_M52⟩ : ∃ Y_ : gM, Y_ = gw_up M51 cu (.inl (cZ, 4, .inl (upd (fun _ => 0) (0 : Int32).toNatClampNeg (vp_nar .boolean 1)))) := ⟨_, rfl⟩
  replace hG := gw_nm e_M52 hG
  have hM52_o := (congrFun e_M52 o).trans ((gw_miss (gw_neA hM51_cu hM51_o).symm).trans hM51_o)
  have hM52_bp := (congrFun e_M52 bp).trans ((gw_miss ne_bp_cu).trans hM51_bp)
  have hM52_cu := (congrFun e_M52 cu).trans gw_hit
  have hfa_M52 := hfa_M51.upI (e' := .inl (cZ, 4, .inl (upd (fun _ => 0) (0 : Int32).toNatClampNeg (vp_nar .boolean 1)))) hM51_cu ⟨_, _, _, rfl⟩
  rw [← e_M52] at hfa_M52
  refine lv_iinc (v := 1) (lv' := [(1, .int 1), (0, .ref o)]) hx hb d_Row_init_186 hl (k := 0) rfl (by decide) (by decide) rfl (fun ls hl => ?_)
  refine lv_goto (tgt := 170) hx hb d_Row_init_189 (by decide) ?_
  refine lv_iload_n hx hb d_Row_init_170 rfl (lv_at hl 0 rfl) ?_
  refine lv_aload_n hx hb d_Row_init_171 rfl (lv_at hl 1 rfl) ?_
  refine gw_get hx hb hT i_Row hown hK hG hM52_o rfl 7 (by decide) (hT _ wm_243) (fun _ h => h) rfl d_Row_init_172 ?_
  refine gw_alen (v := 4) hx hb hK hG 2 hM52_cu rfl rfl d_Row_init_175 ?_
  refine lv_icmp_ge (tgt := 192) hx hb d_Row_init_176 (by decide) (fun z_ => absurd z_ (by decide)) (fun c_176 => ?_)
  refine lv_aload_n hx hb d_Row_init_179 rfl (lv_at hl 1 rfl) ?_
  refine gw_get hx hb hT i_Row hown hK hG hM52_o rfl 7 (by decide) (hT _ wm_243) (fun _ h => h) rfl d_Row_init_180 ?_
  refine lv_iload_n hx hb d_Row_init_183 rfl (lv_at hl 0 rfl) ?_
  refine lv_iconst (v := 1) hx hb d_Row_init_184 (by decide) ?_
  refine gw_zast hx hb hK hG hM52_cu (by unfold vp_in; decide) d_Row_init_185 (fun H locs hG => ?_)
  obtain ⟨M53, e_M53⟩ : ∃ Y_ : gM, Y_ = gw_up M52 cu (.inl (cZ, 4, .inl (upd (upd (fun _ => 0) (0 : Int32).toNatClampNeg (vp_nar .boolean 1)) (1 : Int32).toNatClampNeg (vp_nar .boolean 1)))) := ⟨_, rfl⟩
  replace hG := gw_nm e_M53 hG
  have hM53_o := (congrFun e_M53 o).trans ((gw_miss (gw_neA hM52_cu hM52_o).symm).trans hM52_o)
  have hM53_bp := (congrFun e_M53 bp).trans ((gw_miss ne_bp_cu).trans hM52_bp)
  have hM53_cu := (congrFun e_M53 cu).trans gw_hit
  have hfa_M53 := hfa_M52.upI (e' := .inl (cZ, 4, .inl (upd (upd (fun _ => 0) (0 : Int32).toNatClampNeg (vp_nar .boolean 1)) (1 : Int32).toNatClampNeg (vp_nar .boolean 1)))) hM52_cu ⟨_, _, _, rfl⟩
  rw [← e_M53] at hfa_M53
  refine lv_iinc (v := 2) (lv' := [(1, .int 2), (0, .ref o)]) hx hb d_Row_init_186 hl (k := 0) rfl (by decide) (by decide) rfl (fun ls hl => ?_)
  refine lv_goto (tgt := 170) hx hb d_Row_init_189 (by decide) ?_
  refine lv_iload_n hx hb d_Row_init_170 rfl (lv_at hl 0 rfl) ?_
  refine lv_aload_n hx hb d_Row_init_171 rfl (lv_at hl 1 rfl) ?_
  refine gw_get hx hb hT i_Row hown hK hG hM53_o rfl 7 (by decide) (hT _ wm_243) (fun _ h => h) rfl d_Row_init_172 ?_
  refine gw_alen (v := 4) hx hb hK hG 2 hM53_cu rfl rfl d_Row_init_175 ?_
  refine lv_icmp_ge (tgt := 192) hx hb d_Row_init_176 (by decide) (fun z_ => absurd z_ (by decide)) (fun c_176 => ?_)
  refine lv_aload_n hx hb d_Row_init_179 rfl (lv_at hl 1 rfl) ?_
  refine gw_get hx hb hT i_Row hown hK hG hM53_o rfl 7 (by decide) (hT _ wm_243) (fun _ h => h) rfl d_Row_init_180 ?_
  refine lv_iload_n hx hb d_Row_init_183 rfl (lv_at hl 0 rfl) ?_
  refine lv_iconst (v := 1) hx hb d_Row_init_184 (by decide) ?_
  refine gw_zast hx hb hK hG hM53_cu (by unfold vp_in; decide) d_Row_init_185 (fun H locs hG => ?_)
  obtain ⟨M54, e_M54⟩ : ∃ Y_ : gM, Y_ = gw_up M53 cu (.inl (cZ, 4, .inl (upd (upd (upd (fun _ => 0) (0 : Int32).toNatClampNeg (vp_nar .boolean 1)) (1 : Int32).toNatClampNeg (vp_nar .boolean 1)) (2 : Int32).toNatClampNeg (vp_nar .boolean 1)))) := ⟨_, rfl⟩
  replace hG := gw_nm e_M54 hG
  have hM54_o := (congrFun e_M54 o).trans ((gw_miss (gw_neA hM53_cu hM53_o).symm).trans hM53_o)
  have hM54_bp := (congrFun e_M54 bp).trans ((gw_miss ne_bp_cu).trans hM53_bp)
  have hM54_cu := (congrFun e_M54 cu).trans gw_hit
  have hfa_M54 := hfa_M53.upI (e' := .inl (cZ, 4, .inl (upd (upd (upd (fun _ => 0) (0 : Int32).toNatClampNeg (vp_nar .boolean 1)) (1 : Int32).toNatClampNeg (vp_nar .boolean 1)) (2 : Int32).toNatClampNeg (vp_nar .boolean 1)))) hM53_cu ⟨_, _, _, rfl⟩
  rw [← e_M54] at hfa_M54
  refine lv_iinc (v := 3) (lv' := [(1, .int 3), (0, .ref o)]) hx hb d_Row_init_186 hl (k := 0) rfl (by decide) (by decide) rfl (fun ls hl => ?_)
  refine lv_goto (tgt := 170) hx hb d_Row_init_189 (by decide) ?_
  refine lv_iload_n hx hb d_Row_init_170 rfl (lv_at hl 0 rfl) ?_
  refine lv_aload_n hx hb d_Row_init_171 rfl (lv_at hl 1 rfl) ?_
  refine gw_get hx hb hT i_Row hown hK hG hM54_o rfl 7 (by decide) (hT _ wm_243) (fun _ h => h) rfl d_Row_init_172 ?_
  refine gw_alen (v := 4) hx hb hK hG 2 hM54_cu rfl rfl d_Row_init_175 ?_
  refine lv_icmp_ge (tgt := 192) hx hb d_Row_init_176 (by decide) (fun z_ => absurd z_ (by decide)) (fun c_176 => ?_)
  refine lv_aload_n hx hb d_Row_init_179 rfl (lv_at hl 1 rfl) ?_
  refine gw_get hx hb hT i_Row hown hK hG hM54_o rfl 7 (by decide) (hT _ wm_243) (fun _ h => h) rfl d_Row_init_180 ?_
  refine lv_iload_n hx hb d_Row_init_183 rfl (lv_at hl 0 rfl) ?_
  refine lv_iconst (v := 1) hx hb d_Row_init_184 (by decide) ?_
  refine gw_zast hx hb hK hG hM54_cu (by unfold vp_in; decide) d_Row_init_185 (fun H locs hG => ?_)
  obtain ⟨M55, e_M55⟩ : ∃ Y_ : gM, Y_ = gw_up M54 cu (.inl (cZ, 4, .inl (upd (upd (upd (upd (fun _ => 0) (0 : Int32).toNatClampNeg (vp_nar .boolean 1)) (1 : Int32).toNatClampNeg (vp_nar .boolean 1)) (2 : Int32).toNatClampNeg (vp_nar .boolean 1)) (3 : Int32).toNatClampNeg (vp_nar .boolean 1)))) := ⟨_, rfl⟩
  replace hG := gw_nm e_M55 hG
  have hM55_o := (congrFun e_M55 o).trans ((gw_miss (gw_neA hM54_cu hM54_o).symm).trans hM54_o)
  have hM55_bp := (congrFun e_M55 bp).trans ((gw_miss ne_bp_cu).trans hM54_bp)
  have hM55_cu := (congrFun e_M55 cu).trans gw_hit
  have hfa_M55 := hfa_M54.upI (e' := .inl (cZ, 4, .inl (upd (upd (upd (upd (fun _ => 0) (0 : Int32).toNatClampNeg (vp_nar .boolean 1)) (1 : Int32).toNatClampNeg (vp_nar .boolean 1)) (2 : Int32).toNatClampNeg (vp_nar .boolean 1)) (3 : Int32).toNatClampNeg (vp_nar .boolean 1)))) hM54_cu ⟨_, _, _, rfl⟩
  rw [← e_M55] at hfa_M55
  refine lv_iinc (v := 4) (lv' := [(1, .int 4), (0, .ref o)]) hx hb d_Row_init_186 hl (k := 0) rfl (by decide) (by decide) rfl (fun ls hl => ?_)
  refine lv_goto (tgt := 170) hx hb d_Row_init_189 (by decide) ?_
  refine lv_iload_n hx hb d_Row_init_170 rfl (lv_at hl 0 rfl) ?_
  refine lv_aload_n hx hb d_Row_init_171 rfl (lv_at hl 1 rfl) ?_
  refine gw_get hx hb hT i_Row hown hK hG hM55_o rfl 7 (by decide) (hT _ wm_243) (fun _ h => h) rfl d_Row_init_172 ?_
  refine gw_alen (v := 4) hx hb hK hG 2 hM55_cu rfl rfl d_Row_init_175 ?_
  refine lv_icmp_ge (tgt := 192) hx hb d_Row_init_176 (by decide) (fun c_176 => ?_) (fun z_ => absurd (by decide) z_)
  exact gw_vret hx hb hr hlk hG (⟨_, _, _, hfa_M55⟩) (Nat.le_of_ble_eq_true rfl) (Nat.le_of_ble_eq_true rfl) d_Row_init_192
