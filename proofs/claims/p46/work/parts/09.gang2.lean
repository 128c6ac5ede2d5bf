theorem d_Gang_takeIn_0 : decode b_Gang_takeIn 0 = .ok (.aload_n 1, 1) := by decide +kernel
theorem d_Gang_takeIn_1 : decode b_Gang_takeIn 1 = .ok (.iconst 0, 1) := by decide +kernel
theorem d_Gang_takeIn_2 : decode b_Gang_takeIn 2 = .ok (.putfield 26, 3) := by decide +kernel
theorem d_Gang_takeIn_5 : decode b_Gang_takeIn 5 = .ok (.aload_n 0, 1) := by decide +kernel
theorem d_Gang_takeIn_6 : decode b_Gang_takeIn 6 = .ok (.getfield 12, 3) := by decide +kernel
theorem d_Gang_takeIn_9 : decode b_Gang_takeIn 9 = .ok (.aload_n 1, 1) := by decide +kernel
theorem wq_796 : Cond.castable "ThresholdRow$Hand" "java/lang/Object" ∈ lw_tbl := List.mem_of_getElem? (i := 796) (by decide +kernel)
theorem wm_178 : Cond.code ⟨"java/util/ArrayList", "add", "(Ljava/lang/Object;)Z"⟩ prog_30_method_25_code 2 (some .boolean) ∈ gT := gT_m (List.mem_of_getElem? (i := 178) (by decide +kernel)) (by decide +kernel)
theorem wm_582 : Cond.methodLink "ThresholdRow$Gang" 32 ⟨"java/util/ArrayList", "add", "(Ljava/lang/Object;)Z"⟩ ∈ gT := gT_m (List.mem_of_getElem? (i := 582) (by decide +kernel)) (by decide +kernel)
theorem d_Gang_takeIn_10 : decode b_Gang_takeIn 10 = .ok (.invokevirtual 32, 3) := by decide +kernel
theorem wm_176 : Cond.instanceMethod ⟨"java/util/ArrayList", "add", "(Ljava/lang/Object;)Z"⟩ ∈ gT := gT_m (List.mem_of_getElem? (i := 176) (by decide +kernel)) (by decide +kernel)
theorem wm_177 : Cond.selects "java/util/ArrayList" ⟨"java/util/ArrayList", "add", "(Ljava/lang/Object;)Z"⟩ ⟨"java/util/ArrayList", "add", "(Ljava/lang/Object;)Z"⟩ ∈ gT := gT_m (List.mem_of_getElem? (i := 177) (by decide +kernel)) (by decide +kernel)
theorem d_Gang_takeIn_13 : decode b_Gang_takeIn 13 = .ok (.pop, 1) := by decide +kernel
theorem d_Gang_takeIn_14 : decode b_Gang_takeIn 14 = .ok (.return_, 1) := by decide +kernel
theorem d_Gang_letGo_0 : decode b_Gang_letGo 0 = .ok (.aload_n 0, 1) := by decide +kernel
theorem d_Gang_letGo_1 : decode b_Gang_letGo 1 = .ok (.aload_n 1, 1) := by decide +kernel
theorem wm_556 : Cond.code ⟨"ThresholdRow$Gang", "placeFor", "(LThresholdRow$Hand;)I"⟩ prog_4_method_3_code 3 (some .int) ∈ gT := gT_m (List.mem_of_getElem? (i := 556) (by decide +kernel)) (by decide +kernel)
theorem wm_27 : Cond.initialized "ThresholdRow$Gang" ∈ gT := gT_m (List.mem_of_getElem? (i := 27) (by decide +kernel)) (by decide +kernel)
theorem wm_596 : Cond.methodLink "ThresholdRow$Gang" 36 ⟨"ThresholdRow$Gang", "placeFor", "(LThresholdRow$Hand;)I"⟩ ∈ gT := gT_m (List.mem_of_getElem? (i := 596) (by decide +kernel)) (by decide +kernel)
theorem d_Gang_letGo_2 : decode b_Gang_letGo 2 = .ok (.invokevirtual 36, 3) := by decide +kernel
theorem wm_554 : Cond.instanceMethod ⟨"ThresholdRow$Gang", "placeFor", "(LThresholdRow$Hand;)I"⟩ ∈ gT := gT_m (List.mem_of_getElem? (i := 554) (by decide +kernel)) (by decide +kernel)
theorem wm_555 : Cond.selects "ThresholdRow$Gang" ⟨"ThresholdRow$Gang", "placeFor", "(LThresholdRow$Hand;)I"⟩ ⟨"ThresholdRow$Gang", "placeFor", "(LThresholdRow$Hand;)I"⟩ ∈ gT := gT_m (List.mem_of_getElem? (i := 555) (by decide +kernel)) (by decide +kernel)
theorem d_Gang_letGo_5 : decode b_Gang_letGo 5 = .ok (.istore_n 2, 1) := by decide +kernel
theorem d_Gang_letGo_6 : decode b_Gang_letGo 6 = .ok (.iload_n 2, 1) := by decide +kernel
theorem d_Gang_letGo_7 : decode b_Gang_letGo 7 = .ok (.ifCond .lt 12, 3) := by decide +kernel
theorem d_Gang_letGo_10 : decode b_Gang_letGo 10 = .ok (.aload_n 0, 1) := by decide +kernel
theorem d_Gang_letGo_11 : decode b_Gang_letGo 11 = .ok (.getfield 12, 3) := by decide +kernel
theorem d_Gang_letGo_14 : decode b_Gang_letGo 14 = .ok (.iload_n 2, 1) := by decide +kernel
theorem wm_600 : Cond.code ⟨"java/util/ArrayList", "remove", "(I)Ljava/lang/Object;"⟩ prog_30_method_29_code 4 (some (.object "java/lang/Object")) ∈ gT := gT_m (List.mem_of_getElem? (i := 600) (by decide +kernel)) (by decide +kernel)
theorem wm_597 : Cond.methodLink "ThresholdRow$Gang" 40 ⟨"java/util/ArrayList", "remove", "(I)Ljava/lang/Object;"⟩ ∈ gT := gT_m (List.mem_of_getElem? (i := 597) (by decide +kernel)) (by decide +kernel)
theorem d_Gang_letGo_15 : decode b_Gang_letGo 15 = .ok (.invokevirtual 40, 3) := by decide +kernel
theorem wm_598 : Cond.instanceMethod ⟨"java/util/ArrayList", "remove", "(I)Ljava/lang/Object;"⟩ ∈ gT := gT_m (List.mem_of_getElem? (i := 598) (by decide +kernel)) (by decide +kernel)
theorem wm_599 : Cond.selects "java/util/ArrayList" ⟨"java/util/ArrayList", "remove", "(I)Ljava/lang/Object;"⟩ ⟨"java/util/ArrayList", "remove", "(I)Ljava/lang/Object;"⟩ ∈ gT := gT_m (List.mem_of_getElem? (i := 599) (by decide +kernel)) (by decide +kernel)
theorem d_Gang_letGo_18 : decode b_Gang_letGo 18 = .ok (.pop, 1) := by decide +kernel
theorem d_Gang_letGo_19 : decode b_Gang_letGo 19 = .ok (.return_, 1) := by decide +kernel
theorem d_Gang_tickAt_0 : decode b_Gang_tickAt 0 = .ok (.aload_n 0, 1) := by decide +kernel
theorem d_Gang_tickAt_1 : decode b_Gang_tickAt 1 = .ok (.getfield 12, 3) := by decide +kernel
theorem d_Gang_tickAt_4 : decode b_Gang_tickAt 4 = .ok (.invokevirtual 18, 3) := by decide +kernel
theorem d_Gang_tickAt_7 : decode b_Gang_tickAt 7 = .ok (.istore_n 2, 1) := by decide +kernel
theorem d_Gang_tickAt_8 : decode b_Gang_tickAt 8 = .ok (.iload_n 1, 1) := by decide +kernel
theorem d_Gang_tickAt_9 : decode b_Gang_tickAt 9 = .ok (.ifCond .lt 8, 3) := by decide +kernel
theorem d_Gang_tickAt_12 : decode b_Gang_tickAt 12 = .ok (.iload_n 1, 1) := by decide +kernel
theorem d_Gang_tickAt_13 : decode b_Gang_tickAt 13 = .ok (.iload_n 2, 1) := by decide +kernel
theorem d_Gang_tickAt_14 : decode b_Gang_tickAt 14 = .ok (.if_icmp .lt 5, 3) := by decide +kernel
theorem d_Gang_tickAt_19 : decode b_Gang_tickAt 19 = .ok (.bipush 60, 2) := by decide +kernel
theorem d_Gang_tickAt_21 : decode b_Gang_tickAt 21 = .ok (.iload_n 1, 1) := by decide +kernel
theorem d_Gang_tickAt_22 : decode b_Gang_tickAt 22 = .ok (.imul, 1) := by decide +kernel
theorem d_Gang_tickAt_23 : decode b_Gang_tickAt 23 = .ok (.iload_n 2, 1) := by decide +kernel
theorem d_Gang_tickAt_24 : decode b_Gang_tickAt 24 = .ok (.idiv, 1) := by decide +kernel
theorem d_Gang_tickAt_25 : decode b_Gang_tickAt 25 = .ok (.aload_n 0, 1) := by decide +kernel
theorem d_Gang_tickAt_26 : decode b_Gang_tickAt 26 = .ok (.getfield 12, 3) := by decide +kernel
theorem d_Gang_tickAt_29 : decode b_Gang_tickAt 29 = .ok (.iload_n 1, 1) := by decide +kernel
theorem d_Gang_tickAt_30 : decode b_Gang_tickAt 30 = .ok (.invokevirtual 22, 3) := by decide +kernel
theorem wm_413 : Cond.classLink "ThresholdRow$Gang" 27 "ThresholdRow$Hand" ∈ gT := gT_m (List.mem_of_getElem? (i := 413) (by decide +kernel)) (by decide +kernel)
theorem d_Gang_tickAt_33 : decode b_Gang_tickAt 33 = .ok (.checkcast 27, 3) := by decide +kernel
theorem d_Gang_tickAt_36 : decode b_Gang_tickAt 36 = .ok (.getfield 26, 3) := by decide +kernel
theorem d_Gang_tickAt_39 : decode b_Gang_tickAt 39 = .ok (.iadd, 1) := by decide +kernel
theorem d_Gang_tickAt_40 : decode b_Gang_tickAt 40 = .ok (.ireturn, 1) := by decide +kernel
theorem d_Gang_tireAll_0 : decode b_Gang_tireAll 0 = .ok (.iconst 0, 1) := by decide +kernel
theorem d_Gang_tireAll_1 : decode b_Gang_tireAll 1 = .ok (.istore_n 1, 1) := by decide +kernel
theorem d_Gang_tireAll_2 : decode b_Gang_tireAll 2 = .ok (.iload_n 1, 1) := by decide +kernel
theorem d_Gang_tireAll_3 : decode b_Gang_tireAll 3 = .ok (.aload_n 0, 1) := by decide +kernel
theorem d_Gang_tireAll_4 : decode b_Gang_tireAll 4 = .ok (.getfield 12, 3) := by decide +kernel
theorem d_Gang_tireAll_7 : decode b_Gang_tireAll 7 = .ok (.invokevirtual 18, 3) := by decide +kernel
theorem d_Gang_tireAll_10 : decode b_Gang_tireAll 10 = .ok (.if_icmp .ge 23, 3) := by decide +kernel
theorem d_Gang_tireAll_33 : decode b_Gang_tireAll 33 = .ok (.return_, 1) := by decide +kernel
theorem d_Gang_tireAll_13 : decode b_Gang_tireAll 13 = .ok (.aload_n 0, 1) := by decide +kernel
theorem d_Gang_tireAll_14 : decode b_Gang_tireAll 14 = .ok (.getfield 12, 3) := by decide +kernel
theorem d_Gang_tireAll_17 : decode b_Gang_tireAll 17 = .ok (.iload_n 1, 1) := by decide +kernel
theorem d_Gang_tireAll_18 : decode b_Gang_tireAll 18 = .ok (.invokevirtual 22, 3) := by decide +kernel
theorem d_Gang_tireAll_21 : decode b_Gang_tireAll 21 = .ok (.checkcast 27, 3) := by decide +kernel
theorem wm_714 : Cond.code ⟨"ThresholdRow$Hand", "tire", "()V"⟩ prog_5_method_3_code 1 none ∈ gT := gT_m (List.mem_of_getElem? (i := 714) (by decide +kernel)) (by decide +kernel)
theorem wm_40 : Cond.initialized "ThresholdRow$Hand" ∈ gT := gT_m (List.mem_of_getElem? (i := 40) (by decide +kernel)) (by decide +kernel)
theorem wm_711 : Cond.methodLink "ThresholdRow$Gang" 85 ⟨"ThresholdRow$Hand", "tire", "()V"⟩ ∈ gT := gT_m (List.mem_of_getElem? (i := 711) (by decide +kernel)) (by decide +kernel)
theorem d_Gang_tireAll_24 : decode b_Gang_tireAll 24 = .ok (.invokevirtual 85, 3) := by decide +kernel
theorem wm_712 : Cond.instanceMethod ⟨"ThresholdRow$Hand", "tire", "()V"⟩ ∈ gT := gT_m (List.mem_of_getElem? (i := 712) (by decide +kernel)) (by decide +kernel)
theorem wm_713 : Cond.selects "ThresholdRow$Hand" ⟨"ThresholdRow$Hand", "tire", "()V"⟩ ⟨"ThresholdRow$Hand", "tire", "()V"⟩ ∈ gT := gT_m (List.mem_of_getElem? (i := 713) (by decide +kernel)) (by decide +kernel)
theorem d_Gang_tireAll_27 : decode b_Gang_tireAll 27 = .ok (.iinc 1 1, 3) := by decide +kernel
theorem d_Gang_tireAll_30 : decode b_Gang_tireAll 30 = .ok (.goto (-28), 3) := by decide +kernel
theorem d_Gang_forgetErrors_0 : decode b_Gang_forgetErrors 0 = .ok (.iconst 0, 1) := by decide +kernel
theorem d_Gang_forgetErrors_1 : decode b_Gang_forgetErrors 1 = .ok (.istore_n 1, 1) := by decide +kernel
theorem d_Gang_forgetErrors_2 : decode b_Gang_forgetErrors 2 = .ok (.iload_n 1, 1) := by decide +kernel
theorem d_Gang_forgetErrors_3 : decode b_Gang_forgetErrors 3 = .ok (.aload_n 0, 1) := by decide +kernel
theorem d_Gang_forgetErrors_4 : decode b_Gang_forgetErrors 4 = .ok (.getfield 12, 3) := by decide +kernel
theorem d_Gang_forgetErrors_7 : decode b_Gang_forgetErrors 7 = .ok (.invokevirtual 18, 3) := by decide +kernel
theorem d_Gang_forgetErrors_10 : decode b_Gang_forgetErrors 10 = .ok (.if_icmp .ge 24, 3) := by decide +kernel
theorem d_Gang_forgetErrors_34 : decode b_Gang_forgetErrors 34 = .ok (.return_, 1) := by decide +kernel
theorem d_Gang_forgetErrors_13 : decode b_Gang_forgetErrors 13 = .ok (.aload_n 0, 1) := by decide +kernel
theorem d_Gang_forgetErrors_14 : decode b_Gang_forgetErrors 14 = .ok (.getfield 12, 3) := by decide +kernel
theorem d_Gang_forgetErrors_17 : decode b_Gang_forgetErrors 17 = .ok (.iload_n 1, 1) := by decide +kernel
theorem d_Gang_forgetErrors_18 : decode b_Gang_forgetErrors 18 = .ok (.invokevirtual 22, 3) := by decide +kernel
theorem d_Gang_forgetErrors_21 : decode b_Gang_forgetErrors 21 = .ok (.checkcast 27, 3) := by decide +kernel
theorem d_Gang_forgetErrors_24 : decode b_Gang_forgetErrors 24 = .ok (.iconst 0, 1) := by decide +kernel
theorem d_Gang_forgetErrors_25 : decode b_Gang_forgetErrors 25 = .ok (.putfield 26, 3) := by decide +kernel
theorem d_Gang_forgetErrors_28 : decode b_Gang_forgetErrors 28 = .ok (.iinc 1 1, 3) := by decide +kernel
theorem d_Gang_forgetErrors_31 : decode b_Gang_forgetErrors 31 = .ok (.goto (-29), 3) := by decide +kernel
theorem d_Gang_hasHurt_0 : decode b_Gang_hasHurt 0 = .ok (.iconst 0, 1) := by decide +kernel
theorem d_Gang_hasHurt_1 : decode b_Gang_hasHurt 1 = .ok (.istore_n 1, 1) := by decide +kernel
theorem d_Gang_hasHurt_2 : decode b_Gang_hasHurt 2 = .ok (.iload_n 1, 1) := by decide +kernel
theorem d_Gang_hasHurt_3 : decode b_Gang_hasHurt 3 = .ok (.aload_n 0, 1) := by decide +kernel
theorem d_Gang_hasHurt_4 : decode b_Gang_hasHurt 4 = .ok (.getfield 12, 3) := by decide +kernel
theorem d_Gang_hasHurt_7 : decode b_Gang_hasHurt 7 = .ok (.invokevirtual 18, 3) := by decide +kernel
theorem d_Gang_hasHurt_10 : decode b_Gang_hasHurt 10 = .ok (.if_icmp .ge 28, 3) := by decide +kernel
theorem d_Gang_hasHurt_38 : decode b_Gang_hasHurt 38 = .ok (.iconst 0, 1) := by decide +kernel
theorem d_Gang_hasHurt_39 : decode b_Gang_hasHurt 39 = .ok (.ireturn, 1) := by decide +kernel
theorem d_Gang_hasHurt_13 : decode b_Gang_hasHurt 13 = .ok (.aload_n 0, 1) := by decide +kernel
theorem d_Gang_hasHurt_14 : decode b_Gang_hasHurt 14 = .ok (.getfield 12, 3) := by decide +kernel
theorem d_Gang_hasHurt_17 : decode b_Gang_hasHurt 17 = .ok (.iload_n 1, 1) := by decide +kernel
theorem d_Gang_hasHurt_18 : decode b_Gang_hasHurt 18 = .ok (.invokevirtual 22, 3) := by decide +kernel
theorem d_Gang_hasHurt_21 : decode b_Gang_hasHurt 21 = .ok (.checkcast 27, 3) := by decide +kernel
theorem wm_470 : Cond.fieldLink "ThresholdRow$Gang" 62 "ThresholdRow$Hand" "hurt" "I" ∈ gT := gT_m (List.mem_of_getElem? (i := 470) (by decide +kernel)) (by decide +kernel)
theorem d_Gang_hasHurt_24 : decode b_Gang_hasHurt 24 = .ok (.getfield 62, 3) := by decide +kernel
theorem d_Gang_hasHurt_27 : decode b_Gang_hasHurt 27 = .ok (.ifCond .le 5, 3) := by decide +kernel
theorem d_Gang_hasHurt_32 : decode b_Gang_hasHurt 32 = .ok (.iinc 1 1, 3) := by decide +kernel
theorem d_Gang_hasHurt_35 : decode b_Gang_hasHurt 35 = .ok (.goto (-33), 3) := by decide +kernel
theorem d_Gang_leanOnOneAnother_0 : decode b_Gang_leanOnOneAnother 0 = .ok (.aload_n 0, 1) := by decide +kernel
theorem d_Gang_leanOnOneAnother_1 : decode b_Gang_leanOnOneAnother 1 = .ok (.getfield 12, 3) := by decide +kernel
theorem d_Gang_leanOnOneAnother_4 : decode b_Gang_leanOnOneAnother 4 = .ok (.invokevirtual 18, 3) := by decide +kernel
theorem d_Gang_leanOnOneAnother_7 : decode b_Gang_leanOnOneAnother 7 = .ok (.istore_n 1, 1) := by decide +kernel
theorem d_Gang_leanOnOneAnother_8 : decode b_Gang_leanOnOneAnother 8 = .ok (.iload_n 1, 1) := by decide +kernel
theorem d_Gang_leanOnOneAnother_9 : decode b_Gang_leanOnOneAnother 9 = .ok (.ifCond .le 22, 3) := by decide +kernel
theorem d_Gang_leanOnOneAnother_12 : decode b_Gang_leanOnOneAnother 12 = .ok (.aload_n 0, 1) := by decide +kernel
theorem d_Gang_leanOnOneAnother_13 : decode b_Gang_leanOnOneAnother 13 = .ok (.getfield 12, 3) := by decide +kernel
theorem d_Gang_leanOnOneAnother_16 : decode b_Gang_leanOnOneAnother 16 = .ok (.iload_n 1, 1) := by decide +kernel
theorem d_Gang_leanOnOneAnother_17 : decode b_Gang_leanOnOneAnother 17 = .ok (.iconst 1, 1) := by decide +kernel
theorem d_Gang_leanOnOneAnother_18 : decode b_Gang_leanOnOneAnother 18 = .ok (.isub, 1) := by decide +kernel
theorem d_Gang_leanOnOneAnother_19 : decode b_Gang_leanOnOneAnother 19 = .ok (.invokevirtual 22, 3) := by decide +kernel
theorem d_Gang_leanOnOneAnother_22 : decode b_Gang_leanOnOneAnother 22 = .ok (.checkcast 27, 3) := by decide +kernel
theorem d_Gang_leanOnOneAnother_25 : decode b_Gang_leanOnOneAnother 25 = .ok (.getfield 26, 3) := by decide +kernel
theorem d_Gang_leanOnOneAnother_28 : decode b_Gang_leanOnOneAnother 28 = .ok (.goto 4, 3) := by decide +kernel
theorem d_Gang_leanOnOneAnother_32 : decode b_Gang_leanOnOneAnother 32 = .ok (.istore_n 2, 1) := by decide +kernel
theorem d_Gang_leanOnOneAnother_33 : decode b_Gang_leanOnOneAnother 33 = .ok (.iconst 0, 1) := by decide +kernel
theorem d_Gang_leanOnOneAnother_34 : decode b_Gang_leanOnOneAnother 34 = .ok (.istore_n 3, 1) := by decide +kernel
theorem d_Gang_leanOnOneAnother_35 : decode b_Gang_leanOnOneAnother 35 = .ok (.iload_n 3, 1) := by decide +kernel
theorem d_Gang_leanOnOneAnother_36 : decode b_Gang_leanOnOneAnother 36 = .ok (.iload_n 1, 1) := by decide +kernel
theorem d_Gang_leanOnOneAnother_37 : decode b_Gang_leanOnOneAnother 37 = .ok (.if_icmp .ge 49, 3) := by decide +kernel
theorem d_Gang_leanOnOneAnother_86 : decode b_Gang_leanOnOneAnother 86 = .ok (.return_, 1) := by decide +kernel
theorem d_Gang_leanOnOneAnother_40 : decode b_Gang_leanOnOneAnother 40 = .ok (.aload_n 0, 1) := by decide +kernel
theorem d_Gang_leanOnOneAnother_41 : decode b_Gang_leanOnOneAnother 41 = .ok (.getfield 12, 3) := by decide +kernel
theorem d_Gang_leanOnOneAnother_44 : decode b_Gang_leanOnOneAnother 44 = .ok (.iload_n 3, 1) := by decide +kernel
theorem d_Gang_leanOnOneAnother_45 : decode b_Gang_leanOnOneAnother 45 = .ok (.invokevirtual 22, 3) := by decide +kernel
theorem d_Gang_leanOnOneAnother_48 : decode b_Gang_leanOnOneAnother 48 = .ok (.checkcast 27, 3) := by decide +kernel
theorem d_Gang_leanOnOneAnother_51 : decode b_Gang_leanOnOneAnother 51 = .ok (.astore 4, 2) := by decide +kernel
theorem d_Gang_leanOnOneAnother_53 : decode b_Gang_leanOnOneAnother 53 = .ok (.aload 4, 2) := by decide +kernel
theorem d_Gang_leanOnOneAnother_55 : decode b_Gang_leanOnOneAnother 55 = .ok (.getfield 26, 3) := by decide +kernel
theorem d_Gang_leanOnOneAnother_58 : decode b_Gang_leanOnOneAnother 58 = .ok (.istore 5, 2) := by decide +kernel
theorem d_Gang_leanOnOneAnother_60 : decode b_Gang_leanOnOneAnother 60 = .ok (.aload 4, 2) := by decide +kernel
theorem d_Gang_leanOnOneAnother_62 : decode b_Gang_leanOnOneAnother 62 = .ok (.iload 5, 2) := by decide +kernel
theorem d_Gang_leanOnOneAnother_64 : decode b_Gang_leanOnOneAnother 64 = .ok (.iload_n 2, 1) := by decide +kernel
theorem d_Gang_leanOnOneAnother_65 : decode b_Gang_leanOnOneAnother 65 = .ok (.iadd, 1) := by decide +kernel
theorem d_Gang_leanOnOneAnother_66 : decode b_Gang_leanOnOneAnother 66 = .ok (.iconst 2, 1) := by decide +kernel
theorem d_Gang_leanOnOneAnother_67 : decode b_Gang_leanOnOneAnother 67 = .ok (.idiv, 1) := by decide +kernel
theorem d_Gang_leanOnOneAnother_68 : decode b_Gang_leanOnOneAnother 68 = .ok (.aload 4, 2) := by decide +kernel
theorem wm_695 : Cond.code ⟨"ThresholdRow$Hand", "drift", "()I"⟩ prog_5_method_2_code 2 (some .int) ∈ gT := gT_m (List.mem_of_getElem? (i := 695) (by decide +kernel)) (by decide +kernel)
theorem wm_692 : Cond.methodLink "ThresholdRow$Gang" 69 ⟨"ThresholdRow$Hand", "drift", "()I"⟩ ∈ gT := gT_m (List.mem_of_getElem? (i := 692) (by decide +kernel)) (by decide +kernel)
theorem d_Gang_leanOnOneAnother_70 : decode b_Gang_leanOnOneAnother 70 = .ok (.invokevirtual 69, 3) := by decide +kernel
theorem wm_693 : Cond.instanceMethod ⟨"ThresholdRow$Hand", "drift", "()I"⟩ ∈ gT := gT_m (List.mem_of_getElem? (i := 693) (by decide +kernel)) (by decide +kernel)
theorem wm_694 : Cond.selects "ThresholdRow$Hand" ⟨"ThresholdRow$Hand", "drift", "()I"⟩ ⟨"ThresholdRow$Hand", "drift", "()I"⟩ ∈ gT := gT_m (List.mem_of_getElem? (i := 694) (by decide +kernel)) (by decide +kernel)
theorem d_Gang_leanOnOneAnother_73 : decode b_Gang_leanOnOneAnother 73 = .ok (.iadd, 1) := by decide +kernel
theorem d_Gang_leanOnOneAnother_74 : decode b_Gang_leanOnOneAnother 74 = .ok (.putfield 26, 3) := by decide +kernel
theorem d_Gang_leanOnOneAnother_77 : decode b_Gang_leanOnOneAnother 77 = .ok (.iload 5, 2) := by decide +kernel
theorem d_Gang_leanOnOneAnother_79 : decode b_Gang_leanOnOneAnother 79 = .ok (.istore_n 2, 1) := by decide +kernel
theorem d_Gang_leanOnOneAnother_80 : decode b_Gang_leanOnOneAnother 80 = .ok (.iinc 3 1, 3) := by decide +kernel
theorem d_Gang_leanOnOneAnother_83 : decode b_Gang_leanOnOneAnother 83 = .ok (.goto (-48), 3) := by decide +kernel
set_option maxHeartbeats 4000000 in
set_option maxRecDepth 100000 in
theorem c_Gang_takeIn (l : Launch) (E : Nat) (D : va_G) (cI cO cZ : ClassId) (z0 : Nat) (M : gM) {gg gl gt n : Nat} {g : Nat → Nat} {v : Nat → gH} (hg : gw_Gg z0 cO M gg gl gt n g v) {a : Nat} {u : gH} (ha : M a = some (gw_hd u)) (hn : n < 10) (hz : a ≠ z0) : Met l y_Gang_takeIn (Cond.code y_Gang_takeIn b_Gang_takeIn 2 none :: gT) ({ frames := 5, cells := 1, slots := 10, locals := 101 }) (gw_Pc E D cI cO cZ z0 M [.ref gg, .ref a]) (gw_Qv E D (fun M' => ∃ t' : Nat, (t' = gt ∨ M t' = none) ∧ M' a = some (gw_hd (hEr u 0)) ∧ gw_L z0 cO M' gl t' (n + 1) (va_up g n a) ∧ ∀ b, b ≠ a → b ≠ gl → b ≠ t' → M' b = M b)) 1 10 (gw_A E) := by
  refine gw_ofW (cc := b_Gang_takeIn) (maxL := 2) (ret := none) (by decide) rfl (Nat.le_of_ble_eq_true rfl) ?_
  intro p e s m args below meth c hx hb hr hml hts hown hlk hnm hF hG ls hl
  have hT : ∀ w ∈ gT, w.before args s = true := fun w h => hts w (List.mem_cons_of_mem _ h)
  have hK := hF.1
  have hl : lv_has ls 2 [(0, .ref gg), (1, .ref a)] := hl
  obtain ⟨hgg, hL, hh, hd⟩ := id hg
  obtain ⟨k, hgl, h10, -⟩ := id hL
  refine lv_aload_n hx hb d_Gang_takeIn_0 rfl (lv_at hl 1 rfl) ?_
  refine lv_iconst (v := 0) hx hb d_Gang_takeIn_1 (by decide) ?_
  refine gw_put (v := .int 0) hx hb hT i_Hand t_Hand t_Hand_ok n_Hand hown hK hG ha rfl 5 (by decide) (hT _ wm_475) (fun _ h => h) rfl rfl rfl (Nat.le_of_ble_eq_true rfl) d_Gang_takeIn_2 (fun H locs hG => ?_)
  obtain ⟨M1, e_M1⟩ : ∃ Y_ : gM, Y_ = gw_up M a (.inr (6, [.int u.1, .int u.2.1, .int u.2.2.1, .int u.2.2.2.1, .int u.2.2.2.2.1, .int 0, .int 32, .int 0, .int 0, .int (-1)])) := ⟨_, rfl⟩
  replace hG := gw_nm e_M1 hG
  have hM1_gg := (congrFun e_M1 gg).trans ((gw_miss (gw_neO hgg ha (by decide))).trans hgg)
  have hM1_gl := (congrFun e_M1 gl).trans ((gw_miss (gw_neO hgl ha (by decide))).trans hgl)
  have hM1_a := (congrFun e_M1 a).trans gw_hit
  refine lv_aload_n hx hb d_Gang_takeIn_5 rfl (lv_at hl 0 rfl) ?_
  refine gw_get hx hb hT i_Gang hown hK hG hM1_gg rfl 0 (by decide) (hT _ wm_91) (fun _ h => h) rfl d_Gang_takeIn_6 ?_
  refine lv_aload_n hx hb d_Gang_takeIn_9 rfl (lv_at hl 1 rfl) ?_
  have hL1 : gw_L z0 cO M1 gl gt n g := hL.kept (by rw [e_M1]; exact gw_miss (gw_neO hgl ha (by decide))) (fun f hf => by rw [e_M1]; exact gw_miss (gw_neA hf ha))
  refine gw_calli (gw_runV (As := [.ref a]) (rest := []) ⟨hx, hb, hml, hown, hts⟩ (c_AL_add l E D cI cO cZ z0 M1 hL1 hM1_a rfl wq_796 hn (gw_neO ha hgl (by decide))) (gw_cwV 1 hts (gT_gi wm_178) rfl rfl rfl (hT _ wm_26) (hT _ wm_582) (hT _ wm_176) (hT _ wm_177) (by decide +kernel) ⟨Nat.le_of_ble_eq_true rfl, Nat.le_of_ble_eq_true rfl⟩) hF hG rfl hM1_gl rfl hl.1 rfl (Nat.le_of_ble_eq_true rfl) d_Gang_takeIn_10 ⟨Nat.le_of_ble_eq_true rfl, Nat.le_of_ble_eq_true rfl⟩) hG (fun r M2 H locs hp hG => ?_)
  obtain ⟨rfl, t', h1, h2, h3⟩ := hp
  refine lv_pop hx hb d_Gang_takeIn_13 rfl ?_
  have hta : a ≠ t' := fun z => by
      obtain ⟨k2, -, -, q3⟩ := h2
      rcases h1 with h1 | h1
      · rcases q3 with ⟨q3, -⟩ | ⟨f, q3, -⟩
        · omega
        · obtain ⟨k3, -, -, q6⟩ := hL
          rcases q6 with ⟨-, q7⟩ | ⟨f6, q6, -⟩
          · exact hz (by rw [← q7, ← h1, ← z])
          · rw [← h1, ← z, ha] at q6; cases q6
      · rw [← z, hM1_a] at h1; cases h1
  exact gw_vret hx hb hr hlk hG (⟨t', (by rcases h1 with h1 | h1; exact Or.inl h1; exact Or.inr (by rw [e_M1] at h1; rwa [gw_miss hta.symm] at h1)), (by rw [h3 a (gw_neO ha hgl (by decide)) hta]; exact hM1_a), h2, fun b q1 q2 q3 => (by rw [h3 b q2 q3, e_M1, gw_miss q1])⟩) (Nat.le_of_ble_eq_true rfl) (Nat.le_of_ble_eq_true rfl) d_Gang_takeIn_14
set_option maxHeartbeats 4000000 in
set_option maxRecDepth 100000 in
theorem c_Gang_letGo (l : Launch) (E : Nat) (D : va_G) (cI cO cZ : ClassId) (z0 : Nat) (M : gM) {gg gl gt n : Nat} {g : Nat → Nat} {v : Nat → gH} (hg : gw_Gg z0 cO M gg gl gt (n + 1) g v) {h j : Nat} (hj : j ≤ n) (hgj : g j = h) : Met l y_Gang_letGo (Cond.code y_Gang_letGo b_Gang_letGo 3 none :: gT) ({ frames := 4, cells := 0, slots := 0, locals := 106 }) (gw_Pc E D cI cO cZ z0 M [.ref gg, .ref h]) (gw_Qv E D (fun M' => gw_L z0 cO M' gl gt n (fun p => if p < j then g p else g (p + 1)) ∧ ∀ b, b ≠ gl → b ≠ gt → M' b = M b)) 0 0 (gw_A E) := by
  refine gw_ofW (cc := b_Gang_letGo) (maxL := 3) (ret := none) (by decide) rfl (Nat.le_of_ble_eq_true rfl) ?_
  intro p e s m args below meth c hx hb hr hml hts hown hlk hnm hF hG ls hl
  have hT : ∀ w ∈ gT, w.before args s = true := fun w h => hts w (List.mem_cons_of_mem _ h)
  have hK := hF.1
  have hl : lv_has ls 3 [(0, .ref gg), (1, .ref h)] := hl
  obtain ⟨hgg, hL, hh, hd⟩ := id hg
  obtain ⟨k, hgl, h10, -⟩ := id hL
  refine lv_aload_n hx hb d_Gang_letGo_0 rfl (lv_at hl 0 rfl) ?_
  refine lv_aload_n hx hb d_Gang_letGo_1 rfl (lv_at hl 1 rfl) ?_
  refine gw_calli (gw_runV (As := [.ref h]) (rest := []) ⟨hx, hb, hml, hown, hts⟩ (c_Gang_placeFor l E D cI cO cZ z0 M hg (h := h) (J := j) (by omega) (fun p hp z => by have := hd p j (by omega) (by omega) (z.trans hgj.symm); omega) (fun _ => hgj)) (gw_cwV 1 hts (gT_gi wm_556) rfl rfl rfl (hT _ wm_27) (hT _ wm_596) (hT _ wm_554) (hT _ wm_555) (by decide +kernel) ⟨Nat.le_of_ble_eq_true rfl, Nat.le_of_ble_eq_true rfl⟩) hF hG rfl hgg rfl hl.1 rfl (Nat.le_of_ble_eq_true rfl) d_Gang_letGo_2 ⟨Nat.le_of_ble_eq_true rfl, Nat.le_of_ble_eq_true rfl⟩) hG (fun r M1 H locs hp hG => ?_)
  rw [hp.1]
  replace hG := gw_nm hp.2.symm hG
  rw [if_pos (show j < n + 1 by omega)]
  refine lv_istore_n (lv' := [(2, .int (nI j)), (0, .ref gg), (1, .ref h)]) hx hb d_Gang_letGo_5 rfl hl (by decide) rfl (fun ls hl => ?_)
  refine lv_iload_n hx hb d_Gang_letGo_6 rfl (lv_at hl 0 rfl) ?_
  refine lv_if_lt (tgt := 19) hx hb d_Gang_letGo_7 (by decide) (fun z_ => absurd z_ (nI_pos (by omega))) (fun c_7 => ?_)
  refine lv_aload_n hx hb d_Gang_letGo_10 rfl (lv_at hl 1 rfl) ?_
  refine gw_get hx hb hT i_Gang hown hK hG hgg rfl 0 (by decide) (hT _ wm_91) (fun _ h => h) rfl d_Gang_letGo_11 ?_
  refine lv_iload_n hx hb d_Gang_letGo_14 rfl (lv_at hl 0 rfl) ?_
  refine gw_callq (gw_runV (As := [.int (nI j)]) (rest := []) ⟨hx, hb, hml, hown, hts⟩ (c_L_remove l E D cI cO cZ z0 M hL hj rfl wq_796 (fun p hp => ⟨_, hh p (by omega)⟩)) (gw_cwV 1 hts (gT_gi wm_600) rfl rfl rfl (hT _ wm_26) (hT _ wm_597) (hT _ wm_598) (hT _ wm_599) (by decide +kernel) ⟨Nat.le_of_ble_eq_true rfl, Nat.le_of_ble_eq_true rfl⟩) hF hG rfl hgl rfl hl.1 rfl (Nat.le_of_ble_eq_true rfl) d_Gang_letGo_15 ⟨Nat.le_of_ble_eq_true rfl, Nat.le_of_ble_eq_true rfl⟩) hG (fun r M2 H locs hp hG => ?_)
  obtain ⟨rfl, h2, h3⟩ := hp
  refine lv_pop hx hb d_Gang_letGo_18 rfl ?_
  exact gw_vret hx hb hr hlk hG (⟨h2, h3⟩) (Nat.le_of_ble_eq_true rfl) (Nat.le_of_ble_eq_true rfl) d_Gang_letGo_19
def p_tick (n : Nat) (v : Nat → gH) (p : Nat) : Int32 := 60 * nI p / nI n + (v p).2.2.2.2.2
set_option maxHeartbeats 4000000 in
set_option maxRecDepth 100000 in
theorem c_Gang_tickAt (l : Launch) (E : Nat) (D : va_G) (cI cO cZ : ClassId) (z0 : Nat) (M : gM) {gg gl gt n : Nat} {g : Nat → Nat} {v : Nat → gH} (hg : gw_Gg z0 cO M gg gl gt n g v) {i : Nat} (hi : i < n) : Met l y_Gang_tickAt (Cond.code y_Gang_tickAt b_Gang_tickAt 3 (some .int) :: gT) ({ frames := 3, cells := 0, slots := 0, locals := 64 }) (gw_Pc E D cI cO cZ z0 M [.ref gg, .int (nI i)]) (gw_Qi E D (fun r M' => r = p_tick n v i ∧ M' = M)) 0 0 (gw_A E) := by
  refine gw_ofW (cc := b_Gang_tickAt) (maxL := 3) (ret := (some .int)) (by decide) rfl (Nat.le_of_ble_eq_true rfl) ?_
  intro p e s m args below meth c hx hb hr hml hts hown hlk hnm hF hG ls hl
  have hT : ∀ w ∈ gT, w.before args s = true := fun w h => hts w (List.mem_cons_of_mem _ h)
  have hK := hF.1
  have hl : lv_has ls 3 [(0, .ref gg), (1, .int (nI i))] := hl
  obtain ⟨hgg, hL, hh, hd⟩ := id hg
  obtain ⟨k, hgl, h10, -⟩ := id hL
  refine lv_aload_n hx hb d_Gang_tickAt_0 rfl (lv_at hl 0 rfl) ?_
  refine gw_get hx hb hT i_Gang hown hK hG hgg rfl 0 (by decide) (hT _ wm_91) (fun _ h => h) rfl d_Gang_tickAt_1 ?_
  refine gw_calli (gw_runV (As := []) (rest := []) ⟨hx, hb, hml, hown, hts⟩ (c_L_size l E D cI cO cZ z0 M hL) (gw_cwV 0 hts (gT_gi wm_286) rfl rfl rfl (hT _ wm_26) (hT _ wm_411) (hT _ wm_284) (hT _ wm_285) (by decide +kernel) ⟨Nat.le_of_ble_eq_true rfl, Nat.le_of_ble_eq_true rfl⟩) hF hG rfl hgl rfl hl.1 rfl (Nat.le_of_ble_eq_true rfl) d_Gang_tickAt_4 ⟨Nat.le_of_ble_eq_true rfl, Nat.le_of_ble_eq_true rfl⟩) hG (fun r M1 H locs hp hG => ?_)
  rw [hp.1]
  replace hG := gw_nm hp.2.symm hG
  refine lv_istore_n (lv' := [(2, .int (nI n)), (0, .ref gg), (1, .int (nI i))]) hx hb d_Gang_tickAt_7 rfl hl (by decide) rfl (fun ls hl => ?_)
  refine lv_iload_n hx hb d_Gang_tickAt_8 rfl (lv_at hl 2 rfl) ?_
  refine lv_if_lt (tgt := 17) hx hb d_Gang_tickAt_9 (by decide) (fun z_ => absurd z_ (nI_pos (by omega))) (fun c_9 => ?_)
  refine lv_iload_n hx hb d_Gang_tickAt_12 rfl (lv_at hl 2 rfl) ?_
  refine lv_iload_n hx hb d_Gang_tickAt_13 rfl (lv_at hl 0 rfl) ?_
  refine lv_icmp_lt (tgt := 19) hx hb d_Gang_tickAt_14 (by decide) (fun c_14 => ?_) (fun z_ => absurd (nI_lt hi (by omega)) z_)
  refine lv_bipush (v := 60) hx hb d_Gang_tickAt_19 (by decide) ?_
  refine lv_iload_n hx hb d_Gang_tickAt_21 rfl (lv_at hl 2 rfl) ?_
  refine lv_imul hx hb d_Gang_tickAt_22 ?_
  refine lv_iload_n hx hb d_Gang_tickAt_23 rfl (lv_at hl 0 rfl) ?_
  refine lv_idiv hx hb d_Gang_tickAt_24 (nI_ne0 (by omega) (by omega)) ?_
  refine lv_aload_n hx hb d_Gang_tickAt_25 rfl (lv_at hl 1 rfl) ?_
  refine gw_get hx hb hT i_Gang hown hK hG hgg rfl 0 (by decide) (hT _ wm_91) (fun _ h => h) rfl d_Gang_tickAt_26 ?_
  refine lv_iload_n hx hb d_Gang_tickAt_29 rfl (lv_at hl 2 rfl) ?_
  refine gw_callq (gw_runV (As := [.int (nI i)]) (rest := [.int (60 * nI i / nI n)]) ⟨hx, hb, hml, hown, hts⟩ (c_L_get l E D cI cO cZ z0 M hL (p := i) hi) (gw_cwV 1 hts (gT_gi wm_362) rfl rfl rfl (hT _ wm_26) (hT _ wm_412) (hT _ wm_360) (hT _ wm_361) (by decide +kernel) ⟨Nat.le_of_ble_eq_true rfl, Nat.le_of_ble_eq_true rfl⟩) hF hG rfl hgl rfl hl.1 rfl (Nat.le_of_ble_eq_true rfl) d_Gang_tickAt_30 ⟨Nat.le_of_ble_eq_true rfl, Nat.le_of_ble_eq_true rfl⟩) hG (fun r M2 H locs hp hG => ?_)
  rw [hp.1]
  replace hG := gw_nm hp.2.symm hG
  have hgi := hh i hi
  refine gw_cast (ci := 6) (r := (R_Hand, F_Hand, 10)) hx hb hown (hT _ wm_413) hF hG rfl hgi d_Gang_tickAt_33 ?_
  refine gw_get hx hb hT i_Hand hown hK hG hgi rfl 5 (by decide) (hT _ wm_475) (fun _ h => h) rfl d_Gang_tickAt_36 ?_
  refine lv_iadd hx hb d_Gang_tickAt_39 ?_
  exact gw_iret (v := ((60 * nI i / nI n) + ((v i).2.2.2.2.2))) hx hb hr hlk hG (⟨rfl, rfl⟩) (Nat.le_of_ble_eq_true rfl) (Nat.le_of_ble_eq_true rfl) d_Gang_tickAt_40
set_option maxHeartbeats 4000000 in
set_option maxRecDepth 100000 in
theorem c_Gang_tireAll (l : Launch) (E : Nat) (D : va_G) (cI cO cZ : ClassId) (z0 : Nat) (M : gM) {gg gl gt n : Nat} {g : Nat → Nat} {v : Nat → gH} (hg : gw_Gg z0 cO M gg gl gt n g v) : Met l y_Gang_tireAll (Cond.code y_Gang_tireAll b_Gang_tireAll 2 none :: gT) ({ frames := 3, cells := 0, slots := 0, locals := 64 }) (gw_Pc E D cI cO cZ z0 M [.ref gg]) (gw_Qv E D (fun M' => gw_ch M M' n g (fun p => p_tire (v p)))) 0 0 (gw_A E) := by
  refine gw_ofW (cc := b_Gang_tireAll) (maxL := 2) (ret := none) (by decide) rfl (Nat.le_of_ble_eq_true rfl) ?_
  intro p e s m args below meth c hx hb hr hml hts hown hlk hnm hF hG ls hl
  have hT : ∀ w ∈ gT, w.before args s = true := fun w h => hts w (List.mem_cons_of_mem _ h)
  have hK := hF.1
  have hl : lv_has ls 2 [(0, .ref gg)] := hl
  obtain ⟨hgg, hL, hh, hd⟩ := id hg
  obtain ⟨k, hgl, h10, -⟩ := id hL
  refine lv_iconst (v := 0) hx hb d_Gang_tireAll_0 (by decide) ?_
  refine lv_istore_n (lv' := [(1, .int 0), (0, .ref gg)]) hx hb d_Gang_tireAll_1 rfl hl (by decide) rfl (fun ls hl => ?_)
  have loop : ∀ (d i : Nat), i + d = n → ∀ (X : gM) (H : Heap) (locs : List Loc) (ls : Array Slot), (gw_ch M X n g (fun p => if p < i then p_tire (v p) else v p)) → gw_H E D X s H locs → lv_has ls 2 [(1, .int (nI i)), (0, .ref gg)] → W p l e ({ frames := 3, cells := 0, slots := 0, locals := 64 } : Room) s m args below meth c H locs 0 0 (MQ below (gw_Qv E D (fun M' => gw_ch M M' n g (fun p => p_tire (v p)))) args s 0 0 (gw_A E)) (F0 m 2 ls []) := by
    intro d
    induction d with
    | zero =>
      intro i hi X H locs ls hI hG hl
      obtain ⟨hgg, hL, hh, hd⟩ := hg.ch hI
      obtain ⟨k, hgl, h10, -⟩ := id hL
      refine lv_iload_n hx hb d_Gang_tireAll_2 rfl (lv_at hl 0 rfl) ?_
      refine lv_aload_n hx hb d_Gang_tireAll_3 rfl (lv_at hl 1 rfl) ?_
      refine gw_get hx hb hT i_Gang hown hK hG hgg rfl 0 (by decide) (hT _ wm_91) (fun _ h => h) rfl d_Gang_tireAll_4 ?_
      refine gw_calli (gw_runV (As := []) (rest := [.int (nI i)]) ⟨hx, hb, hml, hown, hts⟩ (c_L_size l E D cI cO cZ z0 X hL) (gw_cwV 0 hts (gT_gi wm_286) rfl rfl rfl (hT _ wm_26) (hT _ wm_411) (hT _ wm_284) (hT _ wm_285) (by decide +kernel) ⟨Nat.le_of_ble_eq_true rfl, Nat.le_of_ble_eq_true rfl⟩) hF hG rfl hgl rfl hl.1 rfl (Nat.le_of_ble_eq_true rfl) d_Gang_tireAll_7 ⟨Nat.le_of_ble_eq_true rfl, Nat.le_of_ble_eq_true rfl⟩) hG (fun r M1 H locs hp hG => ?_)
      rw [hp.1]
      replace hG := gw_nm hp.2.symm hG
      refine lv_icmp_ge (tgt := 33) hx hb d_Gang_tireAll_10 (by decide) (fun c_10 => ?_) (fun z_ => absurd (nI_le (by omega) (by omega)) z_)
      exact gw_vret hx hb hr hlk hG (hI.to (fun p hp => if_pos (by omega))) (Nat.le_of_ble_eq_true rfl) (Nat.le_of_ble_eq_true rfl) d_Gang_tireAll_33
    | succ d ih =>
      intro i hi X H locs ls hI hG hl
      obtain ⟨hgg, hL, hh, hd⟩ := hg.ch hI
      obtain ⟨k, hgl, h10, -⟩ := id hL
      refine lv_iload_n hx hb d_Gang_tireAll_2 rfl (lv_at hl 0 rfl) ?_
      refine lv_aload_n hx hb d_Gang_tireAll_3 rfl (lv_at hl 1 rfl) ?_
      refine gw_get hx hb hT i_Gang hown hK hG hgg rfl 0 (by decide) (hT _ wm_91) (fun _ h => h) rfl d_Gang_tireAll_4 ?_
      refine gw_calli (gw_runV (As := []) (rest := [.int (nI i)]) ⟨hx, hb, hml, hown, hts⟩ (c_L_size l E D cI cO cZ z0 X hL) (gw_cwV 0 hts (gT_gi wm_286) rfl rfl rfl (hT _ wm_26) (hT _ wm_411) (hT _ wm_284) (hT _ wm_285) (by decide +kernel) ⟨Nat.le_of_ble_eq_true rfl, Nat.le_of_ble_eq_true rfl⟩) hF hG rfl hgl rfl hl.1 rfl (Nat.le_of_ble_eq_true rfl) d_Gang_tireAll_7 ⟨Nat.le_of_ble_eq_true rfl, Nat.le_of_ble_eq_true rfl⟩) hG (fun r M2 H locs hp hG => ?_)
      rw [hp.1]
      replace hG := gw_nm hp.2.symm hG
      refine lv_icmp_ge (tgt := 33) hx hb d_Gang_tireAll_10 (by decide) (fun z_ => absurd z_ (nI_ge (by omega) (by omega))) (fun c_10 => ?_)
      refine lv_aload_n hx hb d_Gang_tireAll_13 rfl (lv_at hl 1 rfl) ?_
      refine gw_get hx hb hT i_Gang hown hK hG hgg rfl 0 (by decide) (hT _ wm_91) (fun _ h => h) rfl d_Gang_tireAll_14 ?_
      refine lv_iload_n hx hb d_Gang_tireAll_17 rfl (lv_at hl 0 rfl) ?_
      refine gw_callq (gw_runV (As := [.int (nI i)]) (rest := []) ⟨hx, hb, hml, hown, hts⟩ (c_L_get l E D cI cO cZ z0 X hL (p := i) (by omega)) (gw_cwV 1 hts (gT_gi wm_362) rfl rfl rfl (hT _ wm_26) (hT _ wm_412) (hT _ wm_360) (hT _ wm_361) (by decide +kernel) ⟨Nat.le_of_ble_eq_true rfl, Nat.le_of_ble_eq_true rfl⟩) hF hG rfl hgl rfl hl.1 rfl (Nat.le_of_ble_eq_true rfl) d_Gang_tireAll_18 ⟨Nat.le_of_ble_eq_true rfl, Nat.le_of_ble_eq_true rfl⟩) hG (fun r M3 H locs hp hG => ?_)
      rw [hp.1]
      replace hG := gw_nm hp.2.symm hG
      have hgi := hI.at (by omega : i < n)
      refine gw_cast (ci := 6) (r := (R_Hand, F_Hand, 10)) hx hb hown (hT _ wm_413) hF hG rfl hgi d_Gang_tireAll_21 ?_
      refine gw_callv (gw_runV (As := []) (rest := []) ⟨hx, hb, hml, hown, hts⟩ (c_Hand_tire l E D cI cO cZ z0 X hgi) (gw_cwV 0 hts (gT_gi wm_714) rfl rfl rfl (hT _ wm_40) (hT _ wm_711) (hT _ wm_712) (hT _ wm_713) (by decide +kernel) ⟨Nat.le_of_ble_eq_true rfl, Nat.le_of_ble_eq_true rfl⟩) hF hG rfl hgi rfl hl.1 rfl (Nat.le_of_ble_eq_true rfl) d_Gang_tireAll_24 ⟨Nat.le_of_ble_eq_true rfl, Nat.le_of_ble_eq_true rfl⟩) hG (fun M4 H locs hp hG => ?_)
      refine lv_iinc (v := nI (i + 1)) (lv' := [(1, .int (nI (i + 1))), (0, .ref gg)]) hx hb d_Gang_tireAll_27 hl (k := 0) rfl (nI_succ i).symm (by decide) rfl (fun ls hl => ?_)
      refine lv_goto (tgt := 2) hx hb d_Gang_tireAll_30 (by decide) ?_
      exact ih (i + 1) (by omega) M4 _ _ _ (by rw [hp]; exact gw_ch.step (w := fun p => p_tire (v p)) hg.2.2.2 (by omega) hI) hG (lv_sub hl [0, 1] rfl)
  exact loop _ _ (Nat.zero_add n) M _ _ _ (gw_ch.zero (w := fun p => p_tire (v p)) hg.2.2.1) hG (lv_sub hl [0, 1] rfl)
set_option maxHeartbeats 4000000 in
set_option maxRecDepth 100000 in
theorem c_Gang_forgetErrors (l : Launch) (E : Nat) (D : va_G) (cI cO cZ : ClassId) (z0 : Nat) (M : gM) {gg gl gt n : Nat} {g : Nat → Nat} {v : Nat → gH} (hg : gw_Gg z0 cO M gg gl gt n g v) : Met l y_Gang_forgetErrors (Cond.code y_Gang_forgetErrors b_Gang_forgetErrors 2 none :: gT) ({ frames := 3, cells := 0, slots := 0, locals := 64 }) (gw_Pc E D cI cO cZ z0 M [.ref gg]) (gw_Qv E D (fun M' => gw_ch M M' n g (fun p => hEr (v p) 0))) 0 0 (gw_A E) := by
  refine gw_ofW (cc := b_Gang_forgetErrors) (maxL := 2) (ret := none) (by decide) rfl (Nat.le_of_ble_eq_true rfl) ?_
  intro p e s m args below meth c hx hb hr hml hts hown hlk hnm hF hG ls hl
  have hT : ∀ w ∈ gT, w.before args s = true := fun w h => hts w (List.mem_cons_of_mem _ h)
  have hK := hF.1
  have hl : lv_has ls 2 [(0, .ref gg)] := hl
  obtain ⟨hgg, hL, hh, hd⟩ := id hg
  obtain ⟨k, hgl, h10, -⟩ := id hL
  refine lv_iconst (v := 0) hx hb d_Gang_forgetErrors_0 (by decide) ?_
  refine lv_istore_n (lv' := [(1, .int 0), (0, .ref gg)]) hx hb d_Gang_forgetErrors_1 rfl hl (by decide) rfl (fun ls hl => ?_)
  have loop : ∀ (d i : Nat), i + d = n → ∀ (X : gM) (H : Heap) (locs : List Loc) (ls : Array Slot), (gw_ch M X n g (fun p => if p < i then hEr (v p) 0 else v p)) → gw_H E D X s H locs → lv_has ls 2 [(1, .int (nI i)), (0, .ref gg)] → W p l e ({ frames := 3, cells := 0, slots := 0, locals := 64 } : Room) s m args below meth c H locs 0 0 (MQ below (gw_Qv E D (fun M' => gw_ch M M' n g (fun p => hEr (v p) 0))) args s 0 0 (gw_A E)) (F0 m 2 ls []) := by
    intro d
    induction d with
    | zero =>
      intro i hi X H locs ls hI hG hl
      obtain ⟨hgg, hL, hh, hd⟩ := hg.ch hI
      obtain ⟨k, hgl, h10, -⟩ := id hL
      refine lv_iload_n hx hb d_Gang_forgetErrors_2 rfl (lv_at hl 0 rfl) ?_
      refine lv_aload_n hx hb d_Gang_forgetErrors_3 rfl (lv_at hl 1 rfl) ?_
      refine gw_get hx hb hT i_Gang hown hK hG hgg rfl 0 (by decide) (hT _ wm_91) (fun _ h => h) rfl d_Gang_forgetErrors_4 ?_
      refine gw_calli (gw_runV (As := []) (rest := [.int (nI i)]) ⟨hx, hb, hml, hown, hts⟩ (c_L_size l E D cI cO cZ z0 X hL) (gw_cwV 0 hts (gT_gi wm_286) rfl rfl rfl (hT _ wm_26) (hT _ wm_411) (hT _ wm_284) (hT _ wm_285) (by decide +kernel) ⟨Nat.le_of_ble_eq_true rfl, Nat.le_of_ble_eq_true rfl⟩) hF hG rfl hgl rfl hl.1 rfl (Nat.le_of_ble_eq_true rfl) d_Gang_forgetErrors_7 ⟨Nat.le_of_ble_eq_true rfl, Nat.le_of_ble_eq_true rfl⟩) hG (fun r M1 H locs hp hG => ?_)
      rw [hp.1]
      replace hG := gw_nm hp.2.symm hG
      refine lv_icmp_ge (tgt := 34) hx hb d_Gang_forgetErrors_10 (by decide) (fun c_10 => ?_) (fun z_ => absurd (nI_le (by omega) (by omega)) z_)
      exact gw_vret hx hb hr hlk hG (hI.to (fun p hp => if_pos (by omega))) (Nat.le_of_ble_eq_true rfl) (Nat.le_of_ble_eq_true rfl) d_Gang_forgetErrors_34
    | succ d ih =>
      intro i hi X H locs ls hI hG hl
      obtain ⟨hgg, hL, hh, hd⟩ := hg.ch hI
      obtain ⟨k, hgl, h10, -⟩ := id hL
      refine lv_iload_n hx hb d_Gang_forgetErrors_2 rfl (lv_at hl 0 rfl) ?_
      refine lv_aload_n hx hb d_Gang_forgetErrors_3 rfl (lv_at hl 1 rfl) ?_
      refine gw_get hx hb hT i_Gang hown hK hG hgg rfl 0 (by decide) (hT _ wm_91) (fun _ h => h) rfl d_Gang_forgetErrors_4 ?_
      refine gw_calli (gw_runV (As := []) (rest := [.int (nI i)]) ⟨hx, hb, hml, hown, hts⟩ (c_L_size l E D cI cO cZ z0 X hL) (gw_cwV 0 hts (gT_gi wm_286) rfl rfl rfl (hT _ wm_26) (hT _ wm_411) (hT _ wm_284) (hT _ wm_285) (by decide +kernel) ⟨Nat.le_of_ble_eq_true rfl, Nat.le_of_ble_eq_true rfl⟩) hF hG rfl hgl rfl hl.1 rfl (Nat.le_of_ble_eq_true rfl) d_Gang_forgetErrors_7 ⟨Nat.le_of_ble_eq_true rfl, Nat.le_of_ble_eq_true rfl⟩) hG (fun r M2 H locs hp hG => ?_)
      rw [hp.1]
      replace hG := gw_nm hp.2.symm hG
      refine lv_icmp_ge (tgt := 34) hx hb d_Gang_forgetErrors_10 (by decide) (fun z_ => absurd z_ (nI_ge (by omega) (by omega))) (fun c_10 => ?_)
      refine lv_aload_n hx hb d_Gang_forgetErrors_13 rfl (lv_at hl 1 rfl) ?_
      refine gw_get hx hb hT i_Gang hown hK hG hgg rfl 0 (by decide) (hT _ wm_91) (fun _ h => h) rfl d_Gang_forgetErrors_14 ?_
      refine lv_iload_n hx hb d_Gang_forgetErrors_17 rfl (lv_at hl 0 rfl) ?_
      refine gw_callq (gw_runV (As := [.int (nI i)]) (rest := []) ⟨hx, hb, hml, hown, hts⟩ (c_L_get l E D cI cO cZ z0 X hL (p := i) (by omega)) (gw_cwV 1 hts (gT_gi wm_362) rfl rfl rfl (hT _ wm_26) (hT _ wm_412) (hT _ wm_360) (hT _ wm_361) (by decide +kernel) ⟨Nat.le_of_ble_eq_true rfl, Nat.le_of_ble_eq_true rfl⟩) hF hG rfl hgl rfl hl.1 rfl (Nat.le_of_ble_eq_true rfl) d_Gang_forgetErrors_18 ⟨Nat.le_of_ble_eq_true rfl, Nat.le_of_ble_eq_true rfl⟩) hG (fun r M3 H locs hp hG => ?_)
      rw [hp.1]
      replace hG := gw_nm hp.2.symm hG
      have hgi := hI.at (by omega : i < n)
      refine gw_cast (ci := 6) (r := (R_Hand, F_Hand, 10)) hx hb hown (hT _ wm_413) hF hG rfl hgi d_Gang_forgetErrors_21 ?_
      refine lv_iconst (v := 0) hx hb d_Gang_forgetErrors_24 (by decide) ?_
      refine gw_put (v := .int 0) hx hb hT i_Hand t_Hand t_Hand_ok n_Hand hown hK hG hgi rfl 5 (by decide) (hT _ wm_475) (fun _ h => h) rfl rfl rfl (Nat.le_of_ble_eq_true rfl) d_Gang_forgetErrors_25 (fun H locs hG => ?_)
      obtain ⟨M4, e_M4⟩ : ∃ Y_ : gM, Y_ = gw_up X (g i) (.inr (6, [.int (v i).1, .int (v i).2.1, .int (v i).2.2.1, .int (v i).2.2.2.1, .int (v i).2.2.2.2.1, .int 0, .int 32, .int 0, .int 0, .int (-1)])) := ⟨_, rfl⟩
      replace hG := gw_nm e_M4 hG
      have hM4_gg := (congrFun e_M4 gg).trans ((gw_miss (gw_neO hgg hgi (by decide))).trans hgg)
      have hM4_gl := (congrFun e_M4 gl).trans ((gw_miss (gw_neO hgl hgi (by decide))).trans hgl)
      have hM4__g_i_ := (congrFun e_M4 ((g i))).trans gw_hit
      refine lv_iinc (v := nI (i + 1)) (lv' := [(1, .int (nI (i + 1))), (0, .ref gg)]) hx hb d_Gang_forgetErrors_28 hl (k := 0) rfl (nI_succ i).symm (by decide) rfl (fun ls hl => ?_)
      refine lv_goto (tgt := 2) hx hb d_Gang_forgetErrors_31 (by decide) ?_
      exact ih (i + 1) (by omega) M4 _ _ _ (by rw [e_M4]; exact gw_ch.step (w := fun p => hEr (v p) 0) hg.2.2.2 (by omega) hI) hG (lv_sub hl [0, 1] rfl)
  exact loop _ _ (Nat.zero_add n) M _ _ _ (gw_ch.zero (w := fun p => hEr (v p) 0) hg.2.2.1) hG (lv_sub hl [0, 1] rfl)
set_option maxHeartbeats 4000000 in
set_option maxRecDepth 100000 in
theorem c_Gang_hasHurt (l : Launch) (E : Nat) (D : va_G) (cI cO cZ : ClassId) (z0 : Nat) (M : gM) {gg gl gt n : Nat} {g : Nat → Nat} {v : Nat → gH} (hg : gw_Gg z0 cO M gg gl gt n g v) (hu : ∀ p, p < n → (v p).2.2.2.1 = 0) : Met l y_Gang_hasHurt (Cond.code y_Gang_hasHurt b_Gang_hasHurt 2 (some .boolean) :: gT) ({ frames := 3, cells := 0, slots := 0, locals := 64 }) (gw_Pc E D cI cO cZ z0 M [.ref gg]) (gw_Qi E D (fun r M' => r = 0 ∧ M' = M)) 0 0 (gw_A E) := by
  refine gw_ofW (cc := b_Gang_hasHurt) (maxL := 2) (ret := (some .boolean)) (by decide) rfl (Nat.le_of_ble_eq_true rfl) ?_
  intro p e s m args below meth c hx hb hr hml hts hown hlk hnm hF hG ls hl
  have hT : ∀ w ∈ gT, w.before args s = true := fun w h => hts w (List.mem_cons_of_mem _ h)
  have hK := hF.1
  have hl : lv_has ls 2 [(0, .ref gg)] := hl
  obtain ⟨hgg, hL, hh, hd⟩ := id hg
  obtain ⟨k, hgl, h10, -⟩ := id hL
  refine lv_iconst (v := 0) hx hb d_Gang_hasHurt_0 (by decide) ?_
  refine lv_istore_n (lv' := [(1, .int 0), (0, .ref gg)]) hx hb d_Gang_hasHurt_1 rfl hl (by decide) rfl (fun ls hl => ?_)
  have loop : ∀ (d i : Nat), i + d = n → ∀ (X : gM) (H : Heap) (locs : List Loc) (ls : Array Slot), (X = M) → gw_H E D X s H locs → lv_has ls 2 [(1, .int (nI i)), (0, .ref gg)] → W p l e ({ frames := 3, cells := 0, slots := 0, locals := 64 } : Room) s m args below meth c H locs 0 0 (MQ below (gw_Qi E D (fun r M' => r = 0 ∧ M' = M)) args s 0 0 (gw_A E)) (F0 m 2 ls []) := by
    intro d
    induction d with
    | zero =>
      intro i hi X H locs ls hI hG hl
      replace hG := gw_nm hI.symm hG
      refine lv_iload_n hx hb d_Gang_hasHurt_2 rfl (lv_at hl 0 rfl) ?_
      refine lv_aload_n hx hb d_Gang_hasHurt_3 rfl (lv_at hl 1 rfl) ?_
      refine gw_get hx hb hT i_Gang hown hK hG hgg rfl 0 (by decide) (hT _ wm_91) (fun _ h => h) rfl d_Gang_hasHurt_4 ?_
      refine gw_calli (gw_runV (As := []) (rest := [.int (nI i)]) ⟨hx, hb, hml, hown, hts⟩ (c_L_size l E D cI cO cZ z0 M hL) (gw_cwV 0 hts (gT_gi wm_286) rfl rfl rfl (hT _ wm_26) (hT _ wm_411) (hT _ wm_284) (hT _ wm_285) (by decide +kernel) ⟨Nat.le_of_ble_eq_true rfl, Nat.le_of_ble_eq_true rfl⟩) hF hG rfl hgl rfl hl.1 rfl (Nat.le_of_ble_eq_true rfl) d_Gang_hasHurt_7 ⟨Nat.le_of_ble_eq_true rfl, Nat.le_of_ble_eq_true rfl⟩) hG (fun r M1 H locs hp hG => ?_)
      rw [hp.1]
      replace hG := gw_nm hp.2.symm hG
      refine lv_icmp_ge (tgt := 38) hx hb d_Gang_hasHurt_10 (by decide) (fun c_10 => ?_) (fun z_ => absurd (nI_le (by omega) (by omega)) z_)
      refine lv_iconst (v := 0) hx hb d_Gang_hasHurt_38 (by decide) ?_
      exact gw_zret (v := 0) hx hb hr hlk hG rfl ⟨rfl, rfl⟩ (Nat.le_of_ble_eq_true rfl) (Nat.le_of_ble_eq_true rfl) d_Gang_hasHurt_39
    | succ d ih =>
      intro i hi X H locs ls hI hG hl
      replace hG := gw_nm hI.symm hG
      refine lv_iload_n hx hb d_Gang_hasHurt_2 rfl (lv_at hl 0 rfl) ?_
      refine lv_aload_n hx hb d_Gang_hasHurt_3 rfl (lv_at hl 1 rfl) ?_
      refine gw_get hx hb hT i_Gang hown hK hG hgg rfl 0 (by decide) (hT _ wm_91) (fun _ h => h) rfl d_Gang_hasHurt_4 ?_
      refine gw_calli (gw_runV (As := []) (rest := [.int (nI i)]) ⟨hx, hb, hml, hown, hts⟩ (c_L_size l E D cI cO cZ z0 M hL) (gw_cwV 0 hts (gT_gi wm_286) rfl rfl rfl (hT _ wm_26) (hT _ wm_411) (hT _ wm_284) (hT _ wm_285) (by decide +kernel) ⟨Nat.le_of_ble_eq_true rfl, Nat.le_of_ble_eq_true rfl⟩) hF hG rfl hgl rfl hl.1 rfl (Nat.le_of_ble_eq_true rfl) d_Gang_hasHurt_7 ⟨Nat.le_of_ble_eq_true rfl, Nat.le_of_ble_eq_true rfl⟩) hG (fun r M2 H locs hp hG => ?_)
      rw [hp.1]
      replace hG := gw_nm hp.2.symm hG
      refine lv_icmp_ge (tgt := 38) hx hb d_Gang_hasHurt_10 (by decide) (fun z_ => absurd z_ (nI_ge (by omega) (by omega))) (fun c_10 => ?_)
      refine lv_aload_n hx hb d_Gang_hasHurt_13 rfl (lv_at hl 1 rfl) ?_
      refine gw_get hx hb hT i_Gang hown hK hG hgg rfl 0 (by decide) (hT _ wm_91) (fun _ h => h) rfl d_Gang_hasHurt_14 ?_
      refine lv_iload_n hx hb d_Gang_hasHurt_17 rfl (lv_at hl 0 rfl) ?_
      refine gw_callq (gw_runV (As := [.int (nI i)]) (rest := []) ⟨hx, hb, hml, hown, hts⟩ (c_L_get l E D cI cO cZ z0 M hL (p := i) (by omega)) (gw_cwV 1 hts (gT_gi wm_362) rfl rfl rfl (hT _ wm_26) (hT _ wm_412) (hT _ wm_360) (hT _ wm_361) (by decide +kernel) ⟨Nat.le_of_ble_eq_true rfl, Nat.le_of_ble_eq_true rfl⟩) hF hG rfl hgl rfl hl.1 rfl (Nat.le_of_ble_eq_true rfl) d_Gang_hasHurt_18 ⟨Nat.le_of_ble_eq_true rfl, Nat.le_of_ble_eq_true rfl⟩) hG (fun r M3 H locs hp hG => ?_)
      rw [hp.1]
      replace hG := gw_nm hp.2.symm hG
      have hgi := hh i (by omega)
      refine gw_cast (ci := 6) (r := (R_Hand, F_Hand, 10)) hx hb hown (hT _ wm_413) hF hG rfl hgi d_Gang_hasHurt_21 ?_
      refine gw_get hx hb hT i_Hand hown hK hG hgi rfl 3 (by decide) (hT _ wm_470) (fun _ h => h) rfl d_Gang_hasHurt_24 ?_
      refine lv_if_le (tgt := 32) hx hb d_Gang_hasHurt_27 (by decide) (fun c_27 => ?_) (fun z_ => absurd (by rw [hu i (by omega)]; decide) z_)
      refine lv_iinc (v := nI (i + 1)) (lv' := [(1, .int (nI (i + 1))), (0, .ref gg)]) hx hb d_Gang_hasHurt_32 hl (k := 0) rfl (nI_succ i).symm (by decide) rfl (fun ls hl => ?_)
      refine lv_goto (tgt := 2) hx hb d_Gang_hasHurt_35 (by decide) ?_
      exact ih (i + 1) (by omega) M _ _ _ rfl hG (lv_sub hl [0, 1] rfl)
  exact loop _ _ (Nat.zero_add n) M _ _ _ rfl hG (lv_sub hl [0, 1] rfl)
def pv (n i : Nat) : Nat := if i = 0 then n - 1 else i - 1
theorem pv_s (n i : Nat) : pv n (i + 1) = i := by unfold pv; rw [if_neg (by omega)]; rfl
def p_lean (n : Nat) (v : Nat → gH) (p : Nat) : gH := hEr (v p) (((v p).2.2.2.2.2 + (v (pv n p)).2.2.2.2.2) / 2 + p_drift (v p))
set_option maxHeartbeats 4000000 in
set_option maxRecDepth 100000 in
theorem c_Gang_leanOnOneAnother (l : Launch) (E : Nat) (D : va_G) (cI cO cZ : ClassId) (z0 : Nat) (M : gM) {gg gl gt n : Nat} {g : Nat → Nat} {v : Nat → gH} (hg : gw_Gg z0 cO M gg gl gt n g v) (hn : 0 < n) : Met l y_Gang_leanOnOneAnother (Cond.code y_Gang_leanOnOneAnother b_Gang_leanOnOneAnother 6 none :: gT) ({ frames := 3, cells := 0, slots := 0, locals := 64 }) (gw_Pc E D cI cO cZ z0 M [.ref gg]) (gw_Qv E D (fun M' => gw_ch M M' n g (p_lean n v))) 0 0 (gw_A E) := by
  refine gw_ofW (cc := b_Gang_leanOnOneAnother) (maxL := 6) (ret := none) (by decide) rfl (Nat.le_of_ble_eq_true rfl) ?_
  intro p e s m args below meth c hx hb hr hml hts hown hlk hnm hF hG ls hl
  have hT : ∀ w ∈ gT, w.before args s = true := fun w h => hts w (List.mem_cons_of_mem _ h)
  have hK := hF.1
  have hl : lv_has ls 6 [(0, .ref gg)] := hl
  obtain ⟨hgg, hL, hh, hd⟩ := id hg
  obtain ⟨k, hgl, h10, -⟩ := id hL
  refine lv_aload_n hx hb d_Gang_leanOnOneAnother_0 rfl (lv_at hl 0 rfl) ?_
  refine gw_get hx hb hT i_Gang hown hK hG hgg rfl 0 (by decide) (hT _ wm_91) (fun _ h => h) rfl d_Gang_leanOnOneAnother_1 ?_
  refine gw_calli (gw_runV (As := []) (rest := []) ⟨hx, hb, hml, hown, hts⟩ (c_L_size l E D cI cO cZ z0 M hL) (gw_cwV 0 hts (gT_gi wm_286) rfl rfl rfl (hT _ wm_26) (hT _ wm_411) (hT _ wm_284) (hT _ wm_285) (by decide +kernel) ⟨Nat.le_of_ble_eq_true rfl, Nat.le_of_ble_eq_true rfl⟩) hF hG rfl hgl rfl hl.1 rfl (Nat.le_of_ble_eq_true rfl) d_Gang_leanOnOneAnother_4 ⟨Nat.le_of_ble_eq_true rfl, Nat.le_of_ble_eq_true rfl⟩) hG (fun r M1 H locs hp hG => ?_)
  rw [hp.1]
  replace hG := gw_nm hp.2.symm hG
  refine lv_istore_n (lv' := [(1, .int (nI n)), (0, .ref gg)]) hx hb d_Gang_leanOnOneAnother_7 rfl hl (by decide) rfl (fun ls hl => ?_)
  refine lv_iload_n hx hb d_Gang_leanOnOneAnother_8 rfl (lv_at hl 0 rfl) ?_
  refine lv_if_le (tgt := 31) hx hb d_Gang_leanOnOneAnother_9 (by decide) (fun z_ => absurd z_ (nI_nle hn (by omega))) (fun c_9 => ?_)
  refine lv_aload_n hx hb d_Gang_leanOnOneAnother_12 rfl (lv_at hl 1 rfl) ?_
  refine gw_get hx hb hT i_Gang hown hK hG hgg rfl 0 (by decide) (hT _ wm_91) (fun _ h => h) rfl d_Gang_leanOnOneAnother_13 ?_
  refine lv_iload_n hx hb d_Gang_leanOnOneAnother_16 rfl (lv_at hl 0 rfl) ?_
  refine lv_iconst (v := 1) hx hb d_Gang_leanOnOneAnother_17 (by decide) ?_
  refine lv_isub hx hb d_Gang_leanOnOneAnother_18 ?_
  rw [show nI n - 1 = (nI (n - 1)) from (pk_sub (a := n) (b := 1) (by omega))]
  refine gw_callq (gw_runV (As := [.int (nI (n - 1))]) (rest := []) ⟨hx, hb, hml, hown, hts⟩ (c_L_get l E D cI cO cZ z0 M hL (p := (n - 1)) (by omega)) (gw_cwV 1 hts (gT_gi wm_362) rfl rfl rfl (hT _ wm_26) (hT _ wm_412) (hT _ wm_360) (hT _ wm_361) (by decide +kernel) ⟨Nat.le_of_ble_eq_true rfl, Nat.le_of_ble_eq_true rfl⟩) hF hG rfl hgl rfl hl.1 rfl (Nat.le_of_ble_eq_true rfl) d_Gang_leanOnOneAnother_19 ⟨Nat.le_of_ble_eq_true rfl, Nat.le_of_ble_eq_true rfl⟩) hG (fun r M2 H locs hp hG => ?_)
  rw [hp.1]
  replace hG := gw_nm hp.2.symm hG
  have hgi := hh (n - 1) (by omega)
  refine gw_cast (ci := 6) (r := (R_Hand, F_Hand, 10)) hx hb hown (hT _ wm_413) hF hG rfl hgi d_Gang_leanOnOneAnother_22 ?_
  refine gw_get hx hb hT i_Hand hown hK hG hgi rfl 5 (by decide) (hT _ wm_475) (fun _ h => h) rfl d_Gang_leanOnOneAnother_25 ?_
  refine lv_goto (tgt := 32) hx hb d_Gang_leanOnOneAnother_28 (by decide) ?_
  refine lv_istore_n (lv' := [(2, .int (v (n - 1)).2.2.2.2.2), (1, .int (nI n)), (0, .ref gg)]) hx hb d_Gang_leanOnOneAnother_32 rfl hl (by decide) rfl (fun ls hl => ?_)
  refine lv_iconst (v := 0) hx hb d_Gang_leanOnOneAnother_33 (by decide) ?_
  refine lv_istore_n (lv' := [(3, .int 0), (2, .int (v (n - 1)).2.2.2.2.2), (1, .int (nI n)), (0, .ref gg)]) hx hb d_Gang_leanOnOneAnother_34 rfl hl (by decide) rfl (fun ls hl => ?_)
  have loop : ∀ (d i : Nat), i + d = n → ∀ (X : gM) (H : Heap) (locs : List Loc) (ls : Array Slot), (gw_ch M X n g (fun p => if p < i then p_lean n v p else v p)) → gw_H E D X s H locs → lv_has ls 6 [(1, .int (nI n)), (2, .int (v (pv n i)).2.2.2.2.2), (3, .int (nI i)), (0, .ref gg)] → W p l e ({ frames := 3, cells := 0, slots := 0, locals := 64 } : Room) s m args below meth c H locs 0 0 (MQ below (gw_Qv E D (fun M' => gw_ch M M' n g (p_lean n v))) args s 0 0 (gw_A E)) (F0 m 35 ls []) := by
    intro d
    induction d with
    | zero =>
      intro i hi X H locs ls hI hG hl
      obtain ⟨hgg, hL, hh, hd⟩ := hg.ch hI
      have hL2 := hL.choose_spec.2.1
      refine lv_iload_n hx hb d_Gang_leanOnOneAnother_35 rfl (lv_at hl 2 rfl) ?_
      refine lv_iload_n hx hb d_Gang_leanOnOneAnother_36 rfl (lv_at hl 0 rfl) ?_
      refine lv_icmp_ge (tgt := 86) hx hb d_Gang_leanOnOneAnother_37 (by decide) (fun c_37 => ?_) (fun z_ => absurd (nI_le (by omega) (by omega)) z_)
      exact gw_vret hx hb hr hlk hG (hI.to (fun p hp => if_pos (by omega))) (Nat.le_of_ble_eq_true rfl) (Nat.le_of_ble_eq_true rfl) d_Gang_leanOnOneAnother_86
    | succ d ih =>
      intro i hi X H locs ls hI hG hl
      obtain ⟨hgg, hL, hh, hd⟩ := hg.ch hI
      obtain ⟨k, hgl, h10, -⟩ := id hL
      refine lv_iload_n hx hb d_Gang_leanOnOneAnother_35 rfl (lv_at hl 2 rfl) ?_
      refine lv_iload_n hx hb d_Gang_leanOnOneAnother_36 rfl (lv_at hl 0 rfl) ?_
      refine lv_icmp_ge (tgt := 86) hx hb d_Gang_leanOnOneAnother_37 (by decide) (fun z_ => absurd z_ (nI_ge (by omega) (by omega))) (fun c_37 => ?_)
      refine lv_aload_n hx hb d_Gang_leanOnOneAnother_40 rfl (lv_at hl 3 rfl) ?_
      refine gw_get hx hb hT i_Gang hown hK hG hgg rfl 0 (by decide) (hT _ wm_91) (fun _ h => h) rfl d_Gang_leanOnOneAnother_41 ?_
      refine lv_iload_n hx hb d_Gang_leanOnOneAnother_44 rfl (lv_at hl 2 rfl) ?_
      refine gw_callq (gw_runV (As := [.int (nI i)]) (rest := []) ⟨hx, hb, hml, hown, hts⟩ (c_L_get l E D cI cO cZ z0 X hL (p := i) (by omega)) (gw_cwV 1 hts (gT_gi wm_362) rfl rfl rfl (hT _ wm_26) (hT _ wm_412) (hT _ wm_360) (hT _ wm_361) (by decide +kernel) ⟨Nat.le_of_ble_eq_true rfl, Nat.le_of_ble_eq_true rfl⟩) hF hG rfl hgl rfl hl.1 rfl (Nat.le_of_ble_eq_true rfl) d_Gang_leanOnOneAnother_45 ⟨Nat.le_of_ble_eq_true rfl, Nat.le_of_ble_eq_true rfl⟩) hG (fun r M3 H locs hp hG => ?_)
      rw [hp.1]
      replace hG := gw_nm hp.2.symm hG
      have hgi := hI.at (by omega : i < n)
      refine gw_cast (ci := 6) (r := (R_Hand, F_Hand, 10)) hx hb hown (hT _ wm_413) hF hG rfl hgi d_Gang_leanOnOneAnother_48 ?_
      refine lv_astore (lv' := [(4, .ref (g i)), (1, .int (nI n)), (2, .int (v (pv n i)).2.2.2.2.2), (3, .int (nI i)), (0, .ref gg)]) hx hb d_Gang_leanOnOneAnother_51 hl (by decide) rfl (fun ls hl => ?_)
      refine lv_aload hx hb d_Gang_leanOnOneAnother_53 (lv_at hl 0 rfl) ?_
      refine gw_get hx hb hT i_Hand hown hK hG hgi rfl 5 (by decide) (hT _ wm_475) (fun _ h => h) rfl d_Gang_leanOnOneAnother_55 ?_
      refine lv_istore (lv' := [(5, .int (v i).2.2.2.2.2), (4, .ref (g i)), (1, .int (nI n)), (2, .int (v (pv n i)).2.2.2.2.2), (3, .int (nI i)), (0, .ref gg)]) hx hb d_Gang_leanOnOneAnother_58 hl (by decide) rfl (fun ls hl => ?_)
      refine lv_aload hx hb d_Gang_leanOnOneAnother_60 (lv_at hl 1 rfl) ?_
      refine lv_iload hx hb d_Gang_leanOnOneAnother_62 (lv_at hl 0 rfl) ?_
      refine lv_iload_n hx hb d_Gang_leanOnOneAnother_64 rfl (lv_at hl 3 rfl) ?_
      refine lv_iadd hx hb d_Gang_leanOnOneAnother_65 ?_
      refine lv_iconst (v := 2) hx hb d_Gang_leanOnOneAnother_66 (by decide) ?_
      refine lv_idiv hx hb d_Gang_leanOnOneAnother_67 (by decide) ?_
      refine lv_aload hx hb d_Gang_leanOnOneAnother_68 (lv_at hl 1 rfl) ?_
      refine gw_calli (gw_runV (As := []) (rest := [.int (((v i).2.2.2.2.2 + (v (pv n i)).2.2.2.2.2) / 2), .ref (g i)]) ⟨hx, hb, hml, hown, hts⟩ (c_Hand_drift l E D cI cO cZ z0 X hgi) (gw_cwV 0 hts (gT_gi wm_695) rfl rfl rfl (hT _ wm_40) (hT _ wm_692) (hT _ wm_693) (hT _ wm_694) (by decide +kernel) ⟨Nat.le_of_ble_eq_true rfl, Nat.le_of_ble_eq_true rfl⟩) hF hG rfl hgi rfl hl.1 rfl (Nat.le_of_ble_eq_true rfl) d_Gang_leanOnOneAnother_70 ⟨Nat.le_of_ble_eq_true rfl, Nat.le_of_ble_eq_true rfl⟩) hG (fun r M4 H locs hp hG => ?_)
      rw [hp.1]
      replace hG := gw_nm hp.2.symm hG
      refine lv_iadd hx hb d_Gang_leanOnOneAnother_73 ?_
      refine gw_put (v := .int ((((v i).2.2.2.2.2 + (v (pv n i)).2.2.2.2.2) / 2) + (p_drift (v i)))) hx hb hT i_Hand t_Hand t_Hand_ok n_Hand hown hK hG hgi rfl 5 (by decide) (hT _ wm_475) (fun _ h => h) rfl rfl rfl (Nat.le_of_ble_eq_true rfl) d_Gang_leanOnOneAnother_74 (fun H locs hG => ?_)
      obtain ⟨M5, e_M5⟩ : ∃ Y_ : gM, Y_ = gw_up X (g i) (.inr (6, [.int (v i).1, .int (v i).2.1, .int (v i).2.2.1, .int (v i).2.2.2.1, .int (v i).2.2.2.2.1, .int ((((v i).2.2.2.2.2 + (v (pv n i)).2.2.2.2.2) / 2) + (p_drift (v i))), .int 32, .int 0, .int 0, .int (-1)])) := ⟨_, rfl⟩
      replace hG := gw_nm e_M5 hG
      have hM5_gg := (congrFun e_M5 gg).trans ((gw_miss (gw_neO hgg hgi (by decide))).trans hgg)
      have hM5_gl := (congrFun e_M5 gl).trans ((gw_miss (gw_neO hgl hgi (by decide))).trans hgl)
      have hM5__g_i_ := (congrFun e_M5 ((g i))).trans gw_hit
      refine lv_iload hx hb d_Gang_leanOnOneAnother_77 (lv_at hl 0 rfl) ?_
      refine lv_istore_n (lv' := [(2, .int (v i).2.2.2.2.2), (5, .int (v i).2.2.2.2.2), (4, .ref (g i)), (1, .int (nI n)), (3, .int (nI i)), (0, .ref gg)]) hx hb d_Gang_leanOnOneAnother_79 rfl hl (by decide) rfl (fun ls hl => ?_)
      refine lv_iinc (v := nI (i + 1)) (lv' := [(3, .int (nI (i + 1))), (2, .int (v i).2.2.2.2.2), (5, .int (v i).2.2.2.2.2), (4, .ref (g i)), (1, .int (nI n)), (0, .ref gg)]) hx hb d_Gang_leanOnOneAnother_80 hl (k := 4) rfl (nI_succ i).symm (by decide) rfl (fun ls hl => ?_)
      refine lv_goto (tgt := 35) hx hb d_Gang_leanOnOneAnother_83 (by decide) ?_
      have hl2 : lv_has ls 6 [(1, .int (nI n)), (2, .int (v (pv n (i + 1))).2.2.2.2.2), (3, .int (nI (i + 1))), (0, .ref gg)] := by rw [pv_s]; exact lv_sub hl [4, 1, 0, 5] rfl
      exact ih (i + 1) (by omega) M5 _ _ _ (by rw [e_M5]; exact gw_ch.step (w := p_lean n v) hg.2.2.2 (by omega) hI) hG hl2
  exact loop _ _ (Nat.zero_add n) M _ _ _ (gw_ch.zero (w := p_lean n v) hg.2.2.1) hG (lv_sub hl [2, 1, 0, 3] rfl)
