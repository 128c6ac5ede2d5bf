theorem d_Row_handAt_0 : decode b_Row_handAt 0 = .ok (.iload_n 1, 1) := by decide +kernel
theorem d_Row_handAt_1 : decode b_Row_handAt 1 = .ok (.ifCond .lt 14, 3) := by decide +kernel
theorem d_Row_handAt_4 : decode b_Row_handAt 4 = .ok (.iload_n 1, 1) := by decide +kernel
theorem d_Row_handAt_5 : decode b_Row_handAt 5 = .ok (.aload_n 0, 1) := by decide +kernel
theorem wm_236 : Cond.fieldLink "ThresholdRow" 10 "ThresholdRow" "hands" "Ljava/util/ArrayList;" ∈ gT := gT_m (List.mem_of_getElem? (i := 236) (by decide +kernel)) (by decide +kernel)
theorem d_Row_handAt_6 : decode b_Row_handAt 6 = .ok (.getfield 10, 3) := by decide +kernel
theorem wm_283 : Cond.methodLink "ThresholdRow" 81 ⟨"java/util/ArrayList", "size", "()I"⟩ ∈ gT := gT_m (List.mem_of_getElem? (i := 283) (by decide +kernel)) (by decide +kernel)
theorem d_Row_handAt_9 : decode b_Row_handAt 9 = .ok (.invokevirtual 81, 3) := by decide +kernel
theorem d_Row_handAt_12 : decode b_Row_handAt 12 = .ok (.if_icmp .lt 14, 3) := by decide +kernel
theorem d_Row_handAt_26 : decode b_Row_handAt 26 = .ok (.aload_n 0, 1) := by decide +kernel
theorem d_Row_handAt_27 : decode b_Row_handAt 27 = .ok (.getfield 10, 3) := by decide +kernel
theorem d_Row_handAt_30 : decode b_Row_handAt 30 = .ok (.iload_n 1, 1) := by decide +kernel
theorem wm_359 : Cond.methodLink "ThresholdRow" 354 ⟨"java/util/ArrayList", "get", "(I)Ljava/lang/Object;"⟩ ∈ gT := gT_m (List.mem_of_getElem? (i := 359) (by decide +kernel)) (by decide +kernel)
theorem d_Row_handAt_31 : decode b_Row_handAt 31 = .ok (.invokevirtual 354, 3) := by decide +kernel
theorem wm_373 : Cond.classLink "ThresholdRow" 92 "ThresholdRow$Hand" ∈ gT := gT_m (List.mem_of_getElem? (i := 373) (by decide +kernel)) (by decide +kernel)
theorem d_Row_handAt_34 : decode b_Row_handAt 34 = .ok (.checkcast 92, 3) := by decide +kernel
theorem d_Row_handAt_37 : decode b_Row_handAt 37 = .ok (.areturn, 1) := by decide +kernel
theorem d_Row_handAt_15 : decode b_Row_handAt 15 = .ok (.new 383, 3) := by decide +kernel
theorem d_Row_handAt_18 : decode b_Row_handAt 18 = .ok (.dup, 1) := by decide +kernel
theorem d_Row_handAt_19 : decode b_Row_handAt 19 = .ok (.ldc_w 385, 3) := by decide +kernel
theorem d_Row_handAt_22 : decode b_Row_handAt 22 = .ok (.invokespecial 387, 3) := by decide +kernel
theorem d_Row_handAt_25 : decode b_Row_handAt 25 = .ok (.athrow, 1) := by decide +kernel
theorem wm_540 : Cond.classLink "ThresholdRow" 383 "java/lang/IndexOutOfBoundsException" ∈ gT := gT_m (List.mem_of_getElem? (i := 540) (by decide +kernel)) (by decide +kernel)
theorem wm_41 : Cond.initialized "java/lang/IndexOutOfBoundsException" ∈ gT := gT_m (List.mem_of_getElem? (i := 41) (by decide +kernel)) (by decide +kernel)
theorem d_Row_fatigue_0 : decode b_Row_fatigue 0 = .ok (.aload_n 0, 1) := by decide +kernel
theorem d_Row_fatigue_1 : decode b_Row_fatigue 1 = .ok (.iload_n 1, 1) := by decide +kernel
theorem wm_539 : Cond.code ⟨"ThresholdRow", "handAt", "(I)LThresholdRow$Hand;"⟩ prog_1_method_47_code 2 (some (.object "ThresholdRow$Hand")) ∈ gT := gT_m (List.mem_of_getElem? (i := 539) (by decide +kernel)) (by decide +kernel)
theorem wm_23 : Cond.initialized "ThresholdRow" ∈ gT := gT_m (List.mem_of_getElem? (i := 23) (by decide +kernel)) (by decide +kernel)
theorem wm_536 : Cond.methodLink "ThresholdRow" 97 ⟨"ThresholdRow", "handAt", "(I)LThresholdRow$Hand;"⟩ ∈ gT := gT_m (List.mem_of_getElem? (i := 536) (by decide +kernel)) (by decide +kernel)
theorem d_Row_fatigue_2 : decode b_Row_fatigue 2 = .ok (.invokevirtual 97, 3) := by decide +kernel
theorem wm_538 : Cond.instanceMethod ⟨"ThresholdRow", "handAt", "(I)LThresholdRow$Hand;"⟩ ∈ gT := gT_m (List.mem_of_getElem? (i := 538) (by decide +kernel)) (by decide +kernel)
theorem wm_10 : Cond.selects "ThresholdRow" ⟨"ThresholdRow", "handAt", "(I)LThresholdRow$Hand;"⟩ ⟨"ThresholdRow", "handAt", "(I)LThresholdRow$Hand;"⟩ ∈ gT := gT_m (List.mem_of_getElem? (i := 10) (by decide +kernel)) (by decide +kernel)
theorem wm_467 : Cond.fieldLink "ThresholdRow" 137 "ThresholdRow$Hand" "fatigue" "I" ∈ gT := gT_m (List.mem_of_getElem? (i := 467) (by decide +kernel)) (by decide +kernel)
theorem d_Row_fatigue_5 : decode b_Row_fatigue 5 = .ok (.getfield 137, 3) := by decide +kernel
theorem d_Row_fatigue_8 : decode b_Row_fatigue 8 = .ok (.ireturn, 1) := by decide +kernel
theorem d_Row_hurt_0 : decode b_Row_hurt 0 = .ok (.aload_n 0, 1) := by decide +kernel
theorem d_Row_hurt_1 : decode b_Row_hurt 1 = .ok (.iload_n 1, 1) := by decide +kernel
theorem d_Row_hurt_2 : decode b_Row_hurt 2 = .ok (.invokevirtual 97, 3) := by decide +kernel
theorem wm_469 : Cond.fieldLink "ThresholdRow" 105 "ThresholdRow$Hand" "hurt" "I" ∈ gT := gT_m (List.mem_of_getElem? (i := 469) (by decide +kernel)) (by decide +kernel)
theorem d_Row_hurt_5 : decode b_Row_hurt 5 = .ok (.getfield 105, 3) := by decide +kernel
theorem d_Row_hurt_8 : decode b_Row_hurt 8 = .ok (.ireturn, 1) := by decide +kernel
theorem d_Row_lost_0 : decode b_Row_lost 0 = .ok (.aload_n 0, 1) := by decide +kernel
theorem d_Row_lost_1 : decode b_Row_lost 1 = .ok (.iload_n 1, 1) := by decide +kernel
theorem d_Row_lost_2 : decode b_Row_lost 2 = .ok (.invokevirtual 97, 3) := by decide +kernel
theorem wm_473 : Cond.fieldLink "ThresholdRow" 140 "ThresholdRow$Hand" "lost" "I" ∈ gT := gT_m (List.mem_of_getElem? (i := 473) (by decide +kernel)) (by decide +kernel)
theorem d_Row_lost_5 : decode b_Row_lost 5 = .ok (.getfield 140, 3) := by decide +kernel
theorem d_Row_lost_8 : decode b_Row_lost 8 = .ok (.ireturn, 1) := by decide +kernel
theorem d_Row_placeOf_0 : decode b_Row_placeOf 0 = .ok (.aload_n 0, 1) := by decide +kernel
theorem wm_239 : Cond.fieldLink "ThresholdRow" 25 "ThresholdRow" "gang" "LThresholdRow$Gang;" ∈ gT := gT_m (List.mem_of_getElem? (i := 239) (by decide +kernel)) (by decide +kernel)
theorem d_Row_placeOf_1 : decode b_Row_placeOf 1 = .ok (.getfield 25, 3) := by decide +kernel
theorem d_Row_placeOf_4 : decode b_Row_placeOf 4 = .ok (.aload_n 0, 1) := by decide +kernel
theorem d_Row_placeOf_5 : decode b_Row_placeOf 5 = .ok (.iload_n 1, 1) := by decide +kernel
theorem d_Row_placeOf_6 : decode b_Row_placeOf 6 = .ok (.invokevirtual 97, 3) := by decide +kernel
theorem wm_553 : Cond.methodLink "ThresholdRow" 101 ⟨"ThresholdRow$Gang", "placeFor", "(LThresholdRow$Hand;)I"⟩ ∈ gT := gT_m (List.mem_of_getElem? (i := 553) (by decide +kernel)) (by decide +kernel)
theorem d_Row_placeOf_9 : decode b_Row_placeOf 9 = .ok (.invokevirtual 101, 3) := by decide +kernel
theorem d_Row_placeOf_12 : decode b_Row_placeOf 12 = .ok (.ireturn, 1) := by decide +kernel
theorem d_Row_placeNeeded_0 : decode b_Row_placeNeeded 0 = .ok (.aload_n 0, 1) := by decide +kernel
theorem d_Row_placeNeeded_1 : decode b_Row_placeNeeded 1 = .ok (.getfield 25, 3) := by decide +kernel
theorem d_Row_placeNeeded_4 : decode b_Row_placeNeeded 4 = .ok (.aload_n 1, 1) := by decide +kernel
theorem d_Row_placeNeeded_5 : decode b_Row_placeNeeded 5 = .ok (.invokevirtual 101, 3) := by decide +kernel
theorem d_Row_placeNeeded_8 : decode b_Row_placeNeeded 8 = .ok (.istore_n 2, 1) := by decide +kernel
theorem d_Row_placeNeeded_9 : decode b_Row_placeNeeded 9 = .ok (.iload_n 2, 1) := by decide +kernel
theorem d_Row_placeNeeded_10 : decode b_Row_placeNeeded 10 = .ok (.ifCond .ge 13, 3) := by decide +kernel
theorem d_Row_placeNeeded_23 : decode b_Row_placeNeeded 23 = .ok (.iload_n 2, 1) := by decide +kernel
theorem d_Row_placeNeeded_24 : decode b_Row_placeNeeded 24 = .ok (.ireturn, 1) := by decide +kernel
theorem d_Row_placeNeeded_13 : decode b_Row_placeNeeded 13 = .ok (.new 394, 3) := by decide +kernel
theorem d_Row_placeNeeded_16 : decode b_Row_placeNeeded 16 = .ok (.dup, 1) := by decide +kernel
theorem d_Row_placeNeeded_17 : decode b_Row_placeNeeded 17 = .ok (.ldc 122, 2) := by decide +kernel
theorem d_Row_placeNeeded_19 : decode b_Row_placeNeeded 19 = .ok (.invokespecial 396, 3) := by decide +kernel
theorem d_Row_placeNeeded_22 : decode b_Row_placeNeeded 22 = .ok (.athrow, 1) := by decide +kernel
theorem wm_625 : Cond.classLink "ThresholdRow" 394 "java/util/NoSuchElementException" ∈ gT := gT_m (List.mem_of_getElem? (i := 625) (by decide +kernel)) (by decide +kernel)
theorem wm_47 : Cond.initialized "java/util/NoSuchElementException" ∈ gT := gT_m (List.mem_of_getElem? (i := 47) (by decide +kernel)) (by decide +kernel)
theorem d_Row_errorOf_0 : decode b_Row_errorOf 0 = .ok (.aload_n 0, 1) := by decide +kernel
theorem d_Row_errorOf_1 : decode b_Row_errorOf 1 = .ok (.iload_n 1, 1) := by decide +kernel
theorem d_Row_errorOf_2 : decode b_Row_errorOf 2 = .ok (.invokevirtual 97, 3) := by decide +kernel
theorem d_Row_errorOf_5 : decode b_Row_errorOf 5 = .ok (.astore_n 2, 1) := by decide +kernel
theorem d_Row_errorOf_6 : decode b_Row_errorOf 6 = .ok (.aload_n 0, 1) := by decide +kernel
theorem d_Row_errorOf_7 : decode b_Row_errorOf 7 = .ok (.aload_n 2, 1) := by decide +kernel
theorem wm_624 : Cond.code ⟨"ThresholdRow", "placeNeeded", "(LThresholdRow$Hand;)I"⟩ prog_1_method_51_code 3 (some .int) ∈ gT := gT_m (List.mem_of_getElem? (i := 624) (by decide +kernel)) (by decide +kernel)
theorem wm_621 : Cond.methodLink "ThresholdRow" 127 ⟨"ThresholdRow", "placeNeeded", "(LThresholdRow$Hand;)I"⟩ ∈ gT := gT_m (List.mem_of_getElem? (i := 621) (by decide +kernel)) (by decide +kernel)
theorem d_Row_errorOf_8 : decode b_Row_errorOf 8 = .ok (.invokevirtual 127, 3) := by decide +kernel
theorem wm_623 : Cond.instanceMethod ⟨"ThresholdRow", "placeNeeded", "(LThresholdRow$Hand;)I"⟩ ∈ gT := gT_m (List.mem_of_getElem? (i := 623) (by decide +kernel)) (by decide +kernel)
theorem wm_12 : Cond.selects "ThresholdRow" ⟨"ThresholdRow", "placeNeeded", "(LThresholdRow$Hand;)I"⟩ ⟨"ThresholdRow", "placeNeeded", "(LThresholdRow$Hand;)I"⟩ ∈ gT := gT_m (List.mem_of_getElem? (i := 12) (by decide +kernel)) (by decide +kernel)
theorem d_Row_errorOf_11 : decode b_Row_errorOf 11 = .ok (.pop, 1) := by decide +kernel
theorem d_Row_errorOf_12 : decode b_Row_errorOf 12 = .ok (.aload_n 2, 1) := by decide +kernel
theorem wm_476 : Cond.fieldLink "ThresholdRow" 130 "ThresholdRow$Hand" "error" "I" ∈ gT := gT_m (List.mem_of_getElem? (i := 476) (by decide +kernel)) (by decide +kernel)
theorem d_Row_errorOf_13 : decode b_Row_errorOf 13 = .ok (.getfield 130, 3) := by decide +kernel
theorem d_Row_errorOf_16 : decode b_Row_errorOf 16 = .ok (.ireturn, 1) := by decide +kernel
theorem d_Row_strokeOf_0 : decode b_Row_strokeOf 0 = .ok (.aload_n 0, 1) := by decide +kernel
theorem d_Row_strokeOf_1 : decode b_Row_strokeOf 1 = .ok (.getfield 25, 3) := by decide +kernel
theorem d_Row_strokeOf_4 : decode b_Row_strokeOf 4 = .ok (.aload_n 0, 1) := by decide +kernel
theorem d_Row_strokeOf_5 : decode b_Row_strokeOf 5 = .ok (.aload_n 0, 1) := by decide +kernel
theorem d_Row_strokeOf_6 : decode b_Row_strokeOf 6 = .ok (.iload_n 1, 1) := by decide +kernel
theorem d_Row_strokeOf_7 : decode b_Row_strokeOf 7 = .ok (.invokevirtual 97, 3) := by decide +kernel
theorem d_Row_strokeOf_10 : decode b_Row_strokeOf 10 = .ok (.invokevirtual 127, 3) := by decide +kernel
theorem wm_647 : Cond.methodLink "ThresholdRow" 133 ⟨"ThresholdRow$Gang", "tickAt", "(I)I"⟩ ∈ gT := gT_m (List.mem_of_getElem? (i := 647) (by decide +kernel)) (by decide +kernel)
theorem d_Row_strokeOf_13 : decode b_Row_strokeOf 13 = .ok (.invokevirtual 133, 3) := by decide +kernel
theorem d_Row_strokeOf_16 : decode b_Row_strokeOf 16 = .ok (.ireturn, 1) := by decide +kernel
theorem d_Row_checkGang_0 : decode b_Row_checkGang 0 = .ok (.aload_n 0, 1) := by decide +kernel
theorem d_Row_checkGang_1 : decode b_Row_checkGang 1 = .ok (.getfield 25, 3) := by decide +kernel
theorem wm_576 : Cond.code ⟨"ThresholdRow$Gang", "count", "()I"⟩ prog_4_method_2_code 1 (some .int) ∈ gT := gT_m (List.mem_of_getElem? (i := 576) (by decide +kernel)) (by decide +kernel)
theorem wm_573 : Cond.methodLink "ThresholdRow" 113 ⟨"ThresholdRow$Gang", "count", "()I"⟩ ∈ gT := gT_m (List.mem_of_getElem? (i := 573) (by decide +kernel)) (by decide +kernel)
theorem d_Row_checkGang_4 : decode b_Row_checkGang 4 = .ok (.invokevirtual 113, 3) := by decide +kernel
theorem wm_574 : Cond.instanceMethod ⟨"ThresholdRow$Gang", "count", "()I"⟩ ∈ gT := gT_m (List.mem_of_getElem? (i := 574) (by decide +kernel)) (by decide +kernel)
theorem wm_575 : Cond.selects "ThresholdRow$Gang" ⟨"ThresholdRow$Gang", "count", "()I"⟩ ⟨"ThresholdRow$Gang", "count", "()I"⟩ ∈ gT := gT_m (List.mem_of_getElem? (i := 575) (by decide +kernel)) (by decide +kernel)
theorem d_Row_checkGang_7 : decode b_Row_checkGang 7 = .ok (.iconst 2, 1) := by decide +kernel
theorem d_Row_checkGang_8 : decode b_Row_checkGang 8 = .ok (.if_icmp .ge 14, 3) := by decide +kernel
theorem d_Row_checkGang_22 : decode b_Row_checkGang 22 = .ok (.return_, 1) := by decide +kernel
theorem d_Row_checkGang_11 : decode b_Row_checkGang 11 = .ok (.new 108, 3) := by decide +kernel
theorem d_Row_checkGang_14 : decode b_Row_checkGang 14 = .ok (.dup, 1) := by decide +kernel
theorem d_Row_checkGang_15 : decode b_Row_checkGang 15 = .ok (.ldc_w 381, 3) := by decide +kernel
theorem d_Row_checkGang_18 : decode b_Row_checkGang 18 = .ok (.invokespecial 112, 3) := by decide +kernel
theorem d_Row_checkGang_21 : decode b_Row_checkGang 21 = .ok (.athrow, 1) := by decide +kernel
theorem wm_557 : Cond.classLink "ThresholdRow" 108 "java/lang/UnsupportedOperationException" ∈ gT := gT_m (List.mem_of_getElem? (i := 557) (by decide +kernel)) (by decide +kernel)
theorem wm_46 : Cond.initialized "java/lang/UnsupportedOperationException" ∈ gT := gT_m (List.mem_of_getElem? (i := 46) (by decide +kernel)) (by decide +kernel)
theorem d_Row_stand_0 : decode b_Row_stand 0 = .ok (.aload_n 0, 1) := by decide +kernel
theorem d_Row_stand_1 : decode b_Row_stand 1 = .ok (.iload_n 1, 1) := by decide +kernel
theorem d_Row_stand_2 : decode b_Row_stand 2 = .ok (.invokevirtual 97, 3) := by decide +kernel
theorem d_Row_stand_5 : decode b_Row_stand 5 = .ok (.astore_n 2, 1) := by decide +kernel
theorem d_Row_stand_6 : decode b_Row_stand 6 = .ok (.aload_n 0, 1) := by decide +kernel
theorem d_Row_stand_7 : decode b_Row_stand 7 = .ok (.getfield 25, 3) := by decide +kernel
theorem d_Row_stand_10 : decode b_Row_stand 10 = .ok (.aload_n 2, 1) := by decide +kernel
theorem d_Row_stand_11 : decode b_Row_stand 11 = .ok (.invokevirtual 101, 3) := by decide +kernel
theorem d_Row_stand_14 : decode b_Row_stand 14 = .ok (.ifCond .ge 10, 3) := by decide +kernel
theorem d_Row_stand_17 : decode b_Row_stand 17 = .ok (.aload_n 2, 1) := by decide +kernel
theorem d_Row_stand_18 : decode b_Row_stand 18 = .ok (.getfield 105, 3) := by decide +kernel
theorem d_Row_stand_21 : decode b_Row_stand 21 = .ok (.ifCond .le 13, 3) := by decide +kernel
theorem d_Row_stand_34 : decode b_Row_stand 34 = .ok (.aload_n 0, 1) := by decide +kernel
theorem d_Row_stand_35 : decode b_Row_stand 35 = .ok (.getfield 25, 3) := by decide +kernel
theorem d_Row_stand_38 : decode b_Row_stand 38 = .ok (.invokevirtual 113, 3) := by decide +kernel
theorem d_Row_stand_41 : decode b_Row_stand 41 = .ok (.iconst 5, 1) := by decide +kernel
theorem d_Row_stand_42 : decode b_Row_stand 42 = .ok (.if_icmp .lt 13, 3) := by decide +kernel
theorem d_Row_stand_55 : decode b_Row_stand 55 = .ok (.aload_n 0, 1) := by decide +kernel
theorem d_Row_stand_56 : decode b_Row_stand 56 = .ok (.getfield 25, 3) := by decide +kernel
theorem d_Row_stand_59 : decode b_Row_stand 59 = .ok (.aload_n 2, 1) := by decide +kernel
theorem wm_581 : Cond.code ⟨"ThresholdRow$Gang", "takeIn", "(LThresholdRow$Hand;)V"⟩ prog_4_method_4_code 2 none ∈ gT := gT_m (List.mem_of_getElem? (i := 581) (by decide +kernel)) (by decide +kernel)
theorem wm_578 : Cond.methodLink "ThresholdRow" 118 ⟨"ThresholdRow$Gang", "takeIn", "(LThresholdRow$Hand;)V"⟩ ∈ gT := gT_m (List.mem_of_getElem? (i := 578) (by decide +kernel)) (by decide +kernel)
theorem d_Row_stand_60 : decode b_Row_stand 60 = .ok (.invokevirtual 118, 3) := by decide +kernel
theorem wm_579 : Cond.instanceMethod ⟨"ThresholdRow$Gang", "takeIn", "(LThresholdRow$Hand;)V"⟩ ∈ gT := gT_m (List.mem_of_getElem? (i := 579) (by decide +kernel)) (by decide +kernel)
theorem wm_580 : Cond.selects "ThresholdRow$Gang" ⟨"ThresholdRow$Gang", "takeIn", "(LThresholdRow$Hand;)V"⟩ ⟨"ThresholdRow$Gang", "takeIn", "(LThresholdRow$Hand;)V"⟩ ∈ gT := gT_m (List.mem_of_getElem? (i := 580) (by decide +kernel)) (by decide +kernel)
theorem d_Row_stand_63 : decode b_Row_stand 63 = .ok (.aload_n 0, 1) := by decide +kernel
theorem d_Row_stand_64 : decode b_Row_stand 64 = .ok (.getfield 25, 3) := by decide +kernel
theorem d_Row_stand_67 : decode b_Row_stand 67 = .ok (.invokevirtual 113, 3) := by decide +kernel
theorem d_Row_stand_70 : decode b_Row_stand 70 = .ok (.ireturn, 1) := by decide +kernel
theorem d_Row_stand_24 : decode b_Row_stand 24 = .ok (.new 108, 3) := by decide +kernel
theorem d_Row_stand_27 : decode b_Row_stand 27 = .ok (.dup, 1) := by decide +kernel
theorem d_Row_stand_28 : decode b_Row_stand 28 = .ok (.ldc 110, 2) := by decide +kernel
theorem d_Row_stand_30 : decode b_Row_stand 30 = .ok (.invokespecial 112, 3) := by decide +kernel
theorem d_Row_stand_33 : decode b_Row_stand 33 = .ok (.athrow, 1) := by decide +kernel
theorem d_Row_stand_45 : decode b_Row_stand 45 = .ok (.new 85, 3) := by decide +kernel
theorem d_Row_stand_48 : decode b_Row_stand 48 = .ok (.dup, 1) := by decide +kernel
theorem d_Row_stand_49 : decode b_Row_stand 49 = .ok (.ldc 116, 2) := by decide +kernel
theorem d_Row_stand_51 : decode b_Row_stand 51 = .ok (.invokespecial 89, 3) := by decide +kernel
theorem d_Row_stand_54 : decode b_Row_stand 54 = .ok (.athrow, 1) := by decide +kernel
theorem wm_442 : Cond.classLink "ThresholdRow" 85 "java/lang/IllegalStateException" ∈ gT := gT_m (List.mem_of_getElem? (i := 442) (by decide +kernel)) (by decide +kernel)
theorem wm_39 : Cond.initialized "java/lang/IllegalStateException" ∈ gT := gT_m (List.mem_of_getElem? (i := 39) (by decide +kernel)) (by decide +kernel)
theorem d_Row_leave_0 : decode b_Row_leave 0 = .ok (.aload_n 0, 1) := by decide +kernel
theorem d_Row_leave_1 : decode b_Row_leave 1 = .ok (.iload_n 1, 1) := by decide +kernel
theorem d_Row_leave_2 : decode b_Row_leave 2 = .ok (.invokevirtual 97, 3) := by decide +kernel
theorem d_Row_leave_5 : decode b_Row_leave 5 = .ok (.astore_n 2, 1) := by decide +kernel
theorem d_Row_leave_6 : decode b_Row_leave 6 = .ok (.aload_n 0, 1) := by decide +kernel
theorem d_Row_leave_7 : decode b_Row_leave 7 = .ok (.getfield 25, 3) := by decide +kernel
theorem d_Row_leave_10 : decode b_Row_leave 10 = .ok (.aload_n 2, 1) := by decide +kernel
theorem d_Row_leave_11 : decode b_Row_leave 11 = .ok (.invokevirtual 101, 3) := by decide +kernel
theorem d_Row_leave_14 : decode b_Row_leave 14 = .ok (.ifCond .ge 13, 3) := by decide +kernel
theorem d_Row_leave_27 : decode b_Row_leave 27 = .ok (.aload_n 0, 1) := by decide +kernel
theorem d_Row_leave_28 : decode b_Row_leave 28 = .ok (.getfield 25, 3) := by decide +kernel
theorem d_Row_leave_31 : decode b_Row_leave 31 = .ok (.aload_n 2, 1) := by decide +kernel
theorem wm_592 : Cond.methodLink "ThresholdRow" 124 ⟨"ThresholdRow$Gang", "letGo", "(LThresholdRow$Hand;)V"⟩ ∈ gT := gT_m (List.mem_of_getElem? (i := 592) (by decide +kernel)) (by decide +kernel)
theorem d_Row_leave_32 : decode b_Row_leave 32 = .ok (.invokevirtual 124, 3) := by decide +kernel
theorem d_Row_leave_35 : decode b_Row_leave 35 = .ok (.aload_n 0, 1) := by decide +kernel
theorem d_Row_leave_36 : decode b_Row_leave 36 = .ok (.getfield 25, 3) := by decide +kernel
theorem d_Row_leave_39 : decode b_Row_leave 39 = .ok (.invokevirtual 113, 3) := by decide +kernel
theorem d_Row_leave_42 : decode b_Row_leave 42 = .ok (.ireturn, 1) := by decide +kernel
theorem d_Row_leave_17 : decode b_Row_leave 17 = .ok (.new 108, 3) := by decide +kernel
theorem d_Row_leave_20 : decode b_Row_leave 20 = .ok (.dup, 1) := by decide +kernel
theorem d_Row_leave_21 : decode b_Row_leave 21 = .ok (.ldc 122, 2) := by decide +kernel
theorem d_Row_leave_23 : decode b_Row_leave 23 = .ok (.invokespecial 112, 3) := by decide +kernel
theorem d_Row_leave_26 : decode b_Row_leave 26 = .ok (.athrow, 1) := by decide +kernel
set_option maxHeartbeats 4000000 in
set_option maxRecDepth 100000 in
theorem c_Row_handAt (l : Launch) (E : Nat) (D : va_G) (cI cO cZ : ClassId) (z0 : Nat) (M : gM) {o n : Nat} {day : Int32} {S : gS} {Z ad bn : Nat → Nat} (hf : gw_fa z0 cO M o n day S Z ad bn) {i : Nat} (hi : i < n) : Met l y_Row_handAt (Cond.code y_Row_handAt b_Row_handAt 2 (some (.object "ThresholdRow$Hand")) :: gT) ({ frames := 3, cells := 0, slots := 0, locals := 64 }) (gw_Pc E D cI cO cZ z0 M [.ref o, .int (nI i)]) (gw_Qq E D (fun r M' => r = some (ad i) ∧ M' = M)) 0 0 (gw_A E) := by
  refine gw_ofW (cc := b_Row_handAt) (maxL := 2) (ret := (some (.object "ThresholdRow$Hand"))) (by decide) rfl (Nat.le_of_ble_eq_true rfl) ?_
  intro p e s m args below meth c hx hb hr hml hts hown hlk hnm hF hG ls hl
  have hT : ∀ w ∈ gT, w.before args s = true := fun w h => hts w (List.mem_cons_of_mem _ h)
  have hK := hF.1
  have hl : lv_has ls 2 [(0, .ref o), (1, .int (nI i))] := hl
  obtain ⟨hro, hLh, hLl, hLb, hbn, hgg, hLg, hdr, hlg, hhd, had, hord, hoi, hne, har⟩ := id hf
  obtain ⟨kh, hhl, h10, -⟩ := id hLh
  have hz0 := gw_z0 hF hG
  refine lv_iload_n hx hb d_Row_handAt_0 rfl (lv_at hl 1 rfl) ?_
  refine lv_if_lt (tgt := 15) hx hb d_Row_handAt_1 (by decide) (fun z_ => absurd z_ (nI_pos (by omega))) (fun c_1 => ?_)
  refine lv_iload_n hx hb d_Row_handAt_4 rfl (lv_at hl 1 rfl) ?_
  refine lv_aload_n hx hb d_Row_handAt_5 rfl (lv_at hl 0 rfl) ?_
  refine gw_get hx hb hT i_Row hown hK hG hro rfl 0 (by decide) (hT _ wm_236) (fun _ h => h) rfl d_Row_handAt_6 ?_
  refine gw_calli (gw_runV (As := []) (rest := [.int (nI i)]) ⟨hx, hb, hml, hown, hts⟩ (c_L_size l E D cI cO cZ z0 M hLh) (gw_cwV 0 hts (gT_gi wm_286) rfl rfl rfl (hT _ wm_26) (hT _ wm_283) (hT _ wm_284) (hT _ wm_285) (by decide +kernel) ⟨Nat.le_of_ble_eq_true rfl, Nat.le_of_ble_eq_true rfl⟩) hF hG rfl hhl rfl hl.1 rfl (Nat.le_of_ble_eq_true rfl) d_Row_handAt_9 ⟨Nat.le_of_ble_eq_true rfl, Nat.le_of_ble_eq_true rfl⟩) hG (fun r M1 H locs hp hG => ?_)
  rw [hp.1]
  replace hG := gw_nm hp.2.symm hG
  refine lv_icmp_lt (tgt := 26) hx hb d_Row_handAt_12 (by decide) (fun c_12 => ?_) (fun z_ => absurd (nI_lt hi (by omega)) z_)
  refine lv_aload_n hx hb d_Row_handAt_26 rfl (lv_at hl 0 rfl) ?_
  refine gw_get hx hb hT i_Row hown hK hG hro rfl 0 (by decide) (hT _ wm_236) (fun _ h => h) rfl d_Row_handAt_27 ?_
  refine lv_iload_n hx hb d_Row_handAt_30 rfl (lv_at hl 1 rfl) ?_
  refine gw_callq (gw_runV (As := [.int (nI i)]) (rest := []) ⟨hx, hb, hml, hown, hts⟩ (c_L_get l E D cI cO cZ z0 M hLh hi) (gw_cwV 1 hts (gT_gi wm_362) rfl rfl rfl (hT _ wm_26) (hT _ wm_359) (hT _ wm_360) (hT _ wm_361) (by decide +kernel) ⟨Nat.le_of_ble_eq_true rfl, Nat.le_of_ble_eq_true rfl⟩) hF hG rfl hhl rfl hl.1 rfl (Nat.le_of_ble_eq_true rfl) d_Row_handAt_31 ⟨Nat.le_of_ble_eq_true rfl, Nat.le_of_ble_eq_true rfl⟩) hG (fun r M2 H locs hp hG => ?_)
  rw [hp.1]
  replace hG := gw_nm hp.2.symm hG
  have hhi := hhd i hi
  refine gw_cast (ci := 6) (r := (R_Hand, F_Hand, 10)) hx hb hown (hT _ wm_373) hF hG rfl hhi d_Row_handAt_34 ?_
  exact gw_aret hx hb hr (Or.inl ⟨_, rfl⟩) hlk hG (⟨rfl, rfl⟩) (Nat.le_of_ble_eq_true rfl) (Nat.le_of_ble_eq_true rfl) d_Row_handAt_37
set_option maxHeartbeats 4000000 in
set_option maxRecDepth 100000 in
theorem c_Row_handAt_x (l : Launch) (E : Nat) (D : va_G) (cI cO cZ : ClassId) (z0 : Nat) (M : gM) (hst : l.stackTraces = false) {o n : Nat} {day : Int32} {S : gS} {Z ad bn : Nat → Nat} (hf : gw_fa z0 cO M o n day S Z ad bn) {i : Nat} (hi : n ≤ i) (hi2 : i < 2 ^ 31) : vx_Met l y_Row_handAt (Cond.code y_Row_handAt b_Row_handAt 2 (some (.object "ThresholdRow$Hand")) :: gT) ({ frames := 6, cells := 1, slots := 6, locals := 82 }) (gw_Pc E D cI cO cZ z0 M [.ref o, .int (nI i)]) (gw_Qq E D (fun _ _ => False)) (gw_XC E D "java/lang/IndexOutOfBoundsException" M) 1 6 (gw_A E) := by
  refine gw_ofX (cc := b_Row_handAt) (maxL := 2) (ret := (some (.object "ThresholdRow$Hand"))) (by decide) rfl (Nat.le_of_ble_eq_true rfl) ?_
  intro p e s m args below meth c hx hb hr hml hts hown hlk hnt hF hG ls hl
  have hT : ∀ w ∈ gT, w.before args s = true := fun w h => hts w (List.mem_cons_of_mem _ h)
  have hK := hF.1
  have hl : lv_has ls 2 [(0, .ref o), (1, .int (nI i))] := hl
  obtain ⟨hro, hLh, hLl, hLb, hbn, hgg, hLg, hdr, hlg, hhd, had, hord, hoi, hne, har⟩ := id hf
  obtain ⟨kh, hhl, h10, -⟩ := id hLh
  have hz0 := gw_z0 hF hG
  refine lv_iload_n hx hb d_Row_handAt_0 rfl (lv_at hl 1 rfl) ?_
  refine lv_if_lt (tgt := 15) hx hb d_Row_handAt_1 (by decide) (fun z_ => absurd z_ (nI_pos (by omega))) (fun c_1 => ?_)
  refine lv_iload_n hx hb d_Row_handAt_4 rfl (lv_at hl 1 rfl) ?_
  refine lv_aload_n hx hb d_Row_handAt_5 rfl (lv_at hl 0 rfl) ?_
  refine gw_get hx hb hT i_Row hown hK hG hro rfl 0 (by decide) (hT _ wm_236) (fun _ h => h) rfl d_Row_handAt_6 ?_
  refine gw_calli (gw_runV (As := []) (rest := [.int (nI i)]) ⟨hx, hb, hml, hown, hts⟩ (c_L_size l E D cI cO cZ z0 M hLh) (gw_cwV 0 hts (gT_gi wm_286) rfl rfl rfl (hT _ wm_26) (hT _ wm_283) (hT _ wm_284) (hT _ wm_285) (by decide +kernel) ⟨Nat.le_of_ble_eq_true rfl, Nat.le_of_ble_eq_true rfl⟩) hF hG rfl hhl rfl hl.1 rfl (Nat.le_of_ble_eq_true rfl) d_Row_handAt_9 ⟨Nat.le_of_ble_eq_true rfl, Nat.le_of_ble_eq_true rfl⟩) hG (fun r M1 H locs hp hG => ?_)
  rw [hp.1]
  replace hG := gw_nm hp.2.symm hG
  refine lv_icmp_lt (tgt := 26) hx hb d_Row_handAt_12 (by decide) (fun z_ => absurd z_ (nI_nlt hi (by omega))) (fun c_12 => ?_)
  exact gw_thrSW (cls := "java/lang/IndexOutOfBoundsException") (text := "no such hand") hx hb hst hown (by decide) (hT _ wm_540) (hT _ wm_41) (by decide) hT (by decide +kernel) (by decide +kernel) hF hG (hl.1.trans hml.symm) d_Row_handAt_15 d_Row_handAt_18 d_Row_handAt_19 d_Row_handAt_22 d_Row_handAt_25 hnt (Nat.le_of_ble_eq_true rfl) (Nat.le_of_ble_eq_true rfl) (Nat.le_of_ble_eq_true rfl) (Nat.le_of_ble_eq_true rfl) hlk (Nat.le_of_ble_eq_true rfl) (Nat.le_of_ble_eq_true rfl)
set_option maxHeartbeats 4000000 in
set_option maxRecDepth 100000 in
theorem c_Row_fatigue (l : Launch) (E : Nat) (D : va_G) (cI cO cZ : ClassId) (z0 : Nat) (M : gM) {o n : Nat} {day : Int32} {S : gS} {Z ad bn : Nat → Nat} (hf : gw_fa z0 cO M o n day S Z ad bn) {i : Nat} (hi : i < n) : Met l y_Row_fatigue (Cond.code y_Row_fatigue b_Row_fatigue 2 (some .int) :: gT) ({ frames := 4, cells := 0, slots := 0, locals := 85 }) (gw_Pc E D cI cO cZ z0 M [.ref o, .int (nI i)]) (gw_Qi E D (fun r M' => r = (S.2.2 i).2.2.1 ∧ M' = M)) 0 0 (gw_A E) := by
  refine gw_ofW (cc := b_Row_fatigue) (maxL := 2) (ret := (some .int)) (by decide) rfl (Nat.le_of_ble_eq_true rfl) ?_
  intro p e s m args below meth c hx hb hr hml hts hown hlk hnm hF hG ls hl
  have hT : ∀ w ∈ gT, w.before args s = true := fun w h => hts w (List.mem_cons_of_mem _ h)
  have hK := hF.1
  have hl : lv_has ls 2 [(0, .ref o), (1, .int (nI i))] := hl
  obtain ⟨hro, hLh, hLl, hLb, hbn, hgg, hLg, hdr, hlg, hhd, had, hord, hoi, hne, har⟩ := id hf
  obtain ⟨kh, hhl, h10, -⟩ := id hLh
  have hz0 := gw_z0 hF hG
  refine lv_aload_n hx hb d_Row_fatigue_0 rfl (lv_at hl 0 rfl) ?_
  refine lv_iload_n hx hb d_Row_fatigue_1 rfl (lv_at hl 1 rfl) ?_
  refine gw_callq (gw_runV (As := [.int (nI i)]) (rest := []) ⟨hx, hb, hml, hown, hts⟩ (c_Row_handAt l E D cI cO cZ z0 M hf hi) (gw_cwV 1 hts (gT_gi wm_539) rfl rfl rfl (hT _ wm_23) (hT _ wm_536) (hT _ wm_538) (hT _ wm_10) (by decide +kernel) ⟨Nat.le_of_ble_eq_true rfl, Nat.le_of_ble_eq_true rfl⟩) hF hG rfl hro rfl hl.1 rfl (Nat.le_of_ble_eq_true rfl) d_Row_fatigue_2 ⟨Nat.le_of_ble_eq_true rfl, Nat.le_of_ble_eq_true rfl⟩) hG (fun r M1 H locs hp hG => ?_)
  rw [hp.1]
  replace hG := gw_nm hp.2.symm hG
  have hhi := hhd i hi
  refine gw_get hx hb hT i_Hand hown hK hG hhi rfl 2 (by decide) (hT _ wm_467) (fun _ h => h) rfl d_Row_fatigue_5 ?_
  exact gw_iret (v := ((S.2.2 i).2.2.1)) hx hb hr hlk hG (⟨rfl, rfl⟩) (Nat.le_of_ble_eq_true rfl) (Nat.le_of_ble_eq_true rfl) d_Row_fatigue_8
set_option maxHeartbeats 4000000 in
set_option maxRecDepth 100000 in
theorem c_Row_fatigue_x (l : Launch) (E : Nat) (D : va_G) (cI cO cZ : ClassId) (z0 : Nat) (M : gM) (hst : l.stackTraces = false) {o n : Nat} {day : Int32} {S : gS} {Z ad bn : Nat → Nat} (hf : gw_fa z0 cO M o n day S Z ad bn) {i : Nat} (hi : n ≤ i) (hi2 : i < 2 ^ 31) : vx_Met l y_Row_fatigue (Cond.code y_Row_fatigue b_Row_fatigue 2 (some .int) :: gT) ({ frames := 7, cells := 1, slots := 6, locals := 103 }) (gw_Pc E D cI cO cZ z0 M [.ref o, .int (nI i)]) (gw_Qi E D (fun _ _ => False)) (gw_XC E D "java/lang/IndexOutOfBoundsException" M) 1 6 (gw_A E) := by
  refine gw_ofX (cc := b_Row_fatigue) (maxL := 2) (ret := (some .int)) (by decide) rfl (Nat.le_of_ble_eq_true rfl) ?_
  intro p e s m args below meth c hx hb hr hml hts hown hlk hnt hF hG ls hl
  have hT : ∀ w ∈ gT, w.before args s = true := fun w h => hts w (List.mem_cons_of_mem _ h)
  have hK := hF.1
  have hl : lv_has ls 2 [(0, .ref o), (1, .int (nI i))] := hl
  obtain ⟨hro, hLh, hLl, hLb, hbn, hgg, hLg, hdr, hlg, hhd, had, hord, hoi, hne, har⟩ := id hf
  obtain ⟨kh, hhl, h10, -⟩ := id hLh
  have hz0 := gw_z0 hF hG
  refine lv_aload_n hx hb d_Row_fatigue_0 rfl (lv_at hl 0 rfl) ?_
  refine lv_iload_n hx hb d_Row_fatigue_1 rfl (lv_at hl 1 rfl) ?_
  refine gw_xcallq (cls := "java/lang/IndexOutOfBoundsException") (gw_xrunV (As := [.int (nI i)]) (rest := []) ⟨hx, hb, hml, hown, hts⟩ (c_Row_handAt_x l E D cI cO cZ z0 M hst hf hi hi2) (gw_cwV 1 hts (gT_gi wm_539) rfl rfl rfl (hT _ wm_23) (hT _ wm_536) (hT _ wm_538) (hT _ wm_10) (by decide +kernel) ⟨Nat.le_of_ble_eq_true rfl, Nat.le_of_ble_eq_true rfl⟩) hF hG rfl hro rfl hl.1 rfl (Nat.le_of_ble_eq_true rfl) d_Row_fatigue_2 ⟨Nat.le_of_ble_eq_true rfl, Nat.le_of_ble_eq_true rfl⟩) hG (fun ce q H locs hG hq1 hq2 hq3 => ?_)
  exact gw_xout hnt hlk hG hq1 hq2 hq3 (Nat.le_of_ble_eq_true rfl) (Nat.le_of_ble_eq_true rfl)
set_option maxHeartbeats 4000000 in
set_option maxRecDepth 100000 in
theorem c_Row_hurt (l : Launch) (E : Nat) (D : va_G) (cI cO cZ : ClassId) (z0 : Nat) (M : gM) {o n : Nat} {day : Int32} {S : gS} {Z ad bn : Nat → Nat} (hf : gw_fa z0 cO M o n day S Z ad bn) {i : Nat} (hi : i < n) : Met l y_Row_hurt (Cond.code y_Row_hurt b_Row_hurt 2 (some .int) :: gT) ({ frames := 4, cells := 0, slots := 0, locals := 85 }) (gw_Pc E D cI cO cZ z0 M [.ref o, .int (nI i)]) (gw_Qi E D (fun r M' => r = (S.2.2 i).2.2.2.1 ∧ M' = M)) 0 0 (gw_A E) := by
  refine gw_ofW (cc := b_Row_hurt) (maxL := 2) (ret := (some .int)) (by decide) rfl (Nat.le_of_ble_eq_true rfl) ?_
  intro p e s m args below meth c hx hb hr hml hts hown hlk hnm hF hG ls hl
  have hT : ∀ w ∈ gT, w.before args s = true := fun w h => hts w (List.mem_cons_of_mem _ h)
  have hK := hF.1
  have hl : lv_has ls 2 [(0, .ref o), (1, .int (nI i))] := hl
  obtain ⟨hro, hLh, hLl, hLb, hbn, hgg, hLg, hdr, hlg, hhd, had, hord, hoi, hne, har⟩ := id hf
  obtain ⟨kh, hhl, h10, -⟩ := id hLh
  have hz0 := gw_z0 hF hG
  refine lv_aload_n hx hb d_Row_hurt_0 rfl (lv_at hl 0 rfl) ?_
  refine lv_iload_n hx hb d_Row_hurt_1 rfl (lv_at hl 1 rfl) ?_
  refine gw_callq (gw_runV (As := [.int (nI i)]) (rest := []) ⟨hx, hb, hml, hown, hts⟩ (c_Row_handAt l E D cI cO cZ z0 M hf hi) (gw_cwV 1 hts (gT_gi wm_539) rfl rfl rfl (hT _ wm_23) (hT _ wm_536) (hT _ wm_538) (hT _ wm_10) (by decide +kernel) ⟨Nat.le_of_ble_eq_true rfl, Nat.le_of_ble_eq_true rfl⟩) hF hG rfl hro rfl hl.1 rfl (Nat.le_of_ble_eq_true rfl) d_Row_hurt_2 ⟨Nat.le_of_ble_eq_true rfl, Nat.le_of_ble_eq_true rfl⟩) hG (fun r M1 H locs hp hG => ?_)
  rw [hp.1]
  replace hG := gw_nm hp.2.symm hG
  have hhi := hhd i hi
  refine gw_get hx hb hT i_Hand hown hK hG hhi rfl 3 (by decide) (hT _ wm_469) (fun _ h => h) rfl d_Row_hurt_5 ?_
  exact gw_iret (v := ((S.2.2 i).2.2.2.1)) hx hb hr hlk hG (⟨rfl, rfl⟩) (Nat.le_of_ble_eq_true rfl) (Nat.le_of_ble_eq_true rfl) d_Row_hurt_8
set_option maxHeartbeats 4000000 in
set_option maxRecDepth 100000 in
theorem c_Row_lost (l : Launch) (E : Nat) (D : va_G) (cI cO cZ : ClassId) (z0 : Nat) (M : gM) {o n : Nat} {day : Int32} {S : gS} {Z ad bn : Nat → Nat} (hf : gw_fa z0 cO M o n day S Z ad bn) {i : Nat} (hi : i < n) : Met l y_Row_lost (Cond.code y_Row_lost b_Row_lost 2 (some .int) :: gT) ({ frames := 4, cells := 0, slots := 0, locals := 85 }) (gw_Pc E D cI cO cZ z0 M [.ref o, .int (nI i)]) (gw_Qi E D (fun r M' => r = (S.2.2 i).2.2.2.2.1 ∧ M' = M)) 0 0 (gw_A E) := by
  refine gw_ofW (cc := b_Row_lost) (maxL := 2) (ret := (some .int)) (by decide) rfl (Nat.le_of_ble_eq_true rfl) ?_
  intro p e s m args below meth c hx hb hr hml hts hown hlk hnm hF hG ls hl
  have hT : ∀ w ∈ gT, w.before args s = true := fun w h => hts w (List.mem_cons_of_mem _ h)
  have hK := hF.1
  have hl : lv_has ls 2 [(0, .ref o), (1, .int (nI i))] := hl
  obtain ⟨hro, hLh, hLl, hLb, hbn, hgg, hLg, hdr, hlg, hhd, had, hord, hoi, hne, har⟩ := id hf
  obtain ⟨kh, hhl, h10, -⟩ := id hLh
  have hz0 := gw_z0 hF hG
  refine lv_aload_n hx hb d_Row_lost_0 rfl (lv_at hl 0 rfl) ?_
  refine lv_iload_n hx hb d_Row_lost_1 rfl (lv_at hl 1 rfl) ?_
  refine gw_callq (gw_runV (As := [.int (nI i)]) (rest := []) ⟨hx, hb, hml, hown, hts⟩ (c_Row_handAt l E D cI cO cZ z0 M hf hi) (gw_cwV 1 hts (gT_gi wm_539) rfl rfl rfl (hT _ wm_23) (hT _ wm_536) (hT _ wm_538) (hT _ wm_10) (by decide +kernel) ⟨Nat.le_of_ble_eq_true rfl, Nat.le_of_ble_eq_true rfl⟩) hF hG rfl hro rfl hl.1 rfl (Nat.le_of_ble_eq_true rfl) d_Row_lost_2 ⟨Nat.le_of_ble_eq_true rfl, Nat.le_of_ble_eq_true rfl⟩) hG (fun r M1 H locs hp hG => ?_)
  rw [hp.1]
  replace hG := gw_nm hp.2.symm hG
  have hhi := hhd i hi
  refine gw_get hx hb hT i_Hand hown hK hG hhi rfl 4 (by decide) (hT _ wm_473) (fun _ h => h) rfl d_Row_lost_5 ?_
  exact gw_iret (v := ((S.2.2 i).2.2.2.2.1)) hx hb hr hlk hG (⟨rfl, rfl⟩) (Nat.le_of_ble_eq_true rfl) (Nat.le_of_ble_eq_true rfl) d_Row_lost_8
set_option maxHeartbeats 4000000 in
set_option maxRecDepth 100000 in
theorem c_Row_placeOf (l : Launch) (E : Nat) (D : va_G) (cI cO cZ : ClassId) (z0 : Nat) (M : gM) {o n : Nat} {day : Int32} {S : gS} {Z ad bn : Nat → Nat} (hf : gw_fa z0 cO M o n day S Z ad bn) {i J : Nat} (hi : i < n) (hJ1 : J ≤ S.1) (hJ2 : ∀ p, p < J → S.2.1 p ≠ i) (hJ3 : J < S.1 → S.2.1 J = i) : Met l y_Row_placeOf (Cond.code y_Row_placeOf b_Row_placeOf 2 (some .int) :: gT) ({ frames := 4, cells := 0, slots := 0, locals := 86 }) (gw_Pc E D cI cO cZ z0 M [.ref o, .int (nI i)]) (gw_Qi E D (fun r M' => r = (if J < S.1 then nI J else -1) ∧ M' = M)) 0 0 (gw_A E) := by
  refine gw_ofW (cc := b_Row_placeOf) (maxL := 2) (ret := (some .int)) (by decide) rfl (Nat.le_of_ble_eq_true rfl) ?_
  intro p e s m args below meth c hx hb hr hml hts hown hlk hnm hF hG ls hl
  have hT : ∀ w ∈ gT, w.before args s = true := fun w h => hts w (List.mem_cons_of_mem _ h)
  have hK := hF.1
  have hl : lv_has ls 2 [(0, .ref o), (1, .int (nI i))] := hl
  obtain ⟨hro, hLh, hLl, hLb, hbn, hgg, hLg, hdr, hlg, hhd, had, hord, hoi, hne, har⟩ := id hf
  obtain ⟨kh, hhl, h10, -⟩ := id hLh
  have hz0 := gw_z0 hF hG
  refine lv_aload_n hx hb d_Row_placeOf_0 rfl (lv_at hl 0 rfl) ?_
  refine gw_get hx hb hT i_Row hown hK hG hro rfl 3 (by decide) (hT _ wm_239) (fun _ h => h) rfl d_Row_placeOf_1 ?_
  refine lv_aload_n hx hb d_Row_placeOf_4 rfl (lv_at hl 0 rfl) ?_
  refine lv_iload_n hx hb d_Row_placeOf_5 rfl (lv_at hl 1 rfl) ?_
  refine gw_callq (gw_runV (As := [.int (nI i)]) (rest := [.ref (Z 5)]) ⟨hx, hb, hml, hown, hts⟩ (c_Row_handAt l E D cI cO cZ z0 M hf hi) (gw_cwV 1 hts (gT_gi wm_539) rfl rfl rfl (hT _ wm_23) (hT _ wm_536) (hT _ wm_538) (hT _ wm_10) (by decide +kernel) ⟨Nat.le_of_ble_eq_true rfl, Nat.le_of_ble_eq_true rfl⟩) hF hG rfl hro rfl hl.1 rfl (Nat.le_of_ble_eq_true rfl) d_Row_placeOf_6 ⟨Nat.le_of_ble_eq_true rfl, Nat.le_of_ble_eq_true rfl⟩) hG (fun r M1 H locs hp hG => ?_)
  rw [hp.1]
  replace hG := gw_nm hp.2.symm hG
  have hhi := hhd i hi
  refine gw_calli (gw_runV (As := [.ref (ad i)]) (rest := []) ⟨hx, hb, hml, hown, hts⟩ (c_Gang_placeFor l E D cI cO cZ z0 M hf.gg (h := ad i) (J := J) hJ1 (fun p hp z => hJ2 p hp (had _ _ (hord p (by omega)) hi z)) (fun h => congrArg ad (hJ3 h))) (gw_cwV 1 hts (gT_gi wm_556) rfl rfl rfl (hT _ wm_27) (hT _ wm_553) (hT _ wm_554) (hT _ wm_555) (by decide +kernel) ⟨Nat.le_of_ble_eq_true rfl, Nat.le_of_ble_eq_true rfl⟩) hF hG rfl hgg rfl hl.1 rfl (Nat.le_of_ble_eq_true rfl) d_Row_placeOf_9 ⟨Nat.le_of_ble_eq_true rfl, Nat.le_of_ble_eq_true rfl⟩) hG (fun r M2 H locs hp hG => ?_)
  rw [hp.1]
  replace hG := gw_nm hp.2.symm hG
  exact gw_iret (v := (if J < S.1 then nI J else -1)) hx hb hr hlk hG (⟨rfl, rfl⟩) (Nat.le_of_ble_eq_true rfl) (Nat.le_of_ble_eq_true rfl) d_Row_placeOf_12
set_option maxHeartbeats 4000000 in
set_option maxRecDepth 100000 in
theorem c_Row_placeOf_x (l : Launch) (E : Nat) (D : va_G) (cI cO cZ : ClassId) (z0 : Nat) (M : gM) (hst : l.stackTraces = false) {o n : Nat} {day : Int32} {S : gS} {Z ad bn : Nat → Nat} (hf : gw_fa z0 cO M o n day S Z ad bn) {i : Nat} (hi : n ≤ i) (hi2 : i < 2 ^ 31) : vx_Met l y_Row_placeOf (Cond.code y_Row_placeOf b_Row_placeOf 2 (some .int) :: gT) ({ frames := 7, cells := 1, slots := 6, locals := 103 }) (gw_Pc E D cI cO cZ z0 M [.ref o, .int (nI i)]) (gw_Qi E D (fun _ _ => False)) (gw_XC E D "java/lang/IndexOutOfBoundsException" M) 1 6 (gw_A E) := by
  refine gw_ofX (cc := b_Row_placeOf) (maxL := 2) (ret := (some .int)) (by decide) rfl (Nat.le_of_ble_eq_true rfl) ?_
  intro p e s m args below meth c hx hb hr hml hts hown hlk hnt hF hG ls hl
  have hT : ∀ w ∈ gT, w.before args s = true := fun w h => hts w (List.mem_cons_of_mem _ h)
  have hK := hF.1
  have hl : lv_has ls 2 [(0, .ref o), (1, .int (nI i))] := hl
  obtain ⟨hro, hLh, hLl, hLb, hbn, hgg, hLg, hdr, hlg, hhd, had, hord, hoi, hne, har⟩ := id hf
  obtain ⟨kh, hhl, h10, -⟩ := id hLh
  have hz0 := gw_z0 hF hG
  refine lv_aload_n hx hb d_Row_placeOf_0 rfl (lv_at hl 0 rfl) ?_
  refine gw_get hx hb hT i_Row hown hK hG hro rfl 3 (by decide) (hT _ wm_239) (fun _ h => h) rfl d_Row_placeOf_1 ?_
  refine lv_aload_n hx hb d_Row_placeOf_4 rfl (lv_at hl 0 rfl) ?_
  refine lv_iload_n hx hb d_Row_placeOf_5 rfl (lv_at hl 1 rfl) ?_
  refine gw_xcallq (cls := "java/lang/IndexOutOfBoundsException") (gw_xrunV (As := [.int (nI i)]) (rest := [.ref (Z 5)]) ⟨hx, hb, hml, hown, hts⟩ (c_Row_handAt_x l E D cI cO cZ z0 M hst hf hi hi2) (gw_cwV 1 hts (gT_gi wm_539) rfl rfl rfl (hT _ wm_23) (hT _ wm_536) (hT _ wm_538) (hT _ wm_10) (by decide +kernel) ⟨Nat.le_of_ble_eq_true rfl, Nat.le_of_ble_eq_true rfl⟩) hF hG rfl hro rfl hl.1 rfl (Nat.le_of_ble_eq_true rfl) d_Row_placeOf_6 ⟨Nat.le_of_ble_eq_true rfl, Nat.le_of_ble_eq_true rfl⟩) hG (fun ce q H locs hG hq1 hq2 hq3 => ?_)
  exact gw_xout hnt hlk hG hq1 hq2 hq3 (Nat.le_of_ble_eq_true rfl) (Nat.le_of_ble_eq_true rfl)
set_option maxHeartbeats 4000000 in
set_option maxRecDepth 100000 in
theorem c_Row_placeNeeded (l : Launch) (E : Nat) (D : va_G) (cI cO cZ : ClassId) (z0 : Nat) (M : gM) {o n : Nat} {day : Int32} {S : gS} {Z ad bn : Nat → Nat} (hf : gw_fa z0 cO M o n day S Z ad bn) {i J : Nat} (hi : i < n) (hJ1 : J ≤ S.1) (hJ2 : ∀ p, p < J → S.2.1 p ≠ i) (hJ3 : J < S.1 → S.2.1 J = i) (hJ : J < S.1) : Met l y_Row_placeNeeded (Cond.code y_Row_placeNeeded b_Row_placeNeeded 3 (some .int) :: gT) ({ frames := 4, cells := 0, slots := 0, locals := 86 }) (gw_Pc E D cI cO cZ z0 M [.ref o, .ref (ad i)]) (gw_Qi E D (fun r M' => r = nI J ∧ M' = M)) 0 0 (gw_A E) := by
  refine gw_ofW (cc := b_Row_placeNeeded) (maxL := 3) (ret := (some .int)) (by decide) rfl (Nat.le_of_ble_eq_true rfl) ?_
  intro p e s m args below meth c hx hb hr hml hts hown hlk hnm hF hG ls hl
  have hT : ∀ w ∈ gT, w.before args s = true := fun w h => hts w (List.mem_cons_of_mem _ h)
  have hK := hF.1
  have hl : lv_has ls 3 [(0, .ref o), (1, .ref (ad i))] := hl
  obtain ⟨hro, hLh, hLl, hLb, hbn, hgg, hLg, hdr, hlg, hhd, had, hord, hoi, hne, har⟩ := id hf
  obtain ⟨kh, hhl, h10, -⟩ := id hLh
  have hz0 := gw_z0 hF hG
  refine lv_aload_n hx hb d_Row_placeNeeded_0 rfl (lv_at hl 0 rfl) ?_
  refine gw_get hx hb hT i_Row hown hK hG hro rfl 3 (by decide) (hT _ wm_239) (fun _ h => h) rfl d_Row_placeNeeded_1 ?_
  refine lv_aload_n hx hb d_Row_placeNeeded_4 rfl (lv_at hl 1 rfl) ?_
  refine gw_calli (gw_runV (As := [.ref (ad i)]) (rest := []) ⟨hx, hb, hml, hown, hts⟩ (c_Gang_placeFor l E D cI cO cZ z0 M hf.gg (h := ad i) (J := J) hJ1 (fun p hp z => hJ2 p hp (had _ _ (hord p (by omega)) hi z)) (fun h => congrArg ad (hJ3 h))) (gw_cwV 1 hts (gT_gi wm_556) rfl rfl rfl (hT _ wm_27) (hT _ wm_553) (hT _ wm_554) (hT _ wm_555) (by decide +kernel) ⟨Nat.le_of_ble_eq_true rfl, Nat.le_of_ble_eq_true rfl⟩) hF hG rfl hgg rfl hl.1 rfl (Nat.le_of_ble_eq_true rfl) d_Row_placeNeeded_5 ⟨Nat.le_of_ble_eq_true rfl, Nat.le_of_ble_eq_true rfl⟩) hG (fun r M1 H locs hp hG => ?_)
  rw [hp.1]
  replace hG := gw_nm hp.2.symm hG
  rw [if_pos hJ]
  refine lv_istore_n (lv' := [(2, .int (nI J)), (0, .ref o), (1, .ref (ad i))]) hx hb d_Row_placeNeeded_8 rfl hl (by decide) rfl (fun ls hl => ?_)
  refine lv_iload_n hx hb d_Row_placeNeeded_9 rfl (lv_at hl 0 rfl) ?_
  refine lv_if_ge (tgt := 23) hx hb d_Row_placeNeeded_10 (by decide) (fun c_10 => ?_) (fun z_ => absurd (nI_pos' (by have := hLg.choose_spec.2.1; omega)) z_)
  refine lv_iload_n hx hb d_Row_placeNeeded_23 rfl (lv_at hl 0 rfl) ?_
  exact gw_iret (v := (nI J)) hx hb hr hlk hG (⟨rfl, rfl⟩) (Nat.le_of_ble_eq_true rfl) (Nat.le_of_ble_eq_true rfl) d_Row_placeNeeded_24
set_option maxHeartbeats 4000000 in
set_option maxRecDepth 100000 in
theorem c_Row_placeNeeded_x (l : Launch) (E : Nat) (D : va_G) (cI cO cZ : ClassId) (z0 : Nat) (M : gM) (hst : l.stackTraces = false) {o n : Nat} {day : Int32} {S : gS} {Z ad bn : Nat → Nat} (hf : gw_fa z0 cO M o n day S Z ad bn) {i J : Nat} (hi : i < n) (hJ1 : J ≤ S.1) (hJ2 : ∀ p, p < J → S.2.1 p ≠ i) (hJ3 : J < S.1 → S.2.1 J = i) (hJ : ¬ J < S.1) : vx_Met l y_Row_placeNeeded (Cond.code y_Row_placeNeeded b_Row_placeNeeded 3 (some .int) :: gT) ({ frames := 6, cells := 1, slots := 6, locals := 86 }) (gw_Pc E D cI cO cZ z0 M [.ref o, .ref (ad i)]) (gw_Qi E D (fun _ _ => False)) (gw_XC E D "java/util/NoSuchElementException" M) 1 6 (gw_A E) := by
  refine gw_ofX (cc := b_Row_placeNeeded) (maxL := 3) (ret := (some .int)) (by decide) rfl (Nat.le_of_ble_eq_true rfl) ?_
  intro p e s m args below meth c hx hb hr hml hts hown hlk hnt hF hG ls hl
  have hT : ∀ w ∈ gT, w.before args s = true := fun w h => hts w (List.mem_cons_of_mem _ h)
  have hK := hF.1
  have hl : lv_has ls 3 [(0, .ref o), (1, .ref (ad i))] := hl
  obtain ⟨hro, hLh, hLl, hLb, hbn, hgg, hLg, hdr, hlg, hhd, had, hord, hoi, hne, har⟩ := id hf
  obtain ⟨kh, hhl, h10, -⟩ := id hLh
  have hz0 := gw_z0 hF hG
  refine lv_aload_n hx hb d_Row_placeNeeded_0 rfl (lv_at hl 0 rfl) ?_
  refine gw_get hx hb hT i_Row hown hK hG hro rfl 3 (by decide) (hT _ wm_239) (fun _ h => h) rfl d_Row_placeNeeded_1 ?_
  refine lv_aload_n hx hb d_Row_placeNeeded_4 rfl (lv_at hl 1 rfl) ?_
  refine gw_calli (gw_runV (As := [.ref (ad i)]) (rest := []) ⟨hx, hb, hml, hown, hts⟩ (c_Gang_placeFor l E D cI cO cZ z0 M hf.gg (h := ad i) (J := J) hJ1 (fun p hp z => hJ2 p hp (had _ _ (hord p (by omega)) hi z)) (fun h => congrArg ad (hJ3 h))) (gw_cwV 1 hts (gT_gi wm_556) rfl rfl rfl (hT _ wm_27) (hT _ wm_553) (hT _ wm_554) (hT _ wm_555) (by decide +kernel) ⟨Nat.le_of_ble_eq_true rfl, Nat.le_of_ble_eq_true rfl⟩) hF hG rfl hgg rfl hl.1 rfl (Nat.le_of_ble_eq_true rfl) d_Row_placeNeeded_5 ⟨Nat.le_of_ble_eq_true rfl, Nat.le_of_ble_eq_true rfl⟩) hG (fun r M1 H locs hp hG => ?_)
  rw [hp.1]
  replace hG := gw_nm hp.2.symm hG
  rw [if_neg hJ]
  refine lv_istore_n (lv' := [(2, .int (-1)), (0, .ref o), (1, .ref (ad i))]) hx hb d_Row_placeNeeded_8 rfl hl (by decide) rfl (fun ls hl => ?_)
  refine lv_iload_n hx hb d_Row_placeNeeded_9 rfl (lv_at hl 0 rfl) ?_
  refine lv_if_ge (tgt := 23) hx hb d_Row_placeNeeded_10 (by decide) (fun z_ => absurd z_ (by decide)) (fun c_10 => ?_)
  exact gw_thrN (cls := "java/util/NoSuchElementException") (text := "the hand does not stand in the gang") hx hb hst hown (by decide) (hT _ wm_625) (hT _ wm_47) (by decide) hT (by decide +kernel) (by decide +kernel) hF hG (hl.1.trans hml.symm) d_Row_placeNeeded_13 d_Row_placeNeeded_16 d_Row_placeNeeded_17 d_Row_placeNeeded_19 d_Row_placeNeeded_22 hnt (Nat.le_of_ble_eq_true rfl) (Nat.le_of_ble_eq_true rfl) (Nat.le_of_ble_eq_true rfl) (Nat.le_of_ble_eq_true rfl) hlk (Nat.le_of_ble_eq_true rfl) (Nat.le_of_ble_eq_true rfl)
set_option maxHeartbeats 4000000 in
set_option maxRecDepth 100000 in
theorem c_Row_errorOf (l : Launch) (E : Nat) (D : va_G) (cI cO cZ : ClassId) (z0 : Nat) (M : gM) {o n : Nat} {day : Int32} {S : gS} {Z ad bn : Nat → Nat} (hf : gw_fa z0 cO M o n day S Z ad bn) {i J : Nat} (hi : i < n) (hJ1 : J ≤ S.1) (hJ2 : ∀ p, p < J → S.2.1 p ≠ i) (hJ3 : J < S.1 → S.2.1 J = i) (hJ : J < S.1) : Met l y_Row_errorOf (Cond.code y_Row_errorOf b_Row_errorOf 3 (some .int) :: gT) ({ frames := 5, cells := 0, slots := 0, locals := 108 }) (gw_Pc E D cI cO cZ z0 M [.ref o, .int (nI i)]) (gw_Qi E D (fun r M' => r = (S.2.2 i).2.2.2.2.2 ∧ M' = M)) 0 0 (gw_A E) := by
  refine gw_ofW (cc := b_Row_errorOf) (maxL := 3) (ret := (some .int)) (by decide) rfl (Nat.le_of_ble_eq_true rfl) ?_
  intro p e s m args below meth c hx hb hr hml hts hown hlk hnm hF hG ls hl
  have hT : ∀ w ∈ gT, w.before args s = true := fun w h => hts w (List.mem_cons_of_mem _ h)
  have hK := hF.1
  have hl : lv_has ls 3 [(0, .ref o), (1, .int (nI i))] := hl
  obtain ⟨hro, hLh, hLl, hLb, hbn, hgg, hLg, hdr, hlg, hhd, had, hord, hoi, hne, har⟩ := id hf
  obtain ⟨kh, hhl, h10, -⟩ := id hLh
  have hz0 := gw_z0 hF hG
  refine lv_aload_n hx hb d_Row_errorOf_0 rfl (lv_at hl 0 rfl) ?_
  refine lv_iload_n hx hb d_Row_errorOf_1 rfl (lv_at hl 1 rfl) ?_
  refine gw_callq (gw_runV (As := [.int (nI i)]) (rest := []) ⟨hx, hb, hml, hown, hts⟩ (c_Row_handAt l E D cI cO cZ z0 M hf hi) (gw_cwV 1 hts (gT_gi wm_539) rfl rfl rfl (hT _ wm_23) (hT _ wm_536) (hT _ wm_538) (hT _ wm_10) (by decide +kernel) ⟨Nat.le_of_ble_eq_true rfl, Nat.le_of_ble_eq_true rfl⟩) hF hG rfl hro rfl hl.1 rfl (Nat.le_of_ble_eq_true rfl) d_Row_errorOf_2 ⟨Nat.le_of_ble_eq_true rfl, Nat.le_of_ble_eq_true rfl⟩) hG (fun r M1 H locs hp hG => ?_)
  rw [hp.1]
  replace hG := gw_nm hp.2.symm hG
  have hhi := hhd i hi
  refine lv_astore_n (lv' := [(2, .ref (ad i)), (0, .ref o), (1, .int (nI i))]) hx hb d_Row_errorOf_5 rfl hl (by decide) rfl (fun ls hl => ?_)
  refine lv_aload_n hx hb d_Row_errorOf_6 rfl (lv_at hl 1 rfl) ?_
  refine lv_aload_n hx hb d_Row_errorOf_7 rfl (lv_at hl 0 rfl) ?_
  refine gw_calli (gw_runV (As := [.ref (ad i)]) (rest := []) ⟨hx, hb, hml, hown, hts⟩ (c_Row_placeNeeded l E D cI cO cZ z0 M hf hi hJ1 hJ2 hJ3 hJ) (gw_cwV 1 hts (gT_gi wm_624) rfl rfl rfl (hT _ wm_23) (hT _ wm_621) (hT _ wm_623) (hT _ wm_12) (by decide +kernel) ⟨Nat.le_of_ble_eq_true rfl, Nat.le_of_ble_eq_true rfl⟩) hF hG rfl hro rfl hl.1 rfl (Nat.le_of_ble_eq_true rfl) d_Row_errorOf_8 ⟨Nat.le_of_ble_eq_true rfl, Nat.le_of_ble_eq_true rfl⟩) hG (fun r M2 H locs hp hG => ?_)
  rw [hp.1]
  replace hG := gw_nm hp.2.symm hG
  refine lv_pop hx hb d_Row_errorOf_11 rfl ?_
  refine lv_aload_n hx hb d_Row_errorOf_12 rfl (lv_at hl 0 rfl) ?_
  refine gw_get hx hb hT i_Hand hown hK hG hhi rfl 5 (by decide) (hT _ wm_476) (fun _ h => h) rfl d_Row_errorOf_13 ?_
  exact gw_iret (v := ((S.2.2 i).2.2.2.2.2)) hx hb hr hlk hG (⟨rfl, rfl⟩) (Nat.le_of_ble_eq_true rfl) (Nat.le_of_ble_eq_true rfl) d_Row_errorOf_16
set_option maxHeartbeats 4000000 in
set_option maxRecDepth 100000 in
theorem c_Row_errorOf_x (l : Launch) (E : Nat) (D : va_G) (cI cO cZ : ClassId) (z0 : Nat) (M : gM) (hst : l.stackTraces = false) {o n : Nat} {day : Int32} {S : gS} {Z ad bn : Nat → Nat} (hf : gw_fa z0 cO M o n day S Z ad bn) {i J : Nat} (hi : i < n) (hJ1 : J ≤ S.1) (hJ2 : ∀ p, p < J → S.2.1 p ≠ i) (hJ3 : J < S.1 → S.2.1 J = i) (hJ : ¬ J < S.1) : vx_Met l y_Row_errorOf (Cond.code y_Row_errorOf b_Row_errorOf 3 (some .int) :: gT) ({ frames := 7, cells := 1, slots := 6, locals := 108 }) (gw_Pc E D cI cO cZ z0 M [.ref o, .int (nI i)]) (gw_Qi E D (fun _ _ => False)) (gw_XC E D "java/util/NoSuchElementException" M) 1 6 (gw_A E) := by
  refine gw_ofX (cc := b_Row_errorOf) (maxL := 3) (ret := (some .int)) (by decide) rfl (Nat.le_of_ble_eq_true rfl) ?_
  intro p e s m args below meth c hx hb hr hml hts hown hlk hnt hF hG ls hl
  have hT : ∀ w ∈ gT, w.before args s = true := fun w h => hts w (List.mem_cons_of_mem _ h)
  have hK := hF.1
  have hl : lv_has ls 3 [(0, .ref o), (1, .int (nI i))] := hl
  obtain ⟨hro, hLh, hLl, hLb, hbn, hgg, hLg, hdr, hlg, hhd, had, hord, hoi, hne, har⟩ := id hf
  obtain ⟨kh, hhl, h10, -⟩ := id hLh
  have hz0 := gw_z0 hF hG
  refine lv_aload_n hx hb d_Row_errorOf_0 rfl (lv_at hl 0 rfl) ?_
  refine lv_iload_n hx hb d_Row_errorOf_1 rfl (lv_at hl 1 rfl) ?_
  refine gw_callq (gw_runV (As := [.int (nI i)]) (rest := []) ⟨hx, hb, hml, hown, hts⟩ (c_Row_handAt l E D cI cO cZ z0 M hf hi) (gw_cwV 1 hts (gT_gi wm_539) rfl rfl rfl (hT _ wm_23) (hT _ wm_536) (hT _ wm_538) (hT _ wm_10) (by decide +kernel) ⟨Nat.le_of_ble_eq_true rfl, Nat.le_of_ble_eq_true rfl⟩) hF hG rfl hro rfl hl.1 rfl (Nat.le_of_ble_eq_true rfl) d_Row_errorOf_2 ⟨Nat.le_of_ble_eq_true rfl, Nat.le_of_ble_eq_true rfl⟩) hG (fun r M1 H locs hp hG => ?_)
  rw [hp.1]
  replace hG := gw_nm hp.2.symm hG
  have hhi := hhd i hi
  refine lv_astore_n (lv' := [(2, .ref (ad i)), (0, .ref o), (1, .int (nI i))]) hx hb d_Row_errorOf_5 rfl hl (by decide) rfl (fun ls hl => ?_)
  refine lv_aload_n hx hb d_Row_errorOf_6 rfl (lv_at hl 1 rfl) ?_
  refine lv_aload_n hx hb d_Row_errorOf_7 rfl (lv_at hl 0 rfl) ?_
  refine gw_xcalli (cls := "java/util/NoSuchElementException") (gw_xrunV (As := [.ref (ad i)]) (rest := []) ⟨hx, hb, hml, hown, hts⟩ (c_Row_placeNeeded_x l E D cI cO cZ z0 M hst hf hi hJ1 hJ2 hJ3 hJ) (gw_cwV 1 hts (gT_gi wm_624) rfl rfl rfl (hT _ wm_23) (hT _ wm_621) (hT _ wm_623) (hT _ wm_12) (by decide +kernel) ⟨Nat.le_of_ble_eq_true rfl, Nat.le_of_ble_eq_true rfl⟩) hF hG rfl hro rfl hl.1 rfl (Nat.le_of_ble_eq_true rfl) d_Row_errorOf_8 ⟨Nat.le_of_ble_eq_true rfl, Nat.le_of_ble_eq_true rfl⟩) hG (fun ce q H locs hG hq1 hq2 hq3 => ?_)
  exact gw_xout hnt hlk hG hq1 hq2 hq3 (Nat.le_of_ble_eq_true rfl) (Nat.le_of_ble_eq_true rfl)
set_option maxHeartbeats 4000000 in
set_option maxRecDepth 100000 in
theorem c_Row_strokeOf (l : Launch) (E : Nat) (D : va_G) (cI cO cZ : ClassId) (z0 : Nat) (M : gM) {o n : Nat} {day : Int32} {S : gS} {Z ad bn : Nat → Nat} (hf : gw_fa z0 cO M o n day S Z ad bn) {i J : Nat} (hi : i < n) (hJ1 : J ≤ S.1) (hJ2 : ∀ p, p < J → S.2.1 p ≠ i) (hJ3 : J < S.1 → S.2.1 J = i) (hJ : J < S.1) : Met l y_Row_strokeOf (Cond.code y_Row_strokeOf b_Row_strokeOf 2 (some .int) :: gT) ({ frames := 5, cells := 0, slots := 0, locals := 108 }) (gw_Pc E D cI cO cZ z0 M [.ref o, .int (nI i)]) (gw_Qi E D (fun r M' => r = p_tick S.1 (fun p => S.2.2 (S.2.1 p)) J ∧ M' = M)) 0 0 (gw_A E) := by
  refine gw_ofW (cc := b_Row_strokeOf) (maxL := 2) (ret := (some .int)) (by decide) rfl (Nat.le_of_ble_eq_true rfl) ?_
  intro p e s m args below meth c hx hb hr hml hts hown hlk hnm hF hG ls hl
  have hT : ∀ w ∈ gT, w.before args s = true := fun w h => hts w (List.mem_cons_of_mem _ h)
  have hK := hF.1
  have hl : lv_has ls 2 [(0, .ref o), (1, .int (nI i))] := hl
  obtain ⟨hro, hLh, hLl, hLb, hbn, hgg, hLg, hdr, hlg, hhd, had, hord, hoi, hne, har⟩ := id hf
  obtain ⟨kh, hhl, h10, -⟩ := id hLh
  have hz0 := gw_z0 hF hG
  refine lv_aload_n hx hb d_Row_strokeOf_0 rfl (lv_at hl 0 rfl) ?_
  refine gw_get hx hb hT i_Row hown hK hG hro rfl 3 (by decide) (hT _ wm_239) (fun _ h => h) rfl d_Row_strokeOf_1 ?_
  refine lv_aload_n hx hb d_Row_strokeOf_4 rfl (lv_at hl 0 rfl) ?_
  refine lv_aload_n hx hb d_Row_strokeOf_5 rfl (lv_at hl 0 rfl) ?_
  refine lv_iload_n hx hb d_Row_strokeOf_6 rfl (lv_at hl 1 rfl) ?_
  refine gw_callq (gw_runV (As := [.int (nI i)]) (rest := [.ref o, .ref (Z 5)]) ⟨hx, hb, hml, hown, hts⟩ (c_Row_handAt l E D cI cO cZ z0 M hf hi) (gw_cwV 1 hts (gT_gi wm_539) rfl rfl rfl (hT _ wm_23) (hT _ wm_536) (hT _ wm_538) (hT _ wm_10) (by decide +kernel) ⟨Nat.le_of_ble_eq_true rfl, Nat.le_of_ble_eq_true rfl⟩) hF hG rfl hro rfl hl.1 rfl (Nat.le_of_ble_eq_true rfl) d_Row_strokeOf_7 ⟨Nat.le_of_ble_eq_true rfl, Nat.le_of_ble_eq_true rfl⟩) hG (fun r M1 H locs hp hG => ?_)
  rw [hp.1]
  replace hG := gw_nm hp.2.symm hG
  have hhi := hhd i hi
  refine gw_calli (gw_runV (As := [.ref (ad i)]) (rest := [.ref (Z 5)]) ⟨hx, hb, hml, hown, hts⟩ (c_Row_placeNeeded l E D cI cO cZ z0 M hf hi hJ1 hJ2 hJ3 hJ) (gw_cwV 1 hts (gT_gi wm_624) rfl rfl rfl (hT _ wm_23) (hT _ wm_621) (hT _ wm_623) (hT _ wm_12) (by decide +kernel) ⟨Nat.le_of_ble_eq_true rfl, Nat.le_of_ble_eq_true rfl⟩) hF hG rfl hro rfl hl.1 rfl (Nat.le_of_ble_eq_true rfl) d_Row_strokeOf_10 ⟨Nat.le_of_ble_eq_true rfl, Nat.le_of_ble_eq_true rfl⟩) hG (fun r M2 H locs hp hG => ?_)
  rw [hp.1]
  replace hG := gw_nm hp.2.symm hG
  refine gw_calli (gw_runV (As := [.int (nI J)]) (rest := []) ⟨hx, hb, hml, hown, hts⟩ (c_Gang_tickAt l E D cI cO cZ z0 M hf.gg (i := J) hJ) (gw_cwV 1 hts (gT_gi wm_650) rfl rfl rfl (hT _ wm_27) (hT _ wm_647) (hT _ wm_648) (hT _ wm_649) (by decide +kernel) ⟨Nat.le_of_ble_eq_true rfl, Nat.le_of_ble_eq_true rfl⟩) hF hG rfl hgg rfl hl.1 rfl (Nat.le_of_ble_eq_true rfl) d_Row_strokeOf_13 ⟨Nat.le_of_ble_eq_true rfl, Nat.le_of_ble_eq_true rfl⟩) hG (fun r M3 H locs hp hG => ?_)
  rw [hp.1]
  replace hG := gw_nm hp.2.symm hG
  exact gw_iret (v := (p_tick S.1 (fun p => S.2.2 (S.2.1 p)) J)) hx hb hr hlk hG (⟨rfl, rfl⟩) (Nat.le_of_ble_eq_true rfl) (Nat.le_of_ble_eq_true rfl) d_Row_strokeOf_16
set_option maxHeartbeats 4000000 in
set_option maxRecDepth 100000 in
theorem c_Row_strokeOf_x (l : Launch) (E : Nat) (D : va_G) (cI cO cZ : ClassId) (z0 : Nat) (M : gM) (hst : l.stackTraces = false) {o n : Nat} {day : Int32} {S : gS} {Z ad bn : Nat → Nat} (hf : gw_fa z0 cO M o n day S Z ad bn) {i J : Nat} (hi : i < n) (hJ1 : J ≤ S.1) (hJ2 : ∀ p, p < J → S.2.1 p ≠ i) (hJ3 : J < S.1 → S.2.1 J = i) (hJ : ¬ J < S.1) : vx_Met l y_Row_strokeOf (Cond.code y_Row_strokeOf b_Row_strokeOf 2 (some .int) :: gT) ({ frames := 7, cells := 1, slots := 6, locals := 108 }) (gw_Pc E D cI cO cZ z0 M [.ref o, .int (nI i)]) (gw_Qi E D (fun _ _ => False)) (gw_XC E D "java/util/NoSuchElementException" M) 1 6 (gw_A E) := by
  refine gw_ofX (cc := b_Row_strokeOf) (maxL := 2) (ret := (some .int)) (by decide) rfl (Nat.le_of_ble_eq_true rfl) ?_
  intro p e s m args below meth c hx hb hr hml hts hown hlk hnt hF hG ls hl
  have hT : ∀ w ∈ gT, w.before args s = true := fun w h => hts w (List.mem_cons_of_mem _ h)
  have hK := hF.1
  have hl : lv_has ls 2 [(0, .ref o), (1, .int (nI i))] := hl
  obtain ⟨hro, hLh, hLl, hLb, hbn, hgg, hLg, hdr, hlg, hhd, had, hord, hoi, hne, har⟩ := id hf
  obtain ⟨kh, hhl, h10, -⟩ := id hLh
  have hz0 := gw_z0 hF hG
  refine lv_aload_n hx hb d_Row_strokeOf_0 rfl (lv_at hl 0 rfl) ?_
  refine gw_get hx hb hT i_Row hown hK hG hro rfl 3 (by decide) (hT _ wm_239) (fun _ h => h) rfl d_Row_strokeOf_1 ?_
  refine lv_aload_n hx hb d_Row_strokeOf_4 rfl (lv_at hl 0 rfl) ?_
  refine lv_aload_n hx hb d_Row_strokeOf_5 rfl (lv_at hl 0 rfl) ?_
  refine lv_iload_n hx hb d_Row_strokeOf_6 rfl (lv_at hl 1 rfl) ?_
  refine gw_callq (gw_runV (As := [.int (nI i)]) (rest := [.ref o, .ref (Z 5)]) ⟨hx, hb, hml, hown, hts⟩ (c_Row_handAt l E D cI cO cZ z0 M hf hi) (gw_cwV 1 hts (gT_gi wm_539) rfl rfl rfl (hT _ wm_23) (hT _ wm_536) (hT _ wm_538) (hT _ wm_10) (by decide +kernel) ⟨Nat.le_of_ble_eq_true rfl, Nat.le_of_ble_eq_true rfl⟩) hF hG rfl hro rfl hl.1 rfl (Nat.le_of_ble_eq_true rfl) d_Row_strokeOf_7 ⟨Nat.le_of_ble_eq_true rfl, Nat.le_of_ble_eq_true rfl⟩) hG (fun r M1 H locs hp hG => ?_)
  rw [hp.1]
  replace hG := gw_nm hp.2.symm hG
  have hhi := hhd i hi
  refine gw_xcalli (cls := "java/util/NoSuchElementException") (gw_xrunV (As := [.ref (ad i)]) (rest := [.ref (Z 5)]) ⟨hx, hb, hml, hown, hts⟩ (c_Row_placeNeeded_x l E D cI cO cZ z0 M hst hf hi hJ1 hJ2 hJ3 hJ) (gw_cwV 1 hts (gT_gi wm_624) rfl rfl rfl (hT _ wm_23) (hT _ wm_621) (hT _ wm_623) (hT _ wm_12) (by decide +kernel) ⟨Nat.le_of_ble_eq_true rfl, Nat.le_of_ble_eq_true rfl⟩) hF hG rfl hro rfl hl.1 rfl (Nat.le_of_ble_eq_true rfl) d_Row_strokeOf_10 ⟨Nat.le_of_ble_eq_true rfl, Nat.le_of_ble_eq_true rfl⟩) hG (fun ce q H locs hG hq1 hq2 hq3 => ?_)
  exact gw_xout hnt hlk hG hq1 hq2 hq3 (Nat.le_of_ble_eq_true rfl) (Nat.le_of_ble_eq_true rfl)
set_option maxHeartbeats 4000000 in
set_option maxRecDepth 100000 in
theorem c_Row_checkGang (l : Launch) (E : Nat) (D : va_G) (cI cO cZ : ClassId) (z0 : Nat) (M : gM) {o n : Nat} {day : Int32} {S : gS} {Z ad bn : Nat → Nat} (hf : gw_fa z0 cO M o n day S Z ad bn) (h2 : 2 ≤ S.1) : Met l y_Row_checkGang (Cond.code y_Row_checkGang b_Row_checkGang 1 none :: gT) ({ frames := 2, cells := 0, slots := 0, locals := 40 }) (gw_Pc E D cI cO cZ z0 M [.ref o]) (gw_Qv E D (fun M' => M' = M)) 0 0 (gw_A E) := by
  refine gw_ofW (cc := b_Row_checkGang) (maxL := 1) (ret := none) (by decide) rfl (Nat.le_of_ble_eq_true rfl) ?_
  intro p e s m args below meth c hx hb hr hml hts hown hlk hnm hF hG ls hl
  have hT : ∀ w ∈ gT, w.before args s = true := fun w h => hts w (List.mem_cons_of_mem _ h)
  have hK := hF.1
  have hl : lv_has ls 1 [(0, .ref o)] := hl
  obtain ⟨hro, hLh, hLl, hLb, hbn, hgg, hLg, hdr, hlg, hhd, had, hord, hoi, hne, har⟩ := id hf
  obtain ⟨kh, hhl, h10, -⟩ := id hLh
  have hz0 := gw_z0 hF hG
  have hS10 := hLg.choose_spec.2.1
  refine lv_aload_n hx hb d_Row_checkGang_0 rfl (lv_at hl 0 rfl) ?_
  refine gw_get hx hb hT i_Row hown hK hG hro rfl 3 (by decide) (hT _ wm_239) (fun _ h => h) rfl d_Row_checkGang_1 ?_
  refine gw_calli (gw_runV (As := []) (rest := []) ⟨hx, hb, hml, hown, hts⟩ (c_Gang_count l E D cI cO cZ z0 M hf.gg) (gw_cwV 0 hts (gT_gi wm_576) rfl rfl rfl (hT _ wm_27) (hT _ wm_573) (hT _ wm_574) (hT _ wm_575) (by decide +kernel) ⟨Nat.le_of_ble_eq_true rfl, Nat.le_of_ble_eq_true rfl⟩) hF hG rfl hgg rfl hl.1 rfl (Nat.le_of_ble_eq_true rfl) d_Row_checkGang_4 ⟨Nat.le_of_ble_eq_true rfl, Nat.le_of_ble_eq_true rfl⟩) hG (fun r M1 H locs hp hG => ?_)
  rw [hp.1]
  replace hG := gw_nm hp.2.symm hG
  refine lv_iconst (v := 2) hx hb d_Row_checkGang_7 (by decide) ?_
  refine lv_icmp_ge (tgt := 22) hx hb d_Row_checkGang_8 (by decide) (fun c_8 => ?_) (fun z_ => absurd (show nI 2 ≤ nI S.1 from nI_le h2 (by omega)) z_)
  exact gw_vret hx hb hr hlk hG (rfl) (Nat.le_of_ble_eq_true rfl) (Nat.le_of_ble_eq_true rfl) d_Row_checkGang_22
set_option maxHeartbeats 4000000 in
set_option maxRecDepth 100000 in
theorem c_Row_checkGang_x (l : Launch) (E : Nat) (D : va_G) (cI cO cZ : ClassId) (z0 : Nat) (M : gM) (hst : l.stackTraces = false) {o n : Nat} {day : Int32} {S : gS} {Z ad bn : Nat → Nat} (hf : gw_fa z0 cO M o n day S Z ad bn) (h2 : S.1 < 2) : vx_Met l y_Row_checkGang (Cond.code y_Row_checkGang b_Row_checkGang 1 none :: gT) ({ frames := 6, cells := 1, slots := 6, locals := 82 }) (gw_Pc E D cI cO cZ z0 M [.ref o]) (gw_Qv E D (fun _ => False)) (gw_XC E D "java/lang/UnsupportedOperationException" M) 1 6 (gw_A E) := by
  refine gw_ofX (cc := b_Row_checkGang) (maxL := 1) (ret := none) (by decide) rfl (Nat.le_of_ble_eq_true rfl) ?_
  intro p e s m args below meth c hx hb hr hml hts hown hlk hnt hF hG ls hl
  have hT : ∀ w ∈ gT, w.before args s = true := fun w h => hts w (List.mem_cons_of_mem _ h)
  have hK := hF.1
  have hl : lv_has ls 1 [(0, .ref o)] := hl
  obtain ⟨hro, hLh, hLl, hLb, hbn, hgg, hLg, hdr, hlg, hhd, had, hord, hoi, hne, har⟩ := id hf
  obtain ⟨kh, hhl, h10, -⟩ := id hLh
  have hz0 := gw_z0 hF hG
  refine lv_aload_n hx hb d_Row_checkGang_0 rfl (lv_at hl 0 rfl) ?_
  refine gw_get hx hb hT i_Row hown hK hG hro rfl 3 (by decide) (hT _ wm_239) (fun _ h => h) rfl d_Row_checkGang_1 ?_
  refine gw_calli (gw_runV (As := []) (rest := []) ⟨hx, hb, hml, hown, hts⟩ (c_Gang_count l E D cI cO cZ z0 M hf.gg) (gw_cwV 0 hts (gT_gi wm_576) rfl rfl rfl (hT _ wm_27) (hT _ wm_573) (hT _ wm_574) (hT _ wm_575) (by decide +kernel) ⟨Nat.le_of_ble_eq_true rfl, Nat.le_of_ble_eq_true rfl⟩) hF hG rfl hgg rfl hl.1 rfl (Nat.le_of_ble_eq_true rfl) d_Row_checkGang_4 ⟨Nat.le_of_ble_eq_true rfl, Nat.le_of_ble_eq_true rfl⟩) hG (fun r M1 H locs hp hG => ?_)
  rw [hp.1]
  replace hG := gw_nm hp.2.symm hG
  refine lv_iconst (v := 2) hx hb d_Row_checkGang_7 (by decide) ?_
  refine lv_icmp_ge (tgt := 22) hx hb d_Row_checkGang_8 (by decide) (fun z_ => absurd z_ (show ¬ nI 2 ≤ nI S.1 from nI_ge h2 (by omega))) (fun c_8 => ?_)
  exact gw_thrSW (cls := "java/lang/UnsupportedOperationException") (text := "fewer than two stand in the gang") hx hb hst hown (by decide) (hT _ wm_557) (hT _ wm_46) (by decide) hT (by decide +kernel) (by decide +kernel) hF hG (hl.1.trans hml.symm) d_Row_checkGang_11 d_Row_checkGang_14 d_Row_checkGang_15 d_Row_checkGang_18 d_Row_checkGang_21 hnt (Nat.le_of_ble_eq_true rfl) (Nat.le_of_ble_eq_true rfl) (Nat.le_of_ble_eq_true rfl) (Nat.le_of_ble_eq_true rfl) hlk (Nat.le_of_ble_eq_true rfl) (Nat.le_of_ble_eq_true rfl)
set_option maxHeartbeats 4000000 in
set_option maxRecDepth 100000 in
theorem c_Row_stand (l : Launch) (E : Nat) (D : va_G) (cI cO cZ : ClassId) (z0 : Nat) (M : gM) {o n : Nat} {day : Int32} {S : gS} {Z ad bn : Nat → Nat} (hf : gw_fa z0 cO M o n day S Z ad bn) {i J : Nat} (hi : i < n) (hJ1 : J ≤ S.1) (hJ2 : ∀ p, p < J → S.2.1 p ≠ i) (hJ3 : J < S.1 → S.2.1 J = i) (hJ : ¬ J < S.1) (hu : (S.2.2 i).2.2.2.1 ≤ 0) (h5 : S.1 < 5) : Met l y_Row_stand (Cond.code y_Row_stand b_Row_stand 3 (some .int) :: gT) ({ frames := 6, cells := 1, slots := 10, locals := 122 }) (gw_Pc E D cI cO cZ z0 M [.ref o, .int (nI i)]) (gw_Qi E D (fun r M' => r = nI (S.1 + 1) ∧ ∃ Z' : Nat → Nat, gw_fa z0 cO M' o n day (S.1 + 1, va_up S.2.1 S.1 i, fun j => if j = i then hEr (S.2.2 i) 0 else S.2.2 j) Z' ad bn ∧ gw_ints M M')) 1 10 (gw_A E) := by
  refine gw_ofW (cc := b_Row_stand) (maxL := 3) (ret := (some .int)) (by decide) rfl (Nat.le_of_ble_eq_true rfl) ?_
  intro p e s m args below meth c hx hb hr hml hts hown hlk hnm hF hG ls hl
  have hT : ∀ w ∈ gT, w.before args s = true := fun w h => hts w (List.mem_cons_of_mem _ h)
  have hK := hF.1
  have hl : lv_has ls 3 [(0, .ref o), (1, .int (nI i))] := hl
  obtain ⟨hro, hLh, hLl, hLb, hbn, hgg, hLg, hdr, hlg, hhd, had, hord, hoi, hne, har⟩ := id hf
  obtain ⟨kh, hhl, h10, -⟩ := id hLh
  have hz0 := gw_z0 hF hG
  have hS10 := hLg.choose_spec.2.1
  refine lv_aload_n hx hb d_Row_stand_0 rfl (lv_at hl 0 rfl) ?_
  refine lv_iload_n hx hb d_Row_stand_1 rfl (lv_at hl 1 rfl) ?_
  refine gw_callq (gw_runV (As := [.int (nI i)]) (rest := []) ⟨hx, hb, hml, hown, hts⟩ (c_Row_handAt l E D cI cO cZ z0 M hf hi) (gw_cwV 1 hts (gT_gi wm_539) rfl rfl rfl (hT _ wm_23) (hT _ wm_536) (hT _ wm_538) (hT _ wm_10) (by decide +kernel) ⟨Nat.le_of_ble_eq_true rfl, Nat.le_of_ble_eq_true rfl⟩) hF hG rfl hro rfl hl.1 rfl (Nat.le_of_ble_eq_true rfl) d_Row_stand_2 ⟨Nat.le_of_ble_eq_true rfl, Nat.le_of_ble_eq_true rfl⟩) hG (fun r M1 H locs hp hG => ?_)
  rw [hp.1]
  replace hG := gw_nm hp.2.symm hG
  have hhi := hhd i hi
  refine lv_astore_n (lv' := [(2, .ref (ad i)), (0, .ref o), (1, .int (nI i))]) hx hb d_Row_stand_5 rfl hl (by decide) rfl (fun ls hl => ?_)
  refine lv_aload_n hx hb d_Row_stand_6 rfl (lv_at hl 1 rfl) ?_
  refine gw_get hx hb hT i_Row hown hK hG hro rfl 3 (by decide) (hT _ wm_239) (fun _ h => h) rfl d_Row_stand_7 ?_
  refine lv_aload_n hx hb d_Row_stand_10 rfl (lv_at hl 0 rfl) ?_
  refine gw_calli (gw_runV (As := [.ref (ad i)]) (rest := []) ⟨hx, hb, hml, hown, hts⟩ (c_Gang_placeFor l E D cI cO cZ z0 M hf.gg (h := ad i) (J := J) hJ1 (fun p hp z => hJ2 p hp (had _ _ (hord p (by omega)) hi z)) (fun h => congrArg ad (hJ3 h))) (gw_cwV 1 hts (gT_gi wm_556) rfl rfl rfl (hT _ wm_27) (hT _ wm_553) (hT _ wm_554) (hT _ wm_555) (by decide +kernel) ⟨Nat.le_of_ble_eq_true rfl, Nat.le_of_ble_eq_true rfl⟩) hF hG rfl hgg rfl hl.1 rfl (Nat.le_of_ble_eq_true rfl) d_Row_stand_11 ⟨Nat.le_of_ble_eq_true rfl, Nat.le_of_ble_eq_true rfl⟩) hG (fun r M2 H locs hp hG => ?_)
  rw [hp.1]
  replace hG := gw_nm hp.2.symm hG
  rw [if_neg hJ]
  refine lv_if_ge (tgt := 24) hx hb d_Row_stand_14 (by decide) (fun z_ => absurd z_ (by decide)) (fun c_14 => ?_)
  refine lv_aload_n hx hb d_Row_stand_17 rfl (lv_at hl 0 rfl) ?_
  refine gw_get hx hb hT i_Hand hown hK hG hhi rfl 3 (by decide) (hT _ wm_469) (fun _ h => h) rfl d_Row_stand_18 ?_
  refine lv_if_le (tgt := 34) hx hb d_Row_stand_21 (by decide) (fun c_21 => ?_) (fun z_ => absurd (hu) z_)
  refine lv_aload_n hx hb d_Row_stand_34 rfl (lv_at hl 1 rfl) ?_
  refine gw_get hx hb hT i_Row hown hK hG hro rfl 3 (by decide) (hT _ wm_239) (fun _ h => h) rfl d_Row_stand_35 ?_
  refine gw_calli (gw_runV (As := []) (rest := []) ⟨hx, hb, hml, hown, hts⟩ (c_Gang_count l E D cI cO cZ z0 M hf.gg) (gw_cwV 0 hts (gT_gi wm_576) rfl rfl rfl (hT _ wm_27) (hT _ wm_573) (hT _ wm_574) (hT _ wm_575) (by decide +kernel) ⟨Nat.le_of_ble_eq_true rfl, Nat.le_of_ble_eq_true rfl⟩) hF hG rfl hgg rfl hl.1 rfl (Nat.le_of_ble_eq_true rfl) d_Row_stand_38 ⟨Nat.le_of_ble_eq_true rfl, Nat.le_of_ble_eq_true rfl⟩) hG (fun r M3 H locs hp hG => ?_)
  rw [hp.1]
  replace hG := gw_nm hp.2.symm hG
  refine lv_iconst (v := 5) hx hb d_Row_stand_41 (by decide) ?_
  refine lv_icmp_lt (tgt := 55) hx hb d_Row_stand_42 (by decide) (fun c_42 => ?_) (fun z_ => absurd (show nI S.1 < nI 5 from nI_lt h5 (by decide)) z_)
  refine lv_aload_n hx hb d_Row_stand_55 rfl (lv_at hl 1 rfl) ?_
  refine gw_get hx hb hT i_Row hown hK hG hro rfl 3 (by decide) (hT _ wm_239) (fun _ h => h) rfl d_Row_stand_56 ?_
  refine lv_aload_n hx hb d_Row_stand_59 rfl (lv_at hl 0 rfl) ?_
  refine gw_callv (gw_runV (As := [.ref (ad i)]) (rest := []) ⟨hx, hb, hml, hown, hts⟩ (c_Gang_takeIn l E D cI cO cZ z0 M hf.gg hhi (by omega) (fun z => by rw [z, hz0] at hhi; cases hhi)) (gw_cwV 1 hts (gT_gi wm_581) rfl rfl rfl (hT _ wm_27) (hT _ wm_578) (hT _ wm_579) (hT _ wm_580) (by decide +kernel) ⟨Nat.le_of_ble_eq_true rfl, Nat.le_of_ble_eq_true rfl⟩) hF hG rfl hgg rfl hl.1 rfl (Nat.le_of_ble_eq_true rfl) d_Row_stand_60 ⟨Nat.le_of_ble_eq_true rfl, Nat.le_of_ble_eq_true rfl⟩) hG (fun M4 H locs hp hG => ?_)
  obtain ⟨t', h1, h2, h3, h4⟩ := hp
  have hfr : ∀ b e, M b = some e → b ≠ Z 6 → b ≠ t' → (∀ x, e ≠ .inr (6, x)) → M4 b = M b := fun b e hb q1 q2 q3 => h4 b (fun z => q3 _ (by rw [z, hhi] at hb; exact (Option.some.inj hb).symm)) q1 q2
  have hta : ∀ j, j < n → ad j ≠ t' := fun j hj => by
      rcases h1 with h1 | h1
      · rw [h1]
        obtain ⟨kg, -, -, hgf⟩ := hLg
        rcases hgf with ⟨-, hgz⟩ | ⟨f, hgz, -⟩
        · rw [hgz]; exact gw_neF hz0 (hhd j hj)
        · exact (gw_neA hgz (hhd j hj)).symm
      · exact gw_neF h1 (hhd j hj)
  obtain ⟨kg, hgl, -⟩ := id hLg
  have hf2 := hf.gang (M' := M4) (m' := S.1 + 1) (ord' := va_up S.2.1 S.1 i) (v' := fun j => if j = i then hEr (S.2.2 i) 0 else S.2.2 j) hz0 (by
      have e1 : (fun p => ad (va_up S.2.1 S.1 i p)) = va_up (fun p => ad (S.2.1 p)) S.1 (ad i) := by funext p; unfold va_up; split <;> rfl
      rw [e1]; exact h3) (fun j hj => by
      by_cases hji : j = i
      · subst hji; rw [if_pos rfl]; exact h2
      · rw [if_neg hji]; exact (h4 _ (fun z => hji (had _ _ hj hi z)) (gw_neO (hhd j hj) hgl (by decide)) (hta j hj)).trans (hhd j hj)) hfr h1 (fun p hp => by
      unfold va_up
      split
      · exact hi
      · exact hord p (by omega)) (fun p q hp hq z => by
      have hni : ∀ r, r < S.1 → S.2.1 r ≠ i := fun r hr => hJ2 r (by omega)
      unfold va_up at z
      split at z <;> split at z
      · omega
      · exact absurd z.symm (hni q (by omega))
      · exact absurd z (hni p (by omega))
      · exact hoi p q (by omega) (by omega) z)
  obtain ⟨hro2, -, -, -, -, hgg2, -⟩ := id hf2
  refine lv_aload_n hx hb d_Row_stand_63 rfl (lv_at hl 1 rfl) ?_
  refine gw_get hx hb hT i_Row hown hK hG hro2 rfl 3 (by decide) (hT _ wm_239) (fun _ h => h) rfl d_Row_stand_64 ?_
  refine gw_calli (gw_runV (As := []) (rest := []) ⟨hx, hb, hml, hown, hts⟩ (c_Gang_count l E D cI cO cZ z0 M4 hf2.gg) (gw_cwV 0 hts (gT_gi wm_576) rfl rfl rfl (hT _ wm_27) (hT _ wm_573) (hT _ wm_574) (hT _ wm_575) (by decide +kernel) ⟨Nat.le_of_ble_eq_true rfl, Nat.le_of_ble_eq_true rfl⟩) hF hG rfl hgg2 rfl hl.1 rfl (Nat.le_of_ble_eq_true rfl) d_Row_stand_67 ⟨Nat.le_of_ble_eq_true rfl, Nat.le_of_ble_eq_true rfl⟩) hG (fun r M5 H locs hp hG => ?_)
  rw [hp.1]
  replace hG := gw_nm hp.2.symm hG
  exact gw_iret (v := (nI (S.1 + 1))) hx hb hr hlk hG (⟨rfl, _, hf2, gw_ints.of hLg hz0 hfr h1⟩) (Nat.le_of_ble_eq_true rfl) (Nat.le_of_ble_eq_true rfl) d_Row_stand_70
set_option maxHeartbeats 4000000 in
set_option maxRecDepth 100000 in
theorem c_Row_stand_x (l : Launch) (E : Nat) (D : va_G) (cI cO cZ : ClassId) (z0 : Nat) (M : gM) (hst : l.stackTraces = false) {o n : Nat} {day : Int32} {S : gS} {Z ad bn : Nat → Nat} (hf : gw_fa z0 cO M o n day S Z ad bn) {i : Nat} (hi : n ≤ i) (hi2 : i < 2 ^ 31) : vx_Met l y_Row_stand (Cond.code y_Row_stand b_Row_stand 3 (some .int) :: gT) ({ frames := 7, cells := 1, slots := 6, locals := 103 }) (gw_Pc E D cI cO cZ z0 M [.ref o, .int (nI i)]) (gw_Qi E D (fun _ _ => False)) (gw_XC E D "java/lang/IndexOutOfBoundsException" M) 1 6 (gw_A E) := by
  refine gw_ofX (cc := b_Row_stand) (maxL := 3) (ret := (some .int)) (by decide) rfl (Nat.le_of_ble_eq_true rfl) ?_
  intro p e s m args below meth c hx hb hr hml hts hown hlk hnt hF hG ls hl
  have hT : ∀ w ∈ gT, w.before args s = true := fun w h => hts w (List.mem_cons_of_mem _ h)
  have hK := hF.1
  have hl : lv_has ls 3 [(0, .ref o), (1, .int (nI i))] := hl
  obtain ⟨hro, hLh, hLl, hLb, hbn, hgg, hLg, hdr, hlg, hhd, had, hord, hoi, hne, har⟩ := id hf
  obtain ⟨kh, hhl, h10, -⟩ := id hLh
  have hz0 := gw_z0 hF hG
  refine lv_aload_n hx hb d_Row_stand_0 rfl (lv_at hl 0 rfl) ?_
  refine lv_iload_n hx hb d_Row_stand_1 rfl (lv_at hl 1 rfl) ?_
  refine gw_xcallq (cls := "java/lang/IndexOutOfBoundsException") (gw_xrunV (As := [.int (nI i)]) (rest := []) ⟨hx, hb, hml, hown, hts⟩ (c_Row_handAt_x l E D cI cO cZ z0 M hst hf hi hi2) (gw_cwV 1 hts (gT_gi wm_539) rfl rfl rfl (hT _ wm_23) (hT _ wm_536) (hT _ wm_538) (hT _ wm_10) (by decide +kernel) ⟨Nat.le_of_ble_eq_true rfl, Nat.le_of_ble_eq_true rfl⟩) hF hG rfl hro rfl hl.1 rfl (Nat.le_of_ble_eq_true rfl) d_Row_stand_2 ⟨Nat.le_of_ble_eq_true rfl, Nat.le_of_ble_eq_true rfl⟩) hG (fun ce q H locs hG hq1 hq2 hq3 => ?_)
  exact gw_xout hnt hlk hG hq1 hq2 hq3 (Nat.le_of_ble_eq_true rfl) (Nat.le_of_ble_eq_true rfl)
set_option maxHeartbeats 4000000 in
set_option maxRecDepth 100000 in
theorem c_Row_stand_xu (l : Launch) (E : Nat) (D : va_G) (cI cO cZ : ClassId) (z0 : Nat) (M : gM) (hst : l.stackTraces = false) {o n : Nat} {day : Int32} {S : gS} {Z ad bn : Nat → Nat} (hf : gw_fa z0 cO M o n day S Z ad bn) {i J : Nat} (hi : i < n) (hJ1 : J ≤ S.1) (hJ2 : ∀ p, p < J → S.2.1 p ≠ i) (hJ3 : J < S.1 → S.2.1 J = i) (hu : J < S.1 ∨ ¬ (S.2.2 i).2.2.2.1 ≤ 0) : vx_Met l y_Row_stand (Cond.code y_Row_stand b_Row_stand 3 (some .int) :: gT) ({ frames := 6, cells := 1, slots := 6, locals := 86 }) (gw_Pc E D cI cO cZ z0 M [.ref o, .int (nI i)]) (gw_Qi E D (fun _ _ => False)) (gw_XC E D "java/lang/UnsupportedOperationException" M) 1 6 (gw_A E) := by
  refine gw_ofX (cc := b_Row_stand) (maxL := 3) (ret := (some .int)) (by decide) rfl (Nat.le_of_ble_eq_true rfl) ?_
  intro p e s m args below meth c hx hb hr hml hts hown hlk hnt hF hG ls hl
  have hT : ∀ w ∈ gT, w.before args s = true := fun w h => hts w (List.mem_cons_of_mem _ h)
  have hK := hF.1
  have hl : lv_has ls 3 [(0, .ref o), (1, .int (nI i))] := hl
  obtain ⟨hro, hLh, hLl, hLb, hbn, hgg, hLg, hdr, hlg, hhd, had, hord, hoi, hne, har⟩ := id hf
  obtain ⟨kh, hhl, h10, -⟩ := id hLh
  have hz0 := gw_z0 hF hG
  have hS10 := hLg.choose_spec.2.1
  refine lv_aload_n hx hb d_Row_stand_0 rfl (lv_at hl 0 rfl) ?_
  refine lv_iload_n hx hb d_Row_stand_1 rfl (lv_at hl 1 rfl) ?_
  refine gw_callq (gw_runV (As := [.int (nI i)]) (rest := []) ⟨hx, hb, hml, hown, hts⟩ (c_Row_handAt l E D cI cO cZ z0 M hf hi) (gw_cwV 1 hts (gT_gi wm_539) rfl rfl rfl (hT _ wm_23) (hT _ wm_536) (hT _ wm_538) (hT _ wm_10) (by decide +kernel) ⟨Nat.le_of_ble_eq_true rfl, Nat.le_of_ble_eq_true rfl⟩) hF hG rfl hro rfl hl.1 rfl (Nat.le_of_ble_eq_true rfl) d_Row_stand_2 ⟨Nat.le_of_ble_eq_true rfl, Nat.le_of_ble_eq_true rfl⟩) hG (fun r M1 H locs hp hG => ?_)
  rw [hp.1]
  replace hG := gw_nm hp.2.symm hG
  have hhi := hhd i hi
  refine lv_astore_n (lv' := [(2, .ref (ad i)), (0, .ref o), (1, .int (nI i))]) hx hb d_Row_stand_5 rfl hl (by decide) rfl (fun ls hl => ?_)
  refine lv_aload_n hx hb d_Row_stand_6 rfl (lv_at hl 1 rfl) ?_
  refine gw_get hx hb hT i_Row hown hK hG hro rfl 3 (by decide) (hT _ wm_239) (fun _ h => h) rfl d_Row_stand_7 ?_
  refine lv_aload_n hx hb d_Row_stand_10 rfl (lv_at hl 0 rfl) ?_
  refine gw_calli (gw_runV (As := [.ref (ad i)]) (rest := []) ⟨hx, hb, hml, hown, hts⟩ (c_Gang_placeFor l E D cI cO cZ z0 M hf.gg (h := ad i) (J := J) hJ1 (fun p hp z => hJ2 p hp (had _ _ (hord p (by omega)) hi z)) (fun h => congrArg ad (hJ3 h))) (gw_cwV 1 hts (gT_gi wm_556) rfl rfl rfl (hT _ wm_27) (hT _ wm_553) (hT _ wm_554) (hT _ wm_555) (by decide +kernel) ⟨Nat.le_of_ble_eq_true rfl, Nat.le_of_ble_eq_true rfl⟩) hF hG rfl hgg rfl hl.1 rfl (Nat.le_of_ble_eq_true rfl) d_Row_stand_11 ⟨Nat.le_of_ble_eq_true rfl, Nat.le_of_ble_eq_true rfl⟩) hG (fun r M2 H locs hp hG => ?_)
  rw [hp.1]
  replace hG := gw_nm hp.2.symm hG
  by_cases hJ : J < S.1
  · skip
    rw [if_pos hJ]
    refine lv_if_ge (tgt := 24) hx hb d_Row_stand_14 (by decide) (fun c_14 => ?_) (fun z_ => absurd (nI_pos' (by omega)) z_)
    exact gw_thrS (cls := "java/lang/UnsupportedOperationException") (text := "the hand stands in the gang, or is hurt") hx hb hst hown (by decide) (hT _ wm_557) (hT _ wm_46) (by decide) hT (by decide +kernel) (by decide +kernel) hF hG (hl.1.trans hml.symm) d_Row_stand_24 d_Row_stand_27 d_Row_stand_28 d_Row_stand_30 d_Row_stand_33 hnt (Nat.le_of_ble_eq_true rfl) (Nat.le_of_ble_eq_true rfl) (Nat.le_of_ble_eq_true rfl) (Nat.le_of_ble_eq_true rfl) hlk (Nat.le_of_ble_eq_true rfl) (Nat.le_of_ble_eq_true rfl)
  · skip
    rw [if_neg hJ]
    refine lv_if_ge (tgt := 24) hx hb d_Row_stand_14 (by decide) (fun z_ => absurd z_ (by decide)) (fun c_14 => ?_)
    refine lv_aload_n hx hb d_Row_stand_17 rfl (lv_at hl 0 rfl) ?_
    refine gw_get hx hb hT i_Hand hown hK hG hhi rfl 3 (by decide) (hT _ wm_469) (fun _ h => h) rfl d_Row_stand_18 ?_
    refine lv_if_le (tgt := 34) hx hb d_Row_stand_21 (by decide) (fun z_ => absurd z_ (hu.resolve_left hJ)) (fun c_21 => ?_)
    exact gw_thrS (cls := "java/lang/UnsupportedOperationException") (text := "the hand stands in the gang, or is hurt") hx hb hst hown (by decide) (hT _ wm_557) (hT _ wm_46) (by decide) hT (by decide +kernel) (by decide +kernel) hF hG (hl.1.trans hml.symm) d_Row_stand_24 d_Row_stand_27 d_Row_stand_28 d_Row_stand_30 d_Row_stand_33 hnt (Nat.le_of_ble_eq_true rfl) (Nat.le_of_ble_eq_true rfl) (Nat.le_of_ble_eq_true rfl) (Nat.le_of_ble_eq_true rfl) hlk (Nat.le_of_ble_eq_true rfl) (Nat.le_of_ble_eq_true rfl)
set_option maxHeartbeats 4000000 in
set_option maxRecDepth 100000 in
theorem c_Row_stand_xs (l : Launch) (E : Nat) (D : va_G) (cI cO cZ : ClassId) (z0 : Nat) (M : gM) (hst : l.stackTraces = false) {o n : Nat} {day : Int32} {S : gS} {Z ad bn : Nat → Nat} (hf : gw_fa z0 cO M o n day S Z ad bn) {i J : Nat} (hi : i < n) (hJ1 : J ≤ S.1) (hJ2 : ∀ p, p < J → S.2.1 p ≠ i) (hJ3 : J < S.1 → S.2.1 J = i) (hJ : ¬ J < S.1) (hu : (S.2.2 i).2.2.2.1 ≤ 0) (h5 : 5 ≤ S.1) : vx_Met l y_Row_stand (Cond.code y_Row_stand b_Row_stand 3 (some .int) :: gT) ({ frames := 6, cells := 1, slots := 6, locals := 86 }) (gw_Pc E D cI cO cZ z0 M [.ref o, .int (nI i)]) (gw_Qi E D (fun _ _ => False)) (gw_XC E D "java/lang/IllegalStateException" M) 1 6 (gw_A E) := by
  refine gw_ofX (cc := b_Row_stand) (maxL := 3) (ret := (some .int)) (by decide) rfl (Nat.le_of_ble_eq_true rfl) ?_
  intro p e s m args below meth c hx hb hr hml hts hown hlk hnt hF hG ls hl
  have hT : ∀ w ∈ gT, w.before args s = true := fun w h => hts w (List.mem_cons_of_mem _ h)
  have hK := hF.1
  have hl : lv_has ls 3 [(0, .ref o), (1, .int (nI i))] := hl
  obtain ⟨hro, hLh, hLl, hLb, hbn, hgg, hLg, hdr, hlg, hhd, had, hord, hoi, hne, har⟩ := id hf
  obtain ⟨kh, hhl, h10, -⟩ := id hLh
  have hz0 := gw_z0 hF hG
  have hS10 := hLg.choose_spec.2.1
  refine lv_aload_n hx hb d_Row_stand_0 rfl (lv_at hl 0 rfl) ?_
  refine lv_iload_n hx hb d_Row_stand_1 rfl (lv_at hl 1 rfl) ?_
  refine gw_callq (gw_runV (As := [.int (nI i)]) (rest := []) ⟨hx, hb, hml, hown, hts⟩ (c_Row_handAt l E D cI cO cZ z0 M hf hi) (gw_cwV 1 hts (gT_gi wm_539) rfl rfl rfl (hT _ wm_23) (hT _ wm_536) (hT _ wm_538) (hT _ wm_10) (by decide +kernel) ⟨Nat.le_of_ble_eq_true rfl, Nat.le_of_ble_eq_true rfl⟩) hF hG rfl hro rfl hl.1 rfl (Nat.le_of_ble_eq_true rfl) d_Row_stand_2 ⟨Nat.le_of_ble_eq_true rfl, Nat.le_of_ble_eq_true rfl⟩) hG (fun r M1 H locs hp hG => ?_)
  rw [hp.1]
  replace hG := gw_nm hp.2.symm hG
  have hhi := hhd i hi
  refine lv_astore_n (lv' := [(2, .ref (ad i)), (0, .ref o), (1, .int (nI i))]) hx hb d_Row_stand_5 rfl hl (by decide) rfl (fun ls hl => ?_)
  refine lv_aload_n hx hb d_Row_stand_6 rfl (lv_at hl 1 rfl) ?_
  refine gw_get hx hb hT i_Row hown hK hG hro rfl 3 (by decide) (hT _ wm_239) (fun _ h => h) rfl d_Row_stand_7 ?_
  refine lv_aload_n hx hb d_Row_stand_10 rfl (lv_at hl 0 rfl) ?_
  refine gw_calli (gw_runV (As := [.ref (ad i)]) (rest := []) ⟨hx, hb, hml, hown, hts⟩ (c_Gang_placeFor l E D cI cO cZ z0 M hf.gg (h := ad i) (J := J) hJ1 (fun p hp z => hJ2 p hp (had _ _ (hord p (by omega)) hi z)) (fun h => congrArg ad (hJ3 h))) (gw_cwV 1 hts (gT_gi wm_556) rfl rfl rfl (hT _ wm_27) (hT _ wm_553) (hT _ wm_554) (hT _ wm_555) (by decide +kernel) ⟨Nat.le_of_ble_eq_true rfl, Nat.le_of_ble_eq_true rfl⟩) hF hG rfl hgg rfl hl.1 rfl (Nat.le_of_ble_eq_true rfl) d_Row_stand_11 ⟨Nat.le_of_ble_eq_true rfl, Nat.le_of_ble_eq_true rfl⟩) hG (fun r M2 H locs hp hG => ?_)
  rw [hp.1]
  replace hG := gw_nm hp.2.symm hG
  rw [if_neg hJ]
  refine lv_if_ge (tgt := 24) hx hb d_Row_stand_14 (by decide) (fun z_ => absurd z_ (by decide)) (fun c_14 => ?_)
  refine lv_aload_n hx hb d_Row_stand_17 rfl (lv_at hl 0 rfl) ?_
  refine gw_get hx hb hT i_Hand hown hK hG hhi rfl 3 (by decide) (hT _ wm_469) (fun _ h => h) rfl d_Row_stand_18 ?_
  refine lv_if_le (tgt := 34) hx hb d_Row_stand_21 (by decide) (fun c_21 => ?_) (fun z_ => absurd (hu) z_)
  refine lv_aload_n hx hb d_Row_stand_34 rfl (lv_at hl 1 rfl) ?_
  refine gw_get hx hb hT i_Row hown hK hG hro rfl 3 (by decide) (hT _ wm_239) (fun _ h => h) rfl d_Row_stand_35 ?_
  refine gw_calli (gw_runV (As := []) (rest := []) ⟨hx, hb, hml, hown, hts⟩ (c_Gang_count l E D cI cO cZ z0 M hf.gg) (gw_cwV 0 hts (gT_gi wm_576) rfl rfl rfl (hT _ wm_27) (hT _ wm_573) (hT _ wm_574) (hT _ wm_575) (by decide +kernel) ⟨Nat.le_of_ble_eq_true rfl, Nat.le_of_ble_eq_true rfl⟩) hF hG rfl hgg rfl hl.1 rfl (Nat.le_of_ble_eq_true rfl) d_Row_stand_38 ⟨Nat.le_of_ble_eq_true rfl, Nat.le_of_ble_eq_true rfl⟩) hG (fun r M3 H locs hp hG => ?_)
  rw [hp.1]
  replace hG := gw_nm hp.2.symm hG
  refine lv_iconst (v := 5) hx hb d_Row_stand_41 (by decide) ?_
  refine lv_icmp_lt (tgt := 55) hx hb d_Row_stand_42 (by decide) (fun z_ => absurd z_ (show ¬ nI S.1 < nI 5 from nI_nlt h5 (by omega))) (fun c_42 => ?_)
  exact gw_thrS (cls := "java/lang/IllegalStateException") (text := "there are 5 in the gang") hx hb hst hown (by decide) (hT _ wm_442) (hT _ wm_39) (by decide) hT (by decide +kernel) (by decide +kernel) hF hG (hl.1.trans hml.symm) d_Row_stand_45 d_Row_stand_48 d_Row_stand_49 d_Row_stand_51 d_Row_stand_54 hnt (Nat.le_of_ble_eq_true rfl) (Nat.le_of_ble_eq_true rfl) (Nat.le_of_ble_eq_true rfl) (Nat.le_of_ble_eq_true rfl) hlk (Nat.le_of_ble_eq_true rfl) (Nat.le_of_ble_eq_true rfl)
set_option maxHeartbeats 4000000 in
set_option maxRecDepth 100000 in
theorem c_Row_leave (l : Launch) (E : Nat) (D : va_G) (cI cO cZ : ClassId) (z0 : Nat) (M : gM) {o n : Nat} {day : Int32} {S : gS} {Z ad bn : Nat → Nat} (hf : gw_fa z0 cO M o n day S Z ad bn) {i J : Nat} (hi : i < n) (hJ1 : J ≤ S.1) (hJ2 : ∀ p, p < J → S.2.1 p ≠ i) (hJ3 : J < S.1 → S.2.1 J = i) (hJ : J < S.1) : Met l y_Row_leave (Cond.code y_Row_leave b_Row_leave 3 (some .int) :: gT) ({ frames := 5, cells := 0, slots := 0, locals := 128 }) (gw_Pc E D cI cO cZ z0 M [.ref o, .int (nI i)]) (gw_Qi E D (fun r M' => r = nI (S.1 - 1) ∧ ∃ Z' : Nat → Nat, gw_fa z0 cO M' o n day (S.1 - 1, skp J S.2.1, S.2.2) Z' ad bn ∧ gw_ints M M')) 0 0 (gw_A E) := by
  refine gw_ofW (cc := b_Row_leave) (maxL := 3) (ret := (some .int)) (by decide) rfl (Nat.le_of_ble_eq_true rfl) ?_
  intro p e s m args below meth c hx hb hr hml hts hown hlk hnm hF hG ls hl
  have hT : ∀ w ∈ gT, w.before args s = true := fun w h => hts w (List.mem_cons_of_mem _ h)
  have hK := hF.1
  have hl : lv_has ls 3 [(0, .ref o), (1, .int (nI i))] := hl
  obtain ⟨hro, hLh, hLl, hLb, hbn, hgg, hLg, hdr, hlg, hhd, had, hord, hoi, hne, har⟩ := id hf
  obtain ⟨kh, hhl, h10, -⟩ := id hLh
  have hz0 := gw_z0 hF hG
  have hS10 := hLg.choose_spec.2.1
  refine lv_aload_n hx hb d_Row_leave_0 rfl (lv_at hl 0 rfl) ?_
  refine lv_iload_n hx hb d_Row_leave_1 rfl (lv_at hl 1 rfl) ?_
  refine gw_callq (gw_runV (As := [.int (nI i)]) (rest := []) ⟨hx, hb, hml, hown, hts⟩ (c_Row_handAt l E D cI cO cZ z0 M hf hi) (gw_cwV 1 hts (gT_gi wm_539) rfl rfl rfl (hT _ wm_23) (hT _ wm_536) (hT _ wm_538) (hT _ wm_10) (by decide +kernel) ⟨Nat.le_of_ble_eq_true rfl, Nat.le_of_ble_eq_true rfl⟩) hF hG rfl hro rfl hl.1 rfl (Nat.le_of_ble_eq_true rfl) d_Row_leave_2 ⟨Nat.le_of_ble_eq_true rfl, Nat.le_of_ble_eq_true rfl⟩) hG (fun r M1 H locs hp hG => ?_)
  rw [hp.1]
  replace hG := gw_nm hp.2.symm hG
  have hhi := hhd i hi
  refine lv_astore_n (lv' := [(2, .ref (ad i)), (0, .ref o), (1, .int (nI i))]) hx hb d_Row_leave_5 rfl hl (by decide) rfl (fun ls hl => ?_)
  refine lv_aload_n hx hb d_Row_leave_6 rfl (lv_at hl 1 rfl) ?_
  refine gw_get hx hb hT i_Row hown hK hG hro rfl 3 (by decide) (hT _ wm_239) (fun _ h => h) rfl d_Row_leave_7 ?_
  refine lv_aload_n hx hb d_Row_leave_10 rfl (lv_at hl 0 rfl) ?_
  refine gw_calli (gw_runV (As := [.ref (ad i)]) (rest := []) ⟨hx, hb, hml, hown, hts⟩ (c_Gang_placeFor l E D cI cO cZ z0 M hf.gg (h := ad i) (J := J) hJ1 (fun p hp z => hJ2 p hp (had _ _ (hord p (by omega)) hi z)) (fun h => congrArg ad (hJ3 h))) (gw_cwV 1 hts (gT_gi wm_556) rfl rfl rfl (hT _ wm_27) (hT _ wm_553) (hT _ wm_554) (hT _ wm_555) (by decide +kernel) ⟨Nat.le_of_ble_eq_true rfl, Nat.le_of_ble_eq_true rfl⟩) hF hG rfl hgg rfl hl.1 rfl (Nat.le_of_ble_eq_true rfl) d_Row_leave_11 ⟨Nat.le_of_ble_eq_true rfl, Nat.le_of_ble_eq_true rfl⟩) hG (fun r M2 H locs hp hG => ?_)
  rw [hp.1]
  replace hG := gw_nm hp.2.symm hG
  rw [if_pos hJ]
  refine lv_if_ge (tgt := 27) hx hb d_Row_leave_14 (by decide) (fun c_14 => ?_) (fun z_ => absurd (nI_pos' (by omega)) z_)
  refine lv_aload_n hx hb d_Row_leave_27 rfl (lv_at hl 1 rfl) ?_
  refine gw_get hx hb hT i_Row hown hK hG hro rfl 3 (by decide) (hT _ wm_239) (fun _ h => h) rfl d_Row_leave_28 ?_
  refine lv_aload_n hx hb d_Row_leave_31 rfl (lv_at hl 0 rfl) ?_
  obtain ⟨mm, hm⟩ : ∃ mm, S.1 = mm + 1 := ⟨S.1 - 1, by omega⟩
  have hg1 : gw_Gg z0 cO M (Z 5) (Z 6) (Z 7) (mm + 1) (fun p => ad (S.2.1 p)) (fun p => S.2.2 (S.2.1 p)) := by rw [← hm]; exact hf.gg
  refine gw_callv (gw_runV (As := [.ref (ad i)]) (rest := []) ⟨hx, hb, hml, hown, hts⟩ (c_Gang_letGo l E D cI cO cZ z0 M hg1 (h := ad i) (j := J) (by omega) (congrArg ad (hJ3 hJ))) (gw_cwV 1 hts (gT_gi wm_595) rfl rfl rfl (hT _ wm_27) (hT _ wm_592) (hT _ wm_593) (hT _ wm_594) (by decide +kernel) ⟨Nat.le_of_ble_eq_true rfl, Nat.le_of_ble_eq_true rfl⟩) hF hG rfl hgg rfl hl.1 rfl (Nat.le_of_ble_eq_true rfl) d_Row_leave_32 ⟨Nat.le_of_ble_eq_true rfl, Nat.le_of_ble_eq_true rfl⟩) hG (fun M3 H locs hp hG => ?_)
  obtain ⟨h1, h2⟩ := hp
  obtain ⟨kg, hgl, -, hgf⟩ := id hLg
  have hfr : ∀ b e, M b = some e → b ≠ Z 6 → b ≠ Z 7 → (∀ x, e ≠ .inr (6, x)) → M3 b = M b := fun b e _ q1 q2 _ => h2 b q1 q2
  have hta : ∀ j, j < n → ad j ≠ Z 7 := fun j hj => by
      rcases hgf with ⟨-, hgz⟩ | ⟨f, hgz, -⟩
      · rw [hgz]; exact gw_neF hz0 (hhd j hj)
      · exact (gw_neA hgz (hhd j hj)).symm
  have hf2 := hf.gang (M' := M3) (m' := mm) (ord' := skp J S.2.1) (v' := S.2.2) hz0 (by
      have e1 : (fun p => ad (skp J S.2.1 p)) = (fun p => if p < J then (fun p => ad (S.2.1 p)) p else (fun p => ad (S.2.1 p)) (p + 1)) := by funext p; unfold skp; split <;> rfl
      rw [e1]; exact h1) (fun j hj => (h2 _ (gw_neO (hhd j hj) hgl (by decide)) (hta j hj)).trans (hhd j hj)) hfr (Or.inl rfl) (skp_lt (fun p hp => hord p (by omega))) (skp_inj (fun p q hp hq z => hoi p q (by omega) (by omega) z))
  obtain ⟨hro2, -, -, -, -, hgg2, -⟩ := id hf2
  have hmm : S.1 - 1 = mm := by omega
  rw [hmm]
  refine lv_aload_n hx hb d_Row_leave_35 rfl (lv_at hl 1 rfl) ?_
  refine gw_get hx hb hT i_Row hown hK hG hro2 rfl 3 (by decide) (hT _ wm_239) (fun _ h => h) rfl d_Row_leave_36 ?_
  refine gw_calli (gw_runV (As := []) (rest := []) ⟨hx, hb, hml, hown, hts⟩ (c_Gang_count l E D cI cO cZ z0 M3 hf2.gg) (gw_cwV 0 hts (gT_gi wm_576) rfl rfl rfl (hT _ wm_27) (hT _ wm_573) (hT _ wm_574) (hT _ wm_575) (by decide +kernel) ⟨Nat.le_of_ble_eq_true rfl, Nat.le_of_ble_eq_true rfl⟩) hF hG rfl hgg2 rfl hl.1 rfl (Nat.le_of_ble_eq_true rfl) d_Row_leave_39 ⟨Nat.le_of_ble_eq_true rfl, Nat.le_of_ble_eq_true rfl⟩) hG (fun r M4 H locs hp hG => ?_)
  rw [hp.1]
  replace hG := gw_nm hp.2.symm hG
  exact gw_iret (v := (nI mm)) hx hb hr hlk hG (⟨rfl, _, hf2, gw_ints.of hLg hz0 hfr (Or.inl rfl)⟩) (Nat.le_of_ble_eq_true rfl) (Nat.le_of_ble_eq_true rfl) d_Row_leave_42
set_option maxHeartbeats 4000000 in
set_option maxRecDepth 100000 in
theorem c_Row_leave_x (l : Launch) (E : Nat) (D : va_G) (cI cO cZ : ClassId) (z0 : Nat) (M : gM) (hst : l.stackTraces = false) {o n : Nat} {day : Int32} {S : gS} {Z ad bn : Nat → Nat} (hf : gw_fa z0 cO M o n day S Z ad bn) {i J : Nat} (hi : i < n) (hJ1 : J ≤ S.1) (hJ2 : ∀ p, p < J → S.2.1 p ≠ i) (hJ3 : J < S.1 → S.2.1 J = i) (hJ : ¬ J < S.1) : vx_Met l y_Row_leave (Cond.code y_Row_leave b_Row_leave 3 (some .int) :: gT) ({ frames := 6, cells := 1, slots := 6, locals := 86 }) (gw_Pc E D cI cO cZ z0 M [.ref o, .int (nI i)]) (gw_Qi E D (fun _ _ => False)) (gw_XC E D "java/lang/UnsupportedOperationException" M) 1 6 (gw_A E) := by
  refine gw_ofX (cc := b_Row_leave) (maxL := 3) (ret := (some .int)) (by decide) rfl (Nat.le_of_ble_eq_true rfl) ?_
  intro p e s m args below meth c hx hb hr hml hts hown hlk hnt hF hG ls hl
  have hT : ∀ w ∈ gT, w.before args s = true := fun w h => hts w (List.mem_cons_of_mem _ h)
  have hK := hF.1
  have hl : lv_has ls 3 [(0, .ref o), (1, .int (nI i))] := hl
  obtain ⟨hro, hLh, hLl, hLb, hbn, hgg, hLg, hdr, hlg, hhd, had, hord, hoi, hne, har⟩ := id hf
  obtain ⟨kh, hhl, h10, -⟩ := id hLh
  have hz0 := gw_z0 hF hG
  have hS10 := hLg.choose_spec.2.1
  refine lv_aload_n hx hb d_Row_leave_0 rfl (lv_at hl 0 rfl) ?_
  refine lv_iload_n hx hb d_Row_leave_1 rfl (lv_at hl 1 rfl) ?_
  refine gw_callq (gw_runV (As := [.int (nI i)]) (rest := []) ⟨hx, hb, hml, hown, hts⟩ (c_Row_handAt l E D cI cO cZ z0 M hf hi) (gw_cwV 1 hts (gT_gi wm_539) rfl rfl rfl (hT _ wm_23) (hT _ wm_536) (hT _ wm_538) (hT _ wm_10) (by decide +kernel) ⟨Nat.le_of_ble_eq_true rfl, Nat.le_of_ble_eq_true rfl⟩) hF hG rfl hro rfl hl.1 rfl (Nat.le_of_ble_eq_true rfl) d_Row_leave_2 ⟨Nat.le_of_ble_eq_true rfl, Nat.le_of_ble_eq_true rfl⟩) hG (fun r M1 H locs hp hG => ?_)
  rw [hp.1]
  replace hG := gw_nm hp.2.symm hG
  have hhi := hhd i hi
  refine lv_astore_n (lv' := [(2, .ref (ad i)), (0, .ref o), (1, .int (nI i))]) hx hb d_Row_leave_5 rfl hl (by decide) rfl (fun ls hl => ?_)
  refine lv_aload_n hx hb d_Row_leave_6 rfl (lv_at hl 1 rfl) ?_
  refine gw_get hx hb hT i_Row hown hK hG hro rfl 3 (by decide) (hT _ wm_239) (fun _ h => h) rfl d_Row_leave_7 ?_
  refine lv_aload_n hx hb d_Row_leave_10 rfl (lv_at hl 0 rfl) ?_
  refine gw_calli (gw_runV (As := [.ref (ad i)]) (rest := []) ⟨hx, hb, hml, hown, hts⟩ (c_Gang_placeFor l E D cI cO cZ z0 M hf.gg (h := ad i) (J := J) hJ1 (fun p hp z => hJ2 p hp (had _ _ (hord p (by omega)) hi z)) (fun h => congrArg ad (hJ3 h))) (gw_cwV 1 hts (gT_gi wm_556) rfl rfl rfl (hT _ wm_27) (hT _ wm_553) (hT _ wm_554) (hT _ wm_555) (by decide +kernel) ⟨Nat.le_of_ble_eq_true rfl, Nat.le_of_ble_eq_true rfl⟩) hF hG rfl hgg rfl hl.1 rfl (Nat.le_of_ble_eq_true rfl) d_Row_leave_11 ⟨Nat.le_of_ble_eq_true rfl, Nat.le_of_ble_eq_true rfl⟩) hG (fun r M2 H locs hp hG => ?_)
  rw [hp.1]
  replace hG := gw_nm hp.2.symm hG
  rw [if_neg hJ]
  refine lv_if_ge (tgt := 27) hx hb d_Row_leave_14 (by decide) (fun z_ => absurd z_ (by decide)) (fun c_14 => ?_)
  exact gw_thrS (cls := "java/lang/UnsupportedOperationException") (text := "the hand does not stand in the gang") hx hb hst hown (by decide) (hT _ wm_557) (hT _ wm_46) (by decide) hT (by decide +kernel) (by decide +kernel) hF hG (hl.1.trans hml.symm) d_Row_leave_17 d_Row_leave_20 d_Row_leave_21 d_Row_leave_23 d_Row_leave_26 hnt (Nat.le_of_ble_eq_true rfl) (Nat.le_of_ble_eq_true rfl) (Nat.le_of_ble_eq_true rfl) (Nat.le_of_ble_eq_true rfl) hlk (Nat.le_of_ble_eq_true rfl) (Nat.le_of_ble_eq_true rfl)
