theorem d_Law_fatigue_0 : decode b_Law_fatigue 0 = .ok (.aload_n 0, 1) := by decide +kernel
theorem d_Law_fatigue_1 : decode b_Law_fatigue 1 = .ok (.iload_n 1, 1) := by decide +kernel
theorem wm_657 : Cond.code ⟨"ThresholdRow", "fatigue", "(I)I"⟩ prog_1_method_8_code 2 (some .int) ∈ gT := gT_m (List.mem_of_getElem? (i := 657) (by decide +kernel)) (by decide +kernel)
theorem wm_654 : Cond.methodLink "ThresholdRowLaw" 44 ⟨"ThresholdRow", "fatigue", "(I)I"⟩ ∈ gT := gT_m (List.mem_of_getElem? (i := 654) (by decide +kernel)) (by decide +kernel)
theorem d_Law_fatigue_2 : decode b_Law_fatigue 2 = .ok (.invokevirtual 44, 3) := by decide +kernel
theorem wm_655 : Cond.instanceMethod ⟨"ThresholdRow", "fatigue", "(I)I"⟩ ∈ gT := gT_m (List.mem_of_getElem? (i := 655) (by decide +kernel)) (by decide +kernel)
theorem wm_656 : Cond.selects "ThresholdRow" ⟨"ThresholdRow", "fatigue", "(I)I"⟩ ⟨"ThresholdRow", "fatigue", "(I)I"⟩ ∈ gT := gT_m (List.mem_of_getElem? (i := 656) (by decide +kernel)) (by decide +kernel)
theorem d_Law_fatigue_5 : decode b_Law_fatigue 5 = .ok (.ireturn, 1) := by decide +kernel
theorem d_Law_hurt_0 : decode b_Law_hurt 0 = .ok (.aload_n 0, 1) := by decide +kernel
theorem d_Law_hurt_1 : decode b_Law_hurt 1 = .ok (.iload_n 1, 1) := by decide +kernel
theorem wm_664 : Cond.code ⟨"ThresholdRow", "hurt", "(I)I"⟩ prog_1_method_9_code 2 (some .int) ∈ gT := gT_m (List.mem_of_getElem? (i := 664) (by decide +kernel)) (by decide +kernel)
theorem wm_661 : Cond.methodLink "ThresholdRowLaw" 47 ⟨"ThresholdRow", "hurt", "(I)I"⟩ ∈ gT := gT_m (List.mem_of_getElem? (i := 661) (by decide +kernel)) (by decide +kernel)
theorem d_Law_hurt_2 : decode b_Law_hurt 2 = .ok (.invokevirtual 47, 3) := by decide +kernel
theorem wm_662 : Cond.instanceMethod ⟨"ThresholdRow", "hurt", "(I)I"⟩ ∈ gT := gT_m (List.mem_of_getElem? (i := 662) (by decide +kernel)) (by decide +kernel)
theorem wm_663 : Cond.selects "ThresholdRow" ⟨"ThresholdRow", "hurt", "(I)I"⟩ ⟨"ThresholdRow", "hurt", "(I)I"⟩ ∈ gT := gT_m (List.mem_of_getElem? (i := 663) (by decide +kernel)) (by decide +kernel)
theorem d_Law_hurt_5 : decode b_Law_hurt 5 = .ok (.ireturn, 1) := by decide +kernel
theorem d_Law_lost_0 : decode b_Law_lost 0 = .ok (.aload_n 0, 1) := by decide +kernel
theorem d_Law_lost_1 : decode b_Law_lost 1 = .ok (.iload_n 1, 1) := by decide +kernel
theorem wm_671 : Cond.code ⟨"ThresholdRow", "lost", "(I)I"⟩ prog_1_method_10_code 2 (some .int) ∈ gT := gT_m (List.mem_of_getElem? (i := 671) (by decide +kernel)) (by decide +kernel)
theorem wm_668 : Cond.methodLink "ThresholdRowLaw" 50 ⟨"ThresholdRow", "lost", "(I)I"⟩ ∈ gT := gT_m (List.mem_of_getElem? (i := 668) (by decide +kernel)) (by decide +kernel)
theorem d_Law_lost_2 : decode b_Law_lost 2 = .ok (.invokevirtual 50, 3) := by decide +kernel
theorem wm_669 : Cond.instanceMethod ⟨"ThresholdRow", "lost", "(I)I"⟩ ∈ gT := gT_m (List.mem_of_getElem? (i := 669) (by decide +kernel)) (by decide +kernel)
theorem wm_670 : Cond.selects "ThresholdRow" ⟨"ThresholdRow", "lost", "(I)I"⟩ ⟨"ThresholdRow", "lost", "(I)I"⟩ ∈ gT := gT_m (List.mem_of_getElem? (i := 670) (by decide +kernel)) (by decide +kernel)
theorem d_Law_lost_5 : decode b_Law_lost 5 = .ok (.ireturn, 1) := by decide +kernel
theorem wm_507 : Cond.classLink "ThresholdRowLaw" 25 "java/lang/IndexOutOfBoundsException" ∈ gT := gT_m (List.mem_of_getElem? (i := 507) (by decide +kernel)) (by decide +kernel)
theorem wq_542 : Cond.castable "java/lang/IndexOutOfBoundsException" "java/lang/IndexOutOfBoundsException" ∈ lw_tbl := List.mem_of_getElem? (i := 542) (by decide +kernel)
theorem d_Law_fatigue_6 : decode b_Law_fatigue 6 = .ok (.astore_n 2, 1) := by decide +kernel
theorem wm_502 : Cond.constant "ThresholdRowLaw" 17 (-900001) ∈ gT := gT_m (List.mem_of_getElem? (i := 502) (by decide +kernel)) (by decide +kernel)
theorem d_Law_fatigue_7 : decode b_Law_fatigue 7 = .ok (.ldc 17, 2) := by decide +kernel
theorem d_Law_fatigue_9 : decode b_Law_fatigue 9 = .ok (.ireturn, 1) := by decide +kernel
theorem d_Law_placeOf_0 : decode b_Law_placeOf 0 = .ok (.aload_n 0, 1) := by decide +kernel
theorem d_Law_placeOf_1 : decode b_Law_placeOf 1 = .ok (.iload_n 1, 1) := by decide +kernel
theorem wm_612 : Cond.code ⟨"ThresholdRow", "placeOf", "(I)I"⟩ prog_1_method_5_code 2 (some .int) ∈ gT := gT_m (List.mem_of_getElem? (i := 612) (by decide +kernel)) (by decide +kernel)
theorem wm_609 : Cond.methodLink "ThresholdRowLaw" 33 ⟨"ThresholdRow", "placeOf", "(I)I"⟩ ∈ gT := gT_m (List.mem_of_getElem? (i := 609) (by decide +kernel)) (by decide +kernel)
theorem d_Law_placeOf_2 : decode b_Law_placeOf 2 = .ok (.invokevirtual 33, 3) := by decide +kernel
theorem wm_610 : Cond.instanceMethod ⟨"ThresholdRow", "placeOf", "(I)I"⟩ ∈ gT := gT_m (List.mem_of_getElem? (i := 610) (by decide +kernel)) (by decide +kernel)
theorem wm_611 : Cond.selects "ThresholdRow" ⟨"ThresholdRow", "placeOf", "(I)I"⟩ ⟨"ThresholdRow", "placeOf", "(I)I"⟩ ∈ gT := gT_m (List.mem_of_getElem? (i := 611) (by decide +kernel)) (by decide +kernel)
theorem d_Law_placeOf_5 : decode b_Law_placeOf 5 = .ok (.ireturn, 1) := by decide +kernel
theorem d_Law_placeOf_6 : decode b_Law_placeOf 6 = .ok (.astore_n 2, 1) := by decide +kernel
theorem d_Law_placeOf_7 : decode b_Law_placeOf 7 = .ok (.ldc 17, 2) := by decide +kernel
theorem d_Law_placeOf_9 : decode b_Law_placeOf 9 = .ok (.ireturn, 1) := by decide +kernel
theorem d_Law_errorOf_0 : decode b_Law_errorOf 0 = .ok (.aload_n 0, 1) := by decide +kernel
theorem d_Law_errorOf_1 : decode b_Law_errorOf 1 = .ok (.iload_n 1, 1) := by decide +kernel
theorem wm_620 : Cond.code ⟨"ThresholdRow", "errorOf", "(I)I"⟩ prog_1_method_6_code 3 (some .int) ∈ gT := gT_m (List.mem_of_getElem? (i := 620) (by decide +kernel)) (by decide +kernel)
theorem wm_617 : Cond.methodLink "ThresholdRowLaw" 36 ⟨"ThresholdRow", "errorOf", "(I)I"⟩ ∈ gT := gT_m (List.mem_of_getElem? (i := 617) (by decide +kernel)) (by decide +kernel)
theorem d_Law_errorOf_2 : decode b_Law_errorOf 2 = .ok (.invokevirtual 36, 3) := by decide +kernel
theorem wm_618 : Cond.instanceMethod ⟨"ThresholdRow", "errorOf", "(I)I"⟩ ∈ gT := gT_m (List.mem_of_getElem? (i := 618) (by decide +kernel)) (by decide +kernel)
theorem wm_619 : Cond.selects "ThresholdRow" ⟨"ThresholdRow", "errorOf", "(I)I"⟩ ⟨"ThresholdRow", "errorOf", "(I)I"⟩ ∈ gT := gT_m (List.mem_of_getElem? (i := 619) (by decide +kernel)) (by decide +kernel)
theorem d_Law_errorOf_5 : decode b_Law_errorOf 5 = .ok (.ireturn, 1) := by decide +kernel
theorem wm_616 : Cond.classLink "ThresholdRowLaw" 39 "java/util/NoSuchElementException" ∈ gT := gT_m (List.mem_of_getElem? (i := 616) (by decide +kernel)) (by decide +kernel)
theorem wq_627 : Cond.castable "java/util/NoSuchElementException" "java/util/NoSuchElementException" ∈ lw_tbl := List.mem_of_getElem? (i := 627) (by decide +kernel)
theorem d_Law_errorOf_10 : decode b_Law_errorOf 10 = .ok (.astore_n 2, 1) := by decide +kernel
theorem wm_503 : Cond.constant "ThresholdRowLaw" 20 (-900002) ∈ gT := gT_m (List.mem_of_getElem? (i := 503) (by decide +kernel)) (by decide +kernel)
theorem d_Law_errorOf_11 : decode b_Law_errorOf 11 = .ok (.ldc 20, 2) := by decide +kernel
theorem d_Law_errorOf_13 : decode b_Law_errorOf 13 = .ok (.ireturn, 1) := by decide +kernel
theorem d_Law_strokeOf_0 : decode b_Law_strokeOf 0 = .ok (.aload_n 0, 1) := by decide +kernel
theorem d_Law_strokeOf_1 : decode b_Law_strokeOf 1 = .ok (.iload_n 1, 1) := by decide +kernel
theorem wm_646 : Cond.code ⟨"ThresholdRow", "strokeOf", "(I)I"⟩ prog_1_method_7_code 2 (some .int) ∈ gT := gT_m (List.mem_of_getElem? (i := 646) (by decide +kernel)) (by decide +kernel)
theorem wm_643 : Cond.methodLink "ThresholdRowLaw" 41 ⟨"ThresholdRow", "strokeOf", "(I)I"⟩ ∈ gT := gT_m (List.mem_of_getElem? (i := 643) (by decide +kernel)) (by decide +kernel)
theorem d_Law_strokeOf_2 : decode b_Law_strokeOf 2 = .ok (.invokevirtual 41, 3) := by decide +kernel
theorem wm_644 : Cond.instanceMethod ⟨"ThresholdRow", "strokeOf", "(I)I"⟩ ∈ gT := gT_m (List.mem_of_getElem? (i := 644) (by decide +kernel)) (by decide +kernel)
theorem wm_645 : Cond.selects "ThresholdRow" ⟨"ThresholdRow", "strokeOf", "(I)I"⟩ ⟨"ThresholdRow", "strokeOf", "(I)I"⟩ ∈ gT := gT_m (List.mem_of_getElem? (i := 645) (by decide +kernel)) (by decide +kernel)
theorem d_Law_strokeOf_5 : decode b_Law_strokeOf 5 = .ok (.ireturn, 1) := by decide +kernel
theorem d_Law_strokeOf_10 : decode b_Law_strokeOf 10 = .ok (.astore_n 2, 1) := by decide +kernel
theorem d_Law_strokeOf_11 : decode b_Law_strokeOf 11 = .ok (.ldc 20, 2) := by decide +kernel
theorem d_Law_strokeOf_13 : decode b_Law_strokeOf 13 = .ok (.ireturn, 1) := by decide +kernel
theorem d_Law_stand_0 : decode b_Law_stand 0 = .ok (.aload_n 0, 1) := by decide +kernel
theorem d_Law_stand_1 : decode b_Law_stand 1 = .ok (.iload_n 1, 1) := by decide +kernel
theorem wm_535 : Cond.code ⟨"ThresholdRow", "stand", "(I)I"⟩ prog_1_method_3_code 3 (some .int) ∈ gT := gT_m (List.mem_of_getElem? (i := 535) (by decide +kernel)) (by decide +kernel)
theorem wm_532 : Cond.methodLink "ThresholdRowLaw" 21 ⟨"ThresholdRow", "stand", "(I)I"⟩ ∈ gT := gT_m (List.mem_of_getElem? (i := 532) (by decide +kernel)) (by decide +kernel)
theorem d_Law_stand_2 : decode b_Law_stand 2 = .ok (.invokevirtual 21, 3) := by decide +kernel
theorem wm_533 : Cond.instanceMethod ⟨"ThresholdRow", "stand", "(I)I"⟩ ∈ gT := gT_m (List.mem_of_getElem? (i := 533) (by decide +kernel)) (by decide +kernel)
theorem wm_534 : Cond.selects "ThresholdRow" ⟨"ThresholdRow", "stand", "(I)I"⟩ ⟨"ThresholdRow", "stand", "(I)I"⟩ ∈ gT := gT_m (List.mem_of_getElem? (i := 534) (by decide +kernel)) (by decide +kernel)
theorem d_Law_stand_5 : decode b_Law_stand 5 = .ok (.ireturn, 1) := by decide +kernel
theorem d_Law_stand_6 : decode b_Law_stand 6 = .ok (.astore_n 2, 1) := by decide +kernel
theorem d_Law_stand_7 : decode b_Law_stand 7 = .ok (.ldc 17, 2) := by decide +kernel
theorem d_Law_stand_9 : decode b_Law_stand 9 = .ok (.ireturn, 1) := by decide +kernel
theorem wm_531 : Cond.classLink "ThresholdRowLaw" 27 "java/lang/UnsupportedOperationException" ∈ gT := gT_m (List.mem_of_getElem? (i := 531) (by decide +kernel)) (by decide +kernel)
theorem wq_559 : Cond.castable "java/lang/UnsupportedOperationException" "java/lang/UnsupportedOperationException" ∈ lw_tbl := List.mem_of_getElem? (i := 559) (by decide +kernel)
theorem d_Law_stand_10 : decode b_Law_stand 10 = .ok (.astore_n 2, 1) := by decide +kernel
theorem d_Law_stand_11 : decode b_Law_stand 11 = .ok (.ldc 20, 2) := by decide +kernel
theorem d_Law_stand_13 : decode b_Law_stand 13 = .ok (.ireturn, 1) := by decide +kernel
theorem wm_418 : Cond.classLink "ThresholdRowLaw" 18 "java/lang/IllegalStateException" ∈ gT := gT_m (List.mem_of_getElem? (i := 418) (by decide +kernel)) (by decide +kernel)
theorem wq_444 : Cond.castable "java/lang/IllegalStateException" "java/lang/IllegalStateException" ∈ lw_tbl := List.mem_of_getElem? (i := 444) (by decide +kernel)
theorem d_Law_stand_14 : decode b_Law_stand 14 = .ok (.astore_n 2, 1) := by decide +kernel
theorem wm_583 : Cond.constant "ThresholdRowLaw" 29 (-900003) ∈ gT := gT_m (List.mem_of_getElem? (i := 583) (by decide +kernel)) (by decide +kernel)
theorem d_Law_stand_15 : decode b_Law_stand 15 = .ok (.ldc 29, 2) := by decide +kernel
theorem d_Law_stand_17 : decode b_Law_stand 17 = .ok (.ireturn, 1) := by decide +kernel
theorem d_Law_leave_0 : decode b_Law_leave 0 = .ok (.aload_n 0, 1) := by decide +kernel
theorem d_Law_leave_1 : decode b_Law_leave 1 = .ok (.iload_n 1, 1) := by decide +kernel
theorem wm_590 : Cond.code ⟨"ThresholdRow", "leave", "(I)I"⟩ prog_1_method_4_code 3 (some .int) ∈ gT := gT_m (List.mem_of_getElem? (i := 590) (by decide +kernel)) (by decide +kernel)
theorem wm_587 : Cond.methodLink "ThresholdRowLaw" 30 ⟨"ThresholdRow", "leave", "(I)I"⟩ ∈ gT := gT_m (List.mem_of_getElem? (i := 587) (by decide +kernel)) (by decide +kernel)
theorem d_Law_leave_2 : decode b_Law_leave 2 = .ok (.invokevirtual 30, 3) := by decide +kernel
theorem wm_588 : Cond.instanceMethod ⟨"ThresholdRow", "leave", "(I)I"⟩ ∈ gT := gT_m (List.mem_of_getElem? (i := 588) (by decide +kernel)) (by decide +kernel)
theorem wm_589 : Cond.selects "ThresholdRow" ⟨"ThresholdRow", "leave", "(I)I"⟩ ⟨"ThresholdRow", "leave", "(I)I"⟩ ∈ gT := gT_m (List.mem_of_getElem? (i := 589) (by decide +kernel)) (by decide +kernel)
theorem d_Law_leave_5 : decode b_Law_leave 5 = .ok (.ireturn, 1) := by decide +kernel
theorem d_Law_leave_10 : decode b_Law_leave 10 = .ok (.astore_n 2, 1) := by decide +kernel
theorem d_Law_leave_11 : decode b_Law_leave 11 = .ok (.ldc 20, 2) := by decide +kernel
theorem d_Law_leave_13 : decode b_Law_leave 13 = .ok (.ireturn, 1) := by decide +kernel
theorem d_Law_practise_0 : decode b_Law_practise 0 = .ok (.aload_n 0, 1) := by decide +kernel
theorem d_Law_practise_1 : decode b_Law_practise 1 = .ok (.iload_n 1, 1) := by decide +kernel
theorem wm_678 : Cond.code ⟨"ThresholdRow", "practise", "(I)I"⟩ prog_1_method_11_code 4 (some .int) ∈ gT := gT_m (List.mem_of_getElem? (i := 678) (by decide +kernel)) (by decide +kernel)
theorem wm_675 : Cond.methodLink "ThresholdRowLaw" 53 ⟨"ThresholdRow", "practise", "(I)I"⟩ ∈ gT := gT_m (List.mem_of_getElem? (i := 675) (by decide +kernel)) (by decide +kernel)
theorem d_Law_practise_2 : decode b_Law_practise 2 = .ok (.invokevirtual 53, 3) := by decide +kernel
theorem wm_676 : Cond.instanceMethod ⟨"ThresholdRow", "practise", "(I)I"⟩ ∈ gT := gT_m (List.mem_of_getElem? (i := 676) (by decide +kernel)) (by decide +kernel)
theorem wm_677 : Cond.selects "ThresholdRow" ⟨"ThresholdRow", "practise", "(I)I"⟩ ⟨"ThresholdRow", "practise", "(I)I"⟩ ∈ gT := gT_m (List.mem_of_getElem? (i := 677) (by decide +kernel)) (by decide +kernel)
theorem d_Law_practise_5 : decode b_Law_practise 5 = .ok (.ireturn, 1) := by decide +kernel
theorem wm_417 : Cond.classLink "ThresholdRowLaw" 15 "java/lang/IllegalArgumentException" ∈ gT := gT_m (List.mem_of_getElem? (i := 417) (by decide +kernel)) (by decide +kernel)
theorem wq_428 : Cond.castable "java/lang/IllegalArgumentException" "java/lang/IllegalArgumentException" ∈ lw_tbl := List.mem_of_getElem? (i := 428) (by decide +kernel)
theorem d_Law_practise_6 : decode b_Law_practise 6 = .ok (.astore_n 2, 1) := by decide +kernel
theorem d_Law_practise_7 : decode b_Law_practise 7 = .ok (.ldc 17, 2) := by decide +kernel
theorem d_Law_practise_9 : decode b_Law_practise 9 = .ok (.ireturn, 1) := by decide +kernel
theorem d_Law_practise_10 : decode b_Law_practise 10 = .ok (.astore_n 2, 1) := by decide +kernel
theorem d_Law_practise_11 : decode b_Law_practise 11 = .ok (.ldc 20, 2) := by decide +kernel
theorem d_Law_practise_13 : decode b_Law_practise 13 = .ok (.ireturn, 1) := by decide +kernel
theorem d_Law_pass_0 : decode b_Law_pass 0 = .ok (.aload_n 0, 1) := by decide +kernel
theorem d_Law_pass_1 : decode b_Law_pass 1 = .ok (.iload_n 1, 1) := by decide +kernel
theorem wm_727 : Cond.code ⟨"ThresholdRow", "pass", "(I)I"⟩ prog_1_method_34_code 3 (some .int) ∈ gT := gT_m (List.mem_of_getElem? (i := 727) (by decide +kernel)) (by decide +kernel)
theorem wm_724 : Cond.methodLink "ThresholdRowLaw" 56 ⟨"ThresholdRow", "pass", "(I)I"⟩ ∈ gT := gT_m (List.mem_of_getElem? (i := 724) (by decide +kernel)) (by decide +kernel)
theorem d_Law_pass_2 : decode b_Law_pass 2 = .ok (.invokevirtual 56, 3) := by decide +kernel
theorem wm_725 : Cond.instanceMethod ⟨"ThresholdRow", "pass", "(I)I"⟩ ∈ gT := gT_m (List.mem_of_getElem? (i := 725) (by decide +kernel)) (by decide +kernel)
theorem wm_726 : Cond.selects "ThresholdRow" ⟨"ThresholdRow", "pass", "(I)I"⟩ ⟨"ThresholdRow", "pass", "(I)I"⟩ ∈ gT := gT_m (List.mem_of_getElem? (i := 726) (by decide +kernel)) (by decide +kernel)
theorem d_Law_pass_5 : decode b_Law_pass 5 = .ok (.ireturn, 1) := by decide +kernel
theorem d_Law_pass_6 : decode b_Law_pass 6 = .ok (.astore_n 2, 1) := by decide +kernel
theorem d_Law_pass_7 : decode b_Law_pass 7 = .ok (.ldc 17, 2) := by decide +kernel
theorem d_Law_pass_9 : decode b_Law_pass 9 = .ok (.ireturn, 1) := by decide +kernel
theorem d_Law_addHand_0 : decode b_Law_addHand 0 = .ok (.aload_n 0, 1) := by decide +kernel
theorem d_Law_addHand_1 : decode b_Law_addHand 1 = .ok (.iload_n 1, 1) := by decide +kernel
theorem d_Law_addHand_2 : decode b_Law_addHand 2 = .ok (.iload_n 2, 1) := by decide +kernel
theorem wm_422 : Cond.code ⟨"ThresholdRow", "addHand", "(II)I"⟩ prog_1_method_2_code 3 (some .int) ∈ gT := gT_m (List.mem_of_getElem? (i := 422) (by decide +kernel)) (by decide +kernel)
theorem wm_419 : Cond.methodLink "ThresholdRowLaw" 9 ⟨"ThresholdRow", "addHand", "(II)I"⟩ ∈ gT := gT_m (List.mem_of_getElem? (i := 419) (by decide +kernel)) (by decide +kernel)
theorem d_Law_addHand_3 : decode b_Law_addHand 3 = .ok (.invokevirtual 9, 3) := by decide +kernel
theorem wm_420 : Cond.instanceMethod ⟨"ThresholdRow", "addHand", "(II)I"⟩ ∈ gT := gT_m (List.mem_of_getElem? (i := 420) (by decide +kernel)) (by decide +kernel)
theorem wm_421 : Cond.selects "ThresholdRow" ⟨"ThresholdRow", "addHand", "(II)I"⟩ ⟨"ThresholdRow", "addHand", "(II)I"⟩ ∈ gT := gT_m (List.mem_of_getElem? (i := 421) (by decide +kernel)) (by decide +kernel)
theorem d_Law_addHand_6 : decode b_Law_addHand 6 = .ok (.ireturn, 1) := by decide +kernel
theorem d_Law_addHand_7 : decode b_Law_addHand 7 = .ok (.astore_n 3, 1) := by decide +kernel
theorem d_Law_addHand_8 : decode b_Law_addHand 8 = .ok (.ldc 17, 2) := by decide +kernel
theorem d_Law_addHand_10 : decode b_Law_addHand 10 = .ok (.ireturn, 1) := by decide +kernel
theorem gw_metX {l : Launch} {y : MethodName} {ws : List Cond} {rm : Room} {Pc : Array Value → State → Prop} {Qc : Array Value → State → Outcome → State → Prop} {mc ms : Nat} {free : Addr → Prop} (h : vx_Met l y ws rm Pc Qc (fun _ _ _ => False) mc ms free) : Met l y ws rm Pc Qc mc ms free := by
  intro p e ha hc hk s m args below hf happ hP hK
  obtain ⟨n, o, h1, h2, h3, h4⟩ := h p e ha hc hk s m args below hf happ hP hK
  refine ⟨n, o, h1, h2, h3, ?_⟩
  rcases h4 with h4 | ⟨q, -, E, ce, L, hx, -⟩
  · exact h4
  · exact hx.elim
section GH
variable {E : Nat} {D : va_G} {cI cO cZ : ClassId} {z0 : Nat} {M : gM} {l : Launch}
theorem gw_ofH {y : MethodName} {ws ws' : List Cond} {rm : Room} {av : List Value} {Qc : Array Value → State → Outcome → State → Prop} {mc ms : Nat} {cc : ByteArray} {maxL : Nat} {ret : Option FieldType} {hh : List (Nat × Nat × Nat × Nat)} (hy : plainName y.cls = true) (hw : ws = Cond.codeWith y cc maxL ret hh :: ws') (hlen : (lg_sl av).length ≤ maxL)
    (body : ∀ (p : Program) (e : Env) (s : State) (m : MethodId) (args : Array Value) (below : List Frame) (meth : Method) (c : Code), p.tables.exec = Jvm.exec → c.code = cc → meth.sig.returnType = ret → c.maxLocals = maxL → (∀ w ∈ ws, w.before args s = true) → s.vm.findClass y.cls = some m.cls → meth.locks = false → c.exceptionTable.toList = tableOf hh → gw_F E D cI cO cZ z0 s → gw_H E D M s s.heap [] → ∀ ls : Array Slot, lv_has ls maxL (lv_args 0 av) →
      W p l e rm s m args below meth c s.heap [] 0 0 (MQ below Qc args s mc ms (gw_A E)) (F0 m 0 ls [])) : Met l y ws rm (gw_Pc E D cI cO cZ z0 M av) Qc mc ms (gw_A E) := by
  refine gw_metX (vx_ofWH (cc := cc) (maxL := maxL) (ret := ret) (hh := hh) hy hw ?_)
  intro p e s m args below meth c s₁ B hml hv
  obtain ⟨rfl, hF, hB⟩ := hv
  have hts := atoms_spec (ws := ws) B.pre
  have hown : s.vm.findClass y.cls = some m.cls := findClass_of_methodNamed B.named
  have hl := lv_entry av (n := maxL) hlen
  have htab := vx_table (x := y) B (hts (Cond.codeWith y cc maxL ret hh) (by rw [hw]; exact List.mem_cons_self))
  rw [lg_entry_eq]
  exact vx_ret (body p e s m _ below meth c B.exec B.bytes B.returns hml hts hown B.notSynchronized htab hF ⟨hB.1, hB.2, va_S.rf⟩ _ hl)
end GH
theorem gw_cwSW {R : Room} {s : State} {args : Array Value} {own : String} {index maxL mc ms : Nat} {y : MethodName} {bytes : ByteArray} {ret : Option FieldType} {hh : List (Nat × Nat × Nat × Nat)} {Ts ws ws' : List Cond} {rm : Room} (n : Nat) (ht : ∀ w ∈ Ts, w.before args s = true) (hG : GoodIn Ts ws) (hw : ws = Cond.codeWith y bytes maxL ret hh :: ws') (hrc : rm.cells = mc) (hrs : rm.slots = ms) (hini : (Cond.initialized y.cls).before args s = true) (hl : (Cond.methodLink own index y).before args s = true) (hst : (Cond.static y).before args s = true)
    (hg : goodWord (Cond.methodLink own index y) = true ∧ goodWord (Cond.static y) = true ∧ goodWord (Cond.initialized y.cls) = true) (hm : Cond.methodLink own index y ∈ Ts ∧ Cond.static y ∈ Ts ∧ Cond.initialized y.cls ∈ Ts)
    (hd : y.cls ≠ "java/lang/invoke/MethodHandle" ∧ y.cls ≠ "java/lang/invoke/VarHandle" ∧ (parseMethodDescriptor y.desc).map (fun d => d.parameters.length) = some n) (hR : rm.frames + 1 ≤ R.frames ∧ 8 + (maxL + 11) + rm.locals ≤ R.locals) : vx_CSW R s args own index y bytes maxL ret hh ws rm mc ms n :=
  vx_cwSW n ht (fun w h => by
    unfold va_wsS at h
    rcases List.mem_append.mp h with h | h
    · rcases List.mem_cons.mp h with rfl | h
      · exact ⟨hm.1, good_of_word hg.1⟩
      · rcases List.mem_cons.mp h with rfl | h
        · exact ⟨hm.2.1, good_of_word hg.2.1⟩
        · rcases List.mem_cons.mp h with rfl | h
          · exact ⟨hm.2.2, good_of_word hg.2.2⟩
          · cases h
    · exact hG w h) hw hrc hrs hd hR
set_option maxHeartbeats 4000000 in
set_option maxRecDepth 100000 in
theorem c_Law_fatigue (l : Launch) (E : Nat) (D : va_G) (cI cO cZ : ClassId) (z0 : Nat) (M : gM) {o n : Nat} {day : Int32} {S : gS} {Z ad bn : Nat → Nat} (hf : gw_fa z0 cO M o n day S Z ad bn) {i : Nat} (hi : i < n) : Met l y_Law_fatigue (Cond.codeWith y_Law_fatigue b_Law_fatigue 3 (some .int) [(0, 5, 6, 25)] :: gT) ({ frames := 5, cells := 0, slots := 0, locals := 106 }) (gw_Pc E D cI cO cZ z0 M [.ref o, .int (nI i)]) (gw_Qi E D (fun r M' => r = (S.2.2 i).2.2.1 ∧ M' = M)) 0 0 (gw_A E) := by
  refine gw_ofH (cc := b_Law_fatigue) (maxL := 3) (ret := (some .int)) (hh := [(0, 5, 6, 25)]) (by decide) rfl (Nat.le_of_ble_eq_true rfl) ?_
  intro p e s m args below meth c hx hb hr hml hts hown hlk htab hF hG ls hl
  have hT : ∀ w ∈ gT, w.before args s = true := fun w h => hts w (List.mem_cons_of_mem _ h)
  have hK := hF.1
  have hl : lv_has ls 3 [(0, .ref o), (1, .int (nI i))] := hl
  have hro := hf.1
  refine lv_aload_n hx hb d_Law_fatigue_0 rfl (lv_at hl 0 rfl) ?_
  refine lv_iload_n hx hb d_Law_fatigue_1 rfl (lv_at hl 1 rfl) ?_
  refine gw_calli (gw_runV (As := [.int (nI i)]) (rest := []) ⟨hx, hb, hml, hown, hts⟩ (c_Row_fatigue l E D cI cO cZ z0 M hf hi) (gw_cwV 1 hts (gT_gi wm_657) rfl rfl rfl (hT _ wm_23) (hT _ wm_654) (hT _ wm_655) (hT _ wm_656) (by decide +kernel) ⟨Nat.le_of_ble_eq_true rfl, Nat.le_of_ble_eq_true rfl⟩) hF hG rfl hro rfl hl.1 rfl (Nat.le_of_ble_eq_true rfl) d_Law_fatigue_2 ⟨Nat.le_of_ble_eq_true rfl, Nat.le_of_ble_eq_true rfl⟩) hG (fun r M1 H locs hp hG => ?_)
  obtain ⟨hr1, hM⟩ := hp
  replace hG := gw_nm hM.symm hG
  exact gw_iret (v := r) hx hb hr hlk hG (⟨hr1, rfl⟩) (Nat.le_of_ble_eq_true rfl) (Nat.le_of_ble_eq_true rfl) d_Law_fatigue_5
set_option maxHeartbeats 4000000 in
set_option maxRecDepth 100000 in
theorem c_Law_hurt (l : Launch) (E : Nat) (D : va_G) (cI cO cZ : ClassId) (z0 : Nat) (M : gM) {o n : Nat} {day : Int32} {S : gS} {Z ad bn : Nat → Nat} (hf : gw_fa z0 cO M o n day S Z ad bn) {i : Nat} (hi : i < n) : Met l y_Law_hurt (Cond.codeWith y_Law_hurt b_Law_hurt 3 (some .int) [(0, 5, 6, 25)] :: gT) ({ frames := 5, cells := 0, slots := 0, locals := 106 }) (gw_Pc E D cI cO cZ z0 M [.ref o, .int (nI i)]) (gw_Qi E D (fun r M' => r = (S.2.2 i).2.2.2.1 ∧ M' = M)) 0 0 (gw_A E) := by
  refine gw_ofH (cc := b_Law_hurt) (maxL := 3) (ret := (some .int)) (hh := [(0, 5, 6, 25)]) (by decide) rfl (Nat.le_of_ble_eq_true rfl) ?_
  intro p e s m args below meth c hx hb hr hml hts hown hlk htab hF hG ls hl
  have hT : ∀ w ∈ gT, w.before args s = true := fun w h => hts w (List.mem_cons_of_mem _ h)
  have hK := hF.1
  have hl : lv_has ls 3 [(0, .ref o), (1, .int (nI i))] := hl
  have hro := hf.1
  refine lv_aload_n hx hb d_Law_hurt_0 rfl (lv_at hl 0 rfl) ?_
  refine lv_iload_n hx hb d_Law_hurt_1 rfl (lv_at hl 1 rfl) ?_
  refine gw_calli (gw_runV (As := [.int (nI i)]) (rest := []) ⟨hx, hb, hml, hown, hts⟩ (c_Row_hurt l E D cI cO cZ z0 M hf hi) (gw_cwV 1 hts (gT_gi wm_664) rfl rfl rfl (hT _ wm_23) (hT _ wm_661) (hT _ wm_662) (hT _ wm_663) (by decide +kernel) ⟨Nat.le_of_ble_eq_true rfl, Nat.le_of_ble_eq_true rfl⟩) hF hG rfl hro rfl hl.1 rfl (Nat.le_of_ble_eq_true rfl) d_Law_hurt_2 ⟨Nat.le_of_ble_eq_true rfl, Nat.le_of_ble_eq_true rfl⟩) hG (fun r M1 H locs hp hG => ?_)
  obtain ⟨hr1, hM⟩ := hp
  replace hG := gw_nm hM.symm hG
  exact gw_iret (v := r) hx hb hr hlk hG (⟨hr1, rfl⟩) (Nat.le_of_ble_eq_true rfl) (Nat.le_of_ble_eq_true rfl) d_Law_hurt_5
set_option maxHeartbeats 4000000 in
set_option maxRecDepth 100000 in
theorem c_Law_lost (l : Launch) (E : Nat) (D : va_G) (cI cO cZ : ClassId) (z0 : Nat) (M : gM) {o n : Nat} {day : Int32} {S : gS} {Z ad bn : Nat → Nat} (hf : gw_fa z0 cO M o n day S Z ad bn) {i : Nat} (hi : i < n) : Met l y_Law_lost (Cond.codeWith y_Law_lost b_Law_lost 3 (some .int) [(0, 5, 6, 25)] :: gT) ({ frames := 5, cells := 0, slots := 0, locals := 106 }) (gw_Pc E D cI cO cZ z0 M [.ref o, .int (nI i)]) (gw_Qi E D (fun r M' => r = (S.2.2 i).2.2.2.2.1 ∧ M' = M)) 0 0 (gw_A E) := by
  refine gw_ofH (cc := b_Law_lost) (maxL := 3) (ret := (some .int)) (hh := [(0, 5, 6, 25)]) (by decide) rfl (Nat.le_of_ble_eq_true rfl) ?_
  intro p e s m args below meth c hx hb hr hml hts hown hlk htab hF hG ls hl
  have hT : ∀ w ∈ gT, w.before args s = true := fun w h => hts w (List.mem_cons_of_mem _ h)
  have hK := hF.1
  have hl : lv_has ls 3 [(0, .ref o), (1, .int (nI i))] := hl
  have hro := hf.1
  refine lv_aload_n hx hb d_Law_lost_0 rfl (lv_at hl 0 rfl) ?_
  refine lv_iload_n hx hb d_Law_lost_1 rfl (lv_at hl 1 rfl) ?_
  refine gw_calli (gw_runV (As := [.int (nI i)]) (rest := []) ⟨hx, hb, hml, hown, hts⟩ (c_Row_lost l E D cI cO cZ z0 M hf hi) (gw_cwV 1 hts (gT_gi wm_671) rfl rfl rfl (hT _ wm_23) (hT _ wm_668) (hT _ wm_669) (hT _ wm_670) (by decide +kernel) ⟨Nat.le_of_ble_eq_true rfl, Nat.le_of_ble_eq_true rfl⟩) hF hG rfl hro rfl hl.1 rfl (Nat.le_of_ble_eq_true rfl) d_Law_lost_2 ⟨Nat.le_of_ble_eq_true rfl, Nat.le_of_ble_eq_true rfl⟩) hG (fun r M1 H locs hp hG => ?_)
  obtain ⟨hr1, hM⟩ := hp
  replace hG := gw_nm hM.symm hG
  exact gw_iret (v := r) hx hb hr hlk hG (⟨hr1, rfl⟩) (Nat.le_of_ble_eq_true rfl) (Nat.le_of_ble_eq_true rfl) d_Law_lost_5
set_option maxHeartbeats 4000000 in
set_option maxRecDepth 100000 in
theorem c_Law_fatigue_x (l : Launch) (E : Nat) (D : va_G) (cI cO cZ : ClassId) (z0 : Nat) (M : gM) (hst : l.stackTraces = false) {o n : Nat} {day : Int32} {S : gS} {Z ad bn : Nat → Nat} (hf : gw_fa z0 cO M o n day S Z ad bn) {i : Nat} (hi : n ≤ i) (hi2 : i < 2 ^ 31) : Met l y_Law_fatigue (Cond.codeWith y_Law_fatigue b_Law_fatigue 3 (some .int) [(0, 5, 6, 25)] :: gT) ({ frames := 8, cells := 1, slots := 6, locals := 124 }) (gw_Pc E D cI cO cZ z0 M [.ref o, .int (nI i)]) (gw_Qi E D (fun r M' => r = -900001 ∧ M' = M)) 1 6 (gw_A E) := by
  refine gw_ofH (cc := b_Law_fatigue) (maxL := 3) (ret := (some .int)) (hh := [(0, 5, 6, 25)]) (by decide) rfl (Nat.le_of_ble_eq_true rfl) ?_
  intro p e s m args below meth c hx hb hr hml hts hown hlk htab hF hG ls hl
  have hT : ∀ w ∈ gT, w.before args s = true := fun w h => hts w (List.mem_cons_of_mem _ h)
  have hK := hF.1
  have hl : lv_has ls 3 [(0, .ref o), (1, .int (nI i))] := hl
  have hro := hf.1
  refine lv_aload_n hx hb d_Law_fatigue_0 rfl (lv_at hl 0 rfl) ?_
  refine lv_iload_n hx hb d_Law_fatigue_1 rfl (lv_at hl 1 rfl) ?_
  refine gw_xcalli (cls := "java/lang/IndexOutOfBoundsException") (gw_xrunV (As := [.int (nI i)]) (rest := []) ⟨hx, hb, hml, hown, hts⟩ (c_Row_fatigue_x l E D cI cO cZ z0 M hst hf hi hi2) (gw_cwV 1 hts (gT_gi wm_657) rfl rfl rfl (hT _ wm_23) (hT _ wm_654) (hT _ wm_655) (hT _ wm_656) (by decide +kernel) ⟨Nat.le_of_ble_eq_true rfl, Nat.le_of_ble_eq_true rfl⟩) hF hG rfl hro rfl hl.1 rfl (Nat.le_of_ble_eq_true rfl) d_Law_fatigue_2 ⟨Nat.le_of_ble_eq_true rfl, Nat.le_of_ble_eq_true rfl⟩) hG (fun ce q H locs hG hq1 hq2 hq3 => ?_)
  refine vx_catch (name := "java/lang/IndexOutOfBoundsException") (E := "java/lang/IndexOutOfBoundsException") hown [] (⟨0, 5, 6, 25⟩ : ExceptionTableEntry) [] (by rw [htab]; rfl) (fun z hz => by cases hz) (by decide) (by decide) (hT _ wm_507) (va_Nw.use rfl (gW_m hF.2.2.2.2.2.2 wq_542 rfl)) hq1 hq2 hq3 ?_
  refine lv_astore_n (lv' := [(2, .ref q), (0, .ref o), (1, .int (nI i))]) hx hb d_Law_fatigue_6 rfl hl (by decide) rfl (fun ls hl => ?_)
  refine lv_ldc hx hb hown (hT _ wm_502) d_Law_fatigue_7 ?_
  exact gw_iret (v := (-900001)) hx hb hr hlk hG (⟨rfl, rfl⟩) (Nat.le_of_ble_eq_true rfl) (Nat.le_of_ble_eq_true rfl) d_Law_fatigue_9
set_option maxHeartbeats 4000000 in
set_option maxRecDepth 100000 in
theorem c_Law_placeOf (l : Launch) (E : Nat) (D : va_G) (cI cO cZ : ClassId) (z0 : Nat) (M : gM) {o n : Nat} {day : Int32} {S : gS} {Z ad bn : Nat → Nat} (hf : gw_fa z0 cO M o n day S Z ad bn) {i J : Nat} (hi : i < n) (hJ1 : J ≤ S.1) (hJ2 : ∀ p, p < J → S.2.1 p ≠ i) (hJ3 : J < S.1 → S.2.1 J = i) : Met l y_Law_placeOf (Cond.codeWith y_Law_placeOf b_Law_placeOf 3 (some .int) [(0, 5, 6, 25)] :: gT) ({ frames := 5, cells := 0, slots := 0, locals := 107 }) (gw_Pc E D cI cO cZ z0 M [.ref o, .int (nI i)]) (gw_Qi E D (fun r M' => r = (if J < S.1 then nI J else -1) ∧ M' = M)) 0 0 (gw_A E) := by
  refine gw_ofH (cc := b_Law_placeOf) (maxL := 3) (ret := (some .int)) (hh := [(0, 5, 6, 25)]) (by decide) rfl (Nat.le_of_ble_eq_true rfl) ?_
  intro p e s m args below meth c hx hb hr hml hts hown hlk htab hF hG ls hl
  have hT : ∀ w ∈ gT, w.before args s = true := fun w h => hts w (List.mem_cons_of_mem _ h)
  have hK := hF.1
  have hl : lv_has ls 3 [(0, .ref o), (1, .int (nI i))] := hl
  have hro := hf.1
  refine lv_aload_n hx hb d_Law_placeOf_0 rfl (lv_at hl 0 rfl) ?_
  refine lv_iload_n hx hb d_Law_placeOf_1 rfl (lv_at hl 1 rfl) ?_
  refine gw_calli (gw_runV (As := [.int (nI i)]) (rest := []) ⟨hx, hb, hml, hown, hts⟩ (c_Row_placeOf l E D cI cO cZ z0 M hf hi hJ1 hJ2 hJ3) (gw_cwV 1 hts (gT_gi wm_612) rfl rfl rfl (hT _ wm_23) (hT _ wm_609) (hT _ wm_610) (hT _ wm_611) (by decide +kernel) ⟨Nat.le_of_ble_eq_true rfl, Nat.le_of_ble_eq_true rfl⟩) hF hG rfl hro rfl hl.1 rfl (Nat.le_of_ble_eq_true rfl) d_Law_placeOf_2 ⟨Nat.le_of_ble_eq_true rfl, Nat.le_of_ble_eq_true rfl⟩) hG (fun r M1 H locs hp hG => ?_)
  obtain ⟨hr1, hM⟩ := hp
  replace hG := gw_nm hM.symm hG
  exact gw_iret (v := r) hx hb hr hlk hG (⟨hr1, rfl⟩) (Nat.le_of_ble_eq_true rfl) (Nat.le_of_ble_eq_true rfl) d_Law_placeOf_5
set_option maxHeartbeats 4000000 in
set_option maxRecDepth 100000 in
theorem c_Law_placeOf_x (l : Launch) (E : Nat) (D : va_G) (cI cO cZ : ClassId) (z0 : Nat) (M : gM) (hst : l.stackTraces = false) {o n : Nat} {day : Int32} {S : gS} {Z ad bn : Nat → Nat} (hf : gw_fa z0 cO M o n day S Z ad bn) {i : Nat} (hi : n ≤ i) (hi2 : i < 2 ^ 31) : Met l y_Law_placeOf (Cond.codeWith y_Law_placeOf b_Law_placeOf 3 (some .int) [(0, 5, 6, 25)] :: gT) ({ frames := 8, cells := 1, slots := 6, locals := 124 }) (gw_Pc E D cI cO cZ z0 M [.ref o, .int (nI i)]) (gw_Qi E D (fun r M' => r = -900001 ∧ M' = M)) 1 6 (gw_A E) := by
  refine gw_ofH (cc := b_Law_placeOf) (maxL := 3) (ret := (some .int)) (hh := [(0, 5, 6, 25)]) (by decide) rfl (Nat.le_of_ble_eq_true rfl) ?_
  intro p e s m args below meth c hx hb hr hml hts hown hlk htab hF hG ls hl
  have hT : ∀ w ∈ gT, w.before args s = true := fun w h => hts w (List.mem_cons_of_mem _ h)
  have hK := hF.1
  have hl : lv_has ls 3 [(0, .ref o), (1, .int (nI i))] := hl
  have hro := hf.1
  refine lv_aload_n hx hb d_Law_placeOf_0 rfl (lv_at hl 0 rfl) ?_
  refine lv_iload_n hx hb d_Law_placeOf_1 rfl (lv_at hl 1 rfl) ?_
  refine gw_xcalli (cls := "java/lang/IndexOutOfBoundsException") (gw_xrunV (As := [.int (nI i)]) (rest := []) ⟨hx, hb, hml, hown, hts⟩ (c_Row_placeOf_x l E D cI cO cZ z0 M hst hf hi hi2) (gw_cwV 1 hts (gT_gi wm_612) rfl rfl rfl (hT _ wm_23) (hT _ wm_609) (hT _ wm_610) (hT _ wm_611) (by decide +kernel) ⟨Nat.le_of_ble_eq_true rfl, Nat.le_of_ble_eq_true rfl⟩) hF hG rfl hro rfl hl.1 rfl (Nat.le_of_ble_eq_true rfl) d_Law_placeOf_2 ⟨Nat.le_of_ble_eq_true rfl, Nat.le_of_ble_eq_true rfl⟩) hG (fun ce q H locs hG hq1 hq2 hq3 => ?_)
  refine vx_catch (name := "java/lang/IndexOutOfBoundsException") (E := "java/lang/IndexOutOfBoundsException") hown [] (⟨0, 5, 6, 25⟩ : ExceptionTableEntry) [] (by rw [htab]; rfl) (fun z hz => by cases hz) (by decide) (by decide) (hT _ wm_507) (va_Nw.use rfl (gW_m hF.2.2.2.2.2.2 wq_542 rfl)) hq1 hq2 hq3 ?_
  refine lv_astore_n (lv' := [(2, .ref q), (0, .ref o), (1, .int (nI i))]) hx hb d_Law_placeOf_6 rfl hl (by decide) rfl (fun ls hl => ?_)
  refine lv_ldc hx hb hown (hT _ wm_502) d_Law_placeOf_7 ?_
  exact gw_iret (v := (-900001)) hx hb hr hlk hG (⟨rfl, rfl⟩) (Nat.le_of_ble_eq_true rfl) (Nat.le_of_ble_eq_true rfl) d_Law_placeOf_9
set_option maxHeartbeats 4000000 in
set_option maxRecDepth 100000 in
theorem c_Law_errorOf (l : Launch) (E : Nat) (D : va_G) (cI cO cZ : ClassId) (z0 : Nat) (M : gM) {o n : Nat} {day : Int32} {S : gS} {Z ad bn : Nat → Nat} (hf : gw_fa z0 cO M o n day S Z ad bn) {i J : Nat} (hi : i < n) (hJ1 : J ≤ S.1) (hJ2 : ∀ p, p < J → S.2.1 p ≠ i) (hJ3 : J < S.1 → S.2.1 J = i) (hJ : J < S.1) : Met l y_Law_errorOf (Cond.codeWith y_Law_errorOf b_Law_errorOf 3 (some .int) [(0, 5, 6, 25), (0, 5, 10, 39)] :: gT) ({ frames := 6, cells := 0, slots := 0, locals := 130 }) (gw_Pc E D cI cO cZ z0 M [.ref o, .int (nI i)]) (gw_Qi E D (fun r M' => r = (S.2.2 i).2.2.2.2.2 ∧ M' = M)) 0 0 (gw_A E) := by
  refine gw_ofH (cc := b_Law_errorOf) (maxL := 3) (ret := (some .int)) (hh := [(0, 5, 6, 25), (0, 5, 10, 39)]) (by decide) rfl (Nat.le_of_ble_eq_true rfl) ?_
  intro p e s m args below meth c hx hb hr hml hts hown hlk htab hF hG ls hl
  have hT : ∀ w ∈ gT, w.before args s = true := fun w h => hts w (List.mem_cons_of_mem _ h)
  have hK := hF.1
  have hl : lv_has ls 3 [(0, .ref o), (1, .int (nI i))] := hl
  have hro := hf.1
  refine lv_aload_n hx hb d_Law_errorOf_0 rfl (lv_at hl 0 rfl) ?_
  refine lv_iload_n hx hb d_Law_errorOf_1 rfl (lv_at hl 1 rfl) ?_
  refine gw_calli (gw_runV (As := [.int (nI i)]) (rest := []) ⟨hx, hb, hml, hown, hts⟩ (c_Row_errorOf l E D cI cO cZ z0 M hf hi hJ1 hJ2 hJ3 hJ) (gw_cwV 1 hts (gT_gi wm_620) rfl rfl rfl (hT _ wm_23) (hT _ wm_617) (hT _ wm_618) (hT _ wm_619) (by decide +kernel) ⟨Nat.le_of_ble_eq_true rfl, Nat.le_of_ble_eq_true rfl⟩) hF hG rfl hro rfl hl.1 rfl (Nat.le_of_ble_eq_true rfl) d_Law_errorOf_2 ⟨Nat.le_of_ble_eq_true rfl, Nat.le_of_ble_eq_true rfl⟩) hG (fun r M1 H locs hp hG => ?_)
  obtain ⟨hr1, hM⟩ := hp
  replace hG := gw_nm hM.symm hG
  exact gw_iret (v := r) hx hb hr hlk hG (⟨hr1, rfl⟩) (Nat.le_of_ble_eq_true rfl) (Nat.le_of_ble_eq_true rfl) d_Law_errorOf_5
set_option maxHeartbeats 4000000 in
set_option maxRecDepth 100000 in
theorem c_Law_errorOf_x (l : Launch) (E : Nat) (D : va_G) (cI cO cZ : ClassId) (z0 : Nat) (M : gM) (hst : l.stackTraces = false) {o n : Nat} {day : Int32} {S : gS} {Z ad bn : Nat → Nat} (hf : gw_fa z0 cO M o n day S Z ad bn) {i J : Nat} (hi : i < n) (hJ1 : J ≤ S.1) (hJ2 : ∀ p, p < J → S.2.1 p ≠ i) (hJ3 : J < S.1 → S.2.1 J = i) (hJ : ¬ J < S.1) : Met l y_Law_errorOf (Cond.codeWith y_Law_errorOf b_Law_errorOf 3 (some .int) [(0, 5, 6, 25), (0, 5, 10, 39)] :: gT) ({ frames := 8, cells := 1, slots := 6, locals := 130 }) (gw_Pc E D cI cO cZ z0 M [.ref o, .int (nI i)]) (gw_Qi E D (fun r M' => r = -900002 ∧ M' = M)) 1 6 (gw_A E) := by
  refine gw_ofH (cc := b_Law_errorOf) (maxL := 3) (ret := (some .int)) (hh := [(0, 5, 6, 25), (0, 5, 10, 39)]) (by decide) rfl (Nat.le_of_ble_eq_true rfl) ?_
  intro p e s m args below meth c hx hb hr hml hts hown hlk htab hF hG ls hl
  have hT : ∀ w ∈ gT, w.before args s = true := fun w h => hts w (List.mem_cons_of_mem _ h)
  have hK := hF.1
  have hl : lv_has ls 3 [(0, .ref o), (1, .int (nI i))] := hl
  have hro := hf.1
  refine lv_aload_n hx hb d_Law_errorOf_0 rfl (lv_at hl 0 rfl) ?_
  refine lv_iload_n hx hb d_Law_errorOf_1 rfl (lv_at hl 1 rfl) ?_
  refine gw_xcalli (cls := "java/util/NoSuchElementException") (gw_xrunV (As := [.int (nI i)]) (rest := []) ⟨hx, hb, hml, hown, hts⟩ (c_Row_errorOf_x l E D cI cO cZ z0 M hst hf hi hJ1 hJ2 hJ3 hJ) (gw_cwV 1 hts (gT_gi wm_620) rfl rfl rfl (hT _ wm_23) (hT _ wm_617) (hT _ wm_618) (hT _ wm_619) (by decide +kernel) ⟨Nat.le_of_ble_eq_true rfl, Nat.le_of_ble_eq_true rfl⟩) hF hG rfl hro rfl hl.1 rfl (Nat.le_of_ble_eq_true rfl) d_Law_errorOf_2 ⟨Nat.le_of_ble_eq_true rfl, Nat.le_of_ble_eq_true rfl⟩) hG (fun ce q H locs hG hq1 hq2 hq3 => ?_)
  refine vx_catch (name := "java/util/NoSuchElementException") (E := "java/util/NoSuchElementException") hown [(⟨0, 5, 6, 25⟩ : ExceptionTableEntry)] (⟨0, 5, 10, 39⟩ : ExceptionTableEntry) [] (by rw [htab]; rfl) (List.forall_mem_cons.mpr ⟨Or.inr ⟨(by decide), "java/lang/IndexOutOfBoundsException", (hT _ wm_507), hF.2.2.2.2.2.2.2.2.1 "java/util/NoSuchElementException" (by decide) "java/lang/IndexOutOfBoundsException" (by decide) (by decide)⟩, (fun z hz => by cases hz)⟩) (by decide) (by decide) (hT _ wm_616) (va_Nw.use rfl (gW_m hF.2.2.2.2.2.2 wq_627 rfl)) hq1 hq2 hq3 ?_
  refine lv_astore_n (lv' := [(2, .ref q), (0, .ref o), (1, .int (nI i))]) hx hb d_Law_errorOf_10 rfl hl (by decide) rfl (fun ls hl => ?_)
  refine lv_ldc hx hb hown (hT _ wm_503) d_Law_errorOf_11 ?_
  exact gw_iret (v := (-900002)) hx hb hr hlk hG (⟨rfl, rfl⟩) (Nat.le_of_ble_eq_true rfl) (Nat.le_of_ble_eq_true rfl) d_Law_errorOf_13
set_option maxHeartbeats 4000000 in
set_option maxRecDepth 100000 in
theorem c_Law_strokeOf (l : Launch) (E : Nat) (D : va_G) (cI cO cZ : ClassId) (z0 : Nat) (M : gM) {o n : Nat} {day : Int32} {S : gS} {Z ad bn : Nat → Nat} (hf : gw_fa z0 cO M o n day S Z ad bn) {i J : Nat} (hi : i < n) (hJ1 : J ≤ S.1) (hJ2 : ∀ p, p < J → S.2.1 p ≠ i) (hJ3 : J < S.1 → S.2.1 J = i) (hJ : J < S.1) : Met l y_Law_strokeOf (Cond.codeWith y_Law_strokeOf b_Law_strokeOf 3 (some .int) [(0, 5, 6, 25), (0, 5, 10, 39)] :: gT) ({ frames := 6, cells := 0, slots := 0, locals := 129 }) (gw_Pc E D cI cO cZ z0 M [.ref o, .int (nI i)]) (gw_Qi E D (fun r M' => r = p_tick S.1 (fun p => S.2.2 (S.2.1 p)) J ∧ M' = M)) 0 0 (gw_A E) := by
  refine gw_ofH (cc := b_Law_strokeOf) (maxL := 3) (ret := (some .int)) (hh := [(0, 5, 6, 25), (0, 5, 10, 39)]) (by decide) rfl (Nat.le_of_ble_eq_true rfl) ?_
  intro p e s m args below meth c hx hb hr hml hts hown hlk htab hF hG ls hl
  have hT : ∀ w ∈ gT, w.before args s = true := fun w h => hts w (List.mem_cons_of_mem _ h)
  have hK := hF.1
  have hl : lv_has ls 3 [(0, .ref o), (1, .int (nI i))] := hl
  have hro := hf.1
  refine lv_aload_n hx hb d_Law_strokeOf_0 rfl (lv_at hl 0 rfl) ?_
  refine lv_iload_n hx hb d_Law_strokeOf_1 rfl (lv_at hl 1 rfl) ?_
  refine gw_calli (gw_runV (As := [.int (nI i)]) (rest := []) ⟨hx, hb, hml, hown, hts⟩ (c_Row_strokeOf l E D cI cO cZ z0 M hf hi hJ1 hJ2 hJ3 hJ) (gw_cwV 1 hts (gT_gi wm_646) rfl rfl rfl (hT _ wm_23) (hT _ wm_643) (hT _ wm_644) (hT _ wm_645) (by decide +kernel) ⟨Nat.le_of_ble_eq_true rfl, Nat.le_of_ble_eq_true rfl⟩) hF hG rfl hro rfl hl.1 rfl (Nat.le_of_ble_eq_true rfl) d_Law_strokeOf_2 ⟨Nat.le_of_ble_eq_true rfl, Nat.le_of_ble_eq_true rfl⟩) hG (fun r M1 H locs hp hG => ?_)
  obtain ⟨hr1, hM⟩ := hp
  replace hG := gw_nm hM.symm hG
  exact gw_iret (v := r) hx hb hr hlk hG (⟨hr1, rfl⟩) (Nat.le_of_ble_eq_true rfl) (Nat.le_of_ble_eq_true rfl) d_Law_strokeOf_5
set_option maxHeartbeats 4000000 in
set_option maxRecDepth 100000 in
theorem c_Law_strokeOf_x (l : Launch) (E : Nat) (D : va_G) (cI cO cZ : ClassId) (z0 : Nat) (M : gM) (hst : l.stackTraces = false) {o n : Nat} {day : Int32} {S : gS} {Z ad bn : Nat → Nat} (hf : gw_fa z0 cO M o n day S Z ad bn) {i J : Nat} (hi : i < n) (hJ1 : J ≤ S.1) (hJ2 : ∀ p, p < J → S.2.1 p ≠ i) (hJ3 : J < S.1 → S.2.1 J = i) (hJ : ¬ J < S.1) : Met l y_Law_strokeOf (Cond.codeWith y_Law_strokeOf b_Law_strokeOf 3 (some .int) [(0, 5, 6, 25), (0, 5, 10, 39)] :: gT) ({ frames := 8, cells := 1, slots := 6, locals := 129 }) (gw_Pc E D cI cO cZ z0 M [.ref o, .int (nI i)]) (gw_Qi E D (fun r M' => r = -900002 ∧ M' = M)) 1 6 (gw_A E) := by
  refine gw_ofH (cc := b_Law_strokeOf) (maxL := 3) (ret := (some .int)) (hh := [(0, 5, 6, 25), (0, 5, 10, 39)]) (by decide) rfl (Nat.le_of_ble_eq_true rfl) ?_
  intro p e s m args below meth c hx hb hr hml hts hown hlk htab hF hG ls hl
  have hT : ∀ w ∈ gT, w.before args s = true := fun w h => hts w (List.mem_cons_of_mem _ h)
  have hK := hF.1
  have hl : lv_has ls 3 [(0, .ref o), (1, .int (nI i))] := hl
  have hro := hf.1
  refine lv_aload_n hx hb d_Law_strokeOf_0 rfl (lv_at hl 0 rfl) ?_
  refine lv_iload_n hx hb d_Law_strokeOf_1 rfl (lv_at hl 1 rfl) ?_
  refine gw_xcalli (cls := "java/util/NoSuchElementException") (gw_xrunV (As := [.int (nI i)]) (rest := []) ⟨hx, hb, hml, hown, hts⟩ (c_Row_strokeOf_x l E D cI cO cZ z0 M hst hf hi hJ1 hJ2 hJ3 hJ) (gw_cwV 1 hts (gT_gi wm_646) rfl rfl rfl (hT _ wm_23) (hT _ wm_643) (hT _ wm_644) (hT _ wm_645) (by decide +kernel) ⟨Nat.le_of_ble_eq_true rfl, Nat.le_of_ble_eq_true rfl⟩) hF hG rfl hro rfl hl.1 rfl (Nat.le_of_ble_eq_true rfl) d_Law_strokeOf_2 ⟨Nat.le_of_ble_eq_true rfl, Nat.le_of_ble_eq_true rfl⟩) hG (fun ce q H locs hG hq1 hq2 hq3 => ?_)
  refine vx_catch (name := "java/util/NoSuchElementException") (E := "java/util/NoSuchElementException") hown [(⟨0, 5, 6, 25⟩ : ExceptionTableEntry)] (⟨0, 5, 10, 39⟩ : ExceptionTableEntry) [] (by rw [htab]; rfl) (List.forall_mem_cons.mpr ⟨Or.inr ⟨(by decide), "java/lang/IndexOutOfBoundsException", (hT _ wm_507), hF.2.2.2.2.2.2.2.2.1 "java/util/NoSuchElementException" (by decide) "java/lang/IndexOutOfBoundsException" (by decide) (by decide)⟩, (fun z hz => by cases hz)⟩) (by decide) (by decide) (hT _ wm_616) (va_Nw.use rfl (gW_m hF.2.2.2.2.2.2 wq_627 rfl)) hq1 hq2 hq3 ?_
  refine lv_astore_n (lv' := [(2, .ref q), (0, .ref o), (1, .int (nI i))]) hx hb d_Law_strokeOf_10 rfl hl (by decide) rfl (fun ls hl => ?_)
  refine lv_ldc hx hb hown (hT _ wm_503) d_Law_strokeOf_11 ?_
  exact gw_iret (v := (-900002)) hx hb hr hlk hG (⟨rfl, rfl⟩) (Nat.le_of_ble_eq_true rfl) (Nat.le_of_ble_eq_true rfl) d_Law_strokeOf_13
set_option maxHeartbeats 4000000 in
set_option maxRecDepth 100000 in
theorem c_Law_stand (l : Launch) (E : Nat) (D : va_G) (cI cO cZ : ClassId) (z0 : Nat) (M : gM) {o n : Nat} {day : Int32} {S : gS} {Z ad bn : Nat → Nat} (hf : gw_fa z0 cO M o n day S Z ad bn) {i J : Nat} (hi : i < n) (hJ1 : J ≤ S.1) (hJ2 : ∀ p, p < J → S.2.1 p ≠ i) (hJ3 : J < S.1 → S.2.1 J = i) (hJ : ¬ J < S.1) (hu : (S.2.2 i).2.2.2.1 ≤ 0) (h5 : S.1 < 5) : Met l y_Law_stand (Cond.codeWith y_Law_stand b_Law_stand 3 (some .int) [(0, 5, 6, 25), (0, 5, 10, 27), (0, 5, 14, 18)] :: gT) ({ frames := 7, cells := 1, slots := 10, locals := 144 }) (gw_Pc E D cI cO cZ z0 M [.ref o, .int (nI i)]) (gw_Qi E D (fun r M' => r = nI (S.1 + 1) ∧ ∃ Z' : Nat → Nat, gw_fa z0 cO M' o n day (S.1 + 1, va_up S.2.1 S.1 i, fun j => if j = i then hEr (S.2.2 i) 0 else S.2.2 j) Z' ad bn ∧ gw_ints M M')) 1 10 (gw_A E) := by
  refine gw_ofH (cc := b_Law_stand) (maxL := 3) (ret := (some .int)) (hh := [(0, 5, 6, 25), (0, 5, 10, 27), (0, 5, 14, 18)]) (by decide) rfl (Nat.le_of_ble_eq_true rfl) ?_
  intro p e s m args below meth c hx hb hr hml hts hown hlk htab hF hG ls hl
  have hT : ∀ w ∈ gT, w.before args s = true := fun w h => hts w (List.mem_cons_of_mem _ h)
  have hK := hF.1
  have hl : lv_has ls 3 [(0, .ref o), (1, .int (nI i))] := hl
  have hro := hf.1
  refine lv_aload_n hx hb d_Law_stand_0 rfl (lv_at hl 0 rfl) ?_
  refine lv_iload_n hx hb d_Law_stand_1 rfl (lv_at hl 1 rfl) ?_
  refine gw_calli (gw_runV (As := [.int (nI i)]) (rest := []) ⟨hx, hb, hml, hown, hts⟩ (c_Row_stand l E D cI cO cZ z0 M hf hi hJ1 hJ2 hJ3 hJ hu h5) (gw_cwV 1 hts (gT_gi wm_535) rfl rfl rfl (hT _ wm_23) (hT _ wm_532) (hT _ wm_533) (hT _ wm_534) (by decide +kernel) ⟨Nat.le_of_ble_eq_true rfl, Nat.le_of_ble_eq_true rfl⟩) hF hG rfl hro rfl hl.1 rfl (Nat.le_of_ble_eq_true rfl) d_Law_stand_2 ⟨Nat.le_of_ble_eq_true rfl, Nat.le_of_ble_eq_true rfl⟩) hG (fun r M1 H locs hp hG => ?_)
  exact gw_iret (v := r) hx hb hr hlk hG (hp) (Nat.le_of_ble_eq_true rfl) (Nat.le_of_ble_eq_true rfl) d_Law_stand_5
set_option maxHeartbeats 4000000 in
set_option maxRecDepth 100000 in
theorem c_Law_stand_x (l : Launch) (E : Nat) (D : va_G) (cI cO cZ : ClassId) (z0 : Nat) (M : gM) (hst : l.stackTraces = false) {o n : Nat} {day : Int32} {S : gS} {Z ad bn : Nat → Nat} (hf : gw_fa z0 cO M o n day S Z ad bn) {i : Nat} (hi : n ≤ i) (hi2 : i < 2 ^ 31) : Met l y_Law_stand (Cond.codeWith y_Law_stand b_Law_stand 3 (some .int) [(0, 5, 6, 25), (0, 5, 10, 27), (0, 5, 14, 18)] :: gT) ({ frames := 8, cells := 1, slots := 6, locals := 125 }) (gw_Pc E D cI cO cZ z0 M [.ref o, .int (nI i)]) (gw_Qi E D (fun r M' => r = -900001 ∧ M' = M)) 1 6 (gw_A E) := by
  refine gw_ofH (cc := b_Law_stand) (maxL := 3) (ret := (some .int)) (hh := [(0, 5, 6, 25), (0, 5, 10, 27), (0, 5, 14, 18)]) (by decide) rfl (Nat.le_of_ble_eq_true rfl) ?_
  intro p e s m args below meth c hx hb hr hml hts hown hlk htab hF hG ls hl
  have hT : ∀ w ∈ gT, w.before args s = true := fun w h => hts w (List.mem_cons_of_mem _ h)
  have hK := hF.1
  have hl : lv_has ls 3 [(0, .ref o), (1, .int (nI i))] := hl
  have hro := hf.1
  refine lv_aload_n hx hb d_Law_stand_0 rfl (lv_at hl 0 rfl) ?_
  refine lv_iload_n hx hb d_Law_stand_1 rfl (lv_at hl 1 rfl) ?_
  refine gw_xcalli (cls := "java/lang/IndexOutOfBoundsException") (gw_xrunV (As := [.int (nI i)]) (rest := []) ⟨hx, hb, hml, hown, hts⟩ (c_Row_stand_x l E D cI cO cZ z0 M hst hf hi hi2) (gw_cwV 1 hts (gT_gi wm_535) rfl rfl rfl (hT _ wm_23) (hT _ wm_532) (hT _ wm_533) (hT _ wm_534) (by decide +kernel) ⟨Nat.le_of_ble_eq_true rfl, Nat.le_of_ble_eq_true rfl⟩) hF hG rfl hro rfl hl.1 rfl (Nat.le_of_ble_eq_true rfl) d_Law_stand_2 ⟨Nat.le_of_ble_eq_true rfl, Nat.le_of_ble_eq_true rfl⟩) hG (fun ce q H locs hG hq1 hq2 hq3 => ?_)
  refine vx_catch (name := "java/lang/IndexOutOfBoundsException") (E := "java/lang/IndexOutOfBoundsException") hown [] (⟨0, 5, 6, 25⟩ : ExceptionTableEntry) [(⟨0, 5, 10, 27⟩ : ExceptionTableEntry), (⟨0, 5, 14, 18⟩ : ExceptionTableEntry)] (by rw [htab]; rfl) (fun z hz => by cases hz) (by decide) (by decide) (hT _ wm_507) (va_Nw.use rfl (gW_m hF.2.2.2.2.2.2 wq_542 rfl)) hq1 hq2 hq3 ?_
  refine lv_astore_n (lv' := [(2, .ref q), (0, .ref o), (1, .int (nI i))]) hx hb d_Law_stand_6 rfl hl (by decide) rfl (fun ls hl => ?_)
  refine lv_ldc hx hb hown (hT _ wm_502) d_Law_stand_7 ?_
  exact gw_iret (v := (-900001)) hx hb hr hlk hG (⟨rfl, rfl⟩) (Nat.le_of_ble_eq_true rfl) (Nat.le_of_ble_eq_true rfl) d_Law_stand_9
set_option maxHeartbeats 4000000 in
set_option maxRecDepth 100000 in
theorem c_Law_stand_xu (l : Launch) (E : Nat) (D : va_G) (cI cO cZ : ClassId) (z0 : Nat) (M : gM) (hst : l.stackTraces = false) {o n : Nat} {day : Int32} {S : gS} {Z ad bn : Nat → Nat} (hf : gw_fa z0 cO M o n day S Z ad bn) {i J : Nat} (hi : i < n) (hJ1 : J ≤ S.1) (hJ2 : ∀ p, p < J → S.2.1 p ≠ i) (hJ3 : J < S.1 → S.2.1 J = i) (hu : J < S.1 ∨ ¬ (S.2.2 i).2.2.2.1 ≤ 0) : Met l y_Law_stand (Cond.codeWith y_Law_stand b_Law_stand 3 (some .int) [(0, 5, 6, 25), (0, 5, 10, 27), (0, 5, 14, 18)] :: gT) ({ frames := 7, cells := 1, slots := 6, locals := 108 }) (gw_Pc E D cI cO cZ z0 M [.ref o, .int (nI i)]) (gw_Qi E D (fun r M' => r = -900002 ∧ M' = M)) 1 6 (gw_A E) := by
  refine gw_ofH (cc := b_Law_stand) (maxL := 3) (ret := (some .int)) (hh := [(0, 5, 6, 25), (0, 5, 10, 27), (0, 5, 14, 18)]) (by decide) rfl (Nat.le_of_ble_eq_true rfl) ?_
  intro p e s m args below meth c hx hb hr hml hts hown hlk htab hF hG ls hl
  have hT : ∀ w ∈ gT, w.before args s = true := fun w h => hts w (List.mem_cons_of_mem _ h)
  have hK := hF.1
  have hl : lv_has ls 3 [(0, .ref o), (1, .int (nI i))] := hl
  have hro := hf.1
  refine lv_aload_n hx hb d_Law_stand_0 rfl (lv_at hl 0 rfl) ?_
  refine lv_iload_n hx hb d_Law_stand_1 rfl (lv_at hl 1 rfl) ?_
  refine gw_xcalli (cls := "java/lang/UnsupportedOperationException") (gw_xrunV (As := [.int (nI i)]) (rest := []) ⟨hx, hb, hml, hown, hts⟩ (c_Row_stand_xu l E D cI cO cZ z0 M hst hf hi hJ1 hJ2 hJ3 hu) (gw_cwV 1 hts (gT_gi wm_535) rfl rfl rfl (hT _ wm_23) (hT _ wm_532) (hT _ wm_533) (hT _ wm_534) (by decide +kernel) ⟨Nat.le_of_ble_eq_true rfl, Nat.le_of_ble_eq_true rfl⟩) hF hG rfl hro rfl hl.1 rfl (Nat.le_of_ble_eq_true rfl) d_Law_stand_2 ⟨Nat.le_of_ble_eq_true rfl, Nat.le_of_ble_eq_true rfl⟩) hG (fun ce q H locs hG hq1 hq2 hq3 => ?_)
  refine vx_catch (name := "java/lang/UnsupportedOperationException") (E := "java/lang/UnsupportedOperationException") hown [(⟨0, 5, 6, 25⟩ : ExceptionTableEntry)] (⟨0, 5, 10, 27⟩ : ExceptionTableEntry) [(⟨0, 5, 14, 18⟩ : ExceptionTableEntry)] (by rw [htab]; rfl) (List.forall_mem_cons.mpr ⟨Or.inr ⟨(by decide), "java/lang/IndexOutOfBoundsException", (hT _ wm_507), hF.2.2.2.2.2.2.2.2.1 "java/lang/UnsupportedOperationException" (by decide) "java/lang/IndexOutOfBoundsException" (by decide) (by decide)⟩, (fun z hz => by cases hz)⟩) (by decide) (by decide) (hT _ wm_531) (va_Nw.use rfl (gW_m hF.2.2.2.2.2.2 wq_559 rfl)) hq1 hq2 hq3 ?_
  refine lv_astore_n (lv' := [(2, .ref q), (0, .ref o), (1, .int (nI i))]) hx hb d_Law_stand_10 rfl hl (by decide) rfl (fun ls hl => ?_)
  refine lv_ldc hx hb hown (hT _ wm_503) d_Law_stand_11 ?_
  exact gw_iret (v := (-900002)) hx hb hr hlk hG (⟨rfl, rfl⟩) (Nat.le_of_ble_eq_true rfl) (Nat.le_of_ble_eq_true rfl) d_Law_stand_13
set_option maxHeartbeats 4000000 in
set_option maxRecDepth 100000 in
theorem c_Law_stand_xs (l : Launch) (E : Nat) (D : va_G) (cI cO cZ : ClassId) (z0 : Nat) (M : gM) (hst : l.stackTraces = false) {o n : Nat} {day : Int32} {S : gS} {Z ad bn : Nat → Nat} (hf : gw_fa z0 cO M o n day S Z ad bn) {i J : Nat} (hi : i < n) (hJ1 : J ≤ S.1) (hJ2 : ∀ p, p < J → S.2.1 p ≠ i) (hJ3 : J < S.1 → S.2.1 J = i) (hJ : ¬ J < S.1) (hu : (S.2.2 i).2.2.2.1 ≤ 0) (h5 : 5 ≤ S.1) : Met l y_Law_stand (Cond.codeWith y_Law_stand b_Law_stand 3 (some .int) [(0, 5, 6, 25), (0, 5, 10, 27), (0, 5, 14, 18)] :: gT) ({ frames := 7, cells := 1, slots := 6, locals := 108 }) (gw_Pc E D cI cO cZ z0 M [.ref o, .int (nI i)]) (gw_Qi E D (fun r M' => r = -900003 ∧ M' = M)) 1 6 (gw_A E) := by
  refine gw_ofH (cc := b_Law_stand) (maxL := 3) (ret := (some .int)) (hh := [(0, 5, 6, 25), (0, 5, 10, 27), (0, 5, 14, 18)]) (by decide) rfl (Nat.le_of_ble_eq_true rfl) ?_
  intro p e s m args below meth c hx hb hr hml hts hown hlk htab hF hG ls hl
  have hT : ∀ w ∈ gT, w.before args s = true := fun w h => hts w (List.mem_cons_of_mem _ h)
  have hK := hF.1
  have hl : lv_has ls 3 [(0, .ref o), (1, .int (nI i))] := hl
  have hro := hf.1
  refine lv_aload_n hx hb d_Law_stand_0 rfl (lv_at hl 0 rfl) ?_
  refine lv_iload_n hx hb d_Law_stand_1 rfl (lv_at hl 1 rfl) ?_
  refine gw_xcalli (cls := "java/lang/IllegalStateException") (gw_xrunV (As := [.int (nI i)]) (rest := []) ⟨hx, hb, hml, hown, hts⟩ (c_Row_stand_xs l E D cI cO cZ z0 M hst hf hi hJ1 hJ2 hJ3 hJ hu h5) (gw_cwV 1 hts (gT_gi wm_535) rfl rfl rfl (hT _ wm_23) (hT _ wm_532) (hT _ wm_533) (hT _ wm_534) (by decide +kernel) ⟨Nat.le_of_ble_eq_true rfl, Nat.le_of_ble_eq_true rfl⟩) hF hG rfl hro rfl hl.1 rfl (Nat.le_of_ble_eq_true rfl) d_Law_stand_2 ⟨Nat.le_of_ble_eq_true rfl, Nat.le_of_ble_eq_true rfl⟩) hG (fun ce q H locs hG hq1 hq2 hq3 => ?_)
  refine vx_catch (name := "java/lang/IllegalStateException") (E := "java/lang/IllegalStateException") hown [(⟨0, 5, 6, 25⟩ : ExceptionTableEntry), (⟨0, 5, 10, 27⟩ : ExceptionTableEntry)] (⟨0, 5, 14, 18⟩ : ExceptionTableEntry) [] (by rw [htab]; rfl) (List.forall_mem_cons.mpr ⟨Or.inr ⟨(by decide), "java/lang/IndexOutOfBoundsException", (hT _ wm_507), hF.2.2.2.2.2.2.2.2.1 "java/lang/IllegalStateException" (by decide) "java/lang/IndexOutOfBoundsException" (by decide) (by decide)⟩, (List.forall_mem_cons.mpr ⟨Or.inr ⟨(by decide), "java/lang/UnsupportedOperationException", (hT _ wm_531), hF.2.2.2.2.2.2.2.2.1 "java/lang/IllegalStateException" (by decide) "java/lang/UnsupportedOperationException" (by decide) (by decide)⟩, (fun z hz => by cases hz)⟩)⟩) (by decide) (by decide) (hT _ wm_418) (va_Nw.use rfl (gW_m hF.2.2.2.2.2.2 wq_444 rfl)) hq1 hq2 hq3 ?_
  refine lv_astore_n (lv' := [(2, .ref q), (0, .ref o), (1, .int (nI i))]) hx hb d_Law_stand_14 rfl hl (by decide) rfl (fun ls hl => ?_)
  refine lv_ldc hx hb hown (hT _ wm_583) d_Law_stand_15 ?_
  exact gw_iret (v := (-900003)) hx hb hr hlk hG (⟨rfl, rfl⟩) (Nat.le_of_ble_eq_true rfl) (Nat.le_of_ble_eq_true rfl) d_Law_stand_17
set_option maxHeartbeats 4000000 in
set_option maxRecDepth 100000 in
theorem c_Law_leave (l : Launch) (E : Nat) (D : va_G) (cI cO cZ : ClassId) (z0 : Nat) (M : gM) {o n : Nat} {day : Int32} {S : gS} {Z ad bn : Nat → Nat} (hf : gw_fa z0 cO M o n day S Z ad bn) {i J : Nat} (hi : i < n) (hJ1 : J ≤ S.1) (hJ2 : ∀ p, p < J → S.2.1 p ≠ i) (hJ3 : J < S.1 → S.2.1 J = i) (hJ : J < S.1) : Met l y_Law_leave (Cond.codeWith y_Law_leave b_Law_leave 3 (some .int) [(0, 5, 6, 25), (0, 5, 10, 27)] :: gT) ({ frames := 6, cells := 0, slots := 0, locals := 150 }) (gw_Pc E D cI cO cZ z0 M [.ref o, .int (nI i)]) (gw_Qi E D (fun r M' => r = nI (S.1 - 1) ∧ ∃ Z' : Nat → Nat, gw_fa z0 cO M' o n day (S.1 - 1, skp J S.2.1, S.2.2) Z' ad bn ∧ gw_ints M M')) 0 0 (gw_A E) := by
  refine gw_ofH (cc := b_Law_leave) (maxL := 3) (ret := (some .int)) (hh := [(0, 5, 6, 25), (0, 5, 10, 27)]) (by decide) rfl (Nat.le_of_ble_eq_true rfl) ?_
  intro p e s m args below meth c hx hb hr hml hts hown hlk htab hF hG ls hl
  have hT : ∀ w ∈ gT, w.before args s = true := fun w h => hts w (List.mem_cons_of_mem _ h)
  have hK := hF.1
  have hl : lv_has ls 3 [(0, .ref o), (1, .int (nI i))] := hl
  have hro := hf.1
  refine lv_aload_n hx hb d_Law_leave_0 rfl (lv_at hl 0 rfl) ?_
  refine lv_iload_n hx hb d_Law_leave_1 rfl (lv_at hl 1 rfl) ?_
  refine gw_calli (gw_runV (As := [.int (nI i)]) (rest := []) ⟨hx, hb, hml, hown, hts⟩ (c_Row_leave l E D cI cO cZ z0 M hf hi hJ1 hJ2 hJ3 hJ) (gw_cwV 1 hts (gT_gi wm_590) rfl rfl rfl (hT _ wm_23) (hT _ wm_587) (hT _ wm_588) (hT _ wm_589) (by decide +kernel) ⟨Nat.le_of_ble_eq_true rfl, Nat.le_of_ble_eq_true rfl⟩) hF hG rfl hro rfl hl.1 rfl (Nat.le_of_ble_eq_true rfl) d_Law_leave_2 ⟨Nat.le_of_ble_eq_true rfl, Nat.le_of_ble_eq_true rfl⟩) hG (fun r M1 H locs hp hG => ?_)
  exact gw_iret (v := r) hx hb hr hlk hG (hp) (Nat.le_of_ble_eq_true rfl) (Nat.le_of_ble_eq_true rfl) d_Law_leave_5
set_option maxHeartbeats 4000000 in
set_option maxRecDepth 100000 in
theorem c_Law_leave_x (l : Launch) (E : Nat) (D : va_G) (cI cO cZ : ClassId) (z0 : Nat) (M : gM) (hst : l.stackTraces = false) {o n : Nat} {day : Int32} {S : gS} {Z ad bn : Nat → Nat} (hf : gw_fa z0 cO M o n day S Z ad bn) {i J : Nat} (hi : i < n) (hJ1 : J ≤ S.1) (hJ2 : ∀ p, p < J → S.2.1 p ≠ i) (hJ3 : J < S.1 → S.2.1 J = i) (hJ : ¬ J < S.1) : Met l y_Law_leave (Cond.codeWith y_Law_leave b_Law_leave 3 (some .int) [(0, 5, 6, 25), (0, 5, 10, 27)] :: gT) ({ frames := 7, cells := 1, slots := 6, locals := 108 }) (gw_Pc E D cI cO cZ z0 M [.ref o, .int (nI i)]) (gw_Qi E D (fun r M' => r = -900002 ∧ M' = M)) 1 6 (gw_A E) := by
  refine gw_ofH (cc := b_Law_leave) (maxL := 3) (ret := (some .int)) (hh := [(0, 5, 6, 25), (0, 5, 10, 27)]) (by decide) rfl (Nat.le_of_ble_eq_true rfl) ?_
  intro p e s m args below meth c hx hb hr hml hts hown hlk htab hF hG ls hl
  have hT : ∀ w ∈ gT, w.before args s = true := fun w h => hts w (List.mem_cons_of_mem _ h)
  have hK := hF.1
  have hl : lv_has ls 3 [(0, .ref o), (1, .int (nI i))] := hl
  have hro := hf.1
  refine lv_aload_n hx hb d_Law_leave_0 rfl (lv_at hl 0 rfl) ?_
  refine lv_iload_n hx hb d_Law_leave_1 rfl (lv_at hl 1 rfl) ?_
  refine gw_xcalli (cls := "java/lang/UnsupportedOperationException") (gw_xrunV (As := [.int (nI i)]) (rest := []) ⟨hx, hb, hml, hown, hts⟩ (c_Row_leave_x l E D cI cO cZ z0 M hst hf hi hJ1 hJ2 hJ3 hJ) (gw_cwV 1 hts (gT_gi wm_590) rfl rfl rfl (hT _ wm_23) (hT _ wm_587) (hT _ wm_588) (hT _ wm_589) (by decide +kernel) ⟨Nat.le_of_ble_eq_true rfl, Nat.le_of_ble_eq_true rfl⟩) hF hG rfl hro rfl hl.1 rfl (Nat.le_of_ble_eq_true rfl) d_Law_leave_2 ⟨Nat.le_of_ble_eq_true rfl, Nat.le_of_ble_eq_true rfl⟩) hG (fun ce q H locs hG hq1 hq2 hq3 => ?_)
  refine vx_catch (name := "java/lang/UnsupportedOperationException") (E := "java/lang/UnsupportedOperationException") hown [(⟨0, 5, 6, 25⟩ : ExceptionTableEntry)] (⟨0, 5, 10, 27⟩ : ExceptionTableEntry) [] (by rw [htab]; rfl) (List.forall_mem_cons.mpr ⟨Or.inr ⟨(by decide), "java/lang/IndexOutOfBoundsException", (hT _ wm_507), hF.2.2.2.2.2.2.2.2.1 "java/lang/UnsupportedOperationException" (by decide) "java/lang/IndexOutOfBoundsException" (by decide) (by decide)⟩, (fun z hz => by cases hz)⟩) (by decide) (by decide) (hT _ wm_531) (va_Nw.use rfl (gW_m hF.2.2.2.2.2.2 wq_559 rfl)) hq1 hq2 hq3 ?_
  refine lv_astore_n (lv' := [(2, .ref q), (0, .ref o), (1, .int (nI i))]) hx hb d_Law_leave_10 rfl hl (by decide) rfl (fun ls hl => ?_)
  refine lv_ldc hx hb hown (hT _ wm_503) d_Law_leave_11 ?_
  exact gw_iret (v := (-900002)) hx hb hr hlk hG (⟨rfl, rfl⟩) (Nat.le_of_ble_eq_true rfl) (Nat.le_of_ble_eq_true rfl) d_Law_leave_13
set_option maxHeartbeats 4000000 in
set_option maxRecDepth 100000 in
theorem c_Law_practise (l : Launch) (E : Nat) (D : va_G) (cI cO cZ : ClassId) (z0 : Nat) (M : gM) {o n : Nat} {day : Int32} {S : gS} {Z ad bn : Nat → Nat} (hf : gw_fa z0 cO M o n day S Z ad bn) {R : Nat} (hR1 : 1 ≤ R) (hR2 : R ≤ 99) (h2 : 2 ≤ S.1) : Met l y_Law_practise (Cond.codeWith y_Law_practise b_Law_practise 3 (some .int) [(0, 5, 6, 15), (0, 5, 10, 27)] :: gT) ({ frames := 8, cells := 0, slots := 0, locals := 175 }) (gw_Pc E D cI cO cZ z0 M [.ref o, .int (nI R)]) (gw_Qi E D (fun r M' => r = (p_prac R S 0).1 ∧ ∃ Z' : Nat → Nat, gw_fa z0 cO M' o n day (p_prac R S 0).2 Z' ad bn ∧ gw_ints M M')) 0 0 (gw_A E) := by
  refine gw_ofH (cc := b_Law_practise) (maxL := 3) (ret := (some .int)) (hh := [(0, 5, 6, 15), (0, 5, 10, 27)]) (by decide) rfl (Nat.le_of_ble_eq_true rfl) ?_
  intro p e s m args below meth c hx hb hr hml hts hown hlk htab hF hG ls hl
  have hT : ∀ w ∈ gT, w.before args s = true := fun w h => hts w (List.mem_cons_of_mem _ h)
  have hK := hF.1
  have hl : lv_has ls 3 [(0, .ref o), (1, .int (nI R))] := hl
  have hro := hf.1
  refine lv_aload_n hx hb d_Law_practise_0 rfl (lv_at hl 0 rfl) ?_
  refine lv_iload_n hx hb d_Law_practise_1 rfl (lv_at hl 1 rfl) ?_
  refine gw_calli (gw_runV (As := [.int (nI R)]) (rest := []) ⟨hx, hb, hml, hown, hts⟩ (c_Row_practise l E D cI cO cZ z0 M hf hR1 hR2 h2) (gw_cwV 1 hts (gT_gi wm_678) rfl rfl rfl (hT _ wm_23) (hT _ wm_675) (hT _ wm_676) (hT _ wm_677) (by decide +kernel) ⟨Nat.le_of_ble_eq_true rfl, Nat.le_of_ble_eq_true rfl⟩) hF hG rfl hro rfl hl.1 rfl (Nat.le_of_ble_eq_true rfl) d_Law_practise_2 ⟨Nat.le_of_ble_eq_true rfl, Nat.le_of_ble_eq_true rfl⟩) hG (fun r M1 H locs hp hG => ?_)
  exact gw_iret (v := r) hx hb hr hlk hG (hp) (Nat.le_of_ble_eq_true rfl) (Nat.le_of_ble_eq_true rfl) d_Law_practise_5
set_option maxHeartbeats 4000000 in
set_option maxRecDepth 100000 in
theorem c_Law_practise_xr (l : Launch) (E : Nat) (D : va_G) (cI cO cZ : ClassId) (z0 : Nat) (M : gM) (hst : l.stackTraces = false) {o n : Nat} {day : Int32} {S : gS} {Z ad bn : Nat → Nat} (hf : gw_fa z0 cO M o n day S Z ad bn) {R : Nat} (hR1 : 99 < R) (hR2 : R < 2 ^ 31) : Met l y_Law_practise (Cond.codeWith y_Law_practise b_Law_practise 3 (some .int) [(0, 5, 6, 15), (0, 5, 10, 27)] :: gT) ({ frames := 8, cells := 1, slots := 6, locals := 127 }) (gw_Pc E D cI cO cZ z0 M [.ref o, .int (nI R)]) (gw_Qi E D (fun r M' => r = -900001 ∧ M' = M)) 1 6 (gw_A E) := by
  refine gw_ofH (cc := b_Law_practise) (maxL := 3) (ret := (some .int)) (hh := [(0, 5, 6, 15), (0, 5, 10, 27)]) (by decide) rfl (Nat.le_of_ble_eq_true rfl) ?_
  intro p e s m args below meth c hx hb hr hml hts hown hlk htab hF hG ls hl
  have hT : ∀ w ∈ gT, w.before args s = true := fun w h => hts w (List.mem_cons_of_mem _ h)
  have hK := hF.1
  have hl : lv_has ls 3 [(0, .ref o), (1, .int (nI R))] := hl
  have hro := hf.1
  refine lv_aload_n hx hb d_Law_practise_0 rfl (lv_at hl 0 rfl) ?_
  refine lv_iload_n hx hb d_Law_practise_1 rfl (lv_at hl 1 rfl) ?_
  refine gw_xcalli (cls := "java/lang/IllegalArgumentException") (gw_xrunV (As := [.int (nI R)]) (rest := []) ⟨hx, hb, hml, hown, hts⟩ (c_Row_practise_xr l E D cI cO cZ z0 M hst hf hR1 hR2) (gw_cwV 1 hts (gT_gi wm_678) rfl rfl rfl (hT _ wm_23) (hT _ wm_675) (hT _ wm_676) (hT _ wm_677) (by decide +kernel) ⟨Nat.le_of_ble_eq_true rfl, Nat.le_of_ble_eq_true rfl⟩) hF hG rfl hro rfl hl.1 rfl (Nat.le_of_ble_eq_true rfl) d_Law_practise_2 ⟨Nat.le_of_ble_eq_true rfl, Nat.le_of_ble_eq_true rfl⟩) hG (fun ce q H locs hG hq1 hq2 hq3 => ?_)
  refine vx_catch (name := "java/lang/IllegalArgumentException") (E := "java/lang/IllegalArgumentException") hown [] (⟨0, 5, 6, 15⟩ : ExceptionTableEntry) [(⟨0, 5, 10, 27⟩ : ExceptionTableEntry)] (by rw [htab]; rfl) (fun z hz => by cases hz) (by decide) (by decide) (hT _ wm_417) (va_Nw.use rfl (gW_m hF.2.2.2.2.2.2 wq_428 rfl)) hq1 hq2 hq3 ?_
  refine lv_astore_n (lv' := [(2, .ref q), (0, .ref o), (1, .int (nI R))]) hx hb d_Law_practise_6 rfl hl (by decide) rfl (fun ls hl => ?_)
  refine lv_ldc hx hb hown (hT _ wm_502) d_Law_practise_7 ?_
  exact gw_iret (v := (-900001)) hx hb hr hlk hG (⟨rfl, rfl⟩) (Nat.le_of_ble_eq_true rfl) (Nat.le_of_ble_eq_true rfl) d_Law_practise_9
set_option maxHeartbeats 4000000 in
set_option maxRecDepth 100000 in
theorem c_Law_practise_xg (l : Launch) (E : Nat) (D : va_G) (cI cO cZ : ClassId) (z0 : Nat) (M : gM) (hst : l.stackTraces = false) {o n : Nat} {day : Int32} {S : gS} {Z ad bn : Nat → Nat} (hf : gw_fa z0 cO M o n day S Z ad bn) {R : Nat} (hR1 : 1 ≤ R) (hR2 : R ≤ 99) (h2 : S.1 < 2) : Met l y_Law_practise (Cond.codeWith y_Law_practise b_Law_practise 3 (some .int) [(0, 5, 6, 15), (0, 5, 10, 27)] :: gT) ({ frames := 8, cells := 1, slots := 6, locals := 125 }) (gw_Pc E D cI cO cZ z0 M [.ref o, .int (nI R)]) (gw_Qi E D (fun r M' => r = -900002 ∧ M' = M)) 1 6 (gw_A E) := by
  refine gw_ofH (cc := b_Law_practise) (maxL := 3) (ret := (some .int)) (hh := [(0, 5, 6, 15), (0, 5, 10, 27)]) (by decide) rfl (Nat.le_of_ble_eq_true rfl) ?_
  intro p e s m args below meth c hx hb hr hml hts hown hlk htab hF hG ls hl
  have hT : ∀ w ∈ gT, w.before args s = true := fun w h => hts w (List.mem_cons_of_mem _ h)
  have hK := hF.1
  have hl : lv_has ls 3 [(0, .ref o), (1, .int (nI R))] := hl
  have hro := hf.1
  refine lv_aload_n hx hb d_Law_practise_0 rfl (lv_at hl 0 rfl) ?_
  refine lv_iload_n hx hb d_Law_practise_1 rfl (lv_at hl 1 rfl) ?_
  refine gw_xcalli (cls := "java/lang/UnsupportedOperationException") (gw_xrunV (As := [.int (nI R)]) (rest := []) ⟨hx, hb, hml, hown, hts⟩ (c_Row_practise_xg l E D cI cO cZ z0 M hst hf hR1 hR2 h2) (gw_cwV 1 hts (gT_gi wm_678) rfl rfl rfl (hT _ wm_23) (hT _ wm_675) (hT _ wm_676) (hT _ wm_677) (by decide +kernel) ⟨Nat.le_of_ble_eq_true rfl, Nat.le_of_ble_eq_true rfl⟩) hF hG rfl hro rfl hl.1 rfl (Nat.le_of_ble_eq_true rfl) d_Law_practise_2 ⟨Nat.le_of_ble_eq_true rfl, Nat.le_of_ble_eq_true rfl⟩) hG (fun ce q H locs hG hq1 hq2 hq3 => ?_)
  refine vx_catch (name := "java/lang/UnsupportedOperationException") (E := "java/lang/UnsupportedOperationException") hown [(⟨0, 5, 6, 15⟩ : ExceptionTableEntry)] (⟨0, 5, 10, 27⟩ : ExceptionTableEntry) [] (by rw [htab]; rfl) (List.forall_mem_cons.mpr ⟨Or.inr ⟨(by decide), "java/lang/IllegalArgumentException", (hT _ wm_417), hF.2.2.2.2.2.2.2.2.1 "java/lang/UnsupportedOperationException" (by decide) "java/lang/IllegalArgumentException" (by decide) (by decide)⟩, (fun z hz => by cases hz)⟩) (by decide) (by decide) (hT _ wm_531) (va_Nw.use rfl (gW_m hF.2.2.2.2.2.2 wq_559 rfl)) hq1 hq2 hq3 ?_
  refine lv_astore_n (lv' := [(2, .ref q), (0, .ref o), (1, .int (nI R))]) hx hb d_Law_practise_10 rfl hl (by decide) rfl (fun ls hl => ?_)
  refine lv_ldc hx hb hown (hT _ wm_503) d_Law_practise_11 ?_
  exact gw_iret (v := (-900002)) hx hb hr hlk hG (⟨rfl, rfl⟩) (Nat.le_of_ble_eq_true rfl) (Nat.le_of_ble_eq_true rfl) d_Law_practise_13
set_option maxHeartbeats 4000000 in
set_option maxRecDepth 100000 in
theorem c_Law_pass (l : Launch) (E : Nat) (D : va_G) (cI cO cZ : ClassId) (z0 : Nat) (M : gM) {o n : Nat} {day : Int32} {S : gS} {Z ad bn : Nat → Nat} (hf : gw_fa z0 cO M o n day S Z ad bn) {R : Nat} (hR1 : 1 ≤ R) (hR2 : R ≤ 99) (hday : day + nI R ≤ 9999) : Met l y_Law_pass (Cond.codeWith y_Law_pass b_Law_pass 3 (some .int) [(0, 5, 6, 15), (0, 5, 10, 18)] :: gT) ({ frames := 5, cells := 0, slots := 0, locals := 107 }) (gw_Pc E D cI cO cZ z0 M [.ref o, .int (nI R)]) (gw_Qi E D (fun r M' => r = day + nI R ∧ gw_fa z0 cO M' o n (day + nI R) (S.1, S.2.1, fun j => p_rests R (S.2.2 j)) Z ad bn ∧ gw_ints M M')) 0 0 (gw_A E) := by
  refine gw_ofH (cc := b_Law_pass) (maxL := 3) (ret := (some .int)) (hh := [(0, 5, 6, 15), (0, 5, 10, 18)]) (by decide) rfl (Nat.le_of_ble_eq_true rfl) ?_
  intro p e s m args below meth c hx hb hr hml hts hown hlk htab hF hG ls hl
  have hT : ∀ w ∈ gT, w.before args s = true := fun w h => hts w (List.mem_cons_of_mem _ h)
  have hK := hF.1
  have hl : lv_has ls 3 [(0, .ref o), (1, .int (nI R))] := hl
  have hro := hf.1
  refine lv_aload_n hx hb d_Law_pass_0 rfl (lv_at hl 0 rfl) ?_
  refine lv_iload_n hx hb d_Law_pass_1 rfl (lv_at hl 1 rfl) ?_
  refine gw_calli (gw_runV (As := [.int (nI R)]) (rest := []) ⟨hx, hb, hml, hown, hts⟩ (c_Row_pass l E D cI cO cZ z0 M hf hR1 hR2 hday) (gw_cwV 1 hts (gT_gi wm_727) rfl rfl rfl (hT _ wm_23) (hT _ wm_724) (hT _ wm_725) (hT _ wm_726) (by decide +kernel) ⟨Nat.le_of_ble_eq_true rfl, Nat.le_of_ble_eq_true rfl⟩) hF hG rfl hro rfl hl.1 rfl (Nat.le_of_ble_eq_true rfl) d_Law_pass_2 ⟨Nat.le_of_ble_eq_true rfl, Nat.le_of_ble_eq_true rfl⟩) hG (fun r M1 H locs hp hG => ?_)
  exact gw_iret (v := r) hx hb hr hlk hG (hp) (Nat.le_of_ble_eq_true rfl) (Nat.le_of_ble_eq_true rfl) d_Law_pass_5
set_option maxHeartbeats 4000000 in
set_option maxRecDepth 100000 in
theorem c_Law_pass_x (l : Launch) (E : Nat) (D : va_G) (cI cO cZ : ClassId) (z0 : Nat) (M : gM) (hst : l.stackTraces = false) {o n : Nat} {day : Int32} {S : gS} {Z ad bn : Nat → Nat} (hf : gw_fa z0 cO M o n day S Z ad bn) {R : Nat} (hR1 : 99 < R) (hR2 : R < 2 ^ 31) : Met l y_Law_pass (Cond.codeWith y_Law_pass b_Law_pass 3 (some .int) [(0, 5, 6, 15), (0, 5, 10, 18)] :: gT) ({ frames := 8, cells := 1, slots := 6, locals := 126 }) (gw_Pc E D cI cO cZ z0 M [.ref o, .int (nI R)]) (gw_Qi E D (fun r M' => r = -900001 ∧ M' = M)) 1 6 (gw_A E) := by
  refine gw_ofH (cc := b_Law_pass) (maxL := 3) (ret := (some .int)) (hh := [(0, 5, 6, 15), (0, 5, 10, 18)]) (by decide) rfl (Nat.le_of_ble_eq_true rfl) ?_
  intro p e s m args below meth c hx hb hr hml hts hown hlk htab hF hG ls hl
  have hT : ∀ w ∈ gT, w.before args s = true := fun w h => hts w (List.mem_cons_of_mem _ h)
  have hK := hF.1
  have hl : lv_has ls 3 [(0, .ref o), (1, .int (nI R))] := hl
  have hro := hf.1
  refine lv_aload_n hx hb d_Law_pass_0 rfl (lv_at hl 0 rfl) ?_
  refine lv_iload_n hx hb d_Law_pass_1 rfl (lv_at hl 1 rfl) ?_
  refine gw_xcalli (cls := "java/lang/IllegalArgumentException") (gw_xrunV (As := [.int (nI R)]) (rest := []) ⟨hx, hb, hml, hown, hts⟩ (c_Row_pass_x l E D cI cO cZ z0 M hst hf hR1 hR2) (gw_cwV 1 hts (gT_gi wm_727) rfl rfl rfl (hT _ wm_23) (hT _ wm_724) (hT _ wm_725) (hT _ wm_726) (by decide +kernel) ⟨Nat.le_of_ble_eq_true rfl, Nat.le_of_ble_eq_true rfl⟩) hF hG rfl hro rfl hl.1 rfl (Nat.le_of_ble_eq_true rfl) d_Law_pass_2 ⟨Nat.le_of_ble_eq_true rfl, Nat.le_of_ble_eq_true rfl⟩) hG (fun ce q H locs hG hq1 hq2 hq3 => ?_)
  refine vx_catch (name := "java/lang/IllegalArgumentException") (E := "java/lang/IllegalArgumentException") hown [] (⟨0, 5, 6, 15⟩ : ExceptionTableEntry) [(⟨0, 5, 10, 18⟩ : ExceptionTableEntry)] (by rw [htab]; rfl) (fun z hz => by cases hz) (by decide) (by decide) (hT _ wm_417) (va_Nw.use rfl (gW_m hF.2.2.2.2.2.2 wq_428 rfl)) hq1 hq2 hq3 ?_
  refine lv_astore_n (lv' := [(2, .ref q), (0, .ref o), (1, .int (nI R))]) hx hb d_Law_pass_6 rfl hl (by decide) rfl (fun ls hl => ?_)
  refine lv_ldc hx hb hown (hT _ wm_502) d_Law_pass_7 ?_
  exact gw_iret (v := (-900001)) hx hb hr hlk hG (⟨rfl, rfl⟩) (Nat.le_of_ble_eq_true rfl) (Nat.le_of_ble_eq_true rfl) d_Law_pass_9
set_option maxHeartbeats 4000000 in
set_option maxRecDepth 100000 in
theorem c_Law_addHand (l : Launch) (E : Nat) (D : va_G) (cI cO cZ : ClassId) (z0 : Nat) (M : gM) {o n : Nat} {day : Int32} {S : gS} {Z ad bn : Nat → Nat} (hf : gw_fa z0 cO M o n day S Z ad bn) {x y : Int32} (q1 : ¬ x < 1) (q2 : x ≤ 9) (q3 : ¬ y < (-3)) (q4 : y ≤ 3) (hn8 : n < 8) : Met l y_Law_addHand (Cond.codeWith y_Law_addHand b_Law_addHand 4 (some .int) [(0, 6, 7, 15), (0, 6, 11, 18)] :: gT) ({ frames := 6, cells := 2, slots := 20, locals := 123 }) (gw_Pc E D cI cO cZ z0 M [.ref o, .int x, .int y]) (gw_Qi E D (fun r M' => r = nI n ∧ ∃ Z' ad' : Nat → Nat, gw_fa z0 cO M' o (n + 1) day (S.1, S.2.1, fun i => if i = n then (x, y, 0, 0, 0, 0) else S.2.2 i) Z' ad' bn ∧ gw_ints M M')) 2 20 (gw_A E) := by
  refine gw_ofH (cc := b_Law_addHand) (maxL := 4) (ret := (some .int)) (hh := [(0, 6, 7, 15), (0, 6, 11, 18)]) (by decide) rfl (Nat.le_of_ble_eq_true rfl) ?_
  intro p e s m args below meth c hx hb hr hml hts hown hlk htab hF hG ls hl
  have hT : ∀ w ∈ gT, w.before args s = true := fun w h => hts w (List.mem_cons_of_mem _ h)
  have hK := hF.1
  have hl : lv_has ls 4 [(0, .ref o), (1, .int x), (2, .int y)] := hl
  have hro := hf.1
  refine lv_aload_n hx hb d_Law_addHand_0 rfl (lv_at hl 0 rfl) ?_
  refine lv_iload_n hx hb d_Law_addHand_1 rfl (lv_at hl 1 rfl) ?_
  refine lv_iload_n hx hb d_Law_addHand_2 rfl (lv_at hl 2 rfl) ?_
  refine gw_calli (gw_runV (As := [.int x, .int y]) (rest := []) ⟨hx, hb, hml, hown, hts⟩ (c_Row_addHand l E D cI cO cZ z0 M hf q1 q2 q3 q4 hn8) (gw_cwV 2 hts (gT_gi wm_422) rfl rfl rfl (hT _ wm_23) (hT _ wm_419) (hT _ wm_420) (hT _ wm_421) (by decide +kernel) ⟨Nat.le_of_ble_eq_true rfl, Nat.le_of_ble_eq_true rfl⟩) hF hG rfl hro rfl hl.1 rfl (Nat.le_of_ble_eq_true rfl) d_Law_addHand_3 ⟨Nat.le_of_ble_eq_true rfl, Nat.le_of_ble_eq_true rfl⟩) hG (fun r M1 H locs hp hG => ?_)
  exact gw_iret (v := r) hx hb hr hlk hG (hp) (Nat.le_of_ble_eq_true rfl) (Nat.le_of_ble_eq_true rfl) d_Law_addHand_6
set_option maxHeartbeats 4000000 in
set_option maxRecDepth 100000 in
theorem c_Law_addHand_x (l : Launch) (E : Nat) (D : va_G) (cI cO cZ : ClassId) (z0 : Nat) (M : gM) (hst : l.stackTraces = false) {o n : Nat} {day : Int32} {S : gS} {Z ad bn : Nat → Nat} (hf : gw_fa z0 cO M o n day S Z ad bn) {x y : Int32} (q1 : x < 1 ∨ (¬ x < 1 ∧ x ≤ 9 ∧ 3 < y)) : Met l y_Law_addHand (Cond.codeWith y_Law_addHand b_Law_addHand 4 (some .int) [(0, 6, 7, 15), (0, 6, 11, 18)] :: gT) ({ frames := 8, cells := 1, slots := 6, locals := 126 }) (gw_Pc E D cI cO cZ z0 M [.ref o, .int x, .int y]) (gw_Qi E D (fun r M' => r = -900001 ∧ M' = M)) 1 6 (gw_A E) := by
  refine gw_ofH (cc := b_Law_addHand) (maxL := 4) (ret := (some .int)) (hh := [(0, 6, 7, 15), (0, 6, 11, 18)]) (by decide) rfl (Nat.le_of_ble_eq_true rfl) ?_
  intro p e s m args below meth c hx hb hr hml hts hown hlk htab hF hG ls hl
  have hT : ∀ w ∈ gT, w.before args s = true := fun w h => hts w (List.mem_cons_of_mem _ h)
  have hK := hF.1
  have hl : lv_has ls 4 [(0, .ref o), (1, .int x), (2, .int y)] := hl
  have hro := hf.1
  refine lv_aload_n hx hb d_Law_addHand_0 rfl (lv_at hl 0 rfl) ?_
  refine lv_iload_n hx hb d_Law_addHand_1 rfl (lv_at hl 1 rfl) ?_
  refine lv_iload_n hx hb d_Law_addHand_2 rfl (lv_at hl 2 rfl) ?_
  refine gw_xcalli (cls := "java/lang/IllegalArgumentException") (gw_xrunV (As := [.int x, .int y]) (rest := []) ⟨hx, hb, hml, hown, hts⟩ (c_Row_addHand_x l E D cI cO cZ z0 M hst hf q1) (gw_cwV 2 hts (gT_gi wm_422) rfl rfl rfl (hT _ wm_23) (hT _ wm_419) (hT _ wm_420) (hT _ wm_421) (by decide +kernel) ⟨Nat.le_of_ble_eq_true rfl, Nat.le_of_ble_eq_true rfl⟩) hF hG rfl hro rfl hl.1 rfl (Nat.le_of_ble_eq_true rfl) d_Law_addHand_3 ⟨Nat.le_of_ble_eq_true rfl, Nat.le_of_ble_eq_true rfl⟩) hG (fun ce q H locs hG hq1 hq2 hq3 => ?_)
  refine vx_catch (name := "java/lang/IllegalArgumentException") (E := "java/lang/IllegalArgumentException") hown [] (⟨0, 6, 7, 15⟩ : ExceptionTableEntry) [(⟨0, 6, 11, 18⟩ : ExceptionTableEntry)] (by rw [htab]; rfl) (fun z hz => by cases hz) (by decide) (by decide) (hT _ wm_417) (va_Nw.use rfl (gW_m hF.2.2.2.2.2.2 wq_428 rfl)) hq1 hq2 hq3 ?_
  refine lv_astore_n (lv' := [(3, .ref q), (0, .ref o), (1, .int x), (2, .int y)]) hx hb d_Law_addHand_7 rfl hl (by decide) rfl (fun ls hl => ?_)
  refine lv_ldc hx hb hown (hT _ wm_502) d_Law_addHand_8 ?_
  exact gw_iret (v := (-900001)) hx hb hr hlk hG (⟨rfl, rfl⟩) (Nat.le_of_ble_eq_true rfl) (Nat.le_of_ble_eq_true rfl) d_Law_addHand_10
