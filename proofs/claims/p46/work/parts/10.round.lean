theorem d_Gang_findLoser_0 : decode b_Gang_findLoser 0 = .ok (.aload_n 0, 1) := by decide +kernel
theorem d_Gang_findLoser_1 : decode b_Gang_findLoser 1 = .ok (.getfield 12, 3) := by decide +kernel
theorem d_Gang_findLoser_4 : decode b_Gang_findLoser 4 = .ok (.invokevirtual 18, 3) := by decide +kernel
theorem d_Gang_findLoser_7 : decode b_Gang_findLoser 7 = .ok (.istore_n 1, 1) := by decide +kernel
theorem d_Gang_findLoser_8 : decode b_Gang_findLoser 8 = .ok (.iconst 0, 1) := by decide +kernel
theorem d_Gang_findLoser_9 : decode b_Gang_findLoser 9 = .ok (.istore_n 2, 1) := by decide +kernel
theorem d_Gang_findLoser_10 : decode b_Gang_findLoser 10 = .ok (.iload_n 2, 1) := by decide +kernel
theorem d_Gang_findLoser_11 : decode b_Gang_findLoser 11 = .ok (.iconst 1, 1) := by decide +kernel
theorem d_Gang_findLoser_12 : decode b_Gang_findLoser 12 = .ok (.iadd, 1) := by decide +kernel
theorem d_Gang_findLoser_13 : decode b_Gang_findLoser 13 = .ok (.iload_n 1, 1) := by decide +kernel
theorem d_Gang_findLoser_14 : decode b_Gang_findLoser 14 = .ok (.if_icmp .ge 54, 3) := by decide +kernel
theorem d_Gang_findLoser_68 : decode b_Gang_findLoser 68 = .ok (.iload_n 1, 1) := by decide +kernel
theorem d_Gang_findLoser_69 : decode b_Gang_findLoser 69 = .ok (.ifCond .le 51, 3) := by decide +kernel
theorem d_Gang_findLoser_72 : decode b_Gang_findLoser 72 = .ok (.aload_n 0, 1) := by decide +kernel
theorem d_Gang_findLoser_73 : decode b_Gang_findLoser 73 = .ok (.iconst 0, 1) := by decide +kernel
theorem wm_650 : Cond.code ⟨"ThresholdRow$Gang", "tickAt", "(I)I"⟩ prog_4_method_6_code 3 (some .int) ∈ gT := gT_m (List.mem_of_getElem? (i := 650) (by decide +kernel)) (by decide +kernel)
theorem wm_700 : Cond.methodLink "ThresholdRow$Gang" 72 ⟨"ThresholdRow$Gang", "tickAt", "(I)I"⟩ ∈ gT := gT_m (List.mem_of_getElem? (i := 700) (by decide +kernel)) (by decide +kernel)
theorem d_Gang_findLoser_74 : decode b_Gang_findLoser 74 = .ok (.invokevirtual 72, 3) := by decide +kernel
theorem wm_648 : Cond.instanceMethod ⟨"ThresholdRow$Gang", "tickAt", "(I)I"⟩ ∈ gT := gT_m (List.mem_of_getElem? (i := 648) (by decide +kernel)) (by decide +kernel)
theorem wm_649 : Cond.selects "ThresholdRow$Gang" ⟨"ThresholdRow$Gang", "tickAt", "(I)I"⟩ ⟨"ThresholdRow$Gang", "tickAt", "(I)I"⟩ ∈ gT := gT_m (List.mem_of_getElem? (i := 649) (by decide +kernel)) (by decide +kernel)
theorem d_Gang_findLoser_77 : decode b_Gang_findLoser 77 = .ok (.bipush 60, 2) := by decide +kernel
theorem d_Gang_findLoser_79 : decode b_Gang_findLoser 79 = .ok (.iadd, 1) := by decide +kernel
theorem d_Gang_findLoser_80 : decode b_Gang_findLoser 80 = .ok (.aload_n 0, 1) := by decide +kernel
theorem d_Gang_findLoser_81 : decode b_Gang_findLoser 81 = .ok (.iload_n 1, 1) := by decide +kernel
theorem d_Gang_findLoser_82 : decode b_Gang_findLoser 82 = .ok (.iconst 1, 1) := by decide +kernel
theorem d_Gang_findLoser_83 : decode b_Gang_findLoser 83 = .ok (.isub, 1) := by decide +kernel
theorem d_Gang_findLoser_84 : decode b_Gang_findLoser 84 = .ok (.invokevirtual 72, 3) := by decide +kernel
theorem d_Gang_findLoser_87 : decode b_Gang_findLoser 87 = .ok (.isub, 1) := by decide +kernel
theorem d_Gang_findLoser_88 : decode b_Gang_findLoser 88 = .ok (.iconst 4, 1) := by decide +kernel
theorem d_Gang_findLoser_89 : decode b_Gang_findLoser 89 = .ok (.if_icmp .ge 31, 3) := by decide +kernel
theorem d_Gang_findLoser_120 : decode b_Gang_findLoser 120 = .ok (.aconst_null, 1) := by decide +kernel
theorem d_Gang_findLoser_121 : decode b_Gang_findLoser 121 = .ok (.areturn, 1) := by decide +kernel
theorem d_Gang_findLoser_92 : decode b_Gang_findLoser 92 = .ok (.aload_n 0, 1) := by decide +kernel
theorem d_Gang_findLoser_93 : decode b_Gang_findLoser 93 = .ok (.getfield 12, 3) := by decide +kernel
theorem d_Gang_findLoser_96 : decode b_Gang_findLoser 96 = .ok (.iload_n 1, 1) := by decide +kernel
theorem d_Gang_findLoser_97 : decode b_Gang_findLoser 97 = .ok (.iconst 1, 1) := by decide +kernel
theorem d_Gang_findLoser_98 : decode b_Gang_findLoser 98 = .ok (.isub, 1) := by decide +kernel
theorem d_Gang_findLoser_99 : decode b_Gang_findLoser 99 = .ok (.invokevirtual 22, 3) := by decide +kernel
theorem d_Gang_findLoser_102 : decode b_Gang_findLoser 102 = .ok (.checkcast 27, 3) := by decide +kernel
theorem d_Gang_findLoser_105 : decode b_Gang_findLoser 105 = .ok (.aload_n 0, 1) := by decide +kernel
theorem d_Gang_findLoser_106 : decode b_Gang_findLoser 106 = .ok (.getfield 12, 3) := by decide +kernel
theorem d_Gang_findLoser_109 : decode b_Gang_findLoser 109 = .ok (.iconst 0, 1) := by decide +kernel
theorem d_Gang_findLoser_110 : decode b_Gang_findLoser 110 = .ok (.invokevirtual 22, 3) := by decide +kernel
theorem d_Gang_findLoser_113 : decode b_Gang_findLoser 113 = .ok (.checkcast 27, 3) := by decide +kernel
theorem wm_703 : Cond.code ⟨"ThresholdRow$Gang", "worseOf", "(LThresholdRow$Hand;LThresholdRow$Hand;)LThresholdRow$Hand;"⟩ prog_4_method_10_code 2 (some (.object "ThresholdRow$Hand")) ∈ gT := gT_m (List.mem_of_getElem? (i := 703) (by decide +kernel)) (by decide +kernel)
theorem wm_701 : Cond.methodLink "ThresholdRow$Gang" 76 ⟨"ThresholdRow$Gang", "worseOf", "(LThresholdRow$Hand;LThresholdRow$Hand;)LThresholdRow$Hand;"⟩ ∈ gT := gT_m (List.mem_of_getElem? (i := 701) (by decide +kernel)) (by decide +kernel)
theorem d_Gang_findLoser_116 : decode b_Gang_findLoser 116 = .ok (.invokestatic 76, 3) := by decide +kernel
theorem wm_702 : Cond.static ⟨"ThresholdRow$Gang", "worseOf", "(LThresholdRow$Hand;LThresholdRow$Hand;)LThresholdRow$Hand;"⟩ ∈ gT := gT_m (List.mem_of_getElem? (i := 702) (by decide +kernel)) (by decide +kernel)
theorem d_Gang_findLoser_119 : decode b_Gang_findLoser 119 = .ok (.areturn, 1) := by decide +kernel
theorem d_Gang_findLoser_17 : decode b_Gang_findLoser 17 = .ok (.aload_n 0, 1) := by decide +kernel
theorem d_Gang_findLoser_18 : decode b_Gang_findLoser 18 = .ok (.iload_n 2, 1) := by decide +kernel
theorem d_Gang_findLoser_19 : decode b_Gang_findLoser 19 = .ok (.iconst 1, 1) := by decide +kernel
theorem d_Gang_findLoser_20 : decode b_Gang_findLoser 20 = .ok (.iadd, 1) := by decide +kernel
theorem d_Gang_findLoser_21 : decode b_Gang_findLoser 21 = .ok (.invokevirtual 72, 3) := by decide +kernel
theorem d_Gang_findLoser_24 : decode b_Gang_findLoser 24 = .ok (.aload_n 0, 1) := by decide +kernel
theorem d_Gang_findLoser_25 : decode b_Gang_findLoser 25 = .ok (.iload_n 2, 1) := by decide +kernel
theorem d_Gang_findLoser_26 : decode b_Gang_findLoser 26 = .ok (.invokevirtual 72, 3) := by decide +kernel
theorem d_Gang_findLoser_29 : decode b_Gang_findLoser 29 = .ok (.isub, 1) := by decide +kernel
theorem d_Gang_findLoser_30 : decode b_Gang_findLoser 30 = .ok (.iconst 4, 1) := by decide +kernel
theorem d_Gang_findLoser_31 : decode b_Gang_findLoser 31 = .ok (.if_icmp .ge 31, 3) := by decide +kernel
theorem d_Gang_findLoser_62 : decode b_Gang_findLoser 62 = .ok (.iinc 2 1, 3) := by decide +kernel
theorem d_Gang_findLoser_65 : decode b_Gang_findLoser 65 = .ok (.goto (-55), 3) := by decide +kernel
theorem d_Gang_findLoser_34 : decode b_Gang_findLoser 34 = .ok (.aload_n 0, 1) := by decide +kernel
theorem d_Gang_findLoser_35 : decode b_Gang_findLoser 35 = .ok (.getfield 12, 3) := by decide +kernel
theorem d_Gang_findLoser_38 : decode b_Gang_findLoser 38 = .ok (.iload_n 2, 1) := by decide +kernel
theorem d_Gang_findLoser_39 : decode b_Gang_findLoser 39 = .ok (.invokevirtual 22, 3) := by decide +kernel
theorem d_Gang_findLoser_42 : decode b_Gang_findLoser 42 = .ok (.checkcast 27, 3) := by decide +kernel
theorem d_Gang_findLoser_45 : decode b_Gang_findLoser 45 = .ok (.aload_n 0, 1) := by decide +kernel
theorem d_Gang_findLoser_46 : decode b_Gang_findLoser 46 = .ok (.getfield 12, 3) := by decide +kernel
theorem d_Gang_findLoser_49 : decode b_Gang_findLoser 49 = .ok (.iload_n 2, 1) := by decide +kernel
theorem d_Gang_findLoser_50 : decode b_Gang_findLoser 50 = .ok (.iconst 1, 1) := by decide +kernel
theorem d_Gang_findLoser_51 : decode b_Gang_findLoser 51 = .ok (.iadd, 1) := by decide +kernel
theorem d_Gang_findLoser_52 : decode b_Gang_findLoser 52 = .ok (.invokevirtual 22, 3) := by decide +kernel
theorem d_Gang_findLoser_55 : decode b_Gang_findLoser 55 = .ok (.checkcast 27, 3) := by decide +kernel
theorem d_Gang_findLoser_58 : decode b_Gang_findLoser 58 = .ok (.invokestatic 76, 3) := by decide +kernel
theorem d_Gang_findLoser_61 : decode b_Gang_findLoser 61 = .ok (.areturn, 1) := by decide +kernel
theorem d_Gang_beatRound_0 : decode b_Gang_beatRound 0 = .ok (.aload_n 0, 1) := by decide +kernel
theorem wm_691 : Cond.code ⟨"ThresholdRow$Gang", "leanOnOneAnother", "()V"⟩ prog_4_method_8_code 6 none ∈ gT := gT_m (List.mem_of_getElem? (i := 691) (by decide +kernel)) (by decide +kernel)
theorem wm_688 : Cond.methodLink "ThresholdRow$Gang" 43 ⟨"ThresholdRow$Gang", "leanOnOneAnother", "()V"⟩ ∈ gT := gT_m (List.mem_of_getElem? (i := 688) (by decide +kernel)) (by decide +kernel)
theorem d_Gang_beatRound_1 : decode b_Gang_beatRound 1 = .ok (.invokevirtual 43, 3) := by decide +kernel
theorem wm_690 : Cond.instanceMethod ⟨"ThresholdRow$Gang", "leanOnOneAnother", "()V"⟩ ∈ gT := gT_m (List.mem_of_getElem? (i := 690) (by decide +kernel)) (by decide +kernel)
theorem wm_14 : Cond.selects "ThresholdRow$Gang" ⟨"ThresholdRow$Gang", "leanOnOneAnother", "()V"⟩ ⟨"ThresholdRow$Gang", "leanOnOneAnother", "()V"⟩ ∈ gT := gT_m (List.mem_of_getElem? (i := 14) (by decide +kernel)) (by decide +kernel)
theorem d_Gang_beatRound_4 : decode b_Gang_beatRound 4 = .ok (.aload_n 0, 1) := by decide +kernel
theorem wm_699 : Cond.code ⟨"ThresholdRow$Gang", "findLoser", "()LThresholdRow$Hand;"⟩ prog_4_method_9_code 3 (some (.object "ThresholdRow$Hand")) ∈ gT := gT_m (List.mem_of_getElem? (i := 699) (by decide +kernel)) (by decide +kernel)
theorem wm_696 : Cond.methodLink "ThresholdRow$Gang" 46 ⟨"ThresholdRow$Gang", "findLoser", "()LThresholdRow$Hand;"⟩ ∈ gT := gT_m (List.mem_of_getElem? (i := 696) (by decide +kernel)) (by decide +kernel)
theorem d_Gang_beatRound_5 : decode b_Gang_beatRound 5 = .ok (.invokevirtual 46, 3) := by decide +kernel
theorem wm_698 : Cond.instanceMethod ⟨"ThresholdRow$Gang", "findLoser", "()LThresholdRow$Hand;"⟩ ∈ gT := gT_m (List.mem_of_getElem? (i := 698) (by decide +kernel)) (by decide +kernel)
theorem wm_15 : Cond.selects "ThresholdRow$Gang" ⟨"ThresholdRow$Gang", "findLoser", "()LThresholdRow$Hand;"⟩ ⟨"ThresholdRow$Gang", "findLoser", "()LThresholdRow$Hand;"⟩ ∈ gT := gT_m (List.mem_of_getElem? (i := 15) (by decide +kernel)) (by decide +kernel)
theorem d_Gang_beatRound_8 : decode b_Gang_beatRound 8 = .ok (.astore_n 1, 1) := by decide +kernel
theorem d_Gang_beatRound_9 : decode b_Gang_beatRound 9 = .ok (.aload_n 1, 1) := by decide +kernel
theorem d_Gang_beatRound_10 : decode b_Gang_beatRound 10 = .ok (.ifnull 16, 3) := by decide +kernel
theorem d_Gang_beatRound_26 : decode b_Gang_beatRound 26 = .ok (.iconst 0, 1) := by decide +kernel
theorem d_Gang_beatRound_27 : decode b_Gang_beatRound 27 = .ok (.istore_n 2, 1) := by decide +kernel
theorem d_Gang_beatRound_28 : decode b_Gang_beatRound 28 = .ok (.aload_n 0, 1) := by decide +kernel
theorem wm_710 : Cond.code ⟨"ThresholdRow$Gang", "tireAll", "()V"⟩ prog_4_method_11_code 2 none ∈ gT := gT_m (List.mem_of_getElem? (i := 710) (by decide +kernel)) (by decide +kernel)
theorem wm_707 : Cond.methodLink "ThresholdRow$Gang" 53 ⟨"ThresholdRow$Gang", "tireAll", "()V"⟩ ∈ gT := gT_m (List.mem_of_getElem? (i := 707) (by decide +kernel)) (by decide +kernel)
theorem d_Gang_beatRound_29 : decode b_Gang_beatRound 29 = .ok (.invokevirtual 53, 3) := by decide +kernel
theorem wm_709 : Cond.instanceMethod ⟨"ThresholdRow$Gang", "tireAll", "()V"⟩ ∈ gT := gT_m (List.mem_of_getElem? (i := 709) (by decide +kernel)) (by decide +kernel)
theorem wm_16 : Cond.selects "ThresholdRow$Gang" ⟨"ThresholdRow$Gang", "tireAll", "()V"⟩ ⟨"ThresholdRow$Gang", "tireAll", "()V"⟩ ∈ gT := gT_m (List.mem_of_getElem? (i := 16) (by decide +kernel)) (by decide +kernel)
theorem d_Gang_beatRound_32 : decode b_Gang_beatRound 32 = .ok (.aload_n 1, 1) := by decide +kernel
theorem d_Gang_beatRound_33 : decode b_Gang_beatRound 33 = .ok (.ifnonnull 5, 3) := by decide +kernel
theorem d_Gang_beatRound_36 : decode b_Gang_beatRound 36 = .ok (.iconst 1, 1) := by decide +kernel
theorem d_Gang_beatRound_37 : decode b_Gang_beatRound 37 = .ok (.ireturn, 1) := by decide +kernel
theorem d_Gang_beatRound_13 : decode b_Gang_beatRound 13 = .ok (.aload_n 1, 1) := by decide +kernel
theorem wm_466 : Cond.fieldLink "ThresholdRow$Gang" 50 "ThresholdRow$Hand" "fatigue" "I" ∈ gT := gT_m (List.mem_of_getElem? (i := 466) (by decide +kernel)) (by decide +kernel)
theorem d_Gang_beatRound_14 : decode b_Gang_beatRound 14 = .ok (.getfield 50, 3) := by decide +kernel
theorem d_Gang_beatRound_17 : decode b_Gang_beatRound 17 = .ok (.bipush 50, 2) := by decide +kernel
theorem d_Gang_beatRound_19 : decode b_Gang_beatRound 19 = .ok (.if_icmp .lt 7, 3) := by decide +kernel
theorem d_Gang_beatRound_38 : decode b_Gang_beatRound 38 = .ok (.aload_n 1, 1) := by decide +kernel
theorem d_Gang_beatRound_39 : decode b_Gang_beatRound 39 = .ok (.dup, 1) := by decide +kernel
theorem wm_472 : Cond.fieldLink "ThresholdRow$Gang" 56 "ThresholdRow$Hand" "lost" "I" ∈ gT := gT_m (List.mem_of_getElem? (i := 472) (by decide +kernel)) (by decide +kernel)
theorem d_Gang_beatRound_40 : decode b_Gang_beatRound 40 = .ok (.getfield 56, 3) := by decide +kernel
theorem d_Gang_beatRound_43 : decode b_Gang_beatRound 43 = .ok (.iconst 1, 1) := by decide +kernel
theorem d_Gang_beatRound_44 : decode b_Gang_beatRound 44 = .ok (.iadd, 1) := by decide +kernel
theorem d_Gang_beatRound_45 : decode b_Gang_beatRound 45 = .ok (.putfield 56, 3) := by decide +kernel
theorem d_Gang_beatRound_48 : decode b_Gang_beatRound 48 = .ok (.aload_n 0, 1) := by decide +kernel
theorem wm_719 : Cond.code ⟨"ThresholdRow$Gang", "forgetErrors", "()V"⟩ prog_4_method_12_code 2 none ∈ gT := gT_m (List.mem_of_getElem? (i := 719) (by decide +kernel)) (by decide +kernel)
theorem wm_716 : Cond.methodLink "ThresholdRow$Gang" 59 ⟨"ThresholdRow$Gang", "forgetErrors", "()V"⟩ ∈ gT := gT_m (List.mem_of_getElem? (i := 716) (by decide +kernel)) (by decide +kernel)
theorem d_Gang_beatRound_49 : decode b_Gang_beatRound 49 = .ok (.invokevirtual 59, 3) := by decide +kernel
theorem wm_718 : Cond.instanceMethod ⟨"ThresholdRow$Gang", "forgetErrors", "()V"⟩ ∈ gT := gT_m (List.mem_of_getElem? (i := 718) (by decide +kernel)) (by decide +kernel)
theorem wm_17 : Cond.selects "ThresholdRow$Gang" ⟨"ThresholdRow$Gang", "forgetErrors", "()V"⟩ ⟨"ThresholdRow$Gang", "forgetErrors", "()V"⟩ ∈ gT := gT_m (List.mem_of_getElem? (i := 17) (by decide +kernel)) (by decide +kernel)
theorem d_Gang_beatRound_52 : decode b_Gang_beatRound 52 = .ok (.iload_n 2, 1) := by decide +kernel
theorem d_Gang_beatRound_53 : decode b_Gang_beatRound 53 = .ok (.ifCond .eq 14, 3) := by decide +kernel
theorem d_Gang_beatRound_67 : decode b_Gang_beatRound 67 = .ok (.iconst 0, 1) := by decide +kernel
theorem d_Gang_beatRound_68 : decode b_Gang_beatRound 68 = .ok (.ireturn, 1) := by decide +kernel
theorem d_Gang_beatRound_22 : decode b_Gang_beatRound 22 = .ok (.iconst 1, 1) := by decide +kernel
theorem d_Gang_beatRound_23 : decode b_Gang_beatRound 23 = .ok (.goto 4, 3) := by decide +kernel
theorem d_Gang_beatRound_56 : decode b_Gang_beatRound 56 = .ok (.aload_n 1, 1) := by decide +kernel
theorem d_Gang_beatRound_57 : decode b_Gang_beatRound 57 = .ok (.bipush 7, 2) := by decide +kernel
theorem d_Gang_beatRound_59 : decode b_Gang_beatRound 59 = .ok (.putfield 62, 3) := by decide +kernel
theorem d_Gang_beatRound_62 : decode b_Gang_beatRound 62 = .ok (.aload_n 0, 1) := by decide +kernel
theorem d_Gang_beatRound_63 : decode b_Gang_beatRound 63 = .ok (.aload_n 1, 1) := by decide +kernel
theorem wm_595 : Cond.code ⟨"ThresholdRow$Gang", "letGo", "(LThresholdRow$Hand;)V"⟩ prog_4_method_5_code 3 none ∈ gT := gT_m (List.mem_of_getElem? (i := 595) (by decide +kernel)) (by decide +kernel)
theorem wm_720 : Cond.methodLink "ThresholdRow$Gang" 65 ⟨"ThresholdRow$Gang", "letGo", "(LThresholdRow$Hand;)V"⟩ ∈ gT := gT_m (List.mem_of_getElem? (i := 720) (by decide +kernel)) (by decide +kernel)
theorem d_Gang_beatRound_64 : decode b_Gang_beatRound 64 = .ok (.invokevirtual 65, 3) := by decide +kernel
theorem wm_593 : Cond.instanceMethod ⟨"ThresholdRow$Gang", "letGo", "(LThresholdRow$Hand;)V"⟩ ∈ gT := gT_m (List.mem_of_getElem? (i := 593) (by decide +kernel)) (by decide +kernel)
theorem wm_594 : Cond.selects "ThresholdRow$Gang" ⟨"ThresholdRow$Gang", "letGo", "(LThresholdRow$Hand;)V"⟩ ⟨"ThresholdRow$Gang", "letGo", "(LThresholdRow$Hand;)V"⟩ ∈ gT := gT_m (List.mem_of_getElem? (i := 594) (by decide +kernel)) (by decide +kernel)
def p_worse (v : Nat → gH) (a b : Nat) : Nat := if p_abs (v a).2.2.2.2.2 ≤ p_abs (v b).2.2.2.2.2 then b else a
theorem p_worse_g {v : Nat → gH} {g : Nat → Nat} {a b : Nat} : (if p_abs (v a).2.2.2.2.2 ≤ p_abs (v b).2.2.2.2.2 then g b else g a) = g (p_worse v a b) := by unfold p_worse; split <;> rfl
/-- who loses the beat, of n + 1, looked for from place i on, d places before the last -/
def p_los (n : Nat) (v : Nat → gH) : Nat → Nat → Option Nat
  | 0, _ => if 4 ≤ p_tick (n + 1) v 0 + 60 - p_tick (n + 1) v n then none else some (p_worse v n 0)
  | d + 1, i => if 4 ≤ p_tick (n + 1) v (i + 1) - p_tick (n + 1) v i then p_los n v d (i + 1) else some (p_worse v i (i + 1))
theorem p_worse_le {v : Nat → gH} {a b n : Nat} (ha : a ≤ n) (hb : b ≤ n) : p_worse v a b ≤ n := by unfold p_worse; split <;> assumption
theorem p_los_le {n : Nat} {v : Nat → gH} {j : Nat} : ∀ (d i : Nat), i + d = n → p_los n v d i = some j → j ≤ n := by
  intro d
  induction d with
  | zero =>
    intro i hi h
    unfold p_los at h
    split at h
    · cases h
    · cases h; exact p_worse_le (Nat.le_refl n) (Nat.zero_le n)
  | succ d ih =>
    intro i hi h
    unfold p_los at h
    split at h
    · exact ih (i + 1) (by omega) h
    · cases h; exact p_worse_le (by omega) (by omega)
set_option maxHeartbeats 4000000 in
set_option maxRecDepth 100000 in
theorem c_Gang_findLoser (l : Launch) (E : Nat) (D : va_G) (cI cO cZ : ClassId) (z0 : Nat) (M : gM) {gg gl gt n : Nat} {g : Nat → Nat} {v : Nat → gH} (hg : gw_Gg z0 cO M gg gl gt (n + 1) g v) : Met l y_Gang_findLoser (Cond.code y_Gang_findLoser b_Gang_findLoser 3 (some (.object "ThresholdRow$Hand")) :: gT) ({ frames := 4, cells := 0, slots := 0, locals := 86 }) (gw_Pc E D cI cO cZ z0 M [.ref gg]) (gw_Qq E D (fun r M' => r = (p_los n v n 0).map g ∧ M' = M)) 0 0 (gw_A E) := by
  refine gw_ofW (cc := b_Gang_findLoser) (maxL := 3) (ret := (some (.object "ThresholdRow$Hand"))) (by decide) rfl (Nat.le_of_ble_eq_true rfl) ?_
  intro p e s m args below meth c hx hb hr hml hts hown hlk hnm hF hG ls hl
  have hT : ∀ w ∈ gT, w.before args s = true := fun w h => hts w (List.mem_cons_of_mem _ h)
  have hK := hF.1
  have hl : lv_has ls 3 [(0, .ref gg)] := hl
  obtain ⟨hgg, hL, hh, hd⟩ := id hg
  obtain ⟨k, hgl, h10, -⟩ := id hL
  refine lv_aload_n hx hb d_Gang_findLoser_0 rfl (lv_at hl 0 rfl) ?_
  refine gw_get hx hb hT i_Gang hown hK hG hgg rfl 0 (by decide) (hT _ wm_91) (fun _ h => h) rfl d_Gang_findLoser_1 ?_
  refine gw_calli (gw_runV (As := []) (rest := []) ⟨hx, hb, hml, hown, hts⟩ (c_L_size l E D cI cO cZ z0 M hL) (gw_cwV 0 hts (gT_gi wm_286) rfl rfl rfl (hT _ wm_26) (hT _ wm_411) (hT _ wm_284) (hT _ wm_285) (by decide +kernel) ⟨Nat.le_of_ble_eq_true rfl, Nat.le_of_ble_eq_true rfl⟩) hF hG rfl hgl rfl hl.1 rfl (Nat.le_of_ble_eq_true rfl) d_Gang_findLoser_4 ⟨Nat.le_of_ble_eq_true rfl, Nat.le_of_ble_eq_true rfl⟩) hG (fun r M1 H locs hp hG => ?_)
  rw [hp.1]
  replace hG := gw_nm hp.2.symm hG
  refine lv_istore_n (lv' := [(1, .int (nI (n + 1))), (0, .ref gg)]) hx hb d_Gang_findLoser_7 rfl hl (by decide) rfl (fun ls hl => ?_)
  refine lv_iconst (v := 0) hx hb d_Gang_findLoser_8 (by decide) ?_
  refine lv_istore_n (lv' := [(2, .int 0), (1, .int (nI (n + 1))), (0, .ref gg)]) hx hb d_Gang_findLoser_9 rfl hl (by decide) rfl (fun ls hl => ?_)
  have loop : ∀ (d i : Nat), i + d = n → ∀ (X : gM) (H : Heap) (locs : List Loc) (ls : Array Slot), (p_los n v n 0 = p_los n v d i ∧ X = M) → gw_H E D X s H locs → lv_has ls 3 [(1, .int (nI (n + 1))), (2, .int (nI i)), (0, .ref gg)] → W p l e ({ frames := 4, cells := 0, slots := 0, locals := 86 } : Room) s m args below meth c H locs 0 0 (MQ below (gw_Qq E D (fun r M' => r = (p_los n v n 0).map g ∧ M' = M)) args s 0 0 (gw_A E)) (F0 m 10 ls []) := by
    intro d
    induction d with
    | zero =>
      intro i hi X H locs ls hI hG hl
      obtain ⟨hI, hX⟩ := hI
      replace hG := gw_nm hX.symm hG
      refine lv_iload_n hx hb d_Gang_findLoser_10 rfl (lv_at hl 1 rfl) ?_
      refine lv_iconst (v := 1) hx hb d_Gang_findLoser_11 (by decide) ?_
      refine lv_iadd hx hb d_Gang_findLoser_12 ?_
      rw [show nI i + 1 = (nI (i + 1)) from (nI_succ i).symm]
      refine lv_iload_n hx hb d_Gang_findLoser_13 rfl (lv_at hl 0 rfl) ?_
      refine lv_icmp_ge (tgt := 68) hx hb d_Gang_findLoser_14 (by decide) (fun c_14 => ?_) (fun z_ => absurd (nI_le (by omega) (by omega)) z_)
      refine lv_iload_n hx hb d_Gang_findLoser_68 rfl (lv_at hl 0 rfl) ?_
      refine lv_if_le (tgt := 120) hx hb d_Gang_findLoser_69 (by decide) (fun z_ => absurd z_ (nI_nle (by omega) (by omega))) (fun c_69 => ?_)
      refine lv_aload_n hx hb d_Gang_findLoser_72 rfl (lv_at hl 2 rfl) ?_
      refine lv_iconst (v := 0) hx hb d_Gang_findLoser_73 (by decide) ?_
      refine gw_calli (gw_runV (As := [.int 0]) (rest := []) ⟨hx, hb, hml, hown, hts⟩ (c_Gang_tickAt l E D cI cO cZ z0 M hg (i := 0) (by omega)) (gw_cwV 1 hts (gT_gi wm_650) rfl rfl rfl (hT _ wm_27) (hT _ wm_700) (hT _ wm_648) (hT _ wm_649) (by decide +kernel) ⟨Nat.le_of_ble_eq_true rfl, Nat.le_of_ble_eq_true rfl⟩) hF hG rfl hgg rfl hl.1 rfl (Nat.le_of_ble_eq_true rfl) d_Gang_findLoser_74 ⟨Nat.le_of_ble_eq_true rfl, Nat.le_of_ble_eq_true rfl⟩) hG (fun r M2 H locs hp hG => ?_)
      rw [hp.1]
      replace hG := gw_nm hp.2.symm hG
      refine lv_bipush (v := 60) hx hb d_Gang_findLoser_77 (by decide) ?_
      refine lv_iadd hx hb d_Gang_findLoser_79 ?_
      refine lv_aload_n hx hb d_Gang_findLoser_80 rfl (lv_at hl 2 rfl) ?_
      refine lv_iload_n hx hb d_Gang_findLoser_81 rfl (lv_at hl 0 rfl) ?_
      refine lv_iconst (v := 1) hx hb d_Gang_findLoser_82 (by decide) ?_
      refine lv_isub hx hb d_Gang_findLoser_83 ?_
      rw [show nI (n + 1) - 1 = (nI n) from nI_pred n]
      refine gw_calli (gw_runV (As := [.int (nI n)]) (rest := [.int ((p_tick (n + 1) v 0) + 60)]) ⟨hx, hb, hml, hown, hts⟩ (c_Gang_tickAt l E D cI cO cZ z0 M hg (i := n) (by omega)) (gw_cwV 1 hts (gT_gi wm_650) rfl rfl rfl (hT _ wm_27) (hT _ wm_700) (hT _ wm_648) (hT _ wm_649) (by decide +kernel) ⟨Nat.le_of_ble_eq_true rfl, Nat.le_of_ble_eq_true rfl⟩) hF hG rfl hgg rfl hl.1 rfl (Nat.le_of_ble_eq_true rfl) d_Gang_findLoser_84 ⟨Nat.le_of_ble_eq_true rfl, Nat.le_of_ble_eq_true rfl⟩) hG (fun r M3 H locs hp hG => ?_)
      rw [hp.1]
      replace hG := gw_nm hp.2.symm hG
      refine lv_isub hx hb d_Gang_findLoser_87 ?_
      refine lv_iconst (v := 4) hx hb d_Gang_findLoser_88 (by decide) ?_
      refine lv_icmp_ge (tgt := 120) hx hb d_Gang_findLoser_89 (by decide) (fun c_89 => ?_) (fun c_89 => ?_)
      · skip
        refine lv_null hx hb d_Gang_findLoser_120 ?_
        exact gw_aretN hx hb hr (Or.inl ⟨_, rfl⟩) hlk hG (⟨by rw [hI]; unfold p_los; rw [if_pos c_89]; rfl, rfl⟩) (Nat.le_of_ble_eq_true rfl) (Nat.le_of_ble_eq_true rfl) d_Gang_findLoser_121
      · skip
        refine lv_aload_n hx hb d_Gang_findLoser_92 rfl (lv_at hl 2 rfl) ?_
        refine gw_get hx hb hT i_Gang hown hK hG hgg rfl 0 (by decide) (hT _ wm_91) (fun _ h => h) rfl d_Gang_findLoser_93 ?_
        refine lv_iload_n hx hb d_Gang_findLoser_96 rfl (lv_at hl 0 rfl) ?_
        refine lv_iconst (v := 1) hx hb d_Gang_findLoser_97 (by decide) ?_
        refine lv_isub hx hb d_Gang_findLoser_98 ?_
        rw [show nI (n + 1) - 1 = (nI n) from nI_pred n]
        refine gw_callq (gw_runV (As := [.int (nI n)]) (rest := []) ⟨hx, hb, hml, hown, hts⟩ (c_L_get l E D cI cO cZ z0 M hL (p := n) (by omega)) (gw_cwV 1 hts (gT_gi wm_362) rfl rfl rfl (hT _ wm_26) (hT _ wm_412) (hT _ wm_360) (hT _ wm_361) (by decide +kernel) ⟨Nat.le_of_ble_eq_true rfl, Nat.le_of_ble_eq_true rfl⟩) hF hG rfl hgl rfl hl.1 rfl (Nat.le_of_ble_eq_true rfl) d_Gang_findLoser_99 ⟨Nat.le_of_ble_eq_true rfl, Nat.le_of_ble_eq_true rfl⟩) hG (fun r M4 H locs hp hG => ?_)
        rw [hp.1]
        replace hG := gw_nm hp.2.symm hG
        have ha_ := hh n (by omega)
        refine gw_cast (ci := 6) (r := (R_Hand, F_Hand, 10)) hx hb hown (hT _ wm_413) hF hG rfl ha_ d_Gang_findLoser_102 ?_
        refine lv_aload_n hx hb d_Gang_findLoser_105 rfl (lv_at hl 2 rfl) ?_
        refine gw_get hx hb hT i_Gang hown hK hG hgg rfl 0 (by decide) (hT _ wm_91) (fun _ h => h) rfl d_Gang_findLoser_106 ?_
        refine lv_iconst (v := 0) hx hb d_Gang_findLoser_109 (by decide) ?_
        refine gw_callq (gw_runV (As := [.int 0]) (rest := [.ref (g n)]) ⟨hx, hb, hml, hown, hts⟩ (c_L_get l E D cI cO cZ z0 M hL (p := 0) (by omega)) (gw_cwV 1 hts (gT_gi wm_362) rfl rfl rfl (hT _ wm_26) (hT _ wm_412) (hT _ wm_360) (hT _ wm_361) (by decide +kernel) ⟨Nat.le_of_ble_eq_true rfl, Nat.le_of_ble_eq_true rfl⟩) hF hG rfl hgl rfl hl.1 rfl (Nat.le_of_ble_eq_true rfl) d_Gang_findLoser_110 ⟨Nat.le_of_ble_eq_true rfl, Nat.le_of_ble_eq_true rfl⟩) hG (fun r M5 H locs hp hG => ?_)
        rw [hp.1]
        replace hG := gw_nm hp.2.symm hG
        have hb_ := hh 0 (by omega)
        refine gw_cast (ci := 6) (r := (R_Hand, F_Hand, 10)) hx hb hown (hT _ wm_413) hF hG rfl hb_ d_Gang_findLoser_113 ?_
        refine gw_callq (gw_runS (As := [.ref (g n), .ref (g 0)]) (rest := []) ⟨hx, hb, hml, hown, hts⟩ (c_Gang_worseOf l E D cI cO cZ z0 M ha_ hb_) (gw_cwS 2 hts (gT_gi wm_703) rfl rfl rfl (hT _ wm_27) (hT _ wm_701) (hT _ wm_702) (by decide +kernel) ⟨Nat.le_of_ble_eq_true rfl, Nat.le_of_ble_eq_true rfl⟩) hF hG rfl hl.1 rfl (Nat.le_of_ble_eq_true rfl) d_Gang_findLoser_116 ⟨Nat.le_of_ble_eq_true rfl, Nat.le_of_ble_eq_true rfl⟩) hG (fun r M6 H locs hp hG => ?_)
        rw [hp.1, p_worse_g]
        replace hG := gw_nm hp.2.symm hG
        exact gw_aret hx hb hr (Or.inl ⟨_, rfl⟩) hlk hG (⟨by rw [hI]; unfold p_los; rw [if_neg c_89]; rfl, rfl⟩) (Nat.le_of_ble_eq_true rfl) (Nat.le_of_ble_eq_true rfl) d_Gang_findLoser_119
    | succ d ih =>
      intro i hi X H locs ls hI hG hl
      obtain ⟨hI, hX⟩ := hI
      replace hG := gw_nm hX.symm hG
      refine lv_iload_n hx hb d_Gang_findLoser_10 rfl (lv_at hl 1 rfl) ?_
      refine lv_iconst (v := 1) hx hb d_Gang_findLoser_11 (by decide) ?_
      refine lv_iadd hx hb d_Gang_findLoser_12 ?_
      rw [show nI i + 1 = (nI (i + 1)) from (nI_succ i).symm]
      refine lv_iload_n hx hb d_Gang_findLoser_13 rfl (lv_at hl 0 rfl) ?_
      refine lv_icmp_ge (tgt := 68) hx hb d_Gang_findLoser_14 (by decide) (fun z_ => absurd z_ (nI_ge (by omega) (by omega))) (fun c_14 => ?_)
      refine lv_aload_n hx hb d_Gang_findLoser_17 rfl (lv_at hl 2 rfl) ?_
      refine lv_iload_n hx hb d_Gang_findLoser_18 rfl (lv_at hl 1 rfl) ?_
      refine lv_iconst (v := 1) hx hb d_Gang_findLoser_19 (by decide) ?_
      refine lv_iadd hx hb d_Gang_findLoser_20 ?_
      rw [show nI i + 1 = (nI (i + 1)) from (nI_succ i).symm]
      refine gw_calli (gw_runV (As := [.int (nI (i + 1))]) (rest := []) ⟨hx, hb, hml, hown, hts⟩ (c_Gang_tickAt l E D cI cO cZ z0 M hg (i := i + 1) (by omega)) (gw_cwV 1 hts (gT_gi wm_650) rfl rfl rfl (hT _ wm_27) (hT _ wm_700) (hT _ wm_648) (hT _ wm_649) (by decide +kernel) ⟨Nat.le_of_ble_eq_true rfl, Nat.le_of_ble_eq_true rfl⟩) hF hG rfl hgg rfl hl.1 rfl (Nat.le_of_ble_eq_true rfl) d_Gang_findLoser_21 ⟨Nat.le_of_ble_eq_true rfl, Nat.le_of_ble_eq_true rfl⟩) hG (fun r M4 H locs hp hG => ?_)
      rw [hp.1]
      replace hG := gw_nm hp.2.symm hG
      refine lv_aload_n hx hb d_Gang_findLoser_24 rfl (lv_at hl 2 rfl) ?_
      refine lv_iload_n hx hb d_Gang_findLoser_25 rfl (lv_at hl 1 rfl) ?_
      refine gw_calli (gw_runV (As := [.int (nI i)]) (rest := [.int (p_tick (n + 1) v (i + 1))]) ⟨hx, hb, hml, hown, hts⟩ (c_Gang_tickAt l E D cI cO cZ z0 M hg (i := i) (by omega)) (gw_cwV 1 hts (gT_gi wm_650) rfl rfl rfl (hT _ wm_27) (hT _ wm_700) (hT _ wm_648) (hT _ wm_649) (by decide +kernel) ⟨Nat.le_of_ble_eq_true rfl, Nat.le_of_ble_eq_true rfl⟩) hF hG rfl hgg rfl hl.1 rfl (Nat.le_of_ble_eq_true rfl) d_Gang_findLoser_26 ⟨Nat.le_of_ble_eq_true rfl, Nat.le_of_ble_eq_true rfl⟩) hG (fun r M5 H locs hp hG => ?_)
      rw [hp.1]
      replace hG := gw_nm hp.2.symm hG
      refine lv_isub hx hb d_Gang_findLoser_29 ?_
      refine lv_iconst (v := 4) hx hb d_Gang_findLoser_30 (by decide) ?_
      refine lv_icmp_ge (tgt := 62) hx hb d_Gang_findLoser_31 (by decide) (fun c_31 => ?_) (fun c_31 => ?_)
      · skip
        refine lv_iinc (v := nI (i + 1)) (lv' := [(2, .int (nI (i + 1))), (1, .int (nI (n + 1))), (0, .ref gg)]) hx hb d_Gang_findLoser_62 hl (k := 1) rfl (nI_succ i).symm (by decide) rfl (fun ls hl => ?_)
        refine lv_goto (tgt := 10) hx hb d_Gang_findLoser_65 (by decide) ?_
        have hI2 : p_los n v n 0 = p_los n v d (i + 1) := hI.trans (if_pos c_31)
        exact ih (i + 1) (by omega) M _ _ _ ⟨hI2, rfl⟩ hG (lv_sub hl [1, 0, 2] rfl)
      · skip
        refine lv_aload_n hx hb d_Gang_findLoser_34 rfl (lv_at hl 2 rfl) ?_
        refine gw_get hx hb hT i_Gang hown hK hG hgg rfl 0 (by decide) (hT _ wm_91) (fun _ h => h) rfl d_Gang_findLoser_35 ?_
        refine lv_iload_n hx hb d_Gang_findLoser_38 rfl (lv_at hl 1 rfl) ?_
        refine gw_callq (gw_runV (As := [.int (nI i)]) (rest := []) ⟨hx, hb, hml, hown, hts⟩ (c_L_get l E D cI cO cZ z0 M hL (p := i) (by omega)) (gw_cwV 1 hts (gT_gi wm_362) rfl rfl rfl (hT _ wm_26) (hT _ wm_412) (hT _ wm_360) (hT _ wm_361) (by decide +kernel) ⟨Nat.le_of_ble_eq_true rfl, Nat.le_of_ble_eq_true rfl⟩) hF hG rfl hgl rfl hl.1 rfl (Nat.le_of_ble_eq_true rfl) d_Gang_findLoser_39 ⟨Nat.le_of_ble_eq_true rfl, Nat.le_of_ble_eq_true rfl⟩) hG (fun r M6 H locs hp hG => ?_)
        rw [hp.1]
        replace hG := gw_nm hp.2.symm hG
        have ha_ := hh i (by omega)
        refine gw_cast (ci := 6) (r := (R_Hand, F_Hand, 10)) hx hb hown (hT _ wm_413) hF hG rfl ha_ d_Gang_findLoser_42 ?_
        refine lv_aload_n hx hb d_Gang_findLoser_45 rfl (lv_at hl 2 rfl) ?_
        refine gw_get hx hb hT i_Gang hown hK hG hgg rfl 0 (by decide) (hT _ wm_91) (fun _ h => h) rfl d_Gang_findLoser_46 ?_
        refine lv_iload_n hx hb d_Gang_findLoser_49 rfl (lv_at hl 1 rfl) ?_
        refine lv_iconst (v := 1) hx hb d_Gang_findLoser_50 (by decide) ?_
        refine lv_iadd hx hb d_Gang_findLoser_51 ?_
        rw [show nI i + 1 = (nI (i + 1)) from (nI_succ i).symm]
        refine gw_callq (gw_runV (As := [.int (nI (i + 1))]) (rest := [.ref (g i)]) ⟨hx, hb, hml, hown, hts⟩ (c_L_get l E D cI cO cZ z0 M hL (p := (i + 1)) (by omega)) (gw_cwV 1 hts (gT_gi wm_362) rfl rfl rfl (hT _ wm_26) (hT _ wm_412) (hT _ wm_360) (hT _ wm_361) (by decide +kernel) ⟨Nat.le_of_ble_eq_true rfl, Nat.le_of_ble_eq_true rfl⟩) hF hG rfl hgl rfl hl.1 rfl (Nat.le_of_ble_eq_true rfl) d_Gang_findLoser_52 ⟨Nat.le_of_ble_eq_true rfl, Nat.le_of_ble_eq_true rfl⟩) hG (fun r M7 H locs hp hG => ?_)
        rw [hp.1]
        replace hG := gw_nm hp.2.symm hG
        have hb_ := hh (i + 1) (by omega)
        refine gw_cast (ci := 6) (r := (R_Hand, F_Hand, 10)) hx hb hown (hT _ wm_413) hF hG rfl hb_ d_Gang_findLoser_55 ?_
        refine gw_callq (gw_runS (As := [.ref (g i), .ref (g (i + 1))]) (rest := []) ⟨hx, hb, hml, hown, hts⟩ (c_Gang_worseOf l E D cI cO cZ z0 M ha_ hb_) (gw_cwS 2 hts (gT_gi wm_703) rfl rfl rfl (hT _ wm_27) (hT _ wm_701) (hT _ wm_702) (by decide +kernel) ⟨Nat.le_of_ble_eq_true rfl, Nat.le_of_ble_eq_true rfl⟩) hF hG rfl hl.1 rfl (Nat.le_of_ble_eq_true rfl) d_Gang_findLoser_58 ⟨Nat.le_of_ble_eq_true rfl, Nat.le_of_ble_eq_true rfl⟩) hG (fun r M8 H locs hp hG => ?_)
        rw [hp.1, p_worse_g]
        replace hG := gw_nm hp.2.symm hG
        have hI2 : p_los n v n 0 = some (p_worse v i (i + 1)) := hI.trans (if_neg c_31)
        exact gw_aret hx hb hr (Or.inl ⟨_, rfl⟩) hlk hG (⟨by rw [hI2]; rfl, rfl⟩) (Nat.le_of_ble_eq_true rfl) (Nat.le_of_ble_eq_true rfl) d_Gang_findLoser_61
  exact loop _ _ (Nat.zero_add n) M _ _ _ ⟨rfl, rfl⟩ hG (lv_sub hl [1, 0, 2] rfl)
/-- the hands behind a round that holds -/
def p_held (n : Nat) (v : Nat → gH) (p : Nat) : gH := p_tire (p_lean (n + 1) v p)
/-- .. and behind one that place j has lost -/
def p_lost (n : Nat) (v : Nat → gH) (j p : Nat) : gH := hEr (if p = j then hLo (p_held n v j) ((p_held n v j).2.2.2.2.1 + 1) else p_held n v p) 0
set_option maxHeartbeats 4000000 in
set_option maxRecDepth 100000 in
theorem c_Gang_beatRound_none (l : Launch) (E : Nat) (D : va_G) (cI cO cZ : ClassId) (z0 : Nat) (M : gM) {gg gl gt n : Nat} {g : Nat → Nat} {v : Nat → gH} (hg : gw_Gg z0 cO M gg gl gt (n + 1) g v) (hlo : p_los n (p_lean (n + 1) v) n 0 = none) : Met l y_Gang_beatRound (Cond.code y_Gang_beatRound b_Gang_beatRound 3 (some .boolean) :: gT) ({ frames := 6, cells := 0, slots := 0, locals := 130 }) (gw_Pc E D cI cO cZ z0 M [.ref gg]) (gw_Qi E D (fun r M' => r = 1 ∧ gw_ch M M' (n + 1) g (p_held n v))) 0 0 (gw_A E) := by
  refine gw_ofW (cc := b_Gang_beatRound) (maxL := 3) (ret := (some .boolean)) (by decide) rfl (Nat.le_of_ble_eq_true rfl) ?_
  intro p e s m args below meth c hx hb hr hml hts hown hlk hnm hF hG ls hl
  have hT : ∀ w ∈ gT, w.before args s = true := fun w h => hts w (List.mem_cons_of_mem _ h)
  have hK := hF.1
  have hl : lv_has ls 3 [(0, .ref gg)] := hl
  obtain ⟨hgg, hL, hh, hd⟩ := id hg
  obtain ⟨k, hgl, h10, -⟩ := id hL
  refine lv_aload_n hx hb d_Gang_beatRound_0 rfl (lv_at hl 0 rfl) ?_
  refine gw_callv (gw_runV (As := []) (rest := []) ⟨hx, hb, hml, hown, hts⟩ (c_Gang_leanOnOneAnother l E D cI cO cZ z0 M hg (by omega)) (gw_cwV 0 hts (gT_gi wm_691) rfl rfl rfl (hT _ wm_27) (hT _ wm_688) (hT _ wm_690) (hT _ wm_14) (by decide +kernel) ⟨Nat.le_of_ble_eq_true rfl, Nat.le_of_ble_eq_true rfl⟩) hF hG rfl hgg rfl hl.1 rfl (Nat.le_of_ble_eq_true rfl) d_Gang_beatRound_1 ⟨Nat.le_of_ble_eq_true rfl, Nat.le_of_ble_eq_true rfl⟩) hG (fun M1 H locs hp1 hG => ?_)
  have hg1 := hg.ch hp1
  obtain ⟨hgg1, hL1, hh1, hd1⟩ := id hg1
  obtain ⟨k1, hgl1, h101, -⟩ := id hL1
  refine lv_aload_n hx hb d_Gang_beatRound_4 rfl (lv_at hl 0 rfl) ?_
  refine gw_callq (gw_runV (As := []) (rest := []) ⟨hx, hb, hml, hown, hts⟩ (c_Gang_findLoser l E D cI cO cZ z0 M1 hg1) (gw_cwV 0 hts (gT_gi wm_699) rfl rfl rfl (hT _ wm_27) (hT _ wm_696) (hT _ wm_698) (hT _ wm_15) (by decide +kernel) ⟨Nat.le_of_ble_eq_true rfl, Nat.le_of_ble_eq_true rfl⟩) hF hG rfl hgg1 rfl hl.1 rfl (Nat.le_of_ble_eq_true rfl) d_Gang_beatRound_5 ⟨Nat.le_of_ble_eq_true rfl, Nat.le_of_ble_eq_true rfl⟩) hG (fun r M2 H locs hp hG => ?_)
  rw [hp.1, hlo]
  replace hG := gw_nm hp.2.symm hG
  refine lv_astore_nN (lv' := [(1, .null), (0, .ref gg)]) hx hb d_Gang_beatRound_8 rfl hl (by decide) rfl (fun ls hl => ?_)
  refine lv_aload_nN hx hb d_Gang_beatRound_9 rfl (lv_at hl 0 rfl) ?_
  refine lv_ifnullN (tgt := 26) hx hb d_Gang_beatRound_10 (by decide) ?_
  refine lv_iconst (v := 0) hx hb d_Gang_beatRound_26 (by decide) ?_
  refine lv_istore_n (lv' := [(2, .int 0), (1, .null), (0, .ref gg)]) hx hb d_Gang_beatRound_27 rfl hl (by decide) rfl (fun ls hl => ?_)
  refine lv_aload_n hx hb d_Gang_beatRound_28 rfl (lv_at hl 2 rfl) ?_
  refine gw_callv (gw_runV (As := []) (rest := []) ⟨hx, hb, hml, hown, hts⟩ (c_Gang_tireAll l E D cI cO cZ z0 M1 hg1) (gw_cwV 0 hts (gT_gi wm_710) rfl rfl rfl (hT _ wm_27) (hT _ wm_707) (hT _ wm_709) (hT _ wm_16) (by decide +kernel) ⟨Nat.le_of_ble_eq_true rfl, Nat.le_of_ble_eq_true rfl⟩) hF hG rfl hgg1 rfl hl.1 rfl (Nat.le_of_ble_eq_true rfl) d_Gang_beatRound_29 ⟨Nat.le_of_ble_eq_true rfl, Nat.le_of_ble_eq_true rfl⟩) hG (fun M3 H locs hp2 hG => ?_)
  have hc2 := hp1.trans hp2
  have hg2 := hg.ch hc2
  obtain ⟨hgg2, hL2, hh2, hd2⟩ := id hg2
  obtain ⟨k2, hgl2, h102, -⟩ := id hL2
  refine lv_aload_nN hx hb d_Gang_beatRound_32 rfl (lv_at hl 1 rfl) ?_
  refine lv_ifnonnullN hx hb d_Gang_beatRound_33 ?_
  refine lv_iconst (v := 1) hx hb d_Gang_beatRound_36 (by decide) ?_
  exact gw_zret (v := 1) hx hb hr hlk hG rfl ⟨rfl, hc2⟩ (Nat.le_of_ble_eq_true rfl) (Nat.le_of_ble_eq_true rfl) d_Gang_beatRound_37
set_option maxHeartbeats 4000000 in
set_option maxRecDepth 100000 in
theorem c_Gang_beatRound_stay (l : Launch) (E : Nat) (D : va_G) (cI cO cZ : ClassId) (z0 : Nat) (M : gM) {gg gl gt n : Nat} {g : Nat → Nat} {v : Nat → gH} (hg : gw_Gg z0 cO M gg gl gt (n + 1) g v) {j : Nat} (hlo : p_los n (p_lean (n + 1) v) n 0 = some j) (hwo : (v j).2.2.1 < 50) : Met l y_Gang_beatRound (Cond.code y_Gang_beatRound b_Gang_beatRound 3 (some .boolean) :: gT) ({ frames := 6, cells := 0, slots := 0, locals := 130 }) (gw_Pc E D cI cO cZ z0 M [.ref gg]) (gw_Qi E D (fun r M' => r = 0 ∧ gw_ch M M' (n + 1) g (p_lost n v j))) 0 0 (gw_A E) := by
  refine gw_ofW (cc := b_Gang_beatRound) (maxL := 3) (ret := (some .boolean)) (by decide) rfl (Nat.le_of_ble_eq_true rfl) ?_
  intro p e s m args below meth c hx hb hr hml hts hown hlk hnm hF hG ls hl
  have hT : ∀ w ∈ gT, w.before args s = true := fun w h => hts w (List.mem_cons_of_mem _ h)
  have hK := hF.1
  have hl : lv_has ls 3 [(0, .ref gg)] := hl
  obtain ⟨hgg, hL, hh, hd⟩ := id hg
  obtain ⟨k, hgl, h10, -⟩ := id hL
  have hj : j < n + 1 := Nat.lt_succ_of_le (p_los_le n 0 (Nat.zero_add n) hlo)
  refine lv_aload_n hx hb d_Gang_beatRound_0 rfl (lv_at hl 0 rfl) ?_
  refine gw_callv (gw_runV (As := []) (rest := []) ⟨hx, hb, hml, hown, hts⟩ (c_Gang_leanOnOneAnother l E D cI cO cZ z0 M hg (by omega)) (gw_cwV 0 hts (gT_gi wm_691) rfl rfl rfl (hT _ wm_27) (hT _ wm_688) (hT _ wm_690) (hT _ wm_14) (by decide +kernel) ⟨Nat.le_of_ble_eq_true rfl, Nat.le_of_ble_eq_true rfl⟩) hF hG rfl hgg rfl hl.1 rfl (Nat.le_of_ble_eq_true rfl) d_Gang_beatRound_1 ⟨Nat.le_of_ble_eq_true rfl, Nat.le_of_ble_eq_true rfl⟩) hG (fun M1 H locs hp1 hG => ?_)
  have hg1 := hg.ch hp1
  obtain ⟨hgg1, hL1, hh1, hd1⟩ := id hg1
  obtain ⟨k1, hgl1, h101, -⟩ := id hL1
  refine lv_aload_n hx hb d_Gang_beatRound_4 rfl (lv_at hl 0 rfl) ?_
  refine gw_callq (gw_runV (As := []) (rest := []) ⟨hx, hb, hml, hown, hts⟩ (c_Gang_findLoser l E D cI cO cZ z0 M1 hg1) (gw_cwV 0 hts (gT_gi wm_699) rfl rfl rfl (hT _ wm_27) (hT _ wm_696) (hT _ wm_698) (hT _ wm_15) (by decide +kernel) ⟨Nat.le_of_ble_eq_true rfl, Nat.le_of_ble_eq_true rfl⟩) hF hG rfl hgg1 rfl hl.1 rfl (Nat.le_of_ble_eq_true rfl) d_Gang_beatRound_5 ⟨Nat.le_of_ble_eq_true rfl, Nat.le_of_ble_eq_true rfl⟩) hG (fun r M2 H locs hp hG => ?_)
  rw [hp.1, hlo]
  replace hG := gw_nm hp.2.symm hG
  refine lv_astore_n (lv' := [(1, .ref (g j)), (0, .ref gg)]) hx hb d_Gang_beatRound_8 rfl hl (by decide) rfl (fun ls hl => ?_)
  refine lv_aload_n hx hb d_Gang_beatRound_9 rfl (lv_at hl 0 rfl) ?_
  refine lv_ifnull hx hb d_Gang_beatRound_10 ?_
  have hj1 := hh1 j hj
  refine lv_aload_n hx hb d_Gang_beatRound_13 rfl (lv_at hl 0 rfl) ?_
  refine gw_get hx hb hT i_Hand hown hK hG hj1 rfl 2 (by decide) (hT _ wm_466) (fun _ h => h) rfl d_Gang_beatRound_14 ?_
  refine lv_bipush (v := 50) hx hb d_Gang_beatRound_17 (by decide) ?_
  refine lv_icmp_lt (tgt := 26) hx hb d_Gang_beatRound_19 (by decide) (fun c_19 => ?_) (fun z_ => absurd (hwo) z_)
  refine lv_iconst (v := 0) hx hb d_Gang_beatRound_26 (by decide) ?_
  refine lv_istore_n (lv' := [(2, .int 0), (1, .ref (g j)), (0, .ref gg)]) hx hb d_Gang_beatRound_27 rfl hl (by decide) rfl (fun ls hl => ?_)
  refine lv_aload_n hx hb d_Gang_beatRound_28 rfl (lv_at hl 2 rfl) ?_
  refine gw_callv (gw_runV (As := []) (rest := []) ⟨hx, hb, hml, hown, hts⟩ (c_Gang_tireAll l E D cI cO cZ z0 M1 hg1) (gw_cwV 0 hts (gT_gi wm_710) rfl rfl rfl (hT _ wm_27) (hT _ wm_707) (hT _ wm_709) (hT _ wm_16) (by decide +kernel) ⟨Nat.le_of_ble_eq_true rfl, Nat.le_of_ble_eq_true rfl⟩) hF hG rfl hgg1 rfl hl.1 rfl (Nat.le_of_ble_eq_true rfl) d_Gang_beatRound_29 ⟨Nat.le_of_ble_eq_true rfl, Nat.le_of_ble_eq_true rfl⟩) hG (fun M3 H locs hp2 hG => ?_)
  have hc2 := hp1.trans hp2
  have hg2 := hg.ch hc2
  obtain ⟨hgg2, hL2, hh2, hd2⟩ := id hg2
  obtain ⟨k2, hgl2, h102, -⟩ := id hL2
  refine lv_aload_n hx hb d_Gang_beatRound_32 rfl (lv_at hl 1 rfl) ?_
  refine lv_ifnonnull (tgt := 38) hx hb d_Gang_beatRound_33 (by decide) ?_
  have hj2 := hh2 j hj
  refine lv_aload_n hx hb d_Gang_beatRound_38 rfl (lv_at hl 1 rfl) ?_
  refine lv_dup hx hb d_Gang_beatRound_39 rfl ?_
  refine gw_get hx hb hT i_Hand hown hK hG hj2 rfl 4 (by decide) (hT _ wm_472) (fun _ h => h) rfl d_Gang_beatRound_40 ?_
  refine lv_iconst (v := 1) hx hb d_Gang_beatRound_43 (by decide) ?_
  refine lv_iadd hx hb d_Gang_beatRound_44 ?_
  refine gw_put (v := .int (((p_held n v j).2.2.2.2.1) + 1)) hx hb hT i_Hand t_Hand t_Hand_ok n_Hand hown hK hG hj2 rfl 4 (by decide) (hT _ wm_472) (fun _ h => h) rfl rfl rfl (Nat.le_of_ble_eq_true rfl) d_Gang_beatRound_45 (fun H locs hG => ?_)
  obtain ⟨M4, e_M4⟩ : ∃ Y_ : gM, Y_ = gw_up M3 (g j) (.inr (6, [.int (p_held n v j).1, .int (p_held n v j).2.1, .int (p_held n v j).2.2.1, .int (p_held n v j).2.2.2.1, .int (((p_held n v j).2.2.2.2.1) + 1), .int (p_held n v j).2.2.2.2.2, .int 32, .int 0, .int 0, .int (-1)])) := ⟨_, rfl⟩
  replace hG := gw_nm e_M4 hG
  have hM4__g_j_ := (congrFun e_M4 ((g j))).trans gw_hit
  have hc3 : gw_ch M M4 (n + 1) g (fun p => if p = j then hLo (p_held n v j) ((p_held n v j).2.2.2.2.1 + 1) else p_held n v p) := by rw [e_M4]; exact gw_ch.one (v := p_held n v) (u := hLo (p_held n v j) ((p_held n v j).2.2.2.2.1 + 1)) hd hj hc2
  have hg3 := hg.ch hc3
  obtain ⟨hgg3, hL3, hh3, hd3⟩ := id hg3
  obtain ⟨k3, hgl3, h103, -⟩ := id hL3
  refine lv_aload_n hx hb d_Gang_beatRound_48 rfl (lv_at hl 2 rfl) ?_
  refine gw_callv (gw_runV (As := []) (rest := []) ⟨hx, hb, hml, hown, hts⟩ (c_Gang_forgetErrors l E D cI cO cZ z0 M4 hg3) (gw_cwV 0 hts (gT_gi wm_719) rfl rfl rfl (hT _ wm_27) (hT _ wm_716) (hT _ wm_718) (hT _ wm_17) (by decide +kernel) ⟨Nat.le_of_ble_eq_true rfl, Nat.le_of_ble_eq_true rfl⟩) hF hG rfl hgg3 rfl hl.1 rfl (Nat.le_of_ble_eq_true rfl) d_Gang_beatRound_49 ⟨Nat.le_of_ble_eq_true rfl, Nat.le_of_ble_eq_true rfl⟩) hG (fun M5 H locs hp4 hG => ?_)
  have hc4 : gw_ch M M5 (n + 1) g (p_lost n v j) := hc3.trans hp4
  have hg4 := hg.ch hc4
  obtain ⟨hgg4, hL4, hh4, hd4⟩ := id hg4
  obtain ⟨k4, hgl4, h104, -⟩ := id hL4
  refine lv_iload_n hx hb d_Gang_beatRound_52 rfl (lv_at hl 0 rfl) ?_
  refine lv_if_eq (tgt := 67) hx hb d_Gang_beatRound_53 (by decide) (fun c_53 => ?_) (fun z_ => absurd (rfl) z_)
  refine lv_iconst (v := 0) hx hb d_Gang_beatRound_67 (by decide) ?_
  exact gw_zret (v := 0) hx hb hr hlk hG rfl ⟨rfl, hc4⟩ (Nat.le_of_ble_eq_true rfl) (Nat.le_of_ble_eq_true rfl) d_Gang_beatRound_68
set_option maxHeartbeats 4000000 in
set_option maxRecDepth 100000 in
theorem c_Gang_beatRound_leave (l : Launch) (E : Nat) (D : va_G) (cI cO cZ : ClassId) (z0 : Nat) (M : gM) {gg gl gt n : Nat} {g : Nat → Nat} {v : Nat → gH} (hg : gw_Gg z0 cO M gg gl gt (n + 1) g v) {j : Nat} (hlo : p_los n (p_lean (n + 1) v) n 0 = some j) (hwo : ¬ (v j).2.2.1 < 50) : Met l y_Gang_beatRound (Cond.code y_Gang_beatRound b_Gang_beatRound 3 (some .boolean) :: gT) ({ frames := 6, cells := 0, slots := 0, locals := 130 }) (gw_Pc E D cI cO cZ z0 M [.ref gg]) (gw_Qi E D (fun r M' => r = 0 ∧ (∀ p, p < n + 1 → M' (g p) = some (gw_hd (if p = j then hHu (p_lost n v j j) 7 else p_lost n v j p))) ∧ gw_L z0 cO M' gl gt n (fun p => if p < j then g p else g (p + 1)) ∧ ∀ b, (∀ p, p < n + 1 → b ≠ g p) → b ≠ gl → b ≠ gt → M' b = M b)) 0 0 (gw_A E) := by
  refine gw_ofW (cc := b_Gang_beatRound) (maxL := 3) (ret := (some .boolean)) (by decide) rfl (Nat.le_of_ble_eq_true rfl) ?_
  intro p e s m args below meth c hx hb hr hml hts hown hlk hnm hF hG ls hl
  have hT : ∀ w ∈ gT, w.before args s = true := fun w h => hts w (List.mem_cons_of_mem _ h)
  have hK := hF.1
  have hl : lv_has ls 3 [(0, .ref gg)] := hl
  obtain ⟨hgg, hL, hh, hd⟩ := id hg
  obtain ⟨k, hgl, h10, -⟩ := id hL
  have hj : j < n + 1 := Nat.lt_succ_of_le (p_los_le n 0 (Nat.zero_add n) hlo)
  refine lv_aload_n hx hb d_Gang_beatRound_0 rfl (lv_at hl 0 rfl) ?_
  refine gw_callv (gw_runV (As := []) (rest := []) ⟨hx, hb, hml, hown, hts⟩ (c_Gang_leanOnOneAnother l E D cI cO cZ z0 M hg (by omega)) (gw_cwV 0 hts (gT_gi wm_691) rfl rfl rfl (hT _ wm_27) (hT _ wm_688) (hT _ wm_690) (hT _ wm_14) (by decide +kernel) ⟨Nat.le_of_ble_eq_true rfl, Nat.le_of_ble_eq_true rfl⟩) hF hG rfl hgg rfl hl.1 rfl (Nat.le_of_ble_eq_true rfl) d_Gang_beatRound_1 ⟨Nat.le_of_ble_eq_true rfl, Nat.le_of_ble_eq_true rfl⟩) hG (fun M1 H locs hp1 hG => ?_)
  have hg1 := hg.ch hp1
  obtain ⟨hgg1, hL1, hh1, hd1⟩ := id hg1
  obtain ⟨k1, hgl1, h101, -⟩ := id hL1
  refine lv_aload_n hx hb d_Gang_beatRound_4 rfl (lv_at hl 0 rfl) ?_
  refine gw_callq (gw_runV (As := []) (rest := []) ⟨hx, hb, hml, hown, hts⟩ (c_Gang_findLoser l E D cI cO cZ z0 M1 hg1) (gw_cwV 0 hts (gT_gi wm_699) rfl rfl rfl (hT _ wm_27) (hT _ wm_696) (hT _ wm_698) (hT _ wm_15) (by decide +kernel) ⟨Nat.le_of_ble_eq_true rfl, Nat.le_of_ble_eq_true rfl⟩) hF hG rfl hgg1 rfl hl.1 rfl (Nat.le_of_ble_eq_true rfl) d_Gang_beatRound_5 ⟨Nat.le_of_ble_eq_true rfl, Nat.le_of_ble_eq_true rfl⟩) hG (fun r M2 H locs hp hG => ?_)
  rw [hp.1, hlo]
  replace hG := gw_nm hp.2.symm hG
  refine lv_astore_n (lv' := [(1, .ref (g j)), (0, .ref gg)]) hx hb d_Gang_beatRound_8 rfl hl (by decide) rfl (fun ls hl => ?_)
  refine lv_aload_n hx hb d_Gang_beatRound_9 rfl (lv_at hl 0 rfl) ?_
  refine lv_ifnull hx hb d_Gang_beatRound_10 ?_
  have hj1 := hh1 j hj
  refine lv_aload_n hx hb d_Gang_beatRound_13 rfl (lv_at hl 0 rfl) ?_
  refine gw_get hx hb hT i_Hand hown hK hG hj1 rfl 2 (by decide) (hT _ wm_466) (fun _ h => h) rfl d_Gang_beatRound_14 ?_
  refine lv_bipush (v := 50) hx hb d_Gang_beatRound_17 (by decide) ?_
  refine lv_icmp_lt (tgt := 26) hx hb d_Gang_beatRound_19 (by decide) (fun z_ => absurd z_ (hwo)) (fun c_19 => ?_)
  refine lv_iconst (v := 1) hx hb d_Gang_beatRound_22 (by decide) ?_
  refine lv_goto (tgt := 27) hx hb d_Gang_beatRound_23 (by decide) ?_
  refine lv_istore_n (lv' := [(2, .int 1), (1, .ref (g j)), (0, .ref gg)]) hx hb d_Gang_beatRound_27 rfl hl (by decide) rfl (fun ls hl => ?_)
  refine lv_aload_n hx hb d_Gang_beatRound_28 rfl (lv_at hl 2 rfl) ?_
  refine gw_callv (gw_runV (As := []) (rest := []) ⟨hx, hb, hml, hown, hts⟩ (c_Gang_tireAll l E D cI cO cZ z0 M1 hg1) (gw_cwV 0 hts (gT_gi wm_710) rfl rfl rfl (hT _ wm_27) (hT _ wm_707) (hT _ wm_709) (hT _ wm_16) (by decide +kernel) ⟨Nat.le_of_ble_eq_true rfl, Nat.le_of_ble_eq_true rfl⟩) hF hG rfl hgg1 rfl hl.1 rfl (Nat.le_of_ble_eq_true rfl) d_Gang_beatRound_29 ⟨Nat.le_of_ble_eq_true rfl, Nat.le_of_ble_eq_true rfl⟩) hG (fun M3 H locs hp2 hG => ?_)
  have hc2 := hp1.trans hp2
  have hg2 := hg.ch hc2
  obtain ⟨hgg2, hL2, hh2, hd2⟩ := id hg2
  obtain ⟨k2, hgl2, h102, -⟩ := id hL2
  refine lv_aload_n hx hb d_Gang_beatRound_32 rfl (lv_at hl 1 rfl) ?_
  refine lv_ifnonnull (tgt := 38) hx hb d_Gang_beatRound_33 (by decide) ?_
  have hj2 := hh2 j hj
  refine lv_aload_n hx hb d_Gang_beatRound_38 rfl (lv_at hl 1 rfl) ?_
  refine lv_dup hx hb d_Gang_beatRound_39 rfl ?_
  refine gw_get hx hb hT i_Hand hown hK hG hj2 rfl 4 (by decide) (hT _ wm_472) (fun _ h => h) rfl d_Gang_beatRound_40 ?_
  refine lv_iconst (v := 1) hx hb d_Gang_beatRound_43 (by decide) ?_
  refine lv_iadd hx hb d_Gang_beatRound_44 ?_
  refine gw_put (v := .int (((p_held n v j).2.2.2.2.1) + 1)) hx hb hT i_Hand t_Hand t_Hand_ok n_Hand hown hK hG hj2 rfl 4 (by decide) (hT _ wm_472) (fun _ h => h) rfl rfl rfl (Nat.le_of_ble_eq_true rfl) d_Gang_beatRound_45 (fun H locs hG => ?_)
  obtain ⟨M4, e_M4⟩ : ∃ Y_ : gM, Y_ = gw_up M3 (g j) (.inr (6, [.int (p_held n v j).1, .int (p_held n v j).2.1, .int (p_held n v j).2.2.1, .int (p_held n v j).2.2.2.1, .int (((p_held n v j).2.2.2.2.1) + 1), .int (p_held n v j).2.2.2.2.2, .int 32, .int 0, .int 0, .int (-1)])) := ⟨_, rfl⟩
  replace hG := gw_nm e_M4 hG
  have hM4__g_j_ := (congrFun e_M4 ((g j))).trans gw_hit
  have hc3 : gw_ch M M4 (n + 1) g (fun p => if p = j then hLo (p_held n v j) ((p_held n v j).2.2.2.2.1 + 1) else p_held n v p) := by rw [e_M4]; exact gw_ch.one (v := p_held n v) (u := hLo (p_held n v j) ((p_held n v j).2.2.2.2.1 + 1)) hd hj hc2
  have hg3 := hg.ch hc3
  obtain ⟨hgg3, hL3, hh3, hd3⟩ := id hg3
  obtain ⟨k3, hgl3, h103, -⟩ := id hL3
  refine lv_aload_n hx hb d_Gang_beatRound_48 rfl (lv_at hl 2 rfl) ?_
  refine gw_callv (gw_runV (As := []) (rest := []) ⟨hx, hb, hml, hown, hts⟩ (c_Gang_forgetErrors l E D cI cO cZ z0 M4 hg3) (gw_cwV 0 hts (gT_gi wm_719) rfl rfl rfl (hT _ wm_27) (hT _ wm_716) (hT _ wm_718) (hT _ wm_17) (by decide +kernel) ⟨Nat.le_of_ble_eq_true rfl, Nat.le_of_ble_eq_true rfl⟩) hF hG rfl hgg3 rfl hl.1 rfl (Nat.le_of_ble_eq_true rfl) d_Gang_beatRound_49 ⟨Nat.le_of_ble_eq_true rfl, Nat.le_of_ble_eq_true rfl⟩) hG (fun M5 H locs hp4 hG => ?_)
  have hc4 : gw_ch M M5 (n + 1) g (p_lost n v j) := hc3.trans hp4
  have hg4 := hg.ch hc4
  obtain ⟨hgg4, hL4, hh4, hd4⟩ := id hg4
  obtain ⟨k4, hgl4, h104, -⟩ := id hL4
  refine lv_iload_n hx hb d_Gang_beatRound_52 rfl (lv_at hl 0 rfl) ?_
  refine lv_if_eq (tgt := 67) hx hb d_Gang_beatRound_53 (by decide) (fun z_ => absurd z_ (by decide)) (fun c_53 => ?_)
  have hj4 := hh4 j hj
  refine lv_aload_n hx hb d_Gang_beatRound_56 rfl (lv_at hl 1 rfl) ?_
  refine lv_bipush (v := 7) hx hb d_Gang_beatRound_57 (by decide) ?_
  refine gw_put (v := .int 7) hx hb hT i_Hand t_Hand t_Hand_ok n_Hand hown hK hG hj4 rfl 3 (by decide) (hT _ wm_470) (fun _ h => h) rfl rfl rfl (Nat.le_of_ble_eq_true rfl) d_Gang_beatRound_59 (fun H locs hG => ?_)
  obtain ⟨M6, e_M6⟩ : ∃ Y_ : gM, Y_ = gw_up M5 (g j) (.inr (6, [.int (p_lost n v j j).1, .int (p_lost n v j j).2.1, .int (p_lost n v j j).2.2.1, .int 7, .int (p_lost n v j j).2.2.2.2.1, .int (p_lost n v j j).2.2.2.2.2, .int 32, .int 0, .int 0, .int (-1)])) := ⟨_, rfl⟩
  replace hG := gw_nm e_M6 hG
  have hM6__g_j_ := (congrFun e_M6 ((g j))).trans gw_hit
  have hc5 : gw_ch M M6 (n + 1) g (fun p => if p = j then hHu (p_lost n v j j) 7 else p_lost n v j p) := by rw [e_M6]; exact gw_ch.one (v := p_lost n v j) (u := hHu (p_lost n v j j) 7) hd hj hc4
  have hg5 := hg.ch hc5
  obtain ⟨hgg5, hL5, hh5, hd5⟩ := id hg5
  obtain ⟨k5, hgl5, h105, -⟩ := id hL5
  refine lv_aload_n hx hb d_Gang_beatRound_62 rfl (lv_at hl 2 rfl) ?_
  refine lv_aload_n hx hb d_Gang_beatRound_63 rfl (lv_at hl 1 rfl) ?_
  refine gw_callv (gw_runV (As := [.ref (g j)]) (rest := []) ⟨hx, hb, hml, hown, hts⟩ (c_Gang_letGo l E D cI cO cZ z0 M6 hg5 (h := g j) (j := j) (by omega) rfl) (gw_cwV 1 hts (gT_gi wm_595) rfl rfl rfl (hT _ wm_27) (hT _ wm_720) (hT _ wm_593) (hT _ wm_594) (by decide +kernel) ⟨Nat.le_of_ble_eq_true rfl, Nat.le_of_ble_eq_true rfl⟩) hF hG rfl hgg5 rfl hl.1 rfl (Nat.le_of_ble_eq_true rfl) d_Gang_beatRound_64 ⟨Nat.le_of_ble_eq_true rfl, Nat.le_of_ble_eq_true rfl⟩) hG (fun M7 H locs hp6 hG => ?_)
  refine lv_iconst (v := 0) hx hb d_Gang_beatRound_67 (by decide) ?_
  obtain ⟨k6, hgl6, -, hgt6⟩ := id hL5
  have hgtne : ∀ p, p < n + 1 → g p ≠ gt := fun p hp => by
      rcases hgt6 with ⟨q1, -⟩ | ⟨f, q1, -⟩
      · omega
      · exact (gw_neA q1 (hh5 p hp)).symm
  exact gw_zret (v := 0) hx hb hr hlk hG rfl ⟨rfl, fun p hp => (hp6.2 (g p) (gw_neO (hh5 p hp) hgl5 (by decide)) (hgtne p hp)).trans (hc5.2 p hp), hp6.1, fun b h1 h2 h3 => (hp6.2 b h2 h3).trans (hc5.1 b h1)⟩ (Nat.le_of_ble_eq_true rfl) (Nat.le_of_ble_eq_true rfl) d_Gang_beatRound_68
