theorem d_law_118 : decode code 118 = .ok (.iconst 0, 1) := by decide +kernel
theorem d_law_119 : decode code 119 = .ok (.istore 10, 2) := by decide +kernel
theorem d_law_121 : decode code 121 = .ok (.iload 10, 2) := by decide +kernel
theorem d_law_123 : decode code 123 = .ok (.iload_n 2, 1) := by decide +kernel
theorem d_law_124 : decode code 124 = .ok (.if_icmp .ge 52, 3) := by decide +kernel
theorem d_law_176 : decode code 176 = .ok (.iconst 0, 1) := by decide +kernel
theorem d_law_177 : decode code 177 = .ok (.istore 10, 2) := by decide +kernel
theorem d_law_179 : decode code 179 = .ok (.iconst 0, 1) := by decide +kernel
theorem d_law_180 : decode code 180 = .ok (.istore 11, 2) := by decide +kernel
theorem d_law_127 : decode code 127 = .ok (.aload_n 3, 1) := by decide +kernel
theorem d_law_128 : decode code 128 = .ok (.iload 10, 2) := by decide +kernel
theorem d_law_130 : decode code 130 = .ok (.aload_n 0, 1) := by decide +kernel
theorem d_law_131 : decode code 131 = .ok (.iconst 1, 1) := by decide +kernel
theorem d_law_132 : decode code 132 = .ok (.iload 10, 2) := by decide +kernel
theorem d_law_134 : decode code 134 = .ok (.iadd, 1) := by decide +kernel
theorem d_law_135 : decode code 135 = .ok (.bipush 7, 2) := by decide +kernel
theorem d_law_137 : decode code 137 = .ok (.invokestatic 80, 3) := by decide +kernel
theorem d_law_140 : decode code 140 = .ok (.iconst 3, 1) := by decide +kernel
theorem d_law_141 : decode code 141 = .ok (.isub, 1) := by decide +kernel
theorem d_law_142 : decode code 142 = .ok (.iastore, 1) := by decide +kernel
theorem d_law_143 : decode code 143 = .ok (.iload 9, 2) := by decide +kernel
theorem d_law_145 : decode code 145 = .ok (.aload_n 1, 1) := by decide +kernel
theorem d_law_146 : decode code 146 = .ok (.iconst 1, 1) := by decide +kernel
theorem d_law_147 : decode code 147 = .ok (.iload 10, 2) := by decide +kernel
theorem d_law_149 : decode code 149 = .ok (.iadd, 1) := by decide +kernel
theorem d_law_150 : decode code 150 = .ok (.aload_n 3, 1) := by decide +kernel
theorem d_law_151 : decode code 151 = .ok (.iload 10, 2) := by decide +kernel
theorem d_law_153 : decode code 153 = .ok (.iaload, 1) := by decide +kernel
theorem wm_416 : Cond.codeWith ⟨"ThresholdRowLaw", "addHand", "(LThresholdRow;II)I"⟩ method_3_code 4 (some .int) [(0, 6, 7, 15), (0, 6, 11, 18)] ∈ gT := gT_m (List.mem_of_getElem? (i := 416) (by decide +kernel)) (by decide +kernel)
theorem wm_414 : Cond.methodLink "ThresholdRowLaw" 84 ⟨"ThresholdRowLaw", "addHand", "(LThresholdRow;II)I"⟩ ∈ gT := gT_m (List.mem_of_getElem? (i := 414) (by decide +kernel)) (by decide +kernel)
theorem wm_415 : Cond.static ⟨"ThresholdRowLaw", "addHand", "(LThresholdRow;II)I"⟩ ∈ gT := gT_m (List.mem_of_getElem? (i := 415) (by decide +kernel)) (by decide +kernel)
theorem wq_414 : Cond.methodLink "ThresholdRowLaw" 84 ⟨"ThresholdRowLaw", "addHand", "(LThresholdRow;II)I"⟩ ∈ lw_tbl := List.mem_of_getElem? (i := 414) (by decide +kernel)
theorem wq_415 : Cond.static ⟨"ThresholdRowLaw", "addHand", "(LThresholdRow;II)I"⟩ ∈ lw_tbl := List.mem_of_getElem? (i := 415) (by decide +kernel)
theorem d_law_154 : decode code 154 = .ok (.invokestatic 84, 3) := by decide +kernel
theorem d_law_157 : decode code 157 = .ok (.iload 10, 2) := by decide +kernel
theorem d_law_159 : decode code 159 = .ok (.if_icmp .ne 7, 3) := by decide +kernel
theorem d_law_162 : decode code 162 = .ok (.iconst 1, 1) := by decide +kernel
theorem d_law_163 : decode code 163 = .ok (.goto 4, 3) := by decide +kernel
theorem d_law_167 : decode code 167 = .ok (.iand, 1) := by decide +kernel
theorem d_law_168 : decode code 168 = .ok (.istore 9, 2) := by decide +kernel
theorem d_law_170 : decode code 170 = .ok (.iinc 10 1, 3) := by decide +kernel
theorem d_law_173 : decode code 173 = .ok (.goto (-52), 3) := by decide +kernel
theorem wm_49 : Cond.classLink "ThresholdRowLaw" 10 "ThresholdRow" ∈ gT := gT_m (List.mem_of_getElem? (i := 49) (by decide +kernel)) (by decide +kernel)
theorem wm_50 : Cond.instantiable "ThresholdRow" 14 ∈ gT := gT_m (List.mem_of_getElem? (i := 50) (by decide +kernel)) (by decide +kernel)
theorem d_law_0 : decode code 0 = .ok (.new 10, 3) := by decide +kernel
theorem d_law_3 : decode code 3 = .ok (.dup, 1) := by decide +kernel
theorem wm_53 : Cond.code ⟨"ThresholdRow", "<init>", "()V"⟩ prog_1_method_1_code 2 none ∈ gT := gT_m (List.mem_of_getElem? (i := 53) (by decide +kernel)) (by decide +kernel)
theorem wm_51 : Cond.methodLink "ThresholdRowLaw" 79 ⟨"ThresholdRow", "<init>", "()V"⟩ ∈ gT := gT_m (List.mem_of_getElem? (i := 51) (by decide +kernel)) (by decide +kernel)
theorem d_law_4 : decode code 4 = .ok (.invokespecial 79, 3) := by decide +kernel
theorem wm_52 : Cond.instanceMethod ⟨"ThresholdRow", "<init>", "()V"⟩ ∈ gT := gT_m (List.mem_of_getElem? (i := 52) (by decide +kernel)) (by decide +kernel)
theorem d_law_7 : decode code 7 = .ok (.astore_n 1, 1) := by decide +kernel
theorem d_law_8 : decode code 8 = .ok (.iconst 2, 1) := by decide +kernel
theorem d_law_9 : decode code 9 = .ok (.aload_n 0, 1) := by decide +kernel
theorem d_law_10 : decode code 10 = .ok (.iconst 0, 1) := by decide +kernel
theorem d_law_11 : decode code 11 = .ok (.bipush 6, 2) := by decide +kernel
theorem d_law_13 : decode code 13 = .ok (.invokestatic 80, 3) := by decide +kernel
theorem d_law_16 : decode code 16 = .ok (.iadd, 1) := by decide +kernel
theorem d_law_17 : decode code 17 = .ok (.istore_n 2, 1) := by decide +kernel
theorem d_law_18 : decode code 18 = .ok (.iload_n 2, 1) := by decide +kernel
theorem d_law_19 : decode code 19 = .ok (.newarray .int, 2) := by decide +kernel
theorem d_law_21 : decode code 21 = .ok (.astore_n 3, 1) := by decide +kernel
theorem d_law_22 : decode code 22 = .ok (.iload_n 2, 1) := by decide +kernel
theorem d_law_23 : decode code 23 = .ok (.newarray .int, 2) := by decide +kernel
theorem d_law_25 : decode code 25 = .ok (.astore 4, 2) := by decide +kernel
theorem d_law_27 : decode code 27 = .ok (.iload_n 2, 1) := by decide +kernel
theorem d_law_28 : decode code 28 = .ok (.newarray .int, 2) := by decide +kernel
theorem d_law_30 : decode code 30 = .ok (.astore 5, 2) := by decide +kernel
theorem d_law_32 : decode code 32 = .ok (.iload_n 2, 1) := by decide +kernel
theorem d_law_33 : decode code 33 = .ok (.newarray .int, 2) := by decide +kernel
theorem d_law_35 : decode code 35 = .ok (.astore 6, 2) := by decide +kernel
theorem d_law_37 : decode code 37 = .ok (.iload_n 2, 1) := by decide +kernel
theorem d_law_38 : decode code 38 = .ok (.newarray .int, 2) := by decide +kernel
theorem d_law_40 : decode code 40 = .ok (.astore 7, 2) := by decide +kernel
theorem d_law_42 : decode code 42 = .ok (.bipush 8, 2) := by decide +kernel
theorem d_law_44 : decode code 44 = .ok (.newarray .int, 2) := by decide +kernel
theorem d_law_46 : decode code 46 = .ok (.astore 8, 2) := by decide +kernel
theorem d_law_48 : decode code 48 = .ok (.aload_n 1, 1) := by decide +kernel
theorem d_law_49 : decode code 49 = .ok (.iconst 0, 1) := by decide +kernel
theorem d_law_50 : decode code 50 = .ok (.iconst 0, 1) := by decide +kernel
theorem d_law_51 : decode code 51 = .ok (.invokestatic 84, 3) := by decide +kernel
theorem d_law_54 : decode code 54 = .ok (.ldc 17, 2) := by decide +kernel
theorem d_law_56 : decode code 56 = .ok (.if_icmp .ne 59, 3) := by decide +kernel
theorem d_law_59 : decode code 59 = .ok (.aload_n 1, 1) := by decide +kernel
theorem d_law_60 : decode code 60 = .ok (.iconst 1, 1) := by decide +kernel
theorem d_law_61 : decode code 61 = .ok (.iconst 4, 1) := by decide +kernel
theorem d_law_62 : decode code 62 = .ok (.invokestatic 84, 3) := by decide +kernel
theorem d_law_65 : decode code 65 = .ok (.ldc 17, 2) := by decide +kernel
theorem d_law_67 : decode code 67 = .ok (.if_icmp .ne 48, 3) := by decide +kernel
theorem d_law_70 : decode code 70 = .ok (.aload_n 1, 1) := by decide +kernel
theorem d_law_71 : decode code 71 = .ok (.iconst 0, 1) := by decide +kernel
theorem d_law_72 : decode code 72 = .ok (.invokestatic 87, 3) := by decide +kernel
theorem d_law_75 : decode code 75 = .ok (.ldc 17, 2) := by decide +kernel
theorem d_law_77 : decode code 77 = .ok (.if_icmp .ne 38, 3) := by decide +kernel
theorem d_law_80 : decode code 80 = .ok (.aload_n 1, 1) := by decide +kernel
theorem d_law_81 : decode code 81 = .ok (.iconst 1, 1) := by decide +kernel
theorem d_law_82 : decode code 82 = .ok (.invokestatic 90, 3) := by decide +kernel
theorem d_law_85 : decode code 85 = .ok (.ldc 20, 2) := by decide +kernel
theorem d_law_87 : decode code 87 = .ok (.if_icmp .ne 28, 3) := by decide +kernel
theorem d_law_90 : decode code 90 = .ok (.aload_n 1, 1) := by decide +kernel
theorem d_law_91 : decode code 91 = .ok (.bipush 100, 2) := by decide +kernel
theorem d_law_93 : decode code 93 = .ok (.invokestatic 90, 3) := by decide +kernel
theorem d_law_96 : decode code 96 = .ok (.ldc 17, 2) := by decide +kernel
theorem d_law_98 : decode code 98 = .ok (.if_icmp .ne 17, 3) := by decide +kernel
theorem d_law_101 : decode code 101 = .ok (.aload_n 1, 1) := by decide +kernel
theorem d_law_102 : decode code 102 = .ok (.iconst 0, 1) := by decide +kernel
theorem d_law_103 : decode code 103 = .ok (.invokestatic 92, 3) := by decide +kernel
theorem d_law_106 : decode code 106 = .ok (.ldc 17, 2) := by decide +kernel
theorem d_law_108 : decode code 108 = .ok (.if_icmp .ne 7, 3) := by decide +kernel
theorem d_law_111 : decode code 111 = .ok (.iconst 1, 1) := by decide +kernel
theorem d_law_112 : decode code 112 = .ok (.goto 4, 3) := by decide +kernel
theorem d_law_116 : decode code 116 = .ok (.istore 9, 2) := by decide +kernel
def lb_A (a0 a1 a2 a3 a4 a5 : Nat) : Nat → Nat := fun k => match k with
  | 0 => a0
  | 1 => a1
  | 2 => a2
  | 3 => a3
  | 4 => a4
  | _ => a5
theorem lb_Ap {a0 a1 a2 a3 a4 a5 : Nat} (h01 : a0 ≠ a1) (h02 : a0 ≠ a2) (h03 : a0 ≠ a3) (h04 : a0 ≠ a4) (h05 : a0 ≠ a5) (h12 : a1 ≠ a2) (h13 : a1 ≠ a3) (h14 : a1 ≠ a4) (h15 : a1 ≠ a5) (h23 : a2 ≠ a3) (h24 : a2 ≠ a4) (h25 : a2 ≠ a5) (h34 : a3 ≠ a4) (h35 : a3 ≠ a5) (h45 : a4 ≠ a5) : gw_ap (lb_A a0 a1 a2 a3 a4 a5) := by
  intro i j hi hj z
  rcases (show i = 0 ∨ i = 1 ∨ i = 2 ∨ i = 3 ∨ i = 4 ∨ i = 5 by omega) with rfl | rfl | rfl | rfl | rfl | rfl <;> rcases (show j = 0 ∨ j = 1 ∨ j = 2 ∨ j = 3 ∨ j = 4 ∨ j = 5 by omega) with rfl | rfl | rfl | rfl | rfl | rfl <;>
    first | rfl | exact absurd z h01 | exact absurd z h02 | exact absurd z h03 | exact absurd z h04 | exact absurd z h05 | exact absurd z h12 | exact absurd z h13 | exact absurd z h14 | exact absurd z h15 | exact absurd z h23 | exact absurd z h24 | exact absurd z h25 | exact absurd z h34 | exact absurd z h35 | exact absurd z h45 | exact absurd z h01.symm | exact absurd z h02.symm | exact absurd z h03.symm | exact absurd z h04.symm | exact absurd z h05.symm | exact absurd z h12.symm | exact absurd z h13.symm | exact absurd z h14.symm | exact absurd z h15.symm | exact absurd z h23.symm | exact absurd z h24.symm | exact absurd z h25.symm | exact absurd z h34.symm | exact absurd z h35.symm | exact absurd z h45.symm
theorem lb_hab : ∀ j, j < 7 → ¬ nI j - 3 < (-3) ∧ nI j - 3 ≤ 3 ∧ -3 ≤ (nI j - 3).toInt ∧ (nI j - 3).toInt ≤ 3 := by decide +kernel
theorem gw_fr.s0 {cI : ClassId} {M : gM} {A : Nat → Nat} {n : Nat} {fb fe ff fu fl fg f' : Nat → Int32} (h : gw_a6 cI M A n fb fe ff fu fl fg) : gw_fr M (gw_up M (A 0) (.inl (cI, n, .inl f'))) := gw_fr.rf.up h.1 gw_isI.mk
theorem gw_a6.s0 {cI : ClassId} {Y : gM} {A : Nat → Nat} {n : Nat} {fb fe ff fu fl fg f' : Nat → Int32} (h : gw_a6 cI Y A n fb fe ff fu fl fg) (hA : gw_ap A) : gw_a6 cI (gw_up Y (A 0) (.inl (cI, n, .inl f'))) A n f' fe ff fu fl fg :=
  ⟨gw_hit, (gw_miss (hA.ne (by decide) (by decide) (by decide))).trans h.2.1, (gw_miss (hA.ne (by decide) (by decide) (by decide))).trans h.2.2.1, (gw_miss (hA.ne (by decide) (by decide) (by decide))).trans h.2.2.2.1, (gw_miss (hA.ne (by decide) (by decide) (by decide))).trans h.2.2.2.2.1, (gw_miss (hA.ne (by decide) (by decide) (by decide))).trans h.2.2.2.2.2⟩
set_option maxHeartbeats 4000000 in
set_option maxRecDepth 100000 in
theorem lb_hands {p : Program} {l : Launch} {e : Env} {s : State} {m : MethodId} {args : Array Value} {below : List Frame} {meth : Method} {c : Code} {Q : State → Prop} {E : Nat} {D : va_G} {cI cO cZ : ClassId} {z0 sb sL : Nat} {xs : Nat → Int32} (C : lb_C l p s m args c E D cI cO cZ z0 sb sL xs) {M : gM} {H : Heap} {locs : List Loc} {ls : Array Slot} {k q : Nat} (hkk : k ≤ 400000) (hqq : q ≤ 4000000) {A : Nat → Nat} {o n : Nat} {Z ad bn : Nat → Nat} (hn2 : 2 ≤ n) (hn7 : n ≤ 7) (hk3 : k ≤ 200000) (hq3 : q ≤ 2000000) (hA : gw_ap A) (hf : gw_fa z0 cO M o 0 0 (0, fun p => p, fun _ => (0, 0, 0, 0, 0, 0)) Z ad bn) (h6 : gw_a6 cI M A n (fun _ => 0) (fun _ => 0) (fun _ => 0) (fun _ => 0) (fun _ => 0) (fun _ => 0)) (hret : ∀ (M1 : gM) (H : Heap) (locs : List Loc) (ls : Array Slot) (c2 n2 : Nat), c2 ≤ 500000 → n2 ≤ 5000000 → gw_H E D M1 s H locs → W p l e room_1 s m args below meth c H locs c2 n2 Q (F0 m 878 ls [.int 1])) (hG : gw_H E D M s H locs) (hl : lv_has ls 19 [(0, .ref sb), (1, .ref o), (2, .int (nI n)), (3, .ref (A 0)), (4, .ref (A 1)), (5, .ref (A 2)), (6, .ref (A 3)), (7, .ref (A 4)), (8, .ref (A 5)), (9, .int 1)]) : W p l e room_1 s m args below meth c H locs k q Q (F0 m 118 ls []) := by
  obtain ⟨hx, hb, hml, hts, hown, hst, hF, hX, hsb, hsL⟩ := id C
  have hK := hF.1
  have hT := gT_hts hts
  refine lv_iconst (v := 0) hx hb d_law_118 (by decide) ?_
  refine lv_istore (lv' := [(10, .int 0), (0, .ref sb), (1, .ref o), (2, .int (nI n)), (3, .ref (A 0)), (4, .ref (A 1)), (5, .ref (A 2)), (6, .ref (A 3)), (7, .ref (A 4)), (8, .ref (A 5)), (9, .int 1)]) hx hb d_law_119 hl (by decide) rfl (fun ls hl => ?_)
  have loopH : ∀ (d p2 : Nat), p2 + d = n → ∀ (X : gM) (H : Heap) (locs : List Loc) (ls : Array Slot) (v : Nat → gH) (Z2 a2 : Nat → Nat) (fX : Nat → Int32), (gw_fa z0 cO X o p2 0 (0, fun p => p, v) Z2 a2 bn ∧ p_iv p2 0 (0, fun p => p, v) ∧ gw_a6 cI X A n fX (fun _ => 0) (fun _ => 0) (fun _ => 0) (fun _ => 0) (fun _ => 0) ∧ ∀ j, j < p2 → fX j = (v j).2.1 ∧ (v j).2.2 = (0, 0, 0, 0)) → gw_H E D X s H locs → lv_has ls 19 [(0, .ref sb), (1, .ref o), (2, .int (nI n)), (3, .ref (A 0)), (4, .ref (A 1)), (5, .ref (A 2)), (6, .ref (A 3)), (7, .ref (A 4)), (8, .ref (A 5)), (9, .int 1), (10, .int (nI p2))] → W p l e room_1 s m args below meth c H locs (k + 3 * p2) (q + 30 * p2) Q (F0 m 121 ls []) := by
    intro d
    induction d with
    | zero =>
      intro p2 hi X H locs ls v Z2 a2 fX hI hG hl
      obtain ⟨hfX, hXiv, h6X, hXv⟩ := hI
      refine lv_iload hx hb d_law_121 (lv_at hl 10 rfl) ?_
      refine lv_iload_n hx hb d_law_123 rfl (lv_at hl 2 rfl) ?_
      refine lv_icmp_ge (tgt := 176) hx hb d_law_124 (by decide) (fun c_124 => ?_) (fun z_ => absurd (nI_le (by omega) (by omega)) z_)
      refine lv_iconst (v := 0) hx hb d_law_176 (by decide) ?_
      refine lv_istore (lv' := [(10, .int 0), (0, .ref sb), (1, .ref o), (2, .int (nI n)), (3, .ref (A 0)), (4, .ref (A 1)), (5, .ref (A 2)), (6, .ref (A 3)), (7, .ref (A 4)), (8, .ref (A 5)), (9, .int 1)]) hx hb d_law_177 hl (by decide) rfl (fun ls hl => ?_)
      refine lv_iconst (v := 0) hx hb d_law_179 (by decide) ?_
      refine lv_istore (lv' := [(11, .int 0), (10, .int 0), (0, .ref sb), (1, .ref o), (2, .int (nI n)), (3, .ref (A 0)), (4, .ref (A 1)), (5, .ref (A 2)), (6, .ref (A 3)), (7, .ref (A 4)), (8, .ref (A 5)), (9, .int 1)]) hx hb d_law_180 hl (by decide) rfl (fun ls hl => ?_)
      have hpn : p2 = n := by omega
      rw [hpn] at hfX hXiv hXv
      have har : gw_ar cI X A n (0, fun p => p, v) := ⟨hA, _, _, _, _, _, _, h6X, fun j hj => (hXv j hj).1, fun j hj => by show (0 : Int32) = (v j).2.2.2.2.2; rw [(hXv j hj).2], fun j hj => by show (0 : Int32) = (v j).2.2.1; rw [(hXv j hj).2], fun j hj => by show (0 : Int32) = (v j).2.2.2.1; rw [(hXv j hj).2], fun j hj => by show (0 : Int32) = (v j).2.2.2.2.1; rw [(hXv j hj).2], rfl, fun p hp => absurd hp (Nat.not_lt_zero p)⟩
      exact lb_thirty C (by omega) (by omega) hn2 hn7 (by omega) (by omega) hfX har hXiv hret hG (lv_sub hl [2, 3, 4, 5, 6, 7, 8, 9, 10, 11, 1, 0] rfl)
    | succ d ih =>
      intro p2 hi X H locs ls v Z2 a2 fX hI hG hl
      obtain ⟨hfX, hXiv, h6X, hXv⟩ := hI
      refine lv_iload hx hb d_law_121 (lv_at hl 10 rfl) ?_
      refine lv_iload_n hx hb d_law_123 rfl (lv_at hl 2 rfl) ?_
      refine lv_icmp_ge (tgt := 176) hx hb d_law_124 (by decide) (fun z_ => absurd z_ (fun z => absurd ((nI_leI (by omega) (by omega)).mp z) (by omega))) (fun c_124 => ?_)
      refine lv_aload_n hx hb d_law_127 rfl (lv_at hl 3 rfl) ?_
      refine lv_iload hx hb d_law_128 (lv_at hl 10 rfl) ?_
      refine lv_aload_n hx hb d_law_130 rfl (lv_at hl 0 rfl) ?_
      refine lv_iconst (v := 1) hx hb d_law_131 (by decide) ?_
      refine lv_iload hx hb d_law_132 (lv_at hl 10 rfl) ?_
      refine lv_iadd hx hb d_law_134 ?_
      rw [show 1 + nI p2 = (nI (1 + p2)) from nI_add 1 p2]
      refine lv_bipush (v := 7) hx hb d_law_135 (by decide) ?_
      refine gw_calli (gw_runSs (As := [.ref sb, .int (nI (1 + p2)), .int (nI (7))]) (rest := [.int (nI p2), .ref (A 0)]) ⟨hx, hb, hml, hown, hts⟩ (c_Law_in l E D cI cO cZ z0 X hsL (i := 1 + p2) (k := 7) (by omega) (by decide) (by decide)) (gw_cwS 3 hts (gT_gi0 wm_760) rfl rfl rfl (hT _ wm_22) (hT _ wm_758) (hT _ wm_759) (by decide +kernel) ⟨Nat.le_of_ble_eq_true rfl, Nat.le_of_ble_eq_true rfl⟩) hF hG hX hsb rfl hl.1 rfl (Nat.le_of_ble_eq_true rfl) d_law_137 ⟨(lb_rc (by omega)), (lb_rs (by omega))⟩) hG (fun r_ M_ H locs hp_ hG => ?_)
      obtain ⟨⟨j7, hj7, e_r⟩, e_M⟩ := hp_
      replace hG := gw_nm e_M.symm hG
      rw [e_r]
      obtain ⟨hb1, hb2, hb3, hb4⟩ := lb_hab j7 hj7
      refine lv_iconst (v := 3) hx hb d_law_140 (by decide) ?_
      refine lv_isub hx hb d_law_141 ?_
      obtain ⟨y7, ey7⟩ : ∃ z, z = nI j7 - 3 := ⟨_, rfl⟩
      rw [← ey7] at hb1 hb2 hb3 hb4
      rw [show nI j7 - 3 = y7 from ey7.symm]
      refine gw_iast hx hb hK hG h6X.1 (vp_in_nI (by omega) (by omega)) d_law_142 (fun H locs hG => ?_)
      rw [nI_clamp (n := p2) (by omega)] at hG
      have h6Y := h6X.s0 hA (f' := upd fX p2 y7)
      obtain ⟨Y, e_Y⟩ : ∃ z : gM, z = gw_up X (A 0) (.inl (cI, n, .inl (upd fX p2 y7))) := ⟨_, rfl⟩
      have hfrY : gw_fr X Y := by rw [e_Y]; exact gw_fr.s0 h6X
      rw [← e_Y] at h6Y
      replace hG := gw_nm e_Y hG
      have hfY := hfX.kept hfrY
      refine lv_iload hx hb d_law_143 (lv_at hl 9 rfl) ?_
      refine lv_aload_n hx hb d_law_145 rfl (lv_at hl 1 rfl) ?_
      refine lv_iconst (v := 1) hx hb d_law_146 (by decide) ?_
      refine lv_iload hx hb d_law_147 (lv_at hl 10 rfl) ?_
      refine lv_iadd hx hb d_law_149 ?_
      rw [show 1 + nI p2 = (nI (1 + p2)) from nI_add 1 p2]
      refine lv_aload_n hx hb d_law_150 rfl (lv_at hl 3 rfl) ?_
      refine lv_iload hx hb d_law_151 (lv_at hl 10 rfl) ?_
      refine gw_iald hx hb hK hG (h6Y.1) (vp_in_nI (by omega) (by omega)) d_law_153 ?_
      rw [nI_clamp (n := p2) (by omega), u_at]
      refine gw_calli (gw_runSW (As := [.ref o, .int (nI (1 + p2)), .int y7]) (rest := [.int 1]) ⟨hx, hb, hml, hown, hts⟩ (c_Law_addHand l E D cI cO cZ z0 Y hfY (x := nI (1 + p2)) (y := y7) (fun z => absurd ((nI_ltI (b := 1) (by omega) (by decide)).mp z) (by omega)) ((nI_leI (b := 9) (by omega) (by decide)).mpr (by omega)) hb1 hb2 (by omega)) (gw_cwSW 3 hts (gT_gi0 wm_416) rfl rfl rfl (hT _ wm_22) (hT _ wm_414) (hT _ wm_415) ⟨rfl, rfl, rfl⟩ ⟨wq_414, wq_415, wq_22⟩ (by decide +kernel) ⟨Nat.le_of_ble_eq_true rfl, Nat.le_of_ble_eq_true rfl⟩) hF hG rfl hl.1 rfl (Nat.le_of_ble_eq_true rfl) d_law_154 ⟨(lb_rc (by omega)), (lb_rs (by omega))⟩) hG (fun r M1 H locs hp hG => ?_)
      obtain ⟨hr1, Z1, a1, hf1, hi1⟩ := hp
      rw [hr1]
      refine lv_iload hx hb d_law_157 (lv_at hl 10 rfl) ?_
      refine lv_icmp_ne (tgt := 166) hx hb d_law_159 (by decide) (fun z_ => absurd (rfl) z_) (fun c_159 => ?_)
      refine lv_iconst (v := 1) hx hb d_law_162 (by decide) ?_
      refine lv_goto (tgt := 167) hx hb d_law_163 (by decide) ?_
      refine lv_iand hx hb d_law_167 ?_
      rw [show (1 : Int32) &&& 1 = 1 from rfl]
      refine lv_istore (lv' := [(9, .int 1), (0, .ref sb), (1, .ref o), (2, .int (nI n)), (3, .ref (A 0)), (4, .ref (A 1)), (5, .ref (A 2)), (6, .ref (A 3)), (7, .ref (A 4)), (8, .ref (A 5)), (10, .int (nI p2))]) hx hb d_law_168 hl (by decide) rfl (fun ls hl => ?_)
      refine lv_iinc (v := nI (p2 + 1)) (lv' := [(10, .int (nI (p2 + 1))), (9, .int 1), (0, .ref sb), (1, .ref o), (2, .int (nI n)), (3, .ref (A 0)), (4, .ref (A 1)), (5, .ref (A 2)), (6, .ref (A 3)), (7, .ref (A 4)), (8, .ref (A 5))]) hx hb d_law_170 hl (k := 10) rfl (nI_succ (p2)).symm (by decide) rfl (fun ls hl => ?_)
      refine lv_goto (tgt := 121) hx hb d_law_173 (by decide) ?_
      refine W.widen (k := k + 3 * (p2 + 1)) (n := q + 30 * (p2 + 1)) (by omega) (by omega) ?_
      refine ih (p2 + 1) (by omega) _ _ _ _ _ _ _ _ ⟨hf1, lb_hand hXiv ⟨hb3, hb4⟩, h6Y.ints hi1, fun j hj => ?_⟩ hG (lv_sub hl [2, 3, 4, 5, 6, 7, 8, 9, 10, 1, 0] rfl)
      show upd fX p2 y7 j = (if j = p2 then ((nI (1 + p2), y7, 0, 0, 0, 0) : gH) else v j).2.1 ∧ (if j = p2 then ((nI (1 + p2), y7, 0, 0, 0, 0) : gH) else v j).2.2 = (0, 0, 0, 0)
      by_cases hjp : j = p2
      · rw [if_pos hjp, hjp, u_at]; exact ⟨rfl, rfl⟩
      · rw [if_neg hjp, u_no hjp]; exact hXv j (by omega)
  exact loopH _ _ (Nat.zero_add n) M _ _ _ (fun _ => (0, 0, 0, 0, 0, 0)) Z ad (fun _ => 0) ⟨hf, ⟨by decide, fun p hp => absurd hp (Nat.not_lt_zero p), fun p _ hp => absurd hp (Nat.not_lt_zero p), fun j hj => absurd hj (Nat.not_lt_zero j), fun p hp => absurd hp (Nat.not_lt_zero p)⟩, h6, fun j hj => absurd hj (Nat.not_lt_zero j)⟩ hG (lv_sub hl [1, 2, 3, 4, 5, 6, 7, 8, 9, 10, 0] rfl)
set_option maxHeartbeats 4000000 in
set_option maxRecDepth 100000 in
theorem lb_start {p : Program} {l : Launch} {e : Env} {s : State} {m : MethodId} {args : Array Value} {below : List Frame} {meth : Method} {c : Code} {Q : State → Prop} {E : Nat} {D : va_G} {cI cO cZ : ClassId} {z0 sb sL : Nat} {xs : Nat → Int32} (C : lb_C l p s m args c E D cI cO cZ z0 sb sL xs) {M : gM} {H : Heap} {locs : List Loc} {ls : Array Slot} {k q : Nat} (hkk : k ≤ 400000) (hqq : q ≤ 4000000) (hk0 : k ≤ 100) (hq0 : q ≤ 100) (hM : M = fun _ => none) (hret : ∀ (M1 : gM) (H : Heap) (locs : List Loc) (ls : Array Slot) (c2 n2 : Nat), c2 ≤ 500000 → n2 ≤ 5000000 → gw_H E D M1 s H locs → W p l e room_1 s m args below meth c H locs c2 n2 Q (F0 m 878 ls [.int 1])) (hG : gw_H E D M s H locs) (hl : lv_has ls 19 [(0, .ref sb)]) : W p l e room_1 s m args below meth c H locs k q Q (F0 m 0 ls []) := by
  obtain ⟨hx, hb, hml, hts, hown, hst, hF, hX, hsb, hsL⟩ := id C
  have hK := hF.1
  have hT := gT_hts hts
  refine gw_new (fs := [.null, .null, .null, .null, .null, .null, .null, .null, .int 0, .int 0, .int 0, .int 0, .int 0, .int 0]) (C := R_Row) (T := F_Row) (N := 14) (ci := 0) hx hb hT i_Row t_Row t_Row_ok hown (hT _ wm_49) (hT _ wm_50) (hT _ wm_23) hK hF.2.1 hG rfl (fun j hj => by rcases (show j = 0 ∨ j = 1 ∨ j = 2 ∨ j = 3 ∨ j = 4 ∨ j = 5 ∨ j = 6 ∨ j = 7 ∨ j = 8 ∨ j = 9 ∨ j = 10 ∨ j = 11 ∨ j = 12 ∨ j = 13 by omega) with rfl | rfl | rfl | rfl | rfl | rfl | rfl | rfl | rfl | rfl | rfl | rfl | rfl | rfl <;> rfl) (lb_rc (by omega)) (lb_rs (by omega)) d_law_0 (fun o H hq_o hG => ?_)
  obtain ⟨M1, e_M1⟩ : ∃ Y_ : gM, Y_ = gw_up M o (.inr (0, [.null, .null, .null, .null, .null, .null, .null, .null, .int 0, .int 0, .int 0, .int 0, .int 0, .int 0])) := ⟨_, rfl⟩
  replace hG := gw_nm e_M1 hG
  have hM1_o := (congrFun e_M1 o).trans gw_hit
  refine lv_dup hx hb d_law_3 rfl ?_
  refine gw_callv (gw_runI (As := []) (rest := [.ref o]) ⟨hx, hb, hml, hown, hts⟩ (c_Row_init l E D cI cO cZ z0 M1 hM1_o) (cwI 0 hts (gT_gi0 wm_53) rfl rfl rfl (hT _ wm_23) (hT _ wm_51) (hT _ wm_52) rfl (by decide +kernel) ⟨Nat.le_of_ble_eq_true rfl, Nat.le_of_ble_eq_true rfl⟩) hF hG rfl hl.1 rfl (Nat.le_of_ble_eq_true rfl) d_law_4 ⟨(lb_rc (by omega)), (lb_rs (by omega))⟩) hG (fun M2 H locs hp hG => ?_)
  obtain ⟨Z, ad, bn, hfa⟩ := hp
  refine lv_astore_n (lv' := [(1, .ref o), (0, .ref sb)]) hx hb d_law_7 rfl hl (by decide) rfl (fun ls hl => ?_)
  refine lv_iconst (v := 2) hx hb d_law_8 (by decide) ?_
  refine lv_aload_n hx hb d_law_9 rfl (lv_at hl 1 rfl) ?_
  refine lv_iconst (v := 0) hx hb d_law_10 (by decide) ?_
  refine lv_bipush (v := 6) hx hb d_law_11 (by decide) ?_
  have hF0 := hF
  refine gw_calli (gw_runSs (As := [.ref sb, .int (nI (0)), .int (nI (6))]) (rest := [.int 2]) ⟨hx, hb, hml, hown, hts⟩ (c_Law_in l E D cI cO cZ z0 M2 hsL (i := 0) (k := 6) (by omega) (by decide) (by decide)) (gw_cwS 3 hts (gT_gi0 wm_760) rfl rfl rfl (hT _ wm_22) (hT _ wm_758) (hT _ wm_759) (by decide +kernel) ⟨Nat.le_of_ble_eq_true rfl, Nat.le_of_ble_eq_true rfl⟩) hF hG hX hsb rfl hl.1 rfl (Nat.le_of_ble_eq_true rfl) d_law_13 ⟨(lb_rc (by omega)), (lb_rs (by omega))⟩) hG (fun r_ M_ H locs hp_ hG => ?_)
  obtain ⟨⟨j6, hj6, e_r⟩, e_M⟩ := hp_
  replace hG := gw_nm e_M.symm hG
  rw [e_r]
  refine lv_iadd hx hb d_law_16 ?_
  obtain ⟨n, hn⟩ : ∃ n, n = 2 + j6 := ⟨_, rfl⟩
  rw [show 2 + nI j6 = (nI n) from (by rw [hn]; exact nI_add 2 j6)]
  have hn2 : 2 ≤ n := by omega
  have hn7 : n ≤ 7 := by omega
  refine lv_istore_n (lv' := [(2, .int (nI n)), (1, .ref o), (0, .ref sb)]) hx hb d_law_17 rfl hl (by decide) rfl (fun ls hl => ?_)
  refine lv_iload_n hx hb d_law_18 rfl (lv_at hl 0 rfl) ?_
  have hfr0 : gw_fr M2 M2 := gw_fr.rf
  refine gw_newI (N := n) hx hb (hT _ wm_173) hK hF.2.1 hG (nI_pos (by omega)) (nI_clamp (by omega)) (by omega) (lb_rc (by omega)) (lb_rs (by omega)) d_law_19 (fun a0 H hq0 hG => ?_)
  obtain ⟨M3, e_M3⟩ : ∃ Y_ : gM, Y_ = gw_up M2 a0 (.inl (cI, n, .inl (fun _ => 0))) := ⟨_, rfl⟩
  replace hG := gw_nm e_M3 hG
  have hfr1 : gw_fr M2 M3 := by rw [e_M3]; exact hfr0.new hq0
  have x00 := (congrFun e_M3 a0).trans gw_hit
  refine lv_astore_n (lv' := [(3, .ref a0), (2, .int (nI n)), (1, .ref o), (0, .ref sb)]) hx hb d_law_21 rfl hl (by decide) rfl (fun ls hl => ?_)
  refine lv_iload_n hx hb d_law_22 rfl (lv_at hl 1 rfl) ?_
  refine gw_newI (N := n) hx hb (hT _ wm_173) hK hF.2.1 hG (nI_pos (by omega)) (nI_clamp (by omega)) (by omega) (lb_rc (by omega)) (lb_rs (by omega)) d_law_23 (fun a1 H hq1 hG => ?_)
  have n01 : a0 ≠ a1 := gw_neF hq1 x00
  obtain ⟨M4, e_M4⟩ : ∃ Y_ : gM, Y_ = gw_up M3 a1 (.inl (cI, n, .inl (fun _ => 0))) := ⟨_, rfl⟩
  replace hG := gw_nm e_M4 hG
  have hfr2 : gw_fr M2 M4 := by rw [e_M4]; exact hfr1.new hq1
  have x01 := (congrFun e_M4 a0).trans ((gw_miss n01).trans x00)
  have x11 := (congrFun e_M4 a1).trans gw_hit
  refine lv_astore (lv' := [(4, .ref a1), (3, .ref a0), (2, .int (nI n)), (1, .ref o), (0, .ref sb)]) hx hb d_law_25 hl (by decide) rfl (fun ls hl => ?_)
  refine lv_iload_n hx hb d_law_27 rfl (lv_at hl 2 rfl) ?_
  refine gw_newI (N := n) hx hb (hT _ wm_173) hK hF.2.1 hG (nI_pos (by omega)) (nI_clamp (by omega)) (by omega) (lb_rc (by omega)) (lb_rs (by omega)) d_law_28 (fun a2 H hq2 hG => ?_)
  have n02 : a0 ≠ a2 := gw_neF hq2 x01
  have n12 : a1 ≠ a2 := gw_neF hq2 x11
  obtain ⟨M5, e_M5⟩ : ∃ Y_ : gM, Y_ = gw_up M4 a2 (.inl (cI, n, .inl (fun _ => 0))) := ⟨_, rfl⟩
  replace hG := gw_nm e_M5 hG
  have hfr3 : gw_fr M2 M5 := by rw [e_M5]; exact hfr2.new hq2
  have x02 := (congrFun e_M5 a0).trans ((gw_miss n02).trans x01)
  have x12 := (congrFun e_M5 a1).trans ((gw_miss n12).trans x11)
  have x22 := (congrFun e_M5 a2).trans gw_hit
  refine lv_astore (lv' := [(5, .ref a2), (4, .ref a1), (3, .ref a0), (2, .int (nI n)), (1, .ref o), (0, .ref sb)]) hx hb d_law_30 hl (by decide) rfl (fun ls hl => ?_)
  refine lv_iload_n hx hb d_law_32 rfl (lv_at hl 3 rfl) ?_
  refine gw_newI (N := n) hx hb (hT _ wm_173) hK hF.2.1 hG (nI_pos (by omega)) (nI_clamp (by omega)) (by omega) (lb_rc (by omega)) (lb_rs (by omega)) d_law_33 (fun a3 H hq3 hG => ?_)
  have n03 : a0 ≠ a3 := gw_neF hq3 x02
  have n13 : a1 ≠ a3 := gw_neF hq3 x12
  have n23 : a2 ≠ a3 := gw_neF hq3 x22
  obtain ⟨M6, e_M6⟩ : ∃ Y_ : gM, Y_ = gw_up M5 a3 (.inl (cI, n, .inl (fun _ => 0))) := ⟨_, rfl⟩
  replace hG := gw_nm e_M6 hG
  have hfr4 : gw_fr M2 M6 := by rw [e_M6]; exact hfr3.new hq3
  have x03 := (congrFun e_M6 a0).trans ((gw_miss n03).trans x02)
  have x13 := (congrFun e_M6 a1).trans ((gw_miss n13).trans x12)
  have x23 := (congrFun e_M6 a2).trans ((gw_miss n23).trans x22)
  have x33 := (congrFun e_M6 a3).trans gw_hit
  refine lv_astore (lv' := [(6, .ref a3), (5, .ref a2), (4, .ref a1), (3, .ref a0), (2, .int (nI n)), (1, .ref o), (0, .ref sb)]) hx hb d_law_35 hl (by decide) rfl (fun ls hl => ?_)
  refine lv_iload_n hx hb d_law_37 rfl (lv_at hl 4 rfl) ?_
  refine gw_newI (N := n) hx hb (hT _ wm_173) hK hF.2.1 hG (nI_pos (by omega)) (nI_clamp (by omega)) (by omega) (lb_rc (by omega)) (lb_rs (by omega)) d_law_38 (fun a4 H hq4 hG => ?_)
  have n04 : a0 ≠ a4 := gw_neF hq4 x03
  have n14 : a1 ≠ a4 := gw_neF hq4 x13
  have n24 : a2 ≠ a4 := gw_neF hq4 x23
  have n34 : a3 ≠ a4 := gw_neF hq4 x33
  obtain ⟨M7, e_M7⟩ : ∃ Y_ : gM, Y_ = gw_up M6 a4 (.inl (cI, n, .inl (fun _ => 0))) := ⟨_, rfl⟩
  replace hG := gw_nm e_M7 hG
  have hfr5 : gw_fr M2 M7 := by rw [e_M7]; exact hfr4.new hq4
  have x04 := (congrFun e_M7 a0).trans ((gw_miss n04).trans x03)
  have x14 := (congrFun e_M7 a1).trans ((gw_miss n14).trans x13)
  have x24 := (congrFun e_M7 a2).trans ((gw_miss n24).trans x23)
  have x34 := (congrFun e_M7 a3).trans ((gw_miss n34).trans x33)
  have x44 := (congrFun e_M7 a4).trans gw_hit
  refine lv_astore (lv' := [(7, .ref a4), (6, .ref a3), (5, .ref a2), (4, .ref a1), (3, .ref a0), (2, .int (nI n)), (1, .ref o), (0, .ref sb)]) hx hb d_law_40 hl (by decide) rfl (fun ls hl => ?_)
  refine lv_bipush (v := 8) hx hb d_law_42 (by decide) ?_
  refine gw_newI (N := 8) hx hb (hT _ wm_173) hK hF.2.1 hG (by decide) (by decide) (by omega) (lb_rc (by omega)) (lb_rs (by omega)) d_law_44 (fun a5 H hq5 hG => ?_)
  have n05 : a0 ≠ a5 := gw_neF hq5 x04
  have n15 : a1 ≠ a5 := gw_neF hq5 x14
  have n25 : a2 ≠ a5 := gw_neF hq5 x24
  have n35 : a3 ≠ a5 := gw_neF hq5 x34
  have n45 : a4 ≠ a5 := gw_neF hq5 x44
  obtain ⟨M8, e_M8⟩ : ∃ Y_ : gM, Y_ = gw_up M7 a5 (.inl (cI, 8, .inl (fun _ => 0))) := ⟨_, rfl⟩
  replace hG := gw_nm e_M8 hG
  have hfr6 : gw_fr M2 M8 := by rw [e_M8]; exact hfr5.new hq5
  have x05 := (congrFun e_M8 a0).trans ((gw_miss n05).trans x04)
  have x15 := (congrFun e_M8 a1).trans ((gw_miss n15).trans x14)
  have x25 := (congrFun e_M8 a2).trans ((gw_miss n25).trans x24)
  have x35 := (congrFun e_M8 a3).trans ((gw_miss n35).trans x34)
  have x45 := (congrFun e_M8 a4).trans ((gw_miss n45).trans x44)
  have x55 := (congrFun e_M8 a5).trans gw_hit
  refine lv_astore (lv' := [(8, .ref a5), (7, .ref a4), (6, .ref a3), (5, .ref a2), (4, .ref a1), (3, .ref a0), (2, .int (nI n)), (1, .ref o), (0, .ref sb)]) hx hb d_law_46 hl (by decide) rfl (fun ls hl => ?_)
  have hf := hfa.kept hfr6
  refine lv_aload_n hx hb d_law_48 rfl (lv_at hl 7 rfl) ?_
  refine lv_iconst (v := 0) hx hb d_law_49 (by decide) ?_
  refine lv_iconst (v := 0) hx hb d_law_50 (by decide) ?_
  refine gw_calli (gw_runSW (As := [.ref o, .int 0, .int 0]) (rest := []) ⟨hx, hb, hml, hown, hts⟩ (c_Law_addHand_x l E D cI cO cZ z0 M8 hst hf (x := 0) (y := 0) (Or.inl (by decide))) (gw_cwSW 3 hts (gT_gi0 wm_416) rfl rfl rfl (hT _ wm_22) (hT _ wm_414) (hT _ wm_415) ⟨rfl, rfl, rfl⟩ ⟨wq_414, wq_415, wq_22⟩ (by decide +kernel) ⟨Nat.le_of_ble_eq_true rfl, Nat.le_of_ble_eq_true rfl⟩) hF hG rfl hl.1 rfl (Nat.le_of_ble_eq_true rfl) d_law_51 ⟨(lb_rc (by omega)), (lb_rs (by omega))⟩) hG (fun r M9 H locs hp hG => ?_)
  rw [hp.1]
  replace hG := gw_nm hp.2.symm hG
  refine lv_ldc hx hb hown (hT _ wm_502) d_law_54 ?_
  refine lv_icmp_ne (tgt := 115) hx hb d_law_56 (by decide) (fun z_ => absurd (rfl) z_) (fun c_56 => ?_)
  refine lv_aload_n hx hb d_law_59 rfl (lv_at hl 7 rfl) ?_
  refine lv_iconst (v := 1) hx hb d_law_60 (by decide) ?_
  refine lv_iconst (v := 4) hx hb d_law_61 (by decide) ?_
  refine gw_calli (gw_runSW (As := [.ref o, .int 1, .int 4]) (rest := []) ⟨hx, hb, hml, hown, hts⟩ (c_Law_addHand_x l E D cI cO cZ z0 M8 hst hf (x := 1) (y := 4) (Or.inr ⟨by decide, by decide, by decide⟩)) (gw_cwSW 3 hts (gT_gi0 wm_416) rfl rfl rfl (hT _ wm_22) (hT _ wm_414) (hT _ wm_415) ⟨rfl, rfl, rfl⟩ ⟨wq_414, wq_415, wq_22⟩ (by decide +kernel) ⟨Nat.le_of_ble_eq_true rfl, Nat.le_of_ble_eq_true rfl⟩) hF hG rfl hl.1 rfl (Nat.le_of_ble_eq_true rfl) d_law_62 ⟨(lb_rc (by omega)), (lb_rs (by omega))⟩) hG (fun r M10 H locs hp hG => ?_)
  rw [hp.1]
  replace hG := gw_nm hp.2.symm hG
  refine lv_ldc hx hb hown (hT _ wm_502) d_law_65 ?_
  refine lv_icmp_ne (tgt := 115) hx hb d_law_67 (by decide) (fun z_ => absurd (rfl) z_) (fun c_67 => ?_)
  refine lv_aload_n hx hb d_law_70 rfl (lv_at hl 7 rfl) ?_
  refine lv_iconst (v := 0) hx hb d_law_71 (by decide) ?_
  refine gw_calli (gw_runSW (As := [.ref o, .int 0]) (rest := []) ⟨hx, hb, hml, hown, hts⟩ (c_Law_stand_x l E D cI cO cZ z0 M8 hst hf (i := 0) (Nat.le_refl _) (by decide)) (gw_cwSW 2 hts (gT_gi0 wm_506) rfl rfl rfl (hT _ wm_22) (hT _ wm_504) (hT _ wm_505) ⟨rfl, rfl, rfl⟩ ⟨wq_504, wq_505, wq_22⟩ (by decide +kernel) ⟨Nat.le_of_ble_eq_true rfl, Nat.le_of_ble_eq_true rfl⟩) hF hG rfl hl.1 rfl (Nat.le_of_ble_eq_true rfl) d_law_72 ⟨(lb_rc (by omega)), (lb_rs (by omega))⟩) hG (fun r M11 H locs hp hG => ?_)
  rw [hp.1]
  replace hG := gw_nm hp.2.symm hG
  refine lv_ldc hx hb hown (hT _ wm_502) d_law_75 ?_
  refine lv_icmp_ne (tgt := 115) hx hb d_law_77 (by decide) (fun z_ => absurd (rfl) z_) (fun c_77 => ?_)
  refine lv_aload_n hx hb d_law_80 rfl (lv_at hl 7 rfl) ?_
  refine lv_iconst (v := 1) hx hb d_law_81 (by decide) ?_
  refine gw_calli (gw_runSW (As := [.ref o, .int 1]) (rest := []) ⟨hx, hb, hml, hown, hts⟩ (c_Law_practise_xg l E D cI cO cZ z0 M8 hst hf (R := 1) (Nat.le_refl _) (by decide) (by decide)) (gw_cwSW 2 hts (gT_gi0 wm_674) rfl rfl rfl (hT _ wm_22) (hT _ wm_672) (hT _ wm_673) ⟨rfl, rfl, rfl⟩ ⟨wq_672, wq_673, wq_22⟩ (by decide +kernel) ⟨Nat.le_of_ble_eq_true rfl, Nat.le_of_ble_eq_true rfl⟩) hF hG rfl hl.1 rfl (Nat.le_of_ble_eq_true rfl) d_law_82 ⟨(lb_rc (by omega)), (lb_rs (by omega))⟩) hG (fun r M12 H locs hp hG => ?_)
  rw [hp.1]
  replace hG := gw_nm hp.2.symm hG
  refine lv_ldc hx hb hown (hT _ wm_503) d_law_85 ?_
  refine lv_icmp_ne (tgt := 115) hx hb d_law_87 (by decide) (fun z_ => absurd (rfl) z_) (fun c_87 => ?_)
  refine lv_aload_n hx hb d_law_90 rfl (lv_at hl 7 rfl) ?_
  refine lv_bipush (v := 100) hx hb d_law_91 (by decide) ?_
  refine gw_calli (gw_runSW (As := [.ref o, .int 100]) (rest := []) ⟨hx, hb, hml, hown, hts⟩ (c_Law_practise_xr l E D cI cO cZ z0 M8 hst hf (R := 100) (by decide) (by decide)) (gw_cwSW 2 hts (gT_gi0 wm_674) rfl rfl rfl (hT _ wm_22) (hT _ wm_672) (hT _ wm_673) ⟨rfl, rfl, rfl⟩ ⟨wq_672, wq_673, wq_22⟩ (by decide +kernel) ⟨Nat.le_of_ble_eq_true rfl, Nat.le_of_ble_eq_true rfl⟩) hF hG rfl hl.1 rfl (Nat.le_of_ble_eq_true rfl) d_law_93 ⟨(lb_rc (by omega)), (lb_rs (by omega))⟩) hG (fun r M13 H locs hp hG => ?_)
  rw [hp.1]
  replace hG := gw_nm hp.2.symm hG
  refine lv_ldc hx hb hown (hT _ wm_502) d_law_96 ?_
  refine lv_icmp_ne (tgt := 115) hx hb d_law_98 (by decide) (fun z_ => absurd (rfl) z_) (fun c_98 => ?_)
  refine lv_aload_n hx hb d_law_101 rfl (lv_at hl 7 rfl) ?_
  refine lv_iconst (v := 0) hx hb d_law_102 (by decide) ?_
  refine gw_calli (gw_runSW (As := [.ref o, .int 0]) (rest := []) ⟨hx, hb, hml, hown, hts⟩ (c_Law_fatigue_x l E D cI cO cZ z0 M8 hst hf (i := 0) (Nat.le_refl _) (by decide)) (gw_cwSW 2 hts (gT_gi0 wm_653) rfl rfl rfl (hT _ wm_22) (hT _ wm_651) (hT _ wm_652) ⟨rfl, rfl, rfl⟩ ⟨wq_651, wq_652, wq_22⟩ (by decide +kernel) ⟨Nat.le_of_ble_eq_true rfl, Nat.le_of_ble_eq_true rfl⟩) hF hG rfl hl.1 rfl (Nat.le_of_ble_eq_true rfl) d_law_103 ⟨(lb_rc (by omega)), (lb_rs (by omega))⟩) hG (fun r M14 H locs hp hG => ?_)
  rw [hp.1]
  replace hG := gw_nm hp.2.symm hG
  refine lv_ldc hx hb hown (hT _ wm_502) d_law_106 ?_
  refine lv_icmp_ne (tgt := 115) hx hb d_law_108 (by decide) (fun z_ => absurd (rfl) z_) (fun c_108 => ?_)
  refine lv_iconst (v := 1) hx hb d_law_111 (by decide) ?_
  refine lv_goto (tgt := 116) hx hb d_law_112 (by decide) ?_
  refine lv_istore (lv' := [(9, .int 1), (8, .ref a5), (7, .ref a4), (6, .ref a3), (5, .ref a2), (4, .ref a1), (3, .ref a0), (2, .int (nI n)), (1, .ref o), (0, .ref sb)]) hx hb d_law_116 hl (by decide) rfl (fun ls hl => ?_)
  exact lb_hands (A := lb_A a0 a1 a2 a3 a4 a5) C (by omega) (by omega) hn2 hn7 (by omega) (by omega) (lb_Ap n01 n02 n03 n04 n05 n12 n13 n14 n15 n23 n24 n25 n34 n35 n45) hf ⟨x05, x15, x25, x35, x45, x55⟩ hret hG (lv_sub hl [9, 8, 7, 6, 5, 4, 3, 2, 1, 0] rfl)
