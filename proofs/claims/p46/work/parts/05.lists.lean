theorem d_AbstractCollection_init_0 : decode b_AbstractCollection_init 0 = .ok (.aload_n 0, 1) := by decide +kernel
theorem wm_68 : Cond.methodLink "java/util/AbstractCollection" 1 ⟨"java/lang/Object", "<init>", "()V"⟩ ∈ gT := gT_m (List.mem_of_getElem? (i := 68) (by decide +kernel)) (by decide +kernel)
theorem wm_55 : Cond.instanceMethod ⟨"java/lang/Object", "<init>", "()V"⟩ ∈ gT := gT_m (List.mem_of_getElem? (i := 55) (by decide +kernel)) (by decide +kernel)
theorem wm_56 : Cond.code ⟨"java/lang/Object", "<init>", "()V"⟩ object_method_1_code 1 none ∈ gT := gT_m (List.mem_of_getElem? (i := 56) (by decide +kernel)) (by decide +kernel)
theorem d_AbstractCollection_init_1 : decode b_AbstractCollection_init 1 = .ok (.invokespecial 1, 3) := by decide +kernel
theorem d_AbstractCollection_init_4 : decode b_AbstractCollection_init 4 = .ok (.return_, 1) := by decide +kernel
theorem d_AbstractList_init_0 : decode b_AbstractList_init 0 = .ok (.aload_n 0, 1) := by decide +kernel
theorem wm_67 : Cond.code ⟨"java/util/AbstractCollection", "<init>", "()V"⟩ prog_28_method_1_code 1 none ∈ gT := gT_m (List.mem_of_getElem? (i := 67) (by decide +kernel)) (by decide +kernel)
theorem wm_24 : Cond.initialized "java/util/AbstractCollection" ∈ gT := gT_m (List.mem_of_getElem? (i := 24) (by decide +kernel)) (by decide +kernel)
theorem wm_65 : Cond.methodLink "java/util/AbstractList" 1 ⟨"java/util/AbstractCollection", "<init>", "()V"⟩ ∈ gT := gT_m (List.mem_of_getElem? (i := 65) (by decide +kernel)) (by decide +kernel)
theorem d_AbstractList_init_1 : decode b_AbstractList_init 1 = .ok (.invokespecial 1, 3) := by decide +kernel
theorem wm_66 : Cond.instanceMethod ⟨"java/util/AbstractCollection", "<init>", "()V"⟩ ∈ gT := gT_m (List.mem_of_getElem? (i := 66) (by decide +kernel)) (by decide +kernel)
theorem d_AbstractList_init_4 : decode b_AbstractList_init 4 = .ok (.aload_n 0, 1) := by decide +kernel
theorem d_AbstractList_init_5 : decode b_AbstractList_init 5 = .ok (.iconst 0, 1) := by decide +kernel
theorem wm_73 : Cond.fieldLink "java/util/AbstractList" 7 "java/util/AbstractList" "modCount" "I" ∈ gT := gT_m (List.mem_of_getElem? (i := 73) (by decide +kernel)) (by decide +kernel)
theorem d_AbstractList_init_6 : decode b_AbstractList_init 6 = .ok (.putfield 7, 3) := by decide +kernel
theorem d_AbstractList_init_9 : decode b_AbstractList_init 9 = .ok (.return_, 1) := by decide +kernel
theorem d_AL_init_0 : decode b_AL_init 0 = .ok (.aload_n 0, 1) := by decide +kernel
theorem wm_64 : Cond.code ⟨"java/util/AbstractList", "<init>", "()V"⟩ prog_29_method_1_code 1 none ∈ gT := gT_m (List.mem_of_getElem? (i := 64) (by decide +kernel)) (by decide +kernel)
theorem wm_25 : Cond.initialized "java/util/AbstractList" ∈ gT := gT_m (List.mem_of_getElem? (i := 25) (by decide +kernel)) (by decide +kernel)
theorem wm_62 : Cond.methodLink "java/util/ArrayList" 1 ⟨"java/util/AbstractList", "<init>", "()V"⟩ ∈ gT := gT_m (List.mem_of_getElem? (i := 62) (by decide +kernel)) (by decide +kernel)
theorem d_AL_init_1 : decode b_AL_init 1 = .ok (.invokespecial 1, 3) := by decide +kernel
theorem wm_63 : Cond.instanceMethod ⟨"java/util/AbstractList", "<init>", "()V"⟩ ∈ gT := gT_m (List.mem_of_getElem? (i := 63) (by decide +kernel)) (by decide +kernel)
theorem d_AL_init_4 : decode b_AL_init 4 = .ok (.aload_n 0, 1) := by decide +kernel
theorem wm_69 : Cond.fieldLink "java/util/ArrayList" 39 "java/util/ArrayList" "DEFAULTCAPACITY_EMPTY_ELEMENTDATA" "[Ljava/lang/Object;" ∈ gT := gT_m (List.mem_of_getElem? (i := 69) (by decide +kernel)) (by decide +kernel)
theorem d_AL_init_5 : decode b_AL_init 5 = .ok (.getstatic 39, 3) := by decide +kernel
theorem wm_71 : Cond.fieldLink "java/util/ArrayList" 9 "java/util/ArrayList" "elementData" "[Ljava/lang/Object;" ∈ gT := gT_m (List.mem_of_getElem? (i := 71) (by decide +kernel)) (by decide +kernel)
theorem d_AL_init_8 : decode b_AL_init 8 = .ok (.putfield 9, 3) := by decide +kernel
theorem d_AL_init_11 : decode b_AL_init 11 = .ok (.return_, 1) := by decide +kernel
theorem d_AL_size_0 : decode b_AL_size 0 = .ok (.aload_n 0, 1) := by decide +kernel
theorem wm_72 : Cond.fieldLink "java/util/ArrayList" 48 "java/util/ArrayList" "size" "I" ∈ gT := gT_m (List.mem_of_getElem? (i := 72) (by decide +kernel)) (by decide +kernel)
theorem d_AL_size_1 : decode b_AL_size 1 = .ok (.getfield 48, 3) := by decide +kernel
theorem d_AL_size_4 : decode b_AL_size 4 = .ok (.ireturn, 1) := by decide +kernel
theorem d_Preconditions_checkIndex_0 : decode b_Preconditions_checkIndex 0 = .ok (.iload_n 0, 1) := by decide +kernel
theorem d_Preconditions_checkIndex_1 : decode b_Preconditions_checkIndex 1 = .ok (.ifCond .lt 8, 3) := by decide +kernel
theorem d_Preconditions_checkIndex_4 : decode b_Preconditions_checkIndex 4 = .ok (.iload_n 0, 1) := by decide +kernel
theorem d_Preconditions_checkIndex_5 : decode b_Preconditions_checkIndex 5 = .ok (.iload_n 1, 1) := by decide +kernel
theorem d_Preconditions_checkIndex_6 : decode b_Preconditions_checkIndex 6 = .ok (.if_icmp .lt 10, 3) := by decide +kernel
theorem d_Preconditions_checkIndex_16 : decode b_Preconditions_checkIndex 16 = .ok (.iload_n 0, 1) := by decide +kernel
theorem d_Preconditions_checkIndex_17 : decode b_Preconditions_checkIndex 17 = .ok (.ireturn, 1) := by decide +kernel
theorem d_Objects_checkIndex_0 : decode b_Objects_checkIndex 0 = .ok (.iload_n 0, 1) := by decide +kernel
theorem d_Objects_checkIndex_1 : decode b_Objects_checkIndex 1 = .ok (.iload_n 1, 1) := by decide +kernel
theorem d_Objects_checkIndex_2 : decode b_Objects_checkIndex 2 = .ok (.aconst_null, 1) := by decide +kernel
theorem wm_368 : Cond.code ⟨"jdk/internal/util/Preconditions", "checkIndex", "(IILjava/util/function/BiFunction;)I"⟩ prog_39_method_11_code 3 (some .int) ∈ gT := gT_m (List.mem_of_getElem? (i := 368) (by decide +kernel)) (by decide +kernel)
theorem wm_45 : Cond.initialized "jdk/internal/util/Preconditions" ∈ gT := gT_m (List.mem_of_getElem? (i := 45) (by decide +kernel)) (by decide +kernel)
theorem wm_366 : Cond.methodLink "java/util/Objects" 105 ⟨"jdk/internal/util/Preconditions", "checkIndex", "(IILjava/util/function/BiFunction;)I"⟩ ∈ gT := gT_m (List.mem_of_getElem? (i := 366) (by decide +kernel)) (by decide +kernel)
theorem d_Objects_checkIndex_3 : decode b_Objects_checkIndex 3 = .ok (.invokestatic 105, 3) := by decide +kernel
theorem wm_367 : Cond.static ⟨"jdk/internal/util/Preconditions", "checkIndex", "(IILjava/util/function/BiFunction;)I"⟩ ∈ gT := gT_m (List.mem_of_getElem? (i := 367) (by decide +kernel)) (by decide +kernel)
theorem d_Objects_checkIndex_6 : decode b_Objects_checkIndex 6 = .ok (.ireturn, 1) := by decide +kernel
theorem d_AL_elementData_0 : decode b_AL_elementData 0 = .ok (.aload_n 0, 1) := by decide +kernel
theorem d_AL_elementData_1 : decode b_AL_elementData 1 = .ok (.getfield 9, 3) := by decide +kernel
theorem d_AL_elementData_4 : decode b_AL_elementData 4 = .ok (.iload_n 1, 1) := by decide +kernel
theorem d_AL_elementData_5 : decode b_AL_elementData 5 = .ok (.aaload, 1) := by decide +kernel
theorem d_AL_elementData_6 : decode b_AL_elementData 6 = .ok (.areturn, 1) := by decide +kernel
theorem d_AL_get_0 : decode b_AL_get 0 = .ok (.iload_n 1, 1) := by decide +kernel
theorem d_AL_get_1 : decode b_AL_get 1 = .ok (.aload_n 0, 1) := by decide +kernel
theorem d_AL_get_2 : decode b_AL_get 2 = .ok (.getfield 48, 3) := by decide +kernel
theorem wm_365 : Cond.code ⟨"java/util/Objects", "checkIndex", "(II)I"⟩ prog_35_method_17_code 2 (some .int) ∈ gT := gT_m (List.mem_of_getElem? (i := 365) (by decide +kernel)) (by decide +kernel)
theorem wm_44 : Cond.initialized "java/util/Objects" ∈ gT := gT_m (List.mem_of_getElem? (i := 44) (by decide +kernel)) (by decide +kernel)
theorem wm_363 : Cond.methodLink "java/util/ArrayList" 118 ⟨"java/util/Objects", "checkIndex", "(II)I"⟩ ∈ gT := gT_m (List.mem_of_getElem? (i := 363) (by decide +kernel)) (by decide +kernel)
theorem d_AL_get_5 : decode b_AL_get 5 = .ok (.invokestatic 118, 3) := by decide +kernel
theorem wm_364 : Cond.static ⟨"java/util/Objects", "checkIndex", "(II)I"⟩ ∈ gT := gT_m (List.mem_of_getElem? (i := 364) (by decide +kernel)) (by decide +kernel)
theorem d_AL_get_8 : decode b_AL_get 8 = .ok (.pop, 1) := by decide +kernel
theorem d_AL_get_9 : decode b_AL_get 9 = .ok (.aload_n 0, 1) := by decide +kernel
theorem d_AL_get_10 : decode b_AL_get 10 = .ok (.iload_n 1, 1) := by decide +kernel
theorem wm_372 : Cond.code ⟨"java/util/ArrayList", "elementData", "(I)Ljava/lang/Object;"⟩ prog_30_method_18_code 2 (some (.object "java/lang/Object")) ∈ gT := gT_m (List.mem_of_getElem? (i := 372) (by decide +kernel)) (by decide +kernel)
theorem wm_26 : Cond.initialized "java/util/ArrayList" ∈ gT := gT_m (List.mem_of_getElem? (i := 26) (by decide +kernel)) (by decide +kernel)
theorem wm_369 : Cond.methodLink "java/util/ArrayList" 123 ⟨"java/util/ArrayList", "elementData", "(I)Ljava/lang/Object;"⟩ ∈ gT := gT_m (List.mem_of_getElem? (i := 369) (by decide +kernel)) (by decide +kernel)
theorem d_AL_get_11 : decode b_AL_get 11 = .ok (.invokevirtual 123, 3) := by decide +kernel
theorem wm_370 : Cond.instanceMethod ⟨"java/util/ArrayList", "elementData", "(I)Ljava/lang/Object;"⟩ ∈ gT := gT_m (List.mem_of_getElem? (i := 370) (by decide +kernel)) (by decide +kernel)
theorem wm_371 : Cond.selects "java/util/ArrayList" ⟨"java/util/ArrayList", "elementData", "(I)Ljava/lang/Object;"⟩ ⟨"java/util/ArrayList", "elementData", "(I)Ljava/lang/Object;"⟩ ∈ gT := gT_m (List.mem_of_getElem? (i := 371) (by decide +kernel)) (by decide +kernel)
theorem d_AL_get_14 : decode b_AL_get 14 = .ok (.areturn, 1) := by decide +kernel
theorem d_AL_grow_2_0 : decode b_AL_grow_2 0 = .ok (.aload_n 0, 1) := by decide +kernel
theorem d_AL_grow_2_1 : decode b_AL_grow_2 1 = .ok (.getfield 9, 3) := by decide +kernel
theorem d_AL_grow_2_4 : decode b_AL_grow_2 4 = .ok (.arraylength, 1) := by decide +kernel
theorem d_AL_grow_2_5 : decode b_AL_grow_2 5 = .ok (.istore_n 2, 1) := by decide +kernel
theorem d_AL_grow_2_6 : decode b_AL_grow_2 6 = .ok (.iload_n 2, 1) := by decide +kernel
theorem d_AL_grow_2_7 : decode b_AL_grow_2 7 = .ok (.ifCond .gt 13, 3) := by decide +kernel
theorem d_AL_grow_2_10 : decode b_AL_grow_2 10 = .ok (.aload_n 0, 1) := by decide +kernel
theorem d_AL_grow_2_11 : decode b_AL_grow_2 11 = .ok (.getfield 9, 3) := by decide +kernel
theorem d_AL_grow_2_14 : decode b_AL_grow_2 14 = .ok (.getstatic 39, 3) := by decide +kernel
theorem d_AL_grow_2_17 : decode b_AL_grow_2 17 = .ok (.if_acmp .eq 28, 3) := by decide +kernel
theorem d_AL_grow_2_45 : decode b_AL_grow_2 45 = .ok (.aload_n 0, 1) := by decide +kernel
theorem d_AL_grow_2_46 : decode b_AL_grow_2 46 = .ok (.bipush 10, 2) := by decide +kernel
theorem d_AL_grow_2_48 : decode b_AL_grow_2 48 = .ok (.iload_n 1, 1) := by decide +kernel
theorem wm_234 : Cond.methodLink "java/util/ArrayList" 79 ⟨"java/lang/Math", "max", "(II)I"⟩ ∈ gT := gT_m (List.mem_of_getElem? (i := 234) (by decide +kernel)) (by decide +kernel)
theorem wm_195 : Cond.static ⟨"java/lang/Math", "max", "(II)I"⟩ ∈ gT := gT_m (List.mem_of_getElem? (i := 195) (by decide +kernel)) (by decide +kernel)
theorem wm_32 : Cond.initialized "java/lang/Math" ∈ gT := gT_m (List.mem_of_getElem? (i := 32) (by decide +kernel)) (by decide +kernel)
theorem wm_196 : Cond.code ⟨"java/lang/Math", "max", "(II)I"⟩ prog_22_method_65_code 2 (some .int) ∈ gT := gT_m (List.mem_of_getElem? (i := 196) (by decide +kernel)) (by decide +kernel)
theorem d_AL_grow_2_49 : decode b_AL_grow_2 49 = .ok (.invokestatic 79, 3) := by decide +kernel
theorem wm_235 : Cond.classLink "java/util/ArrayList" 7 "java/lang/Object" ∈ gT := gT_m (List.mem_of_getElem? (i := 235) (by decide +kernel)) (by decide +kernel)
theorem d_AL_grow_2_52 : decode b_AL_grow_2 52 = .ok (.anewarray 7, 3) := by decide +kernel
theorem d_AL_grow_2_55 : decode b_AL_grow_2 55 = .ok (.dup_x1, 1) := by decide +kernel
theorem d_AL_grow_2_56 : decode b_AL_grow_2 56 = .ok (.putfield 9, 3) := by decide +kernel
theorem d_AL_grow_2_59 : decode b_AL_grow_2 59 = .ok (.areturn, 1) := by decide +kernel
theorem d_AL_grow_0 : decode b_AL_grow 0 = .ok (.aload_n 0, 1) := by decide +kernel
theorem d_AL_grow_1 : decode b_AL_grow 1 = .ok (.aload_n 0, 1) := by decide +kernel
theorem d_AL_grow_2 : decode b_AL_grow 2 = .ok (.getfield 48, 3) := by decide +kernel
theorem d_AL_grow_5 : decode b_AL_grow 5 = .ok (.iconst 1, 1) := by decide +kernel
theorem d_AL_grow_6 : decode b_AL_grow 6 = .ok (.iadd, 1) := by decide +kernel
theorem wm_190 : Cond.code ⟨"java/util/ArrayList", "grow", "(I)[Ljava/lang/Object;"⟩ prog_30_method_6_code 4 (some (.array (.object "java/lang/Object"))) ∈ gT := gT_m (List.mem_of_getElem? (i := 190) (by decide +kernel)) (by decide +kernel)
theorem wm_187 : Cond.methodLink "java/util/ArrayList" 69 ⟨"java/util/ArrayList", "grow", "(I)[Ljava/lang/Object;"⟩ ∈ gT := gT_m (List.mem_of_getElem? (i := 187) (by decide +kernel)) (by decide +kernel)
theorem d_AL_grow_7 : decode b_AL_grow 7 = .ok (.invokevirtual 69, 3) := by decide +kernel
theorem wm_189 : Cond.instanceMethod ⟨"java/util/ArrayList", "grow", "(I)[Ljava/lang/Object;"⟩ ∈ gT := gT_m (List.mem_of_getElem? (i := 189) (by decide +kernel)) (by decide +kernel)
theorem wm_2 : Cond.selects "java/util/ArrayList" ⟨"java/util/ArrayList", "grow", "(I)[Ljava/lang/Object;"⟩ ⟨"java/util/ArrayList", "grow", "(I)[Ljava/lang/Object;"⟩ ∈ gT := gT_m (List.mem_of_getElem? (i := 2) (by decide +kernel)) (by decide +kernel)
theorem d_AL_grow_10 : decode b_AL_grow 10 = .ok (.areturn, 1) := by decide +kernel
theorem d_AL_add_2_0 : decode b_AL_add_2 0 = .ok (.iload_n 3, 1) := by decide +kernel
theorem d_AL_add_2_1 : decode b_AL_add_2 1 = .ok (.aload_n 2, 1) := by decide +kernel
theorem d_AL_add_2_2 : decode b_AL_add_2 2 = .ok (.arraylength, 1) := by decide +kernel
theorem d_AL_add_2_3 : decode b_AL_add_2 3 = .ok (.if_icmp .ne 8, 3) := by decide +kernel
theorem d_AL_add_2_11 : decode b_AL_add_2 11 = .ok (.aload_n 2, 1) := by decide +kernel
theorem d_AL_add_2_12 : decode b_AL_add_2 12 = .ok (.iload_n 3, 1) := by decide +kernel
theorem d_AL_add_2_13 : decode b_AL_add_2 13 = .ok (.aload_n 1, 1) := by decide +kernel
theorem d_AL_add_2_14 : decode b_AL_add_2 14 = .ok (.aastore, 1) := by decide +kernel
theorem d_AL_add_2_15 : decode b_AL_add_2 15 = .ok (.aload_n 0, 1) := by decide +kernel
theorem d_AL_add_2_16 : decode b_AL_add_2 16 = .ok (.iload_n 3, 1) := by decide +kernel
theorem d_AL_add_2_17 : decode b_AL_add_2 17 = .ok (.iconst 1, 1) := by decide +kernel
theorem d_AL_add_2_18 : decode b_AL_add_2 18 = .ok (.iadd, 1) := by decide +kernel
theorem d_AL_add_2_19 : decode b_AL_add_2 19 = .ok (.putfield 48, 3) := by decide +kernel
theorem d_AL_add_2_22 : decode b_AL_add_2 22 = .ok (.return_, 1) := by decide +kernel
theorem d_AL_add_2_6 : decode b_AL_add_2 6 = .ok (.aload_n 0, 1) := by decide +kernel
theorem wm_186 : Cond.code ⟨"java/util/ArrayList", "grow", "()[Ljava/lang/Object;"⟩ prog_30_method_7_code 1 (some (.array (.object "java/lang/Object"))) ∈ gT := gT_m (List.mem_of_getElem? (i := 186) (by decide +kernel)) (by decide +kernel)
theorem wm_183 : Cond.methodLink "java/util/ArrayList" 129 ⟨"java/util/ArrayList", "grow", "()[Ljava/lang/Object;"⟩ ∈ gT := gT_m (List.mem_of_getElem? (i := 183) (by decide +kernel)) (by decide +kernel)
theorem d_AL_add_2_7 : decode b_AL_add_2 7 = .ok (.invokevirtual 129, 3) := by decide +kernel
theorem wm_185 : Cond.instanceMethod ⟨"java/util/ArrayList", "grow", "()[Ljava/lang/Object;"⟩ ∈ gT := gT_m (List.mem_of_getElem? (i := 185) (by decide +kernel)) (by decide +kernel)
theorem wm_1 : Cond.selects "java/util/ArrayList" ⟨"java/util/ArrayList", "grow", "()[Ljava/lang/Object;"⟩ ⟨"java/util/ArrayList", "grow", "()[Ljava/lang/Object;"⟩ ∈ gT := gT_m (List.mem_of_getElem? (i := 1) (by decide +kernel)) (by decide +kernel)
theorem d_AL_add_2_10 : decode b_AL_add_2 10 = .ok (.astore_n 2, 1) := by decide +kernel
set_option maxHeartbeats 4000000 in
set_option maxRecDepth 100000 in
theorem c_AbstractCollection_init (l : Launch) (E : Nat) (D : va_G) (cI cO cZ : ClassId) (z0 : Nat) (M : gM) (a : Nat) : Met l y_AbstractCollection_init (Cond.code y_AbstractCollection_init b_AbstractCollection_init 1 none :: gT) ({ frames := 1, cells := 0, slots := 0, locals := 12 }) (gw_Pc E D cI cO cZ z0 M [.ref a]) (gw_Qv E D (fun M' => M' = M)) 0 0 (gw_A E) := by
  refine gw_ofW (cc := b_AbstractCollection_init) (maxL := 1) (ret := none) (by decide) rfl (Nat.le_of_ble_eq_true rfl) ?_
  intro p e s m args below meth c hx hb hr hml hts hown hlk hnm hF hG ls hl
  have hT : ∀ w ∈ gT, w.before args s = true := fun w h => hts w (List.mem_cons_of_mem _ h)
  have hK := hF.1
  have hl : lv_has ls 1 [(0, .ref a)] := hl
  refine lv_aload_n hx hb d_AbstractCollection_init_0 rfl (lv_at hl 0 rfl) ?_
  refine gw_objI hx hb hown (hml.trans hl.1.symm) (hT _ wm_68) (hT _ wm_55) (hT _ wm_56) (Nat.le_of_ble_eq_true rfl) (Nat.le_of_ble_eq_true rfl) d_AbstractCollection_init_1 ?_
  exact gw_vret hx hb hr hlk hG (rfl) (Nat.le_of_ble_eq_true rfl) (Nat.le_of_ble_eq_true rfl) d_AbstractCollection_init_4
set_option maxHeartbeats 4000000 in
set_option maxRecDepth 100000 in
theorem c_AbstractList_init (l : Launch) (E : Nat) (D : va_G) (cI cO cZ : ClassId) (z0 : Nat) (M : gM) {a : Nat} {k : Int32} {x y : Value} (ha : M a = some (.inr (1, [.int k, x, y]))) : Met l y_AbstractList_init (Cond.code y_AbstractList_init b_AbstractList_init 1 none :: gT) ({ frames := 2, cells := 0, slots := 0, locals := 32 }) (gw_Pc E D cI cO cZ z0 M [.ref a]) (gw_Qv E D (fun M' => M' = gw_up M a (.inr (1, [.int 0, x, y])))) 0 0 (gw_A E) := by
  refine gw_ofW (cc := b_AbstractList_init) (maxL := 1) (ret := none) (by decide) rfl (Nat.le_of_ble_eq_true rfl) ?_
  intro p e s m args below meth c hx hb hr hml hts hown hlk hnm hF hG ls hl
  have hT : ∀ w ∈ gT, w.before args s = true := fun w h => hts w (List.mem_cons_of_mem _ h)
  have hK := hF.1
  have hl : lv_has ls 1 [(0, .ref a)] := hl
  refine lv_aload_n hx hb d_AbstractList_init_0 rfl (lv_at hl 0 rfl) ?_
  refine gw_callv (gw_runI (As := []) (rest := []) ⟨hx, hb, hml, hown, hts⟩ (c_AbstractCollection_init l E D cI cO cZ z0 M a) (cwI 0 hts (gT_gi wm_67) rfl rfl rfl (hT _ wm_24) (hT _ wm_65) (hT _ wm_66) rfl (by decide +kernel) ⟨Nat.le_of_ble_eq_true rfl, Nat.le_of_ble_eq_true rfl⟩) hF hG rfl hl.1 rfl (Nat.le_of_ble_eq_true rfl) d_AbstractList_init_1 ⟨Nat.le_of_ble_eq_true rfl, Nat.le_of_ble_eq_true rfl⟩) hG (fun M1 H locs hp hG => ?_)
  replace hG := gw_nm hp.symm hG
  refine lv_aload_n hx hb d_AbstractList_init_4 rfl (lv_at hl 0 rfl) ?_
  refine lv_iconst (v := 0) hx hb d_AbstractList_init_5 (by decide) ?_
  refine gw_put (v := .int 0) hx hb hT i_List t_List t_List_ok n_List hown hK hG ha rfl 0 (by decide) (hT _ wm_73) (fun _ h => h) rfl rfl rfl (Nat.le_of_ble_eq_true rfl) d_AbstractList_init_6 (fun H locs hG => ?_)
  obtain ⟨M2, e_M2⟩ : ∃ Y_ : gM, Y_ = gw_up M a (.inr (1, [.int 0, x, y])) := ⟨_, rfl⟩
  replace hG := gw_nm e_M2 hG
  have hM2_a := (congrFun e_M2 a).trans gw_hit
  exact gw_vret hx hb hr hlk hG (e_M2) (Nat.le_of_ble_eq_true rfl) (Nat.le_of_ble_eq_true rfl) d_AbstractList_init_9
set_option maxHeartbeats 4000000 in
set_option maxRecDepth 100000 in
theorem c_AL_init (l : Launch) (E : Nat) (D : va_G) (cI cO cZ : ClassId) (z0 : Nat) (M : gM) {a : Nat} (ha : M a = some (.inr (1, [.int 0, .null, .int 0]))) : Met l y_AL_init (Cond.code y_AL_init b_AL_init 1 none :: gT) ({ frames := 3, cells := 0, slots := 0, locals := 52 }) (gw_Pc E D cI cO cZ z0 M [.ref a]) (gw_Qv E D (fun M' => M' = gw_up M a (.inr (1, [.int 0, .ref z0, .int 0])))) 0 0 (gw_A E) := by
  refine gw_ofW (cc := b_AL_init) (maxL := 1) (ret := none) (by decide) rfl (Nat.le_of_ble_eq_true rfl) ?_
  intro p e s m args below meth c hx hb hr hml hts hown hlk hnm hF hG ls hl
  have hT : ∀ w ∈ gT, w.before args s = true := fun w h => hts w (List.mem_cons_of_mem _ h)
  have hK := hF.1
  have hl : lv_has ls 1 [(0, .ref a)] := hl
  refine lv_aload_n hx hb d_AL_init_0 rfl (lv_at hl 0 rfl) ?_
  refine gw_callv (gw_runI (As := []) (rest := []) ⟨hx, hb, hml, hown, hts⟩ (c_AbstractList_init l E D cI cO cZ z0 M ha) (cwI 0 hts (gT_gi wm_64) rfl rfl rfl (hT _ wm_25) (hT _ wm_62) (hT _ wm_63) rfl (by decide +kernel) ⟨Nat.le_of_ble_eq_true rfl, Nat.le_of_ble_eq_true rfl⟩) hF hG rfl hl.1 rfl (Nat.le_of_ble_eq_true rfl) d_AL_init_1 ⟨Nat.le_of_ble_eq_true rfl, Nat.le_of_ble_eq_true rfl⟩) hG (fun M1 H locs hp hG => ?_)
  have hM1_a := (congrFun hp a).trans gw_hit
  refine lv_aload_n hx hb d_AL_init_4 rfl (lv_at hl 0 rfl) ?_
  refine va_gets hx hb hF.2.2.1 hG.2.2 hown (hT _ wm_69) (fun _ h => h) d_AL_init_5 ?_
  refine gw_put (v := .ref z0) hx hb hT i_List t_List t_List_ok n_List hown hK hG hM1_a rfl 1 (by decide) (hT _ wm_71) (fun _ h => h) rfl rfl rfl (Nat.le_of_ble_eq_true rfl) d_AL_init_8 (fun H locs hG => ?_)
  obtain ⟨M2, e_M2⟩ : ∃ Y_ : gM, Y_ = gw_up M1 a (.inr (1, [.int 0, .ref z0, .int 0])) := ⟨_, rfl⟩
  replace hG := gw_nm e_M2 hG
  have hM2_a := (congrFun e_M2 a).trans gw_hit
  exact gw_vret hx hb hr hlk hG (by rw [e_M2, hp, gw_twice]) (Nat.le_of_ble_eq_true rfl) (Nat.le_of_ble_eq_true rfl) d_AL_init_11
set_option maxHeartbeats 4000000 in
set_option maxRecDepth 100000 in
theorem c_AL_size (l : Launch) (E : Nat) (D : va_G) (cI cO cZ : ClassId) (z0 : Nat) (M : gM) {a : Nat} {k n : Int32} {x : Value} (ha : M a = some (.inr (1, [.int k, x, .int n]))) : Met l y_AL_size (Cond.code y_AL_size b_AL_size 1 (some .int) :: gT) ({ frames := 0, cells := 0, slots := 0, locals := 0 }) (gw_Pc E D cI cO cZ z0 M [.ref a]) (gw_Qi E D (fun r M' => r = n ∧ M' = M)) 0 0 (gw_A E) := by
  refine gw_ofW (cc := b_AL_size) (maxL := 1) (ret := (some .int)) (by decide) rfl (Nat.le_of_ble_eq_true rfl) ?_
  intro p e s m args below meth c hx hb hr hml hts hown hlk hnm hF hG ls hl
  have hT : ∀ w ∈ gT, w.before args s = true := fun w h => hts w (List.mem_cons_of_mem _ h)
  have hK := hF.1
  have hl : lv_has ls 1 [(0, .ref a)] := hl
  refine lv_aload_n hx hb d_AL_size_0 rfl (lv_at hl 0 rfl) ?_
  refine gw_get hx hb hT i_List hown hK hG ha rfl 2 (by decide) (hT _ wm_72) (fun _ h => h) rfl d_AL_size_1 ?_
  exact gw_iret (v := n) hx hb hr hlk hG (⟨rfl, rfl⟩) (Nat.le_of_ble_eq_true rfl) (Nat.le_of_ble_eq_true rfl) d_AL_size_4
set_option maxHeartbeats 4000000 in
set_option maxRecDepth 100000 in
theorem c_Preconditions_checkIndex (l : Launch) (E : Nat) (D : va_G) (cI cO cZ : ClassId) (z0 : Nat) (M : gM) {i n : Int32} (h0 : ¬ i < 0) (h1 : i < n) : Met l y_Preconditions_checkIndex (Cond.code y_Preconditions_checkIndex b_Preconditions_checkIndex 3 (some .int) :: gT) ({ frames := 0, cells := 0, slots := 0, locals := 0 }) (gw_Pc E D cI cO cZ z0 M [.int i, .int n, .null]) (gw_Qi E D (fun r M' => r = i ∧ M' = M)) 0 0 (gw_A E) := by
  refine gw_ofW (cc := b_Preconditions_checkIndex) (maxL := 3) (ret := (some .int)) (by decide) rfl (Nat.le_of_ble_eq_true rfl) ?_
  intro p e s m args below meth c hx hb hr hml hts hown hlk hnm hF hG ls hl
  have hT : ∀ w ∈ gT, w.before args s = true := fun w h => hts w (List.mem_cons_of_mem _ h)
  have hK := hF.1
  have hl : lv_has ls 3 [(0, .int i), (1, .int n), (2, .null)] := hl
  refine lv_iload_n hx hb d_Preconditions_checkIndex_0 rfl (lv_at hl 0 rfl) ?_
  refine lv_if_lt (tgt := 9) hx hb d_Preconditions_checkIndex_1 (by decide) (fun z_ => absurd z_ (h0)) (fun c_1 => ?_)
  refine lv_iload_n hx hb d_Preconditions_checkIndex_4 rfl (lv_at hl 0 rfl) ?_
  refine lv_iload_n hx hb d_Preconditions_checkIndex_5 rfl (lv_at hl 1 rfl) ?_
  refine lv_icmp_lt (tgt := 16) hx hb d_Preconditions_checkIndex_6 (by decide) (fun c_6 => ?_) (fun z_ => absurd (h1) z_)
  refine lv_iload_n hx hb d_Preconditions_checkIndex_16 rfl (lv_at hl 0 rfl) ?_
  exact gw_iret (v := i) hx hb hr hlk hG (⟨rfl, rfl⟩) (Nat.le_of_ble_eq_true rfl) (Nat.le_of_ble_eq_true rfl) d_Preconditions_checkIndex_17
set_option maxHeartbeats 4000000 in
set_option maxRecDepth 100000 in
theorem c_Objects_checkIndex (l : Launch) (E : Nat) (D : va_G) (cI cO cZ : ClassId) (z0 : Nat) (M : gM) {i n : Int32} (h0 : ¬ i < 0) (h1 : i < n) : Met l y_Objects_checkIndex (Cond.code y_Objects_checkIndex b_Objects_checkIndex 2 (some .int) :: gT) ({ frames := 1, cells := 0, slots := 0, locals := 22 }) (gw_Pc E D cI cO cZ z0 M [.int i, .int n]) (gw_Qi E D (fun r M' => r = i ∧ M' = M)) 0 0 (gw_A E) := by
  refine gw_ofW (cc := b_Objects_checkIndex) (maxL := 2) (ret := (some .int)) (by decide) rfl (Nat.le_of_ble_eq_true rfl) ?_
  intro p e s m args below meth c hx hb hr hml hts hown hlk hnm hF hG ls hl
  have hT : ∀ w ∈ gT, w.before args s = true := fun w h => hts w (List.mem_cons_of_mem _ h)
  have hK := hF.1
  have hl : lv_has ls 2 [(0, .int i), (1, .int n)] := hl
  refine lv_iload_n hx hb d_Objects_checkIndex_0 rfl (lv_at hl 0 rfl) ?_
  refine lv_iload_n hx hb d_Objects_checkIndex_1 rfl (lv_at hl 1 rfl) ?_
  refine lv_null hx hb d_Objects_checkIndex_2 ?_
  refine gw_calli (gw_runS (As := [.int i, .int n, .null]) (rest := []) ⟨hx, hb, hml, hown, hts⟩ (c_Preconditions_checkIndex l E D cI cO cZ z0 M h0 h1) (gw_cwS 3 hts (gT_gi wm_368) rfl rfl rfl (hT _ wm_45) (hT _ wm_366) (hT _ wm_367) (by decide +kernel) ⟨Nat.le_of_ble_eq_true rfl, Nat.le_of_ble_eq_true rfl⟩) hF hG rfl hl.1 rfl (Nat.le_of_ble_eq_true rfl) d_Objects_checkIndex_3 ⟨Nat.le_of_ble_eq_true rfl, Nat.le_of_ble_eq_true rfl⟩) hG (fun r M1 H locs hp hG => ?_)
  rw [hp.1]
  replace hG := gw_nm hp.2.symm hG
  exact gw_iret (v := i) hx hb hr hlk hG (⟨rfl, rfl⟩) (Nat.le_of_ble_eq_true rfl) (Nat.le_of_ble_eq_true rfl) d_Objects_checkIndex_6
set_option maxHeartbeats 4000000 in
set_option maxRecDepth 100000 in
theorem c_AL_elementData (l : Launch) (E : Nat) (D : va_G) (cI cO cZ : ClassId) (z0 : Nat) (M : gM) {a t q cap : Nat} {k n i : Int32} {g : Nat → Option Nat} (ha : M a = some (.inr (1, [.int k, .ref t, .int n]))) (ht : M t = some (.inl (cO, cap, .inr (.inr (.inr (.inr g)))))) (hi : vp_in i cap) (hg : g i.toNatClampNeg = some q) : Met l y_AL_elementData (Cond.code y_AL_elementData b_AL_elementData 2 (some (.object "java/lang/Object")) :: gT) ({ frames := 0, cells := 0, slots := 0, locals := 0 }) (gw_Pc E D cI cO cZ z0 M [.ref a, .int i]) (gw_Qq E D (fun r M' => r = some q ∧ M' = M)) 0 0 (gw_A E) := by
  refine gw_ofW (cc := b_AL_elementData) (maxL := 2) (ret := (some (.object "java/lang/Object"))) (by decide) rfl (Nat.le_of_ble_eq_true rfl) ?_
  intro p e s m args below meth c hx hb hr hml hts hown hlk hnm hF hG ls hl
  have hT : ∀ w ∈ gT, w.before args s = true := fun w h => hts w (List.mem_cons_of_mem _ h)
  have hK := hF.1
  have hl : lv_has ls 2 [(0, .ref a), (1, .int i)] := hl
  refine lv_aload_n hx hb d_AL_elementData_0 rfl (lv_at hl 0 rfl) ?_
  refine gw_get hx hb hT i_List hown hK hG ha rfl 1 (by decide) (hT _ wm_71) (fun _ h => h) rfl d_AL_elementData_1 ?_
  refine lv_iload_n hx hb d_AL_elementData_4 rfl (lv_at hl 1 rfl) ?_
  refine gw_aldq hx hb hK hG ht hi d_AL_elementData_5 ?_
  rw [hg]
  exact gw_aret hx hb hr (Or.inl ⟨_, rfl⟩) hlk hG (⟨rfl, rfl⟩) (Nat.le_of_ble_eq_true rfl) (Nat.le_of_ble_eq_true rfl) d_AL_elementData_6
set_option maxHeartbeats 4000000 in
set_option maxRecDepth 100000 in
theorem c_AL_get (l : Launch) (E : Nat) (D : va_G) (cI cO cZ : ClassId) (z0 : Nat) (M : gM) {a t q cap : Nat} {k n i : Int32} {g : Nat → Option Nat} (ha : M a = some (.inr (1, [.int k, .ref t, .int n]))) (ht : M t = some (.inl (cO, cap, .inr (.inr (.inr (.inr g)))))) (hi : vp_in i cap) (hg : g i.toNatClampNeg = some q) (h0 : ¬ i < 0) (h1 : i < n) : Met l y_AL_get (Cond.code y_AL_get b_AL_get 2 (some (.object "java/lang/Object")) :: gT) ({ frames := 2, cells := 0, slots := 0, locals := 43 }) (gw_Pc E D cI cO cZ z0 M [.ref a, .int i]) (gw_Qq E D (fun r M' => r = some q ∧ M' = M)) 0 0 (gw_A E) := by
  refine gw_ofW (cc := b_AL_get) (maxL := 2) (ret := (some (.object "java/lang/Object"))) (by decide) rfl (Nat.le_of_ble_eq_true rfl) ?_
  intro p e s m args below meth c hx hb hr hml hts hown hlk hnm hF hG ls hl
  have hT : ∀ w ∈ gT, w.before args s = true := fun w h => hts w (List.mem_cons_of_mem _ h)
  have hK := hF.1
  have hl : lv_has ls 2 [(0, .ref a), (1, .int i)] := hl
  refine lv_iload_n hx hb d_AL_get_0 rfl (lv_at hl 1 rfl) ?_
  refine lv_aload_n hx hb d_AL_get_1 rfl (lv_at hl 0 rfl) ?_
  refine gw_get hx hb hT i_List hown hK hG ha rfl 2 (by decide) (hT _ wm_72) (fun _ h => h) rfl d_AL_get_2 ?_
  refine gw_calli (gw_runS (As := [.int i, .int n]) (rest := []) ⟨hx, hb, hml, hown, hts⟩ (c_Objects_checkIndex l E D cI cO cZ z0 M h0 h1) (gw_cwS 2 hts (gT_gi wm_365) rfl rfl rfl (hT _ wm_44) (hT _ wm_363) (hT _ wm_364) (by decide +kernel) ⟨Nat.le_of_ble_eq_true rfl, Nat.le_of_ble_eq_true rfl⟩) hF hG rfl hl.1 rfl (Nat.le_of_ble_eq_true rfl) d_AL_get_5 ⟨Nat.le_of_ble_eq_true rfl, Nat.le_of_ble_eq_true rfl⟩) hG (fun r M1 H locs hp hG => ?_)
  rw [hp.1]
  replace hG := gw_nm hp.2.symm hG
  refine lv_pop hx hb d_AL_get_8 rfl ?_
  refine lv_aload_n hx hb d_AL_get_9 rfl (lv_at hl 0 rfl) ?_
  refine lv_iload_n hx hb d_AL_get_10 rfl (lv_at hl 1 rfl) ?_
  refine gw_callq (gw_runV (As := [.int i]) (rest := []) ⟨hx, hb, hml, hown, hts⟩ (c_AL_elementData l E D cI cO cZ z0 M ha ht hi hg) (gw_cwV 1 hts (gT_gi wm_372) rfl rfl rfl (hT _ wm_26) (hT _ wm_369) (hT _ wm_370) (hT _ wm_371) (by decide +kernel) ⟨Nat.le_of_ble_eq_true rfl, Nat.le_of_ble_eq_true rfl⟩) hF hG rfl ha rfl hl.1 rfl (Nat.le_of_ble_eq_true rfl) d_AL_get_11 ⟨Nat.le_of_ble_eq_true rfl, Nat.le_of_ble_eq_true rfl⟩) hG (fun r M2 H locs hp hG => ?_)
  rw [hp.1]
  replace hG := gw_nm hp.2.symm hG
  exact gw_aret hx hb hr (Or.inl ⟨_, rfl⟩) hlk hG (⟨rfl, rfl⟩) (Nat.le_of_ble_eq_true rfl) (Nat.le_of_ble_eq_true rfl) d_AL_get_14
set_option maxHeartbeats 4000000 in
set_option maxRecDepth 100000 in
theorem c_AL_grow_2 (l : Launch) (E : Nat) (D : va_G) (cI cO cZ : ClassId) (z0 : Nat) (M : gM) {a : Nat} {k : Int32} (ha : M a = some (.inr (1, [.int k, .ref z0, .int 0]))) : Met l y_AL_grow_2 (Cond.code y_AL_grow_2 b_AL_grow_2 4 (some (.array (.object "java/lang/Object"))) :: gT) ({ frames := 1, cells := 1, slots := 10, locals := 14 }) (gw_Pc E D cI cO cZ z0 M [.ref a, .int 1]) (gw_Qq E D (fun r M' => ∃ q : Nat, r = some q ∧ M q = none ∧ M' = gw_up (gw_up M q (.inl (cO, 10, .inr (.inr (.inr (.inr (fun _ => none))))))) a (.inr (1, [.int k, .ref q, .int 0])))) 1 10 (gw_A E) := by
  refine gw_ofW (cc := b_AL_grow_2) (maxL := 4) (ret := (some (.array (.object "java/lang/Object")))) (by decide) rfl (Nat.le_of_ble_eq_true rfl) ?_
  intro p e s m args below meth c hx hb hr hml hts hown hlk hnm hF hG ls hl
  have hT : ∀ w ∈ gT, w.before args s = true := fun w h => hts w (List.mem_cons_of_mem _ h)
  have hK := hF.1
  have hl : lv_has ls 4 [(0, .ref a), (1, .int 1)] := hl
  refine lv_aload_n hx hb d_AL_grow_2_0 rfl (lv_at hl 0 rfl) ?_
  refine gw_get hx hb hT i_List hown hK hG ha rfl 1 (by decide) (hT _ wm_71) (fun _ h => h) rfl d_AL_grow_2_1 ?_
  refine va_tlen (v := 0) hx hb hF.2.2.2.1 hG.2.2 rfl d_AL_grow_2_4 ?_
  refine lv_istore_n (lv' := [(2, .int 0), (0, .ref a), (1, .int 1)]) hx hb d_AL_grow_2_5 rfl hl (by decide) rfl (fun ls hl => ?_)
  refine lv_iload_n hx hb d_AL_grow_2_6 rfl (lv_at hl 0 rfl) ?_
  refine lv_if_gt (tgt := 20) hx hb d_AL_grow_2_7 (by decide) (fun z_ => absurd z_ (by decide)) (fun c_7 => ?_)
  refine lv_aload_n hx hb d_AL_grow_2_10 rfl (lv_at hl 1 rfl) ?_
  refine gw_get hx hb hT i_List hown hK hG ha rfl 1 (by decide) (hT _ wm_71) (fun _ h => h) rfl d_AL_grow_2_11 ?_
  refine va_gets hx hb hF.2.2.1 hG.2.2 hown (hT _ wm_69) (fun _ h => h) d_AL_grow_2_14 ?_
  refine lv_acmp_eq (rx := some z0) (ry := some z0) (tgt := 45) hx hb d_AL_grow_2_17 (by decide) (fun _ => ?_) (fun z_ => absurd rfl z_)
  refine lv_aload_n hx hb d_AL_grow_2_45 rfl (lv_at hl 1 rfl) ?_
  refine lv_bipush (v := 10) hx hb d_AL_grow_2_46 (by decide) ?_
  refine lv_iload_n hx hb d_AL_grow_2_48 rfl (lv_at hl 2 rfl) ?_
  refine va_mmax hx hb (hml.trans hl.1.symm) hown (hT _ wm_234) (hT _ wm_195) (hT _ wm_32) (hT _ wm_196) (Nat.le_of_ble_eq_true rfl) (Nat.le_of_ble_eq_true rfl) (Nat.le_of_ble_eq_true rfl) (Nat.le_of_ble_eq_true rfl) d_AL_grow_2_49 ?_
  rw [show (if (10 : Int32) < 1 then (1 : Int32) else 10) = 10 by decide]
  refine gw_newQ (N := 10) hx hb hown (hT _ wm_235) hF hG (by decide) (by decide) (Nat.le_of_ble_eq_true rfl) (Nat.le_of_ble_eq_true rfl) (Nat.le_of_ble_eq_true rfl) d_AL_grow_2_52 (fun q H hq hG => ?_)
  obtain ⟨M1, e_M1⟩ : ∃ Y_ : gM, Y_ = gw_up M q (.inl (cO, 10, .inr (.inr (.inr (.inr (fun _ => none)))))) := ⟨_, rfl⟩
  replace hG := gw_nm e_M1 hG
  have hM1_a := (congrFun e_M1 a).trans ((gw_miss (gw_neF hq ha)).trans ha)
  have hM1_q := (congrFun e_M1 q).trans gw_hit
  refine lv_dup_x1 hx hb d_AL_grow_2_55 rfl rfl ?_
  refine gw_put (v := .ref q) hx hb hT i_List t_List t_List_ok n_List hown hK hG hM1_a rfl 1 (by decide) (hT _ wm_71) (fun _ h => h) rfl rfl rfl (Nat.le_of_ble_eq_true rfl) d_AL_grow_2_56 (fun H locs hG => ?_)
  obtain ⟨M2, e_M2⟩ : ∃ Y_ : gM, Y_ = gw_up M1 a (.inr (1, [.int k, .ref q, .int 0])) := ⟨_, rfl⟩
  replace hG := gw_nm e_M2 hG
  have hM2_q := (congrFun e_M2 q).trans ((gw_miss (gw_neA hM1_q hM1_a)).trans hM1_q)
  have hM2_a := (congrFun e_M2 a).trans gw_hit
  exact gw_aret hx hb hr (Or.inr ⟨_, rfl⟩) hlk hG (⟨q, rfl, hq, by rw [e_M2, e_M1]⟩) (Nat.le_of_ble_eq_true rfl) (Nat.le_of_ble_eq_true rfl) d_AL_grow_2_59
set_option maxHeartbeats 4000000 in
set_option maxRecDepth 100000 in
theorem c_AL_grow (l : Launch) (E : Nat) (D : va_G) (cI cO cZ : ClassId) (z0 : Nat) (M : gM) {a : Nat} {k : Int32} (ha : M a = some (.inr (1, [.int k, .ref z0, .int 0]))) : Met l y_AL_grow (Cond.code y_AL_grow b_AL_grow 1 (some (.array (.object "java/lang/Object"))) :: gT) ({ frames := 2, cells := 1, slots := 10, locals := 37 }) (gw_Pc E D cI cO cZ z0 M [.ref a]) (gw_Qq E D (fun r M' => ∃ q : Nat, r = some q ∧ M q = none ∧ M' = gw_up (gw_up M q (.inl (cO, 10, .inr (.inr (.inr (.inr (fun _ => none))))))) a (.inr (1, [.int k, .ref q, .int 0])))) 1 10 (gw_A E) := by
  refine gw_ofW (cc := b_AL_grow) (maxL := 1) (ret := (some (.array (.object "java/lang/Object")))) (by decide) rfl (Nat.le_of_ble_eq_true rfl) ?_
  intro p e s m args below meth c hx hb hr hml hts hown hlk hnm hF hG ls hl
  have hT : ∀ w ∈ gT, w.before args s = true := fun w h => hts w (List.mem_cons_of_mem _ h)
  have hK := hF.1
  have hl : lv_has ls 1 [(0, .ref a)] := hl
  refine lv_aload_n hx hb d_AL_grow_0 rfl (lv_at hl 0 rfl) ?_
  refine lv_aload_n hx hb d_AL_grow_1 rfl (lv_at hl 0 rfl) ?_
  refine gw_get hx hb hT i_List hown hK hG ha rfl 2 (by decide) (hT _ wm_72) (fun _ h => h) rfl d_AL_grow_2 ?_
  refine lv_iconst (v := 1) hx hb d_AL_grow_5 (by decide) ?_
  refine lv_iadd hx hb d_AL_grow_6 ?_
  rw [show (0 : Int32) + 1 = 1 by decide]
  refine gw_callq (gw_runV (As := [.int 1]) (rest := []) ⟨hx, hb, hml, hown, hts⟩ (c_AL_grow_2 l E D cI cO cZ z0 M ha) (gw_cwV 1 hts (gT_gi wm_190) rfl rfl rfl (hT _ wm_26) (hT _ wm_187) (hT _ wm_189) (hT _ wm_2) (by decide +kernel) ⟨Nat.le_of_ble_eq_true rfl, Nat.le_of_ble_eq_true rfl⟩) hF hG rfl ha rfl hl.1 rfl (Nat.le_of_ble_eq_true rfl) d_AL_grow_7 ⟨Nat.le_of_ble_eq_true rfl, Nat.le_of_ble_eq_true rfl⟩) hG (fun r M1 H locs hp hG => ?_)
  obtain ⟨q, rfl, hq, e_M1⟩ := hp
  exact gw_aret hx hb hr (Or.inr ⟨_, rfl⟩) hlk hG (⟨q, rfl, hq, e_M1⟩) (Nat.le_of_ble_eq_true rfl) (Nat.le_of_ble_eq_true rfl) d_AL_grow_10
set_option maxHeartbeats 4000000 in
set_option maxRecDepth 100000 in
theorem c_AL_add_2 (l : Launch) (E : Nat) (D : va_G) (cI cO cZ : ClassId) (z0 : Nat) (M : gM) {a t v cap cv : Nat} {k n : Int32} {g : Nat → Option Nat} {r : vw_C} {vs : List Value} (ha : M a = some (.inr (1, [.int k, .ref t, .int n]))) (ht : M t = some (.inl (cO, cap, .inr (.inr (.inr (.inr g)))))) (hv : M v = some (.inr (cv, vs))) (hc : classes[cv]? = some r) (hca : Cond.castable r.1 "java/lang/Object" ∈ lw_tbl) (hne : n ≠ Int32.ofNat cap) (hin : vp_in n cap) : Met l y_AL_add_2 (Cond.code y_AL_add_2 b_AL_add_2 4 none :: gT) ({ frames := 0, cells := 0, slots := 0, locals := 0 }) (gw_Pc E D cI cO cZ z0 M [.ref a, .ref v, .ref t, .int n]) (gw_Qv E D (fun M' => M' = gw_up (gw_up M t (.inl (cO, cap, .inr (.inr (.inr (.inr (va_up g n.toNatClampNeg (some v)))))))) a (.inr (1, [.int k, .ref t, .int (n + 1)])))) 0 0 (gw_A E) := by
  refine gw_ofW (cc := b_AL_add_2) (maxL := 4) (ret := none) (by decide) rfl (Nat.le_of_ble_eq_true rfl) ?_
  intro p e s m args below meth c hx hb hr hml hts hown hlk hnm hF hG ls hl
  have hT : ∀ w ∈ gT, w.before args s = true := fun w h => hts w (List.mem_cons_of_mem _ h)
  have hK := hF.1
  have hl : lv_has ls 4 [(0, .ref a), (1, .ref v), (2, .ref t), (3, .int n)] := hl
  refine lv_iload_n hx hb d_AL_add_2_0 rfl (lv_at hl 3 rfl) ?_
  refine lv_aload_n hx hb d_AL_add_2_1 rfl (lv_at hl 2 rfl) ?_
  refine gw_alen hx hb hK hG 1 ht rfl rfl d_AL_add_2_2 ?_
  refine lv_icmp_ne (tgt := 11) hx hb d_AL_add_2_3 (by decide) (fun c_3 => ?_) (fun z_ => absurd z_ (hne))
  refine lv_aload_n hx hb d_AL_add_2_11 rfl (lv_at hl 2 rfl) ?_
  refine lv_iload_n hx hb d_AL_add_2_12 rfl (lv_at hl 3 rfl) ?_
  refine lv_aload_n hx hb d_AL_add_2_13 rfl (lv_at hl 1 rfl) ?_
  refine gw_astq hx hb hF hG ht hv hc (gW_m hF.2.2.2.2.2.2 hca rfl) hin d_AL_add_2_14 (fun H locs hG => ?_)
  obtain ⟨M1, e_M1⟩ : ∃ Y_ : gM, Y_ = gw_up M t (.inl (cO, cap, .inr (.inr (.inr (.inr (va_up g n.toNatClampNeg (some v))))))) := ⟨_, rfl⟩
  replace hG := gw_nm e_M1 hG
  have hM1_a := (congrFun e_M1 a).trans ((gw_miss (gw_neA ht ha).symm).trans ha)
  have hM1_t := (congrFun e_M1 t).trans gw_hit
  refine lv_aload_n hx hb d_AL_add_2_15 rfl (lv_at hl 0 rfl) ?_
  refine lv_iload_n hx hb d_AL_add_2_16 rfl (lv_at hl 3 rfl) ?_
  refine lv_iconst (v := 1) hx hb d_AL_add_2_17 (by decide) ?_
  refine lv_iadd hx hb d_AL_add_2_18 ?_
  refine gw_put (v := .int (n + 1)) hx hb hT i_List t_List t_List_ok n_List hown hK hG hM1_a rfl 2 (by decide) (hT _ wm_72) (fun _ h => h) rfl rfl rfl (Nat.le_of_ble_eq_true rfl) d_AL_add_2_19 (fun H locs hG => ?_)
  obtain ⟨M2, e_M2⟩ : ∃ Y_ : gM, Y_ = gw_up M1 a (.inr (1, [.int k, .ref t, .int (n + 1)])) := ⟨_, rfl⟩
  replace hG := gw_nm e_M2 hG
  have hM2_t := (congrFun e_M2 t).trans ((gw_miss (gw_neA hM1_t hM1_a)).trans hM1_t)
  have hM2_a := (congrFun e_M2 a).trans gw_hit
  exact gw_vret hx hb hr hlk hG (by rw [e_M2, e_M1]) (Nat.le_of_ble_eq_true rfl) (Nat.le_of_ble_eq_true rfl) d_AL_add_2_22
set_option maxHeartbeats 4000000 in
set_option maxRecDepth 100000 in
theorem c_AL_add_2_e (l : Launch) (E : Nat) (D : va_G) (cI cO cZ : ClassId) (z0 : Nat) (M : gM) {a v cv : Nat} {k : Int32} {r : vw_C} {vs : List Value} (ha : M a = some (.inr (1, [.int k, .ref z0, .int 0]))) (hv : M v = some (.inr (cv, vs))) (hc : classes[cv]? = some r) (hca : Cond.castable r.1 "java/lang/Object" ∈ lw_tbl) (hva : v ≠ a) : Met l y_AL_add_2 (Cond.code y_AL_add_2 b_AL_add_2 4 none :: gT) ({ frames := 3, cells := 1, slots := 10, locals := 57 }) (gw_Pc E D cI cO cZ z0 M [.ref a, .ref v, .ref z0, .int 0]) (gw_Qv E D (fun M' => ∃ q : Nat, M q = none ∧ M' = gw_up (gw_up M q (.inl (cO, 10, .inr (.inr (.inr (.inr (va_up (fun _ => none) 0 (some v)))))))) a (.inr (1, [.int k, .ref q, .int 1])))) 1 10 (gw_A E) := by
  refine gw_ofW (cc := b_AL_add_2) (maxL := 4) (ret := none) (by decide) rfl (Nat.le_of_ble_eq_true rfl) ?_
  intro p e s m args below meth c hx hb hr hml hts hown hlk hnm hF hG ls hl
  have hT : ∀ w ∈ gT, w.before args s = true := fun w h => hts w (List.mem_cons_of_mem _ h)
  have hK := hF.1
  have hl : lv_has ls 4 [(0, .ref a), (1, .ref v), (2, .ref z0), (3, .int 0)] := hl
  refine lv_iload_n hx hb d_AL_add_2_0 rfl (lv_at hl 3 rfl) ?_
  refine lv_aload_n hx hb d_AL_add_2_1 rfl (lv_at hl 2 rfl) ?_
  refine va_tlen (v := 0) hx hb hF.2.2.2.1 hG.2.2 rfl d_AL_add_2_2 ?_
  refine lv_icmp_ne (tgt := 11) hx hb d_AL_add_2_3 (by decide) (fun z_ => absurd (rfl) z_) (fun c_3 => ?_)
  refine lv_aload_n hx hb d_AL_add_2_6 rfl (lv_at hl 0 rfl) ?_
  refine gw_callq (gw_runV (As := []) (rest := []) ⟨hx, hb, hml, hown, hts⟩ (c_AL_grow l E D cI cO cZ z0 M ha) (gw_cwV 0 hts (gT_gi wm_186) rfl rfl rfl (hT _ wm_26) (hT _ wm_183) (hT _ wm_185) (hT _ wm_1) (by decide +kernel) ⟨Nat.le_of_ble_eq_true rfl, Nat.le_of_ble_eq_true rfl⟩) hF hG rfl ha rfl hl.1 rfl (Nat.le_of_ble_eq_true rfl) d_AL_add_2_7 ⟨Nat.le_of_ble_eq_true rfl, Nat.le_of_ble_eq_true rfl⟩) hG (fun r M1 H locs hp hG => ?_)
  obtain ⟨q, rfl, hq, e_M1⟩ := hp
  have hqa : a ≠ q := gw_neF hq ha
  have hqv : v ≠ q := gw_neF hq hv
  have hM1_a := (congrFun e_M1 a).trans gw_hit
  have hM1_q := (congrFun e_M1 q).trans ((gw_miss hqa.symm).trans gw_hit)
  have hM1_v := (congrFun e_M1 v).trans ((gw_miss hva).trans ((gw_miss hqv).trans hv))
  refine lv_astore_n (lv' := [(2, .ref q), (0, .ref a), (1, .ref v), (3, .int 0)]) hx hb d_AL_add_2_10 rfl hl (by decide) rfl (fun ls hl => ?_)
  refine lv_aload_n hx hb d_AL_add_2_11 rfl (lv_at hl 0 rfl) ?_
  refine lv_iload_n hx hb d_AL_add_2_12 rfl (lv_at hl 3 rfl) ?_
  refine lv_aload_n hx hb d_AL_add_2_13 rfl (lv_at hl 2 rfl) ?_
  refine gw_astq hx hb hF hG hM1_q hM1_v hc (gW_m hF.2.2.2.2.2.2 hca rfl) (by unfold vp_in; decide) d_AL_add_2_14 (fun H locs hG => ?_)
  obtain ⟨M2, e_M2⟩ : ∃ Y_ : gM, Y_ = gw_up M1 q (.inl (cO, 10, .inr (.inr (.inr (.inr (va_up (fun _ => none) 0 (some v))))))) := ⟨_, rfl⟩
  replace hG := gw_nm e_M2 hG
  have hM2_a := (congrFun e_M2 a).trans ((gw_miss hqa).trans hM1_a)
  refine lv_aload_n hx hb d_AL_add_2_15 rfl (lv_at hl 1 rfl) ?_
  refine lv_iload_n hx hb d_AL_add_2_16 rfl (lv_at hl 3 rfl) ?_
  refine lv_iconst (v := 1) hx hb d_AL_add_2_17 (by decide) ?_
  refine lv_iadd hx hb d_AL_add_2_18 ?_
  rw [show (0 : Int32) + 1 = 1 by decide]
  refine gw_put (v := .int 1) hx hb hT i_List t_List t_List_ok n_List hown hK hG hM2_a rfl 2 (by decide) (hT _ wm_72) (fun _ h => h) rfl rfl rfl (Nat.le_of_ble_eq_true rfl) d_AL_add_2_19 (fun H locs hG => ?_)
  obtain ⟨M3, e_M3⟩ : ∃ Y_ : gM, Y_ = gw_up M2 a (.inr (1, [.int k, .ref q, .int 1])) := ⟨_, rfl⟩
  replace hG := gw_nm e_M3 hG
  have hM3_a := (congrFun e_M3 a).trans gw_hit
  exact gw_vret hx hb hr hlk hG (⟨q, hq, by rw [e_M3, e_M2, e_M1]; funext j; by_cases h1 : j = a; (subst h1; rw [gw_hit, gw_hit]); (rw [gw_miss h1, gw_miss h1]; by_cases h2 : j = q; (subst h2; rw [gw_hit, gw_hit]); (rw [gw_miss h2, gw_miss h1, gw_miss h2, gw_miss h2]))⟩) (Nat.le_of_ble_eq_true rfl) (Nat.le_of_ble_eq_true rfl) d_AL_add_2_22
