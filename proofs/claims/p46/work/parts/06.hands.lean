theorem d_Hand_init_0 : decode b_Hand_init 0 = .ok (.aload_n 0, 1) := by decide +kernel
theorem wm_462 : Cond.methodLink "ThresholdRow$Hand" 3 ⟨"java/lang/Object", "<init>", "()V"⟩ ∈ gT := gT_m (List.mem_of_getElem? (i := 462) (by decide +kernel)) (by decide +kernel)
theorem d_Hand_init_1 : decode b_Hand_init 1 = .ok (.invokespecial 3, 3) := by decide +kernel
theorem d_Hand_init_4 : decode b_Hand_init 4 = .ok (.aload_n 0, 1) := by decide +kernel
theorem d_Hand_init_5 : decode b_Hand_init 5 = .ok (.iconst 0, 1) := by decide +kernel
theorem wm_465 : Cond.fieldLink "ThresholdRow$Hand" 9 "ThresholdRow$Hand" "fatigue" "I" ∈ gT := gT_m (List.mem_of_getElem? (i := 465) (by decide +kernel)) (by decide +kernel)
theorem d_Hand_init_6 : decode b_Hand_init 6 = .ok (.putfield 9, 3) := by decide +kernel
theorem d_Hand_init_9 : decode b_Hand_init 9 = .ok (.aload_n 0, 1) := by decide +kernel
theorem d_Hand_init_10 : decode b_Hand_init 10 = .ok (.iconst 0, 1) := by decide +kernel
theorem wm_468 : Cond.fieldLink "ThresholdRow$Hand" 15 "ThresholdRow$Hand" "hurt" "I" ∈ gT := gT_m (List.mem_of_getElem? (i := 468) (by decide +kernel)) (by decide +kernel)
theorem d_Hand_init_11 : decode b_Hand_init 11 = .ok (.putfield 15, 3) := by decide +kernel
theorem d_Hand_init_14 : decode b_Hand_init 14 = .ok (.aload_n 0, 1) := by decide +kernel
theorem d_Hand_init_15 : decode b_Hand_init 15 = .ok (.iconst 0, 1) := by decide +kernel
theorem wm_471 : Cond.fieldLink "ThresholdRow$Hand" 18 "ThresholdRow$Hand" "lost" "I" ∈ gT := gT_m (List.mem_of_getElem? (i := 471) (by decide +kernel)) (by decide +kernel)
theorem d_Hand_init_16 : decode b_Hand_init 16 = .ok (.putfield 18, 3) := by decide +kernel
theorem d_Hand_init_19 : decode b_Hand_init 19 = .ok (.aload_n 0, 1) := by decide +kernel
theorem d_Hand_init_20 : decode b_Hand_init 20 = .ok (.iconst 0, 1) := by decide +kernel
theorem wm_474 : Cond.fieldLink "ThresholdRow$Hand" 21 "ThresholdRow$Hand" "error" "I" ∈ gT := gT_m (List.mem_of_getElem? (i := 474) (by decide +kernel)) (by decide +kernel)
theorem d_Hand_init_21 : decode b_Hand_init 21 = .ok (.putfield 21, 3) := by decide +kernel
theorem d_Hand_init_24 : decode b_Hand_init 24 = .ok (.aload_n 0, 1) := by decide +kernel
theorem d_Hand_init_25 : decode b_Hand_init 25 = .ok (.bipush 32, 2) := by decide +kernel
theorem wm_477 : Cond.fieldLink "ThresholdRow$Hand" 24 "ThresholdRow$Hand" "way" "C" ∈ gT := gT_m (List.mem_of_getElem? (i := 477) (by decide +kernel)) (by decide +kernel)
theorem d_Hand_init_27 : decode b_Hand_init 27 = .ok (.putfield 24, 3) := by decide +kernel
theorem d_Hand_init_30 : decode b_Hand_init 30 = .ok (.aload_n 0, 1) := by decide +kernel
theorem d_Hand_init_31 : decode b_Hand_init 31 = .ok (.iconst 0, 1) := by decide +kernel
theorem wm_478 : Cond.fieldLink "ThresholdRow$Hand" 28 "ThresholdRow$Hand" "rate" "I" ∈ gT := gT_m (List.mem_of_getElem? (i := 478) (by decide +kernel)) (by decide +kernel)
theorem d_Hand_init_32 : decode b_Hand_init 32 = .ok (.putfield 28, 3) := by decide +kernel
theorem d_Hand_init_35 : decode b_Hand_init 35 = .ok (.aload_n 0, 1) := by decide +kernel
theorem d_Hand_init_36 : decode b_Hand_init 36 = .ok (.iconst 0, 1) := by decide +kernel
theorem wm_479 : Cond.fieldLink "ThresholdRow$Hand" 31 "ThresholdRow$Hand" "owed" "I" ∈ gT := gT_m (List.mem_of_getElem? (i := 479) (by decide +kernel)) (by decide +kernel)
theorem d_Hand_init_37 : decode b_Hand_init 37 = .ok (.putfield 31, 3) := by decide +kernel
theorem d_Hand_init_40 : decode b_Hand_init 40 = .ok (.aload_n 0, 1) := by decide +kernel
theorem d_Hand_init_41 : decode b_Hand_init 41 = .ok (.iconst (-1), 1) := by decide +kernel
theorem wm_480 : Cond.fieldLink "ThresholdRow$Hand" 34 "ThresholdRow$Hand" "workedOn" "I" ∈ gT := gT_m (List.mem_of_getElem? (i := 480) (by decide +kernel)) (by decide +kernel)
theorem d_Hand_init_42 : decode b_Hand_init 42 = .ok (.putfield 34, 3) := by decide +kernel
theorem d_Hand_init_45 : decode b_Hand_init 45 = .ok (.aload_n 0, 1) := by decide +kernel
theorem d_Hand_init_46 : decode b_Hand_init 46 = .ok (.iload_n 1, 1) := by decide +kernel
theorem wm_463 : Cond.fieldLink "ThresholdRow$Hand" 37 "ThresholdRow$Hand" "strength" "I" ∈ gT := gT_m (List.mem_of_getElem? (i := 463) (by decide +kernel)) (by decide +kernel)
theorem d_Hand_init_47 : decode b_Hand_init 47 = .ok (.putfield 37, 3) := by decide +kernel
theorem d_Hand_init_50 : decode b_Hand_init 50 = .ok (.aload_n 0, 1) := by decide +kernel
theorem d_Hand_init_51 : decode b_Hand_init 51 = .ok (.iload_n 2, 1) := by decide +kernel
theorem wm_464 : Cond.fieldLink "ThresholdRow$Hand" 40 "ThresholdRow$Hand" "habit" "I" ∈ gT := gT_m (List.mem_of_getElem? (i := 464) (by decide +kernel)) (by decide +kernel)
theorem d_Hand_init_52 : decode b_Hand_init 52 = .ok (.putfield 40, 3) := by decide +kernel
theorem d_Hand_init_55 : decode b_Hand_init 55 = .ok (.return_, 1) := by decide +kernel
theorem d_Hand_drift_0 : decode b_Hand_drift 0 = .ok (.aload_n 0, 1) := by decide +kernel
theorem d_Hand_drift_1 : decode b_Hand_drift 1 = .ok (.getfield 40, 3) := by decide +kernel
theorem d_Hand_drift_4 : decode b_Hand_drift 4 = .ok (.ifCond .ne 5, 3) := by decide +kernel
theorem d_Hand_drift_9 : decode b_Hand_drift 9 = .ok (.aload_n 0, 1) := by decide +kernel
theorem d_Hand_drift_10 : decode b_Hand_drift 10 = .ok (.getfield 9, 3) := by decide +kernel
theorem d_Hand_drift_13 : decode b_Hand_drift 13 = .ok (.bipush 20, 2) := by decide +kernel
theorem d_Hand_drift_15 : decode b_Hand_drift 15 = .ok (.idiv, 1) := by decide +kernel
theorem d_Hand_drift_16 : decode b_Hand_drift 16 = .ok (.istore_n 1, 1) := by decide +kernel
theorem d_Hand_drift_17 : decode b_Hand_drift 17 = .ok (.aload_n 0, 1) := by decide +kernel
theorem d_Hand_drift_18 : decode b_Hand_drift 18 = .ok (.getfield 40, 3) := by decide +kernel
theorem d_Hand_drift_21 : decode b_Hand_drift 21 = .ok (.ifCond .le 12, 3) := by decide +kernel
theorem d_Hand_drift_33 : decode b_Hand_drift 33 = .ok (.aload_n 0, 1) := by decide +kernel
theorem d_Hand_drift_34 : decode b_Hand_drift 34 = .ok (.getfield 40, 3) := by decide +kernel
theorem d_Hand_drift_37 : decode b_Hand_drift 37 = .ok (.iload_n 1, 1) := by decide +kernel
theorem d_Hand_drift_38 : decode b_Hand_drift 38 = .ok (.isub, 1) := by decide +kernel
theorem d_Hand_drift_39 : decode b_Hand_drift 39 = .ok (.ireturn, 1) := by decide +kernel
theorem d_Hand_drift_24 : decode b_Hand_drift 24 = .ok (.aload_n 0, 1) := by decide +kernel
theorem d_Hand_drift_25 : decode b_Hand_drift 25 = .ok (.getfield 40, 3) := by decide +kernel
theorem d_Hand_drift_28 : decode b_Hand_drift 28 = .ok (.iload_n 1, 1) := by decide +kernel
theorem d_Hand_drift_29 : decode b_Hand_drift 29 = .ok (.iadd, 1) := by decide +kernel
theorem d_Hand_drift_30 : decode b_Hand_drift 30 = .ok (.goto 9, 3) := by decide +kernel
theorem d_Hand_drift_7 : decode b_Hand_drift 7 = .ok (.iconst 0, 1) := by decide +kernel
theorem d_Hand_drift_8 : decode b_Hand_drift 8 = .ok (.ireturn, 1) := by decide +kernel
theorem d_Hand_tire_0 : decode b_Hand_tire 0 = .ok (.aload_n 0, 1) := by decide +kernel
theorem d_Hand_tire_1 : decode b_Hand_tire 1 = .ok (.aload_n 0, 1) := by decide +kernel
theorem d_Hand_tire_2 : decode b_Hand_tire 2 = .ok (.getfield 9, 3) := by decide +kernel
theorem d_Hand_tire_5 : decode b_Hand_tire 5 = .ok (.iconst 2, 1) := by decide +kernel
theorem d_Hand_tire_6 : decode b_Hand_tire 6 = .ok (.iadd, 1) := by decide +kernel
theorem d_Hand_tire_7 : decode b_Hand_tire 7 = .ok (.bipush 100, 2) := by decide +kernel
theorem wm_715 : Cond.methodLink "ThresholdRow$Hand" 43 ⟨"java/lang/Math", "min", "(II)I"⟩ ∈ gT := gT_m (List.mem_of_getElem? (i := 715) (by decide +kernel)) (by decide +kernel)
theorem wm_229 : Cond.static ⟨"java/lang/Math", "min", "(II)I"⟩ ∈ gT := gT_m (List.mem_of_getElem? (i := 229) (by decide +kernel)) (by decide +kernel)
theorem wm_230 : Cond.code ⟨"java/lang/Math", "min", "(II)I"⟩ prog_22_method_69_code 2 (some .int) ∈ gT := gT_m (List.mem_of_getElem? (i := 230) (by decide +kernel)) (by decide +kernel)
theorem d_Hand_tire_9 : decode b_Hand_tire 9 = .ok (.invokestatic 43, 3) := by decide +kernel
theorem d_Hand_tire_12 : decode b_Hand_tire 12 = .ok (.putfield 9, 3) := by decide +kernel
theorem d_Hand_tire_15 : decode b_Hand_tire 15 = .ok (.return_, 1) := by decide +kernel
theorem d_Hand_rest_0 : decode b_Hand_rest 0 = .ok (.aload_n 0, 1) := by decide +kernel
theorem d_Hand_rest_1 : decode b_Hand_rest 1 = .ok (.aload_n 0, 1) := by decide +kernel
theorem d_Hand_rest_2 : decode b_Hand_rest 2 = .ok (.getfield 9, 3) := by decide +kernel
theorem d_Hand_rest_5 : decode b_Hand_rest 5 = .ok (.bipush 30, 2) := by decide +kernel
theorem d_Hand_rest_7 : decode b_Hand_rest 7 = .ok (.isub, 1) := by decide +kernel
theorem d_Hand_rest_8 : decode b_Hand_rest 8 = .ok (.iconst 0, 1) := by decide +kernel
theorem wm_737 : Cond.methodLink "ThresholdRow$Hand" 49 ⟨"java/lang/Math", "max", "(II)I"⟩ ∈ gT := gT_m (List.mem_of_getElem? (i := 737) (by decide +kernel)) (by decide +kernel)
theorem d_Hand_rest_9 : decode b_Hand_rest 9 = .ok (.invokestatic 49, 3) := by decide +kernel
theorem d_Hand_rest_12 : decode b_Hand_rest 12 = .ok (.putfield 9, 3) := by decide +kernel
theorem d_Hand_rest_15 : decode b_Hand_rest 15 = .ok (.aload_n 0, 1) := by decide +kernel
theorem d_Hand_rest_16 : decode b_Hand_rest 16 = .ok (.aload_n 0, 1) := by decide +kernel
theorem d_Hand_rest_17 : decode b_Hand_rest 17 = .ok (.getfield 15, 3) := by decide +kernel
theorem d_Hand_rest_20 : decode b_Hand_rest 20 = .ok (.iconst 1, 1) := by decide +kernel
theorem d_Hand_rest_21 : decode b_Hand_rest 21 = .ok (.isub, 1) := by decide +kernel
theorem d_Hand_rest_22 : decode b_Hand_rest 22 = .ok (.iconst 0, 1) := by decide +kernel
theorem d_Hand_rest_23 : decode b_Hand_rest 23 = .ok (.invokestatic 49, 3) := by decide +kernel
theorem d_Hand_rest_26 : decode b_Hand_rest 26 = .ok (.putfield 15, 3) := by decide +kernel
theorem d_Hand_rest_29 : decode b_Hand_rest 29 = .ok (.return_, 1) := by decide +kernel
theorem d_Gang_worseOf_0 : decode b_Gang_worseOf 0 = .ok (.aload_n 0, 1) := by decide +kernel
theorem wm_475 : Cond.fieldLink "ThresholdRow$Gang" 26 "ThresholdRow$Hand" "error" "I" ∈ gT := gT_m (List.mem_of_getElem? (i := 475) (by decide +kernel)) (by decide +kernel)
theorem d_Gang_worseOf_1 : decode b_Gang_worseOf 1 = .ok (.getfield 26, 3) := by decide +kernel
theorem wm_704 : Cond.methodLink "ThresholdRow$Gang" 80 ⟨"java/lang/Math", "abs", "(I)I"⟩ ∈ gT := gT_m (List.mem_of_getElem? (i := 704) (by decide +kernel)) (by decide +kernel)
theorem wm_705 : Cond.static ⟨"java/lang/Math", "abs", "(I)I"⟩ ∈ gT := gT_m (List.mem_of_getElem? (i := 705) (by decide +kernel)) (by decide +kernel)
theorem wm_706 : Cond.code ⟨"java/lang/Math", "abs", "(I)I"⟩ prog_22_method_59_code 1 (some .int) ∈ gT := gT_m (List.mem_of_getElem? (i := 706) (by decide +kernel)) (by decide +kernel)
theorem d_Gang_worseOf_4 : decode b_Gang_worseOf 4 = .ok (.invokestatic 80, 3) := by decide +kernel
theorem d_Gang_worseOf_7 : decode b_Gang_worseOf 7 = .ok (.aload_n 1, 1) := by decide +kernel
theorem d_Gang_worseOf_8 : decode b_Gang_worseOf 8 = .ok (.getfield 26, 3) := by decide +kernel
theorem d_Gang_worseOf_11 : decode b_Gang_worseOf 11 = .ok (.invokestatic 80, 3) := by decide +kernel
theorem d_Gang_worseOf_14 : decode b_Gang_worseOf 14 = .ok (.if_icmp .le 7, 3) := by decide +kernel
theorem d_Gang_worseOf_21 : decode b_Gang_worseOf 21 = .ok (.aload_n 1, 1) := by decide +kernel
theorem d_Gang_worseOf_22 : decode b_Gang_worseOf 22 = .ok (.areturn, 1) := by decide +kernel
theorem d_Gang_worseOf_17 : decode b_Gang_worseOf 17 = .ok (.aload_n 0, 1) := by decide +kernel
theorem d_Gang_worseOf_18 : decode b_Gang_worseOf 18 = .ok (.goto 4, 3) := by decide +kernel
theorem d_AL_add_0 : decode b_AL_add 0 = .ok (.aload_n 0, 1) := by decide +kernel
theorem d_AL_add_1 : decode b_AL_add 1 = .ok (.dup, 1) := by decide +kernel
theorem wm_75 : Cond.sameField "java/util/ArrayList" "java/util/AbstractList" "modCount" "I" ∈ gT := gT_m (List.mem_of_getElem? (i := 75) (by decide +kernel)) (by decide +kernel)
theorem wm_74 : Cond.fieldLink "java/util/ArrayList" 63 "java/util/ArrayList" "modCount" "I" ∈ gT := gT_m (List.mem_of_getElem? (i := 74) (by decide +kernel)) (by decide +kernel)
theorem d_AL_add_2 : decode b_AL_add 2 = .ok (.getfield 63, 3) := by decide +kernel
theorem d_AL_add_5 : decode b_AL_add 5 = .ok (.iconst 1, 1) := by decide +kernel
theorem d_AL_add_6 : decode b_AL_add 6 = .ok (.iadd, 1) := by decide +kernel
theorem d_AL_add_7 : decode b_AL_add 7 = .ok (.putfield 63, 3) := by decide +kernel
theorem d_AL_add_10 : decode b_AL_add 10 = .ok (.aload_n 0, 1) := by decide +kernel
theorem d_AL_add_11 : decode b_AL_add 11 = .ok (.aload_n 1, 1) := by decide +kernel
theorem d_AL_add_12 : decode b_AL_add 12 = .ok (.aload_n 0, 1) := by decide +kernel
theorem d_AL_add_13 : decode b_AL_add 13 = .ok (.getfield 9, 3) := by decide +kernel
theorem d_AL_add_16 : decode b_AL_add 16 = .ok (.aload_n 0, 1) := by decide +kernel
theorem d_AL_add_17 : decode b_AL_add 17 = .ok (.getfield 48, 3) := by decide +kernel
theorem wm_182 : Cond.code ⟨"java/util/ArrayList", "add", "(Ljava/lang/Object;[Ljava/lang/Object;I)V"⟩ prog_30_method_24_code 4 none ∈ gT := gT_m (List.mem_of_getElem? (i := 182) (by decide +kernel)) (by decide +kernel)
theorem wm_179 : Cond.methodLink "java/util/ArrayList" 131 ⟨"java/util/ArrayList", "add", "(Ljava/lang/Object;[Ljava/lang/Object;I)V"⟩ ∈ gT := gT_m (List.mem_of_getElem? (i := 179) (by decide +kernel)) (by decide +kernel)
theorem d_AL_add_20 : decode b_AL_add 20 = .ok (.invokevirtual 131, 3) := by decide +kernel
theorem wm_181 : Cond.instanceMethod ⟨"java/util/ArrayList", "add", "(Ljava/lang/Object;[Ljava/lang/Object;I)V"⟩ ∈ gT := gT_m (List.mem_of_getElem? (i := 181) (by decide +kernel)) (by decide +kernel)
theorem wm_0 : Cond.selects "java/util/ArrayList" ⟨"java/util/ArrayList", "add", "(Ljava/lang/Object;[Ljava/lang/Object;I)V"⟩ ⟨"java/util/ArrayList", "add", "(Ljava/lang/Object;[Ljava/lang/Object;I)V"⟩ ∈ gT := gT_m (List.mem_of_getElem? (i := 0) (by decide +kernel)) (by decide +kernel)
theorem d_AL_add_23 : decode b_AL_add 23 = .ok (.iconst 1, 1) := by decide +kernel
theorem d_AL_add_24 : decode b_AL_add 24 = .ok (.ireturn, 1) := by decide +kernel
abbrev gH : Type := Int32 × Int32 × Int32 × Int32 × Int32 × Int32
/-- a hand: strength, habit, fatigue, hurt, lost, error; never hired, never at day's work -/
abbrev gw_hd (v : gH) : va_E := .inr (6, [.int v.1, .int v.2.1, .int v.2.2.1, .int v.2.2.2.1, .int v.2.2.2.2.1, .int v.2.2.2.2.2, .int 32, .int 0, .int 0, .int (-1)])
abbrev hFa (v : gH) (x : Int32) : gH := (v.1, v.2.1, x, v.2.2.2.1, v.2.2.2.2.1, v.2.2.2.2.2)
abbrev hHu (v : gH) (x : Int32) : gH := (v.1, v.2.1, v.2.2.1, x, v.2.2.2.2.1, v.2.2.2.2.2)
abbrev hLo (v : gH) (x : Int32) : gH := (v.1, v.2.1, v.2.2.1, v.2.2.2.1, x, v.2.2.2.2.2)
abbrev hEr (v : gH) (x : Int32) : gH := (v.1, v.2.1, v.2.2.1, v.2.2.2.1, v.2.2.2.2.1, x)
def p_drift (v : gH) : Int32 := if v.2.1 = 0 then 0 else if v.2.1 ≤ 0 then v.2.1 - v.2.2.1 / 20 else v.2.1 + v.2.2.1 / 20
def p_tire (v : gH) : gH := hFa v (if 100 < v.2.2.1 + 2 then 100 else v.2.2.1 + 2)
def p_rest (v : gH) : gH := hHu (hFa v (if v.2.2.1 - 30 < 0 then 0 else v.2.2.1 - 30)) (if v.2.2.2.1 - 1 < 0 then 0 else v.2.2.2.1 - 1)
def p_abs (x : Int32) : Int32 := if 0 ≤ x then x else 0 - x
/-- a list of objects: at a, its array at t, its count, the addresses -/
def gw_L (z0 : Nat) (cO : ClassId) (M : gM) (a t n : Nat) (g : Nat → Nat) : Prop := ∃ k : Int32, M a = some (.inr (1, [.int k, .ref t, .int (nI n)])) ∧ n ≤ 10 ∧ ((n = 0 ∧ t = z0) ∨ ∃ f : Nat → Option Nat, M t = some (.inl (cO, 10, .inr (.inr (.inr (.inr f))))) ∧ ∀ p, p < n → f p = some (g p))
theorem gw_L.kept {z0 : Nat} {cO : ClassId} {M M' : gM} {a t n : Nat} {g : Nat → Nat} (h : gw_L z0 cO M a t n g) (h1 : M' a = M a) (h2 : ∀ f, M t = some (.inl (cO, 10, .inr (.inr (.inr (.inr f))))) → M' t = M t) : gw_L z0 cO M' a t n g := by
  obtain ⟨k, ha, h10, hf⟩ := h
  refine ⟨k, h1.trans ha, h10, ?_⟩
  rcases hf with h0 | ⟨f, ht, hp⟩
  · exact Or.inl h0
  · exact Or.inr ⟨f, (h2 f ht).trans ht, hp⟩
set_option maxHeartbeats 4000000 in
set_option maxRecDepth 100000 in
theorem c_Hand_init (l : Launch) (E : Nat) (D : va_G) (cI cO cZ : ClassId) (z0 : Nat) (M : gM) {a : Nat} {x y : Int32} (ha : M a = some (.inr (6, [.int 0, .int 0, .int 0, .int 0, .int 0, .int 0, .int 0, .int 0, .int 0, .int 0]))) : Met l y_Hand_init (Cond.code y_Hand_init b_Hand_init 3 none :: gT) ({ frames := 1, cells := 0, slots := 0, locals := 12 }) (gw_Pc E D cI cO cZ z0 M [.ref a, .int x, .int y]) (gw_Qv E D (fun M' => M' = gw_up M a (gw_hd (x, y, 0, 0, 0, 0)))) 0 0 (gw_A E) := by
  refine gw_ofW (cc := b_Hand_init) (maxL := 3) (ret := none) (by decide) rfl (Nat.le_of_ble_eq_true rfl) ?_
  intro p e s m args below meth c hx hb hr hml hts hown hlk hnm hF hG ls hl
  have hT : ∀ w ∈ gT, w.before args s = true := fun w h => hts w (List.mem_cons_of_mem _ h)
  have hK := hF.1
  have hl : lv_has ls 3 [(0, .ref a), (1, .int x), (2, .int y)] := hl
  refine lv_aload_n hx hb d_Hand_init_0 rfl (lv_at hl 0 rfl) ?_
  refine gw_objI hx hb hown (hml.trans hl.1.symm) (hT _ wm_462) (hT _ wm_55) (hT _ wm_56) (Nat.le_of_ble_eq_true rfl) (Nat.le_of_ble_eq_true rfl) d_Hand_init_1 ?_
  refine lv_aload_n hx hb d_Hand_init_4 rfl (lv_at hl 0 rfl) ?_
  refine lv_iconst (v := 0) hx hb d_Hand_init_5 (by decide) ?_
  refine gw_put (v := .int 0) hx hb hT i_Hand t_Hand t_Hand_ok n_Hand hown hK hG ha rfl 2 (by decide) (hT _ wm_465) (fun _ h => h) rfl rfl rfl (Nat.le_of_ble_eq_true rfl) d_Hand_init_6 (fun H locs hG => ?_)
  obtain ⟨M1, e_M1⟩ : ∃ Y_ : gM, Y_ = gw_up M a (.inr (6, [.int 0, .int 0, .int 0, .int 0, .int 0, .int 0, .int 0, .int 0, .int 0, .int 0])) := ⟨_, rfl⟩
  replace hG := gw_nm e_M1 hG
  have hM1_a := (congrFun e_M1 a).trans gw_hit
  refine lv_aload_n hx hb d_Hand_init_9 rfl (lv_at hl 0 rfl) ?_
  refine lv_iconst (v := 0) hx hb d_Hand_init_10 (by decide) ?_
  refine gw_put (v := .int 0) hx hb hT i_Hand t_Hand t_Hand_ok n_Hand hown hK hG hM1_a rfl 3 (by decide) (hT _ wm_468) (fun _ h => h) rfl rfl rfl (Nat.le_of_ble_eq_true rfl) d_Hand_init_11 (fun H locs hG => ?_)
  obtain ⟨M2, e_M2⟩ : ∃ Y_ : gM, Y_ = gw_up M1 a (.inr (6, [.int 0, .int 0, .int 0, .int 0, .int 0, .int 0, .int 0, .int 0, .int 0, .int 0])) := ⟨_, rfl⟩
  replace hG := gw_nm e_M2 hG
  have hM2_a := (congrFun e_M2 a).trans gw_hit
  refine lv_aload_n hx hb d_Hand_init_14 rfl (lv_at hl 0 rfl) ?_
  refine lv_iconst (v := 0) hx hb d_Hand_init_15 (by decide) ?_
  refine gw_put (v := .int 0) hx hb hT i_Hand t_Hand t_Hand_ok n_Hand hown hK hG hM2_a rfl 4 (by decide) (hT _ wm_471) (fun _ h => h) rfl rfl rfl (Nat.le_of_ble_eq_true rfl) d_Hand_init_16 (fun H locs hG => ?_)
  obtain ⟨M3, e_M3⟩ : ∃ Y_ : gM, Y_ = gw_up M2 a (.inr (6, [.int 0, .int 0, .int 0, .int 0, .int 0, .int 0, .int 0, .int 0, .int 0, .int 0])) := ⟨_, rfl⟩
  replace hG := gw_nm e_M3 hG
  have hM3_a := (congrFun e_M3 a).trans gw_hit
  refine lv_aload_n hx hb d_Hand_init_19 rfl (lv_at hl 0 rfl) ?_
  refine lv_iconst (v := 0) hx hb d_Hand_init_20 (by decide) ?_
  refine gw_put (v := .int 0) hx hb hT i_Hand t_Hand t_Hand_ok n_Hand hown hK hG hM3_a rfl 5 (by decide) (hT _ wm_474) (fun _ h => h) rfl rfl rfl (Nat.le_of_ble_eq_true rfl) d_Hand_init_21 (fun H locs hG => ?_)
  obtain ⟨M4, e_M4⟩ : ∃ Y_ : gM, Y_ = gw_up M3 a (.inr (6, [.int 0, .int 0, .int 0, .int 0, .int 0, .int 0, .int 0, .int 0, .int 0, .int 0])) := ⟨_, rfl⟩
  replace hG := gw_nm e_M4 hG
  have hM4_a := (congrFun e_M4 a).trans gw_hit
  refine lv_aload_n hx hb d_Hand_init_24 rfl (lv_at hl 0 rfl) ?_
  refine lv_bipush (v := 32) hx hb d_Hand_init_25 (by decide) ?_
  refine gw_put (v := .int 32) hx hb hT i_Hand t_Hand t_Hand_ok n_Hand hown hK hG hM4_a rfl 6 (by decide) (hT _ wm_477) (fun _ h => h) rfl rfl rfl (Nat.le_of_ble_eq_true rfl) d_Hand_init_27 (fun H locs hG => ?_)
  obtain ⟨M5, e_M5⟩ : ∃ Y_ : gM, Y_ = gw_up M4 a (.inr (6, [.int 0, .int 0, .int 0, .int 0, .int 0, .int 0, .int 32, .int 0, .int 0, .int 0])) := ⟨_, rfl⟩
  replace hG := gw_nm e_M5 hG
  have hM5_a := (congrFun e_M5 a).trans gw_hit
  refine lv_aload_n hx hb d_Hand_init_30 rfl (lv_at hl 0 rfl) ?_
  refine lv_iconst (v := 0) hx hb d_Hand_init_31 (by decide) ?_
  refine gw_put (v := .int 0) hx hb hT i_Hand t_Hand t_Hand_ok n_Hand hown hK hG hM5_a rfl 7 (by decide) (hT _ wm_478) (fun _ h => h) rfl rfl rfl (Nat.le_of_ble_eq_true rfl) d_Hand_init_32 (fun H locs hG => ?_)
  obtain ⟨M6, e_M6⟩ : ∃ Y_ : gM, Y_ = gw_up M5 a (.inr (6, [.int 0, .int 0, .int 0, .int 0, .int 0, .int 0, .int 32, .int 0, .int 0, .int 0])) := ⟨_, rfl⟩
  replace hG := gw_nm e_M6 hG
  have hM6_a := (congrFun e_M6 a).trans gw_hit
  refine lv_aload_n hx hb d_Hand_init_35 rfl (lv_at hl 0 rfl) ?_
  refine lv_iconst (v := 0) hx hb d_Hand_init_36 (by decide) ?_
  refine gw_put (v := .int 0) hx hb hT i_Hand t_Hand t_Hand_ok n_Hand hown hK hG hM6_a rfl 8 (by decide) (hT _ wm_479) (fun _ h => h) rfl rfl rfl (Nat.le_of_ble_eq_true rfl) d_Hand_init_37 (fun H locs hG => ?_)
  obtain ⟨M7, e_M7⟩ : ∃ Y_ : gM, Y_ = gw_up M6 a (.inr (6, [.int 0, .int 0, .int 0, .int 0, .int 0, .int 0, .int 32, .int 0, .int 0, .int 0])) := ⟨_, rfl⟩
  replace hG := gw_nm e_M7 hG
  have hM7_a := (congrFun e_M7 a).trans gw_hit
  refine lv_aload_n hx hb d_Hand_init_40 rfl (lv_at hl 0 rfl) ?_
  refine lv_iconst (v := (-1)) hx hb d_Hand_init_41 (by decide) ?_
  refine gw_put (v := .int (-1)) hx hb hT i_Hand t_Hand t_Hand_ok n_Hand hown hK hG hM7_a rfl 9 (by decide) (hT _ wm_480) (fun _ h => h) rfl rfl rfl (Nat.le_of_ble_eq_true rfl) d_Hand_init_42 (fun H locs hG => ?_)
  obtain ⟨M8, e_M8⟩ : ∃ Y_ : gM, Y_ = gw_up M7 a (.inr (6, [.int 0, .int 0, .int 0, .int 0, .int 0, .int 0, .int 32, .int 0, .int 0, .int (-1)])) := ⟨_, rfl⟩
  replace hG := gw_nm e_M8 hG
  have hM8_a := (congrFun e_M8 a).trans gw_hit
  refine lv_aload_n hx hb d_Hand_init_45 rfl (lv_at hl 0 rfl) ?_
  refine lv_iload_n hx hb d_Hand_init_46 rfl (lv_at hl 1 rfl) ?_
  refine gw_putF (v := .int x) hx hb hT i_Hand t_Hand t_Hand_ok n_Hand hown hK hG hM8_a rfl 0 (by decide) (hT _ wm_463) (fun _ h => h) rfl hnm rfl rfl rfl (Nat.le_of_ble_eq_true rfl) d_Hand_init_47 (fun H locs hG => ?_)
  obtain ⟨M9, e_M9⟩ : ∃ Y_ : gM, Y_ = gw_up M8 a (.inr (6, [.int x, .int 0, .int 0, .int 0, .int 0, .int 0, .int 32, .int 0, .int 0, .int (-1)])) := ⟨_, rfl⟩
  replace hG := gw_nm e_M9 hG
  have hM9_a := (congrFun e_M9 a).trans gw_hit
  refine lv_aload_n hx hb d_Hand_init_50 rfl (lv_at hl 0 rfl) ?_
  refine lv_iload_n hx hb d_Hand_init_51 rfl (lv_at hl 2 rfl) ?_
  refine gw_putF (v := .int y) hx hb hT i_Hand t_Hand t_Hand_ok n_Hand hown hK hG hM9_a rfl 1 (by decide) (hT _ wm_464) (fun _ h => h) rfl hnm rfl rfl rfl (Nat.le_of_ble_eq_true rfl) d_Hand_init_52 (fun H locs hG => ?_)
  obtain ⟨M10, e_M10⟩ : ∃ Y_ : gM, Y_ = gw_up M9 a (.inr (6, [.int x, .int y, .int 0, .int 0, .int 0, .int 0, .int 32, .int 0, .int 0, .int (-1)])) := ⟨_, rfl⟩
  replace hG := gw_nm e_M10 hG
  have hM10_a := (congrFun e_M10 a).trans gw_hit
  exact gw_vret hx hb hr hlk hG (by rw [e_M10, e_M9, e_M8, e_M7, e_M6, e_M5, e_M4, e_M3, e_M2, e_M1, gw_twice, gw_twice, gw_twice, gw_twice, gw_twice, gw_twice, gw_twice, gw_twice, gw_twice]) (Nat.le_of_ble_eq_true rfl) (Nat.le_of_ble_eq_true rfl) d_Hand_init_55
set_option maxHeartbeats 4000000 in
set_option maxRecDepth 100000 in
theorem c_Hand_drift (l : Launch) (E : Nat) (D : va_G) (cI cO cZ : ClassId) (z0 : Nat) (M : gM) {a : Nat} {v : gH} (ha : M a = some (gw_hd v)) : Met l y_Hand_drift (Cond.code y_Hand_drift b_Hand_drift 2 (some .int) :: gT) ({ frames := 0, cells := 0, slots := 0, locals := 0 }) (gw_Pc E D cI cO cZ z0 M [.ref a]) (gw_Qi E D (fun r M' => r = p_drift v ∧ M' = M)) 0 0 (gw_A E) := by
  refine gw_ofW (cc := b_Hand_drift) (maxL := 2) (ret := (some .int)) (by decide) rfl (Nat.le_of_ble_eq_true rfl) ?_
  intro p e s m args below meth c hx hb hr hml hts hown hlk hnm hF hG ls hl
  have hT : ∀ w ∈ gT, w.before args s = true := fun w h => hts w (List.mem_cons_of_mem _ h)
  have hK := hF.1
  have hl : lv_has ls 2 [(0, .ref a)] := hl
  refine lv_aload_n hx hb d_Hand_drift_0 rfl (lv_at hl 0 rfl) ?_
  refine gw_get hx hb hT i_Hand hown hK hG ha rfl 1 (by decide) (hT _ wm_464) (fun _ h => h) rfl d_Hand_drift_1 ?_
  refine lv_if_ne (tgt := 9) hx hb d_Hand_drift_4 (by decide) (fun c_4 => ?_) (fun c_4 => ?_)
  · skip
    refine lv_aload_n hx hb d_Hand_drift_9 rfl (lv_at hl 0 rfl) ?_
    refine gw_get hx hb hT i_Hand hown hK hG ha rfl 2 (by decide) (hT _ wm_465) (fun _ h => h) rfl d_Hand_drift_10 ?_
    refine lv_bipush (v := 20) hx hb d_Hand_drift_13 (by decide) ?_
    refine lv_idiv hx hb d_Hand_drift_15 (by decide) ?_
    refine lv_istore_n (lv' := [(1, .int (v.2.2.1 / 20)), (0, .ref a)]) hx hb d_Hand_drift_16 rfl hl (by decide) rfl (fun ls hl => ?_)
    refine lv_aload_n hx hb d_Hand_drift_17 rfl (lv_at hl 1 rfl) ?_
    refine gw_get hx hb hT i_Hand hown hK hG ha rfl 1 (by decide) (hT _ wm_464) (fun _ h => h) rfl d_Hand_drift_18 ?_
    refine lv_if_le (tgt := 33) hx hb d_Hand_drift_21 (by decide) (fun c_21 => ?_) (fun c_21 => ?_)
    · skip
      refine lv_aload_n hx hb d_Hand_drift_33 rfl (lv_at hl 1 rfl) ?_
      refine gw_get hx hb hT i_Hand hown hK hG ha rfl 1 (by decide) (hT _ wm_464) (fun _ h => h) rfl d_Hand_drift_34 ?_
      refine lv_iload_n hx hb d_Hand_drift_37 rfl (lv_at hl 0 rfl) ?_
      refine lv_isub hx hb d_Hand_drift_38 ?_
      exact gw_iret (v := (v.2.1 - (v.2.2.1 / 20))) hx hb hr hlk hG (⟨by unfold p_drift; rw [if_neg c_4, if_pos c_21], rfl⟩) (Nat.le_of_ble_eq_true rfl) (Nat.le_of_ble_eq_true rfl) d_Hand_drift_39
    · skip
      refine lv_aload_n hx hb d_Hand_drift_24 rfl (lv_at hl 1 rfl) ?_
      refine gw_get hx hb hT i_Hand hown hK hG ha rfl 1 (by decide) (hT _ wm_464) (fun _ h => h) rfl d_Hand_drift_25 ?_
      refine lv_iload_n hx hb d_Hand_drift_28 rfl (lv_at hl 0 rfl) ?_
      refine lv_iadd hx hb d_Hand_drift_29 ?_
      refine lv_goto (tgt := 39) hx hb d_Hand_drift_30 (by decide) ?_
      exact gw_iret (v := (v.2.1 + (v.2.2.1 / 20))) hx hb hr hlk hG (⟨by unfold p_drift; rw [if_neg c_4, if_neg c_21], rfl⟩) (Nat.le_of_ble_eq_true rfl) (Nat.le_of_ble_eq_true rfl) d_Hand_drift_39
  · skip
    refine lv_iconst (v := 0) hx hb d_Hand_drift_7 (by decide) ?_
    exact gw_iret (v := 0) hx hb hr hlk hG (⟨by unfold p_drift; rw [if_pos c_4], rfl⟩) (Nat.le_of_ble_eq_true rfl) (Nat.le_of_ble_eq_true rfl) d_Hand_drift_8
set_option maxHeartbeats 4000000 in
set_option maxRecDepth 100000 in
theorem c_Hand_tire (l : Launch) (E : Nat) (D : va_G) (cI cO cZ : ClassId) (z0 : Nat) (M : gM) {a : Nat} {v : gH} (ha : M a = some (gw_hd v)) : Met l y_Hand_tire (Cond.code y_Hand_tire b_Hand_tire 1 none :: gT) ({ frames := 1, cells := 0, slots := 0, locals := 15 }) (gw_Pc E D cI cO cZ z0 M [.ref a]) (gw_Qv E D (fun M' => M' = gw_up M a (gw_hd (p_tire v)))) 0 0 (gw_A E) := by
  refine gw_ofW (cc := b_Hand_tire) (maxL := 1) (ret := none) (by decide) rfl (Nat.le_of_ble_eq_true rfl) ?_
  intro p e s m args below meth c hx hb hr hml hts hown hlk hnm hF hG ls hl
  have hT : ∀ w ∈ gT, w.before args s = true := fun w h => hts w (List.mem_cons_of_mem _ h)
  have hK := hF.1
  have hl : lv_has ls 1 [(0, .ref a)] := hl
  refine lv_aload_n hx hb d_Hand_tire_0 rfl (lv_at hl 0 rfl) ?_
  refine lv_aload_n hx hb d_Hand_tire_1 rfl (lv_at hl 0 rfl) ?_
  refine gw_get hx hb hT i_Hand hown hK hG ha rfl 2 (by decide) (hT _ wm_465) (fun _ h => h) rfl d_Hand_tire_2 ?_
  refine lv_iconst (v := 2) hx hb d_Hand_tire_5 (by decide) ?_
  refine lv_iadd hx hb d_Hand_tire_6 ?_
  refine lv_bipush (v := 100) hx hb d_Hand_tire_7 (by decide) ?_
  refine va_mmin hx hb (hml.trans hl.1.symm) hown (hT _ wm_715) (hT _ wm_229) (hT _ wm_32) (hT _ wm_230) (Nat.le_of_ble_eq_true rfl) (Nat.le_of_ble_eq_true rfl) (Nat.le_of_ble_eq_true rfl) (Nat.le_of_ble_eq_true rfl) d_Hand_tire_9 ?_
  refine gw_put (v := .int (if 100 < v.2.2.1 + 2 then 100 else v.2.2.1 + 2)) hx hb hT i_Hand t_Hand t_Hand_ok n_Hand hown hK hG ha rfl 2 (by decide) (hT _ wm_465) (fun _ h => h) rfl rfl rfl (Nat.le_of_ble_eq_true rfl) d_Hand_tire_12 (fun H locs hG => ?_)
  obtain ⟨M1, e_M1⟩ : ∃ Y_ : gM, Y_ = gw_up M a (.inr (6, [.int v.1, .int v.2.1, .int (if 100 < v.2.2.1 + 2 then 100 else v.2.2.1 + 2), .int v.2.2.2.1, .int v.2.2.2.2.1, .int v.2.2.2.2.2, .int 32, .int 0, .int 0, .int (-1)])) := ⟨_, rfl⟩
  replace hG := gw_nm e_M1 hG
  have hM1_a := (congrFun e_M1 a).trans gw_hit
  exact gw_vret hx hb hr hlk hG (e_M1) (Nat.le_of_ble_eq_true rfl) (Nat.le_of_ble_eq_true rfl) d_Hand_tire_15
set_option maxHeartbeats 4000000 in
set_option maxRecDepth 100000 in
theorem c_Hand_rest (l : Launch) (E : Nat) (D : va_G) (cI cO cZ : ClassId) (z0 : Nat) (M : gM) {a : Nat} {v : gH} (ha : M a = some (gw_hd v)) : Met l y_Hand_rest (Cond.code y_Hand_rest b_Hand_rest 1 none :: gT) ({ frames := 1, cells := 0, slots := 0, locals := 15 }) (gw_Pc E D cI cO cZ z0 M [.ref a]) (gw_Qv E D (fun M' => M' = gw_up M a (gw_hd (p_rest v)))) 0 0 (gw_A E) := by
  refine gw_ofW (cc := b_Hand_rest) (maxL := 1) (ret := none) (by decide) rfl (Nat.le_of_ble_eq_true rfl) ?_
  intro p e s m args below meth c hx hb hr hml hts hown hlk hnm hF hG ls hl
  have hT : ∀ w ∈ gT, w.before args s = true := fun w h => hts w (List.mem_cons_of_mem _ h)
  have hK := hF.1
  have hl : lv_has ls 1 [(0, .ref a)] := hl
  refine lv_aload_n hx hb d_Hand_rest_0 rfl (lv_at hl 0 rfl) ?_
  refine lv_aload_n hx hb d_Hand_rest_1 rfl (lv_at hl 0 rfl) ?_
  refine gw_get hx hb hT i_Hand hown hK hG ha rfl 2 (by decide) (hT _ wm_465) (fun _ h => h) rfl d_Hand_rest_2 ?_
  refine lv_bipush (v := 30) hx hb d_Hand_rest_5 (by decide) ?_
  refine lv_isub hx hb d_Hand_rest_7 ?_
  refine lv_iconst (v := 0) hx hb d_Hand_rest_8 (by decide) ?_
  refine va_mmax hx hb (hml.trans hl.1.symm) hown (hT _ wm_737) (hT _ wm_195) (hT _ wm_32) (hT _ wm_196) (Nat.le_of_ble_eq_true rfl) (Nat.le_of_ble_eq_true rfl) (Nat.le_of_ble_eq_true rfl) (Nat.le_of_ble_eq_true rfl) d_Hand_rest_9 ?_
  refine gw_put (v := .int (if v.2.2.1 - 30 < 0 then 0 else v.2.2.1 - 30)) hx hb hT i_Hand t_Hand t_Hand_ok n_Hand hown hK hG ha rfl 2 (by decide) (hT _ wm_465) (fun _ h => h) rfl rfl rfl (Nat.le_of_ble_eq_true rfl) d_Hand_rest_12 (fun H locs hG => ?_)
  obtain ⟨M1, e_M1⟩ : ∃ Y_ : gM, Y_ = gw_up M a (.inr (6, [.int v.1, .int v.2.1, .int (if v.2.2.1 - 30 < 0 then 0 else v.2.2.1 - 30), .int v.2.2.2.1, .int v.2.2.2.2.1, .int v.2.2.2.2.2, .int 32, .int 0, .int 0, .int (-1)])) := ⟨_, rfl⟩
  replace hG := gw_nm e_M1 hG
  have hM1_a := (congrFun e_M1 a).trans gw_hit
  refine lv_aload_n hx hb d_Hand_rest_15 rfl (lv_at hl 0 rfl) ?_
  refine lv_aload_n hx hb d_Hand_rest_16 rfl (lv_at hl 0 rfl) ?_
  refine gw_get hx hb hT i_Hand hown hK hG hM1_a rfl 3 (by decide) (hT _ wm_468) (fun _ h => h) rfl d_Hand_rest_17 ?_
  refine lv_iconst (v := 1) hx hb d_Hand_rest_20 (by decide) ?_
  refine lv_isub hx hb d_Hand_rest_21 ?_
  refine lv_iconst (v := 0) hx hb d_Hand_rest_22 (by decide) ?_
  refine va_mmax hx hb (hml.trans hl.1.symm) hown (hT _ wm_737) (hT _ wm_195) (hT _ wm_32) (hT _ wm_196) (Nat.le_of_ble_eq_true rfl) (Nat.le_of_ble_eq_true rfl) (Nat.le_of_ble_eq_true rfl) (Nat.le_of_ble_eq_true rfl) d_Hand_rest_23 ?_
  refine gw_put (v := .int (if v.2.2.2.1 - 1 < 0 then 0 else v.2.2.2.1 - 1)) hx hb hT i_Hand t_Hand t_Hand_ok n_Hand hown hK hG hM1_a rfl 3 (by decide) (hT _ wm_468) (fun _ h => h) rfl rfl rfl (Nat.le_of_ble_eq_true rfl) d_Hand_rest_26 (fun H locs hG => ?_)
  obtain ⟨M2, e_M2⟩ : ∃ Y_ : gM, Y_ = gw_up M1 a (.inr (6, [.int v.1, .int v.2.1, .int (if v.2.2.1 - 30 < 0 then 0 else v.2.2.1 - 30), .int (if v.2.2.2.1 - 1 < 0 then 0 else v.2.2.2.1 - 1), .int v.2.2.2.2.1, .int v.2.2.2.2.2, .int 32, .int 0, .int 0, .int (-1)])) := ⟨_, rfl⟩
  replace hG := gw_nm e_M2 hG
  have hM2_a := (congrFun e_M2 a).trans gw_hit
  exact gw_vret hx hb hr hlk hG (by rw [e_M2, e_M1, gw_twice]; rfl) (Nat.le_of_ble_eq_true rfl) (Nat.le_of_ble_eq_true rfl) d_Hand_rest_29
set_option maxHeartbeats 4000000 in
set_option maxRecDepth 100000 in
theorem c_Gang_worseOf (l : Launch) (E : Nat) (D : va_G) (cI cO cZ : ClassId) (z0 : Nat) (M : gM) {a b : Nat} {v u : gH} (ha : M a = some (gw_hd v)) (hb0 : M b = some (gw_hd u)) : Met l y_Gang_worseOf (Cond.code y_Gang_worseOf b_Gang_worseOf 2 (some (.object "ThresholdRow$Hand")) :: gT) ({ frames := 1, cells := 0, slots := 0, locals := 15 }) (gw_Pc E D cI cO cZ z0 M [.ref a, .ref b]) (gw_Qq E D (fun r M' => r = some (if p_abs v.2.2.2.2.2 ≤ p_abs u.2.2.2.2.2 then b else a) ∧ M' = M)) 0 0 (gw_A E) := by
  refine gw_ofW (cc := b_Gang_worseOf) (maxL := 2) (ret := (some (.object "ThresholdRow$Hand"))) (by decide) rfl (Nat.le_of_ble_eq_true rfl) ?_
  intro p e s m args below meth c hx hb hr hml hts hown hlk hnm hF hG ls hl
  have hT : ∀ w ∈ gT, w.before args s = true := fun w h => hts w (List.mem_cons_of_mem _ h)
  have hK := hF.1
  have hl : lv_has ls 2 [(0, .ref a), (1, .ref b)] := hl
  refine lv_aload_n hx hb d_Gang_worseOf_0 rfl (lv_at hl 0 rfl) ?_
  refine gw_get hx hb hT i_Hand hown hK hG ha rfl 5 (by decide) (hT _ wm_475) (fun _ h => h) rfl d_Gang_worseOf_1 ?_
  refine va_mabs hx hb (hml.trans hl.1.symm) hown (hT _ wm_704) (hT _ wm_705) (hT _ wm_32) (hT _ wm_706) (Nat.le_of_ble_eq_true rfl) (Nat.le_of_ble_eq_true rfl) (Nat.le_of_ble_eq_true rfl) (Nat.le_of_ble_eq_true rfl) d_Gang_worseOf_4 ?_
  refine lv_aload_n hx hb d_Gang_worseOf_7 rfl (lv_at hl 1 rfl) ?_
  refine gw_get hx hb hT i_Hand hown hK hG hb0 rfl 5 (by decide) (hT _ wm_475) (fun _ h => h) rfl d_Gang_worseOf_8 ?_
  refine va_mabs hx hb (hml.trans hl.1.symm) hown (hT _ wm_704) (hT _ wm_705) (hT _ wm_32) (hT _ wm_706) (Nat.le_of_ble_eq_true rfl) (Nat.le_of_ble_eq_true rfl) (Nat.le_of_ble_eq_true rfl) (Nat.le_of_ble_eq_true rfl) d_Gang_worseOf_11 ?_
  refine lv_icmp_le (tgt := 21) hx hb d_Gang_worseOf_14 (by decide) (fun c_14 => ?_) (fun c_14 => ?_)
  · skip
    refine lv_aload_n hx hb d_Gang_worseOf_21 rfl (lv_at hl 1 rfl) ?_
    exact gw_aret hx hb hr (Or.inl ⟨_, rfl⟩) hlk hG (⟨congrArg some (if_pos c_14).symm, rfl⟩) (Nat.le_of_ble_eq_true rfl) (Nat.le_of_ble_eq_true rfl) d_Gang_worseOf_22
  · skip
    refine lv_aload_n hx hb d_Gang_worseOf_17 rfl (lv_at hl 0 rfl) ?_
    refine lv_goto (tgt := 22) hx hb d_Gang_worseOf_18 (by decide) ?_
    exact gw_aret hx hb hr (Or.inl ⟨_, rfl⟩) hlk hG (⟨congrArg some (if_neg c_14).symm, rfl⟩) (Nat.le_of_ble_eq_true rfl) (Nat.le_of_ble_eq_true rfl) d_Gang_worseOf_22
theorem c_L_size (l : Launch) (E : Nat) (D : va_G) (cI cO cZ : ClassId) (z0 : Nat) (M : gM) {a t n : Nat} {g : Nat → Nat} (hL : gw_L z0 cO M a t n g) : Met l y_AL_size (Cond.code y_AL_size b_AL_size 1 (some .int) :: gT) ({ frames := 0, cells := 0, slots := 0, locals := 0 }) (gw_Pc E D cI cO cZ z0 M [.ref a]) (gw_Qi E D (fun r M' => r = nI n ∧ M' = M)) 0 0 (gw_A E) := by
  obtain ⟨k, ha, -⟩ := hL
  exact c_AL_size l E D cI cO cZ z0 M ha
theorem c_L_get (l : Launch) (E : Nat) (D : va_G) (cI cO cZ : ClassId) (z0 : Nat) (M : gM) {a t n : Nat} {g : Nat → Nat} (hL : gw_L z0 cO M a t n g) {p : Nat} (hp : p < n) : Met l y_AL_get (Cond.code y_AL_get b_AL_get 2 (some (.object "java/lang/Object")) :: gT) ({ frames := 2, cells := 0, slots := 0, locals := 43 }) (gw_Pc E D cI cO cZ z0 M [.ref a, .int (nI p)]) (gw_Qq E D (fun r M' => r = some (g p) ∧ M' = M)) 0 0 (gw_A E) := by
  obtain ⟨k, ha, h10, hf⟩ := hL
  rcases hf with ⟨h0, -⟩ | ⟨f, ht, hfp⟩
  · omega
  · exact c_AL_get l E D cI cO cZ z0 M ha ht (vp_in_nI (by omega) (by decide)) (by rw [nI_clamp (by omega)]; exact hfp p hp) (nI_pos (by omega)) (nI_lt hp (by omega))
set_option maxHeartbeats 4000000 in
set_option maxRecDepth 100000 in
theorem c_AL_add (l : Launch) (E : Nat) (D : va_G) (cI cO cZ : ClassId) (z0 : Nat) (M : gM) {a t n : Nat} {g : Nat → Nat} (hL : gw_L z0 cO M a t n g) {v cv : Nat} {r : vw_C} {vs : List Value} (hv : M v = some (.inr (cv, vs))) (hc : classes[cv]? = some r) (hca : Cond.castable r.1 "java/lang/Object" ∈ lw_tbl) (hn : n < 10) (hva : v ≠ a) : Met l y_AL_add (Cond.code y_AL_add b_AL_add 2 (some .boolean) :: gT) ({ frames := 4, cells := 1, slots := 10, locals := 80 }) (gw_Pc E D cI cO cZ z0 M [.ref a, .ref v]) (gw_Qi E D (fun r M' => r = 1 ∧ ∃ t' : Nat, (t' = t ∨ M t' = none) ∧ gw_L z0 cO M' a t' (n + 1) (va_up g n v) ∧ ∀ b, b ≠ a → b ≠ t' → M' b = M b)) 1 10 (gw_A E) := by
  refine gw_ofW (cc := b_AL_add) (maxL := 2) (ret := (some .boolean)) (by decide) rfl (Nat.le_of_ble_eq_true rfl) ?_
  intro p e s m args below meth c hx hb hr hml hts hown hlk hnm hF hG ls hl
  have hT : ∀ w ∈ gT, w.before args s = true := fun w h => hts w (List.mem_cons_of_mem _ h)
  have hK := hF.1
  have hl : lv_has ls 2 [(0, .ref a), (1, .ref v)] := hl
  obtain ⟨k, ha, h10, hf⟩ := hL
  have hta : ∀ f, M t = some (.inl (cO, 10, .inr (.inr (.inr (.inr f))))) → t ≠ a := fun f h => gw_neA h ha
  have htv : ∀ f, M t = some (.inl (cO, 10, .inr (.inr (.inr (.inr f))))) → t ≠ v := fun f h => gw_neA h hv
  refine lv_aload_n hx hb d_AL_add_0 rfl (lv_at hl 0 rfl) ?_
  refine lv_dup hx hb d_AL_add_1 rfl ?_
  refine gw_get hx hb hT i_List hown hK hG ha rfl 0 (by decide) (hT _ wm_74) (fun x h => u_same (hT _ wm_75) x h) rfl d_AL_add_2 ?_
  refine lv_iconst (v := 1) hx hb d_AL_add_5 (by decide) ?_
  refine lv_iadd hx hb d_AL_add_6 ?_
  refine gw_put (v := .int (k + 1)) hx hb hT i_List t_List t_List_ok n_List hown hK hG ha rfl 0 (by decide) (hT _ wm_74) (fun x h => u_same (hT _ wm_75) x h) rfl rfl rfl (Nat.le_of_ble_eq_true rfl) d_AL_add_7 (fun H locs hG => ?_)
  obtain ⟨M1, e_M1⟩ : ∃ Y_ : gM, Y_ = gw_up M a (.inr (1, [.int (k + 1), .ref t, .int (nI n)])) := ⟨_, rfl⟩
  replace hG := gw_nm e_M1 hG
  have hM1_v := (congrFun e_M1 v).trans ((gw_miss hva).trans hv)
  have hM1_a := (congrFun e_M1 a).trans gw_hit
  refine lv_aload_n hx hb d_AL_add_10 rfl (lv_at hl 0 rfl) ?_
  refine lv_aload_n hx hb d_AL_add_11 rfl (lv_at hl 1 rfl) ?_
  refine lv_aload_n hx hb d_AL_add_12 rfl (lv_at hl 0 rfl) ?_
  refine gw_get hx hb hT i_List hown hK hG hM1_a rfl 1 (by decide) (hT _ wm_71) (fun _ h => h) rfl d_AL_add_13 ?_
  refine lv_aload_n hx hb d_AL_add_16 rfl (lv_at hl 0 rfl) ?_
  refine gw_get hx hb hT i_List hown hK hG hM1_a rfl 2 (by decide) (hT _ wm_72) (fun _ h => h) rfl d_AL_add_17 ?_
  rcases hf with ⟨h0, hz⟩ | ⟨f, ht, hfp⟩
  · skip
    subst h0
    have hz := hz.symm
    subst hz
    refine gw_callv (gw_runV (As := [.ref v, .ref z0, .int 0]) (rest := []) ⟨hx, hb, hml, hown, hts⟩ (c_AL_add_2_e l E D cI cO cZ z0 M1 (hM1_a) hM1_v hc hca hva) (gw_cwV 3 hts (gT_gi wm_182) rfl rfl rfl (hT _ wm_26) (hT _ wm_179) (hT _ wm_181) (hT _ wm_0) (by decide +kernel) ⟨Nat.le_of_ble_eq_true rfl, Nat.le_of_ble_eq_true rfl⟩) hF hG rfl hM1_a rfl hl.1 rfl (Nat.le_of_ble_eq_true rfl) d_AL_add_20 ⟨Nat.le_of_ble_eq_true rfl, Nat.le_of_ble_eq_true rfl⟩) hG (fun M2 H locs hp hG => ?_)
    obtain ⟨q, hq, e_M2⟩ := hp
    have hqa : q ≠ a := fun z => by rw [z, hM1_a] at hq; cases hq
    have hqn : M q = none := by rw [e_M1, gw_miss hqa] at hq; exact hq
    refine lv_iconst (v := 1) hx hb d_AL_add_23 (by decide) ?_
    refine gw_zret (v := 1) hx hb hr hlk hG rfl ⟨rfl, q, Or.inr hqn, ⟨k + 1, (by rw [e_M2]; exact gw_hit), by omega, Or.inr ⟨_, (by rw [e_M2, gw_miss hqa]; exact gw_hit), fun p hp => ?_⟩⟩, fun b h1 h2 => (by rw [e_M2, gw_miss h1, gw_miss h2, e_M1, gw_miss h1])⟩ (Nat.le_of_ble_eq_true rfl) (Nat.le_of_ble_eq_true rfl) d_AL_add_24
    have hp0 : p = 0 := by omega
    subst hp0
    rfl
  · skip
    have hM1_t := (congrFun e_M1 t).trans ((gw_miss (hta f ht)).trans ht)
    refine gw_callv (gw_runV (As := [.ref v, .ref t, .int (nI n)]) (rest := []) ⟨hx, hb, hml, hown, hts⟩ (c_AL_add_2 l E D cI cO cZ z0 M1 hM1_a hM1_t hM1_v hc hca (fun z => absurd ((nI_eq (by omega) (by decide)).mp (show nI n = nI 10 from z)) (by omega)) (vp_in_nI hn (by decide))) (gw_cwV 3 hts (gT_gi wm_182) rfl rfl rfl (hT _ wm_26) (hT _ wm_179) (hT _ wm_181) (hT _ wm_0) (by decide +kernel) ⟨Nat.le_of_ble_eq_true rfl, Nat.le_of_ble_eq_true rfl⟩) hF hG rfl hM1_a rfl hl.1 rfl (Nat.le_of_ble_eq_true rfl) d_AL_add_20 ⟨Nat.le_of_ble_eq_true rfl, Nat.le_of_ble_eq_true rfl⟩) hG (fun M2 H locs hp hG => ?_)
    have e_M2 := hp
    refine lv_iconst (v := 1) hx hb d_AL_add_23 (by decide) ?_
    refine gw_zret (v := 1) hx hb hr hlk hG rfl ⟨rfl, t, Or.inl rfl, ⟨k + 1, by rw [e_M2, gw_hit, nI_succ], by omega, Or.inr ⟨_, by rw [e_M2, gw_miss (hta f ht)]; exact gw_hit, fun p hp => ?_⟩⟩, fun b h1 h2 => by rw [e_M2, gw_miss h1, gw_miss h2, e_M1, gw_miss h1]⟩ (Nat.le_of_ble_eq_true rfl) (Nat.le_of_ble_eq_true rfl) d_AL_add_24
    rw [nI_clamp (by omega)]
    unfold va_up
    by_cases hpn : p = n
    · rw [if_pos hpn, if_pos hpn]
    · rw [if_neg hpn, if_neg hpn]; exact hfp p (by omega)
