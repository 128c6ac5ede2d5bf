theorem d_AL_fastRemove_0 : decode b_AL_fastRemove 0 = .ok (.aload_n 0, 1) := by decide +kernel
theorem d_AL_fastRemove_1 : decode b_AL_fastRemove 1 = .ok (.dup, 1) := by decide +kernel
theorem d_AL_fastRemove_2 : decode b_AL_fastRemove 2 = .ok (.getfield 63, 3) := by decide +kernel
theorem d_AL_fastRemove_5 : decode b_AL_fastRemove 5 = .ok (.iconst 1, 1) := by decide +kernel
theorem d_AL_fastRemove_6 : decode b_AL_fastRemove 6 = .ok (.iadd, 1) := by decide +kernel
theorem d_AL_fastRemove_7 : decode b_AL_fastRemove 7 = .ok (.putfield 63, 3) := by decide +kernel
theorem d_AL_fastRemove_10 : decode b_AL_fastRemove 10 = .ok (.aload_n 0, 1) := by decide +kernel
theorem d_AL_fastRemove_11 : decode b_AL_fastRemove 11 = .ok (.getfield 48, 3) := by decide +kernel
theorem d_AL_fastRemove_14 : decode b_AL_fastRemove 14 = .ok (.iconst 1, 1) := by decide +kernel
theorem d_AL_fastRemove_15 : decode b_AL_fastRemove 15 = .ok (.isub, 1) := by decide +kernel
theorem d_AL_fastRemove_16 : decode b_AL_fastRemove 16 = .ok (.dup, 1) := by decide +kernel
theorem d_AL_fastRemove_17 : decode b_AL_fastRemove 17 = .ok (.istore_n 3, 1) := by decide +kernel
theorem d_AL_fastRemove_18 : decode b_AL_fastRemove 18 = .ok (.iload_n 2, 1) := by decide +kernel
theorem d_AL_fastRemove_19 : decode b_AL_fastRemove 19 = .ok (.if_icmp .le 15, 3) := by decide +kernel
theorem d_AL_fastRemove_34 : decode b_AL_fastRemove 34 = .ok (.aload_n 1, 1) := by decide +kernel
theorem d_AL_fastRemove_35 : decode b_AL_fastRemove 35 = .ok (.aload_n 0, 1) := by decide +kernel
theorem d_AL_fastRemove_36 : decode b_AL_fastRemove 36 = .ok (.iload_n 3, 1) := by decide +kernel
theorem d_AL_fastRemove_37 : decode b_AL_fastRemove 37 = .ok (.dup_x1, 1) := by decide +kernel
theorem d_AL_fastRemove_38 : decode b_AL_fastRemove 38 = .ok (.putfield 48, 3) := by decide +kernel
theorem d_AL_fastRemove_41 : decode b_AL_fastRemove 41 = .ok (.aconst_null, 1) := by decide +kernel
theorem d_AL_fastRemove_42 : decode b_AL_fastRemove 42 = .ok (.aastore, 1) := by decide +kernel
theorem d_AL_fastRemove_43 : decode b_AL_fastRemove 43 = .ok (.return_, 1) := by decide +kernel
theorem d_AL_fastRemove_22 : decode b_AL_fastRemove 22 = .ok (.aload_n 1, 1) := by decide +kernel
theorem d_AL_fastRemove_23 : decode b_AL_fastRemove 23 = .ok (.iload_n 2, 1) := by decide +kernel
theorem d_AL_fastRemove_24 : decode b_AL_fastRemove 24 = .ok (.iconst 1, 1) := by decide +kernel
theorem d_AL_fastRemove_25 : decode b_AL_fastRemove 25 = .ok (.iadd, 1) := by decide +kernel
theorem d_AL_fastRemove_26 : decode b_AL_fastRemove 26 = .ok (.aload_n 1, 1) := by decide +kernel
theorem d_AL_fastRemove_27 : decode b_AL_fastRemove 27 = .ok (.iload_n 2, 1) := by decide +kernel
theorem d_AL_fastRemove_28 : decode b_AL_fastRemove 28 = .ok (.iload_n 3, 1) := by decide +kernel
theorem d_AL_fastRemove_29 : decode b_AL_fastRemove 29 = .ok (.iload_n 2, 1) := by decide +kernel
theorem d_AL_fastRemove_30 : decode b_AL_fastRemove 30 = .ok (.isub, 1) := by decide +kernel
theorem wm_605 : Cond.methodLink "java/util/ArrayList" 112 ⟨"java/lang/System", "arraycopy", "(Ljava/lang/Object;ILjava/lang/Object;II)V"⟩ ∈ gT := gT_m (List.mem_of_getElem? (i := 605) (by decide +kernel)) (by decide +kernel)
theorem wm_233 : Cond.native ⟨"java/lang/System", "arraycopy", "(Ljava/lang/Object;ILjava/lang/Object;II)V"⟩ ∈ gT := gT_m (List.mem_of_getElem? (i := 233) (by decide +kernel)) (by decide +kernel)
theorem wm_232 : Cond.static ⟨"java/lang/System", "arraycopy", "(Ljava/lang/Object;ILjava/lang/Object;II)V"⟩ ∈ gT := gT_m (List.mem_of_getElem? (i := 232) (by decide +kernel)) (by decide +kernel)
theorem wm_34 : Cond.initialized "java/lang/System" ∈ gT := gT_m (List.mem_of_getElem? (i := 34) (by decide +kernel)) (by decide +kernel)
theorem d_AL_fastRemove_31 : decode b_AL_fastRemove 31 = .ok (.invokestatic 112, 3) := by decide +kernel
theorem d_AL_remove_0 : decode b_AL_remove 0 = .ok (.iload_n 1, 1) := by decide +kernel
theorem d_AL_remove_1 : decode b_AL_remove 1 = .ok (.aload_n 0, 1) := by decide +kernel
theorem d_AL_remove_2 : decode b_AL_remove 2 = .ok (.getfield 48, 3) := by decide +kernel
theorem d_AL_remove_5 : decode b_AL_remove 5 = .ok (.invokestatic 118, 3) := by decide +kernel
theorem d_AL_remove_8 : decode b_AL_remove 8 = .ok (.pop, 1) := by decide +kernel
theorem d_AL_remove_9 : decode b_AL_remove 9 = .ok (.aload_n 0, 1) := by decide +kernel
theorem d_AL_remove_10 : decode b_AL_remove 10 = .ok (.getfield 9, 3) := by decide +kernel
theorem d_AL_remove_13 : decode b_AL_remove 13 = .ok (.astore_n 2, 1) := by decide +kernel
theorem d_AL_remove_14 : decode b_AL_remove 14 = .ok (.aload_n 2, 1) := by decide +kernel
theorem d_AL_remove_15 : decode b_AL_remove 15 = .ok (.iload_n 1, 1) := by decide +kernel
theorem d_AL_remove_16 : decode b_AL_remove 16 = .ok (.aaload, 1) := by decide +kernel
theorem d_AL_remove_17 : decode b_AL_remove 17 = .ok (.astore_n 3, 1) := by decide +kernel
theorem d_AL_remove_18 : decode b_AL_remove 18 = .ok (.aload_n 0, 1) := by decide +kernel
theorem d_AL_remove_19 : decode b_AL_remove 19 = .ok (.aload_n 2, 1) := by decide +kernel
theorem d_AL_remove_20 : decode b_AL_remove 20 = .ok (.iload_n 1, 1) := by decide +kernel
theorem wm_604 : Cond.code ⟨"java/util/ArrayList", "fastRemove", "([Ljava/lang/Object;I)V"⟩ prog_30_method_39_code 4 none ∈ gT := gT_m (List.mem_of_getElem? (i := 604) (by decide +kernel)) (by decide +kernel)
theorem wm_601 : Cond.methodLink "java/util/ArrayList" 144 ⟨"java/util/ArrayList", "fastRemove", "([Ljava/lang/Object;I)V"⟩ ∈ gT := gT_m (List.mem_of_getElem? (i := 601) (by decide +kernel)) (by decide +kernel)
theorem d_AL_remove_21 : decode b_AL_remove 21 = .ok (.invokevirtual 144, 3) := by decide +kernel
theorem wm_603 : Cond.instanceMethod ⟨"java/util/ArrayList", "fastRemove", "([Ljava/lang/Object;I)V"⟩ ∈ gT := gT_m (List.mem_of_getElem? (i := 603) (by decide +kernel)) (by decide +kernel)
theorem wm_11 : Cond.selects "java/util/ArrayList" ⟨"java/util/ArrayList", "fastRemove", "([Ljava/lang/Object;I)V"⟩ ⟨"java/util/ArrayList", "fastRemove", "([Ljava/lang/Object;I)V"⟩ ∈ gT := gT_m (List.mem_of_getElem? (i := 11) (by decide +kernel)) (by decide +kernel)
theorem d_AL_remove_24 : decode b_AL_remove 24 = .ok (.aload_n 3, 1) := by decide +kernel
theorem d_AL_remove_25 : decode b_AL_remove 25 = .ok (.areturn, 1) := by decide +kernel
theorem gw_weakQ {l : Launch} {y : MethodName} {ws : List Cond} {rm : Room} {Pc : Array Value → State → Prop} {E : Nat} {D : va_G} {post post' : Option Nat → gM → Prop} {mc ms : Nat} {free : Addr → Prop} (h : Met l y ws rm Pc (gw_Qq E D post) mc ms free) (hw : ∀ r M', post r M' → post' r M') : Met l y ws rm Pc (gw_Qq E D post') mc ms free := by
  intro p e ha hc hk s m args below hf happ hP hK
  obtain ⟨n, o, h1, h2, h3, ⟨⟨r, u, e1, e2, e3⟩, e4⟩, h5⟩ := h p e ha hc hk s m args below hf happ hP hK
  exact ⟨n, o, h1, h2, h3, ⟨⟨r, u, e1, hw r u e2, e3⟩, e4⟩, h5⟩
theorem gw_weakI {l : Launch} {y : MethodName} {ws : List Cond} {rm : Room} {Pc : Array Value → State → Prop} {E : Nat} {D : va_G} {post post' : Int32 → gM → Prop} {mc ms : Nat} {free : Addr → Prop} (h : Met l y ws rm Pc (gw_Qi E D post) mc ms free) (hw : ∀ r M', post r M' → post' r M') : Met l y ws rm Pc (gw_Qi E D post') mc ms free := by
  intro p e ha hc hk s m args below hf happ hP hK
  obtain ⟨n, o, h1, h2, h3, ⟨⟨r, u, e1, e2, e3⟩, e4⟩, h5⟩ := h p e ha hc hk s m args below hf happ hP hK
  exact ⟨n, o, h1, h2, h3, ⟨⟨r, u, e1, hw r u e2, e3⟩, e4⟩, h5⟩
theorem gw_weakV {l : Launch} {y : MethodName} {ws : List Cond} {rm : Room} {Pc : Array Value → State → Prop} {E : Nat} {D : va_G} {post post' : gM → Prop} {mc ms : Nat} {free : Addr → Prop} (h : Met l y ws rm Pc (gw_Qv E D post) mc ms free) (hw : ∀ M', post M' → post' M') : Met l y ws rm Pc (gw_Qv E D post') mc ms free := by
  intro p e ha hc hk s m args below hf happ hP hK
  obtain ⟨n, o, h1, h2, h3, ⟨⟨u, e1, e2, e3⟩, e4⟩, h5⟩ := h p e ha hc hk s m args below hf happ hP hK
  exact ⟨n, o, h1, h2, h3, ⟨⟨u, e1, hw u e2, e3⟩, e4⟩, h5⟩
set_option maxHeartbeats 4000000 in
set_option maxRecDepth 100000 in
theorem c_AL_fastRemove (l : Launch) (E : Nat) (D : va_G) (cI cO cZ : ClassId) (z0 : Nat) (M : gM) {a t n j ci : Nat} {k : Int32} {f : Nat → Option Nat} {r : vw_C} (ha : M a = some (.inr (1, [.int k, .ref t, .int (nI (n + 1))]))) (ht : M t = some (.inl (cO, 10, .inr (.inr (.inr (.inr f)))))) (hj : j ≤ n) (h10 : n < 10) (hc : classes[ci]? = some r) (hca : Cond.castable r.1 "java/lang/Object" ∈ lw_tbl) (hel : ∀ p, p ≤ n → ∀ y, f p = some y → ∃ fs, M y = some (.inr (ci, fs))) : Met l y_AL_fastRemove (Cond.code y_AL_fastRemove b_AL_fastRemove 4 none :: gT) ({ frames := 1, cells := 0, slots := 0, locals := 60 }) (gw_Pc E D cI cO cZ z0 M [.ref a, .ref t, .int (nI j)]) (gw_Qv E D (fun M' => ∃ f' : Nat → Option Nat, M' t = some (.inl (cO, 10, .inr (.inr (.inr (.inr f'))))) ∧ (∀ p, p < n → f' p = if p < j then f p else f (p + 1)) ∧ M' a = some (.inr (1, [.int (k + 1), .ref t, .int (nI n)])) ∧ ∀ b, b ≠ a → b ≠ t → M' b = M b)) 0 0 (gw_A E) := by
  refine gw_ofW (cc := b_AL_fastRemove) (maxL := 4) (ret := none) (by decide) rfl (Nat.le_of_ble_eq_true rfl) ?_
  intro p e s m args below meth c hx hb hr hml hts hown hlk hnm hF hG ls hl
  have hT : ∀ w ∈ gT, w.before args s = true := fun w h => hts w (List.mem_cons_of_mem _ h)
  have hK := hF.1
  have hl : lv_has ls 4 [(0, .ref a), (1, .ref t), (2, .int (nI j))] := hl
  have hta : t ≠ a := gw_neA ht ha
  refine lv_aload_n hx hb d_AL_fastRemove_0 rfl (lv_at hl 0 rfl) ?_
  refine lv_dup hx hb d_AL_fastRemove_1 rfl ?_
  refine gw_get hx hb hT i_List hown hK hG ha rfl 0 (by decide) (hT _ wm_74) (fun x h => u_same (hT _ wm_75) x h) rfl d_AL_fastRemove_2 ?_
  refine lv_iconst (v := 1) hx hb d_AL_fastRemove_5 (by decide) ?_
  refine lv_iadd hx hb d_AL_fastRemove_6 ?_
  refine gw_put (v := .int (k + 1)) hx hb hT i_List t_List t_List_ok n_List hown hK hG ha rfl 0 (by decide) (hT _ wm_74) (fun x h => u_same (hT _ wm_75) x h) rfl rfl rfl (Nat.le_of_ble_eq_true rfl) d_AL_fastRemove_7 (fun H locs hG => ?_)
  obtain ⟨M1, e_M1⟩ : ∃ Y_ : gM, Y_ = gw_up M a (.inr (1, [.int (k + 1), .ref t, .int (nI (n + 1))])) := ⟨_, rfl⟩
  replace hG := gw_nm e_M1 hG
  have hM1_t := (congrFun e_M1 t).trans ((gw_miss (gw_neA ht ha)).trans ht)
  have hM1_a := (congrFun e_M1 a).trans gw_hit
  refine lv_aload_n hx hb d_AL_fastRemove_10 rfl (lv_at hl 0 rfl) ?_
  refine gw_get hx hb hT i_List hown hK hG hM1_a rfl 2 (by decide) (hT _ wm_72) (fun _ h => h) rfl d_AL_fastRemove_11 ?_
  refine lv_iconst (v := 1) hx hb d_AL_fastRemove_14 (by decide) ?_
  refine lv_isub hx hb d_AL_fastRemove_15 ?_
  rw [show nI (n + 1) - 1 = (nI n) from nI_pred n]
  refine lv_dup hx hb d_AL_fastRemove_16 rfl ?_
  refine lv_istore_n (lv' := [(3, .int (nI n)), (0, .ref a), (1, .ref t), (2, .int (nI j))]) hx hb d_AL_fastRemove_17 rfl hl (by decide) rfl (fun ls hl => ?_)
  refine lv_iload_n hx hb d_AL_fastRemove_18 rfl (lv_at hl 3 rfl) ?_
  refine lv_icmp_le (tgt := 34) hx hb d_AL_fastRemove_19 (by decide) (fun c_19 => ?_) (fun c_19 => ?_)
  · skip
    have hjn : j = n := by have := mt (fun h => nI_ge (a := j) (b := n) h (by omega)) (fun z => z c_19); omega
    refine lv_aload_n hx hb d_AL_fastRemove_34 rfl (lv_at hl 2 rfl) ?_
    refine lv_aload_n hx hb d_AL_fastRemove_35 rfl (lv_at hl 1 rfl) ?_
    refine lv_iload_n hx hb d_AL_fastRemove_36 rfl (lv_at hl 0 rfl) ?_
    refine lv_dup_x1 hx hb d_AL_fastRemove_37 rfl rfl ?_
    refine gw_put (v := .int (nI n)) hx hb hT i_List t_List t_List_ok n_List hown hK hG hM1_a rfl 2 (by decide) (hT _ wm_72) (fun _ h => h) rfl rfl rfl (Nat.le_of_ble_eq_true rfl) d_AL_fastRemove_38 (fun H locs hG => ?_)
    obtain ⟨M2, e_M2⟩ : ∃ Y_ : gM, Y_ = gw_up M1 a (.inr (1, [.int (k + 1), .ref t, .int (nI n)])) := ⟨_, rfl⟩
    replace hG := gw_nm e_M2 hG
    have hM2_t := (congrFun e_M2 t).trans ((gw_miss (gw_neA hM1_t hM1_a)).trans hM1_t)
    have hM2_a := (congrFun e_M2 a).trans gw_hit
    refine lv_null hx hb d_AL_fastRemove_41 ?_
    refine gw_astqN hx hb hK hG hM2_t (vp_in_nI (by omega) (by decide)) d_AL_fastRemove_42 (fun H locs hG => ?_)
    obtain ⟨M3, e_M3⟩ : ∃ Y_ : gM, Y_ = gw_up M2 t (.inl (cO, 10, .inr (.inr (.inr (.inr (va_up f (nI n).toNatClampNeg none)))))) := ⟨_, rfl⟩
    replace hG := gw_nm e_M3 hG
    refine gw_vret hx hb hr hlk hG ⟨_, (by rw [e_M3]; exact gw_hit), fun p hp => ?_, (by rw [e_M3, gw_miss hta.symm]; exact hM2_a), fun b h1 h2 => ?_⟩ (Nat.le_of_ble_eq_true rfl) (Nat.le_of_ble_eq_true rfl) d_AL_fastRemove_43
    · rw [nI_clamp (n := n) (by omega)]
      unfold va_up
      rw [if_neg (by omega)]
      rw [if_pos (by omega)]
    · rw [e_M3, gw_miss h2, e_M2, gw_miss h1, e_M1, gw_miss h1]
  · skip
    have hjn : j < n := by have := mt (fun h => nI_le (a := n) (b := j) h (by omega)) c_19; omega
    refine lv_aload_n hx hb d_AL_fastRemove_22 rfl (lv_at hl 2 rfl) ?_
    refine lv_iload_n hx hb d_AL_fastRemove_23 rfl (lv_at hl 3 rfl) ?_
    refine lv_iconst (v := 1) hx hb d_AL_fastRemove_24 (by decide) ?_
    refine lv_iadd hx hb d_AL_fastRemove_25 ?_
    rw [show nI j + 1 = (nI (j + 1)) from (nI_succ j).symm]
    refine lv_aload_n hx hb d_AL_fastRemove_26 rfl (lv_at hl 2 rfl) ?_
    refine lv_iload_n hx hb d_AL_fastRemove_27 rfl (lv_at hl 3 rfl) ?_
    refine lv_iload_n hx hb d_AL_fastRemove_28 rfl (lv_at hl 0 rfl) ?_
    refine lv_iload_n hx hb d_AL_fastRemove_29 rfl (lv_at hl 3 rfl) ?_
    refine lv_isub hx hb d_AL_fastRemove_30 ?_
    rw [show nI n - nI j = (nI (n - j)) from pk_sub hj]
    refine gw_copyq hx hb (hml.trans hl.1.symm) hown (hT _ wm_605) (hT _ wm_233) (hT _ wm_232) (hT _ wm_34) hF hG hM1_t hc (gW_m hF.2.2.2.2.2.2 hca rfl) (nI_pos (by omega)) (nI_pos (by omega)) (nI_pos (by omega)) (by rw [nI_clamp (by omega), nI_clamp (by omega)]; omega) (by rw [nI_clamp (by omega), nI_clamp (by omega)]; omega) ?_ (Nat.le_of_ble_eq_true rfl) (by decide) d_AL_fastRemove_31 (fun H locs hG => ?_)
    · rw [nI_clamp (by omega), nI_clamp (by omega)]
      intro i hi y hy
      obtain ⟨fs, hfs⟩ := hel (j + 1 + i) (by omega) y hy
      by_cases hya : y = a
      · subst hya; exact ⟨_, by rw [hM1_a]; rw [ha] at hfs; have e := Option.some.inj hfs; injection e with e; injection e with e1 e2; subst e1; rfl⟩
      · exact ⟨fs, by rw [e_M1, gw_miss hya]; exact hfs⟩
    obtain ⟨M4, e_M4⟩ : ∃ Y_ : gM, Y_ = gw_up M1 t (.inl (cO, 10, .inr (.inr (.inr (.inr (va_cpy f f (nI (j + 1)).toNatClampNeg (nI j).toNatClampNeg (nI (n - j)).toNatClampNeg)))))) := ⟨_, rfl⟩
    replace hG := gw_nm e_M4 hG
    have hM4_a := (congrFun e_M4 a).trans ((gw_miss (gw_neA hM1_t hM1_a).symm).trans hM1_a)
    have hM4_t := (congrFun e_M4 t).trans gw_hit
    refine lv_aload_n hx hb d_AL_fastRemove_34 rfl (lv_at hl 2 rfl) ?_
    refine lv_aload_n hx hb d_AL_fastRemove_35 rfl (lv_at hl 1 rfl) ?_
    refine lv_iload_n hx hb d_AL_fastRemove_36 rfl (lv_at hl 0 rfl) ?_
    refine lv_dup_x1 hx hb d_AL_fastRemove_37 rfl rfl ?_
    refine gw_put (v := .int (nI n)) hx hb hT i_List t_List t_List_ok n_List hown hK hG hM4_a rfl 2 (by decide) (hT _ wm_72) (fun _ h => h) rfl rfl rfl (Nat.le_of_ble_eq_true rfl) d_AL_fastRemove_38 (fun H locs hG => ?_)
    obtain ⟨M5, e_M5⟩ : ∃ Y_ : gM, Y_ = gw_up M4 a (.inr (1, [.int (k + 1), .ref t, .int (nI n)])) := ⟨_, rfl⟩
    replace hG := gw_nm e_M5 hG
    have hM5_t := (congrFun e_M5 t).trans ((gw_miss (gw_neA hM4_t hM4_a)).trans hM4_t)
    have hM5_a := (congrFun e_M5 a).trans gw_hit
    refine lv_null hx hb d_AL_fastRemove_41 ?_
    refine gw_astqN hx hb hK hG hM5_t (vp_in_nI (by omega) (by decide)) d_AL_fastRemove_42 (fun H locs hG => ?_)
    obtain ⟨M6, e_M6⟩ : ∃ Y_ : gM, Y_ = gw_up M5 t (.inl (cO, 10, .inr (.inr (.inr (.inr (va_up (va_cpy f f (nI (j + 1)).toNatClampNeg (nI j).toNatClampNeg (nI (n - j)).toNatClampNeg) (nI n).toNatClampNeg none)))))) := ⟨_, rfl⟩
    replace hG := gw_nm e_M6 hG
    refine gw_vret hx hb hr hlk hG ⟨_, (by rw [e_M6]; exact gw_hit), fun p hp => ?_, (by rw [e_M6, gw_miss hta.symm]; exact hM5_a), fun b h1 h2 => ?_⟩ (Nat.le_of_ble_eq_true rfl) (Nat.le_of_ble_eq_true rfl) d_AL_fastRemove_43
    · rw [nI_clamp (n := n) (by omega)]
      unfold va_up
      rw [if_neg (by omega)]
      rw [nI_clamp (n := j + 1) (by omega), nI_clamp (n := j) (by omega), nI_clamp (n := n - j) (by omega)]
      unfold va_cpy
      by_cases hpj : p < j
      · rw [if_pos hpj, if_neg (by omega)]
      · rw [if_neg hpj, if_pos (by omega)]; congr 1; omega
    · rw [e_M6, gw_miss h2, e_M5, gw_miss h1, e_M4, gw_miss h2, e_M1, gw_miss h1]
set_option maxHeartbeats 4000000 in
set_option maxRecDepth 100000 in
theorem c_AL_remove (l : Launch) (E : Nat) (D : va_G) (cI cO cZ : ClassId) (z0 : Nat) (M : gM) {a t n j ci : Nat} {k : Int32} {f : Nat → Option Nat} {r : vw_C} (ha : M a = some (.inr (1, [.int k, .ref t, .int (nI (n + 1))]))) (ht : M t = some (.inl (cO, 10, .inr (.inr (.inr (.inr f)))))) (hj : j ≤ n) (h10 : n < 10) (hc : classes[ci]? = some r) (hca : Cond.castable r.1 "java/lang/Object" ∈ lw_tbl) (hel : ∀ p, p ≤ n → ∀ y, f p = some y → ∃ fs, M y = some (.inr (ci, fs))) {q : Nat} (hq : f j = some q) : Met l y_AL_remove (Cond.code y_AL_remove b_AL_remove 4 (some (.object "java/lang/Object")) :: gT) ({ frames := 2, cells := 0, slots := 0, locals := 83 }) (gw_Pc E D cI cO cZ z0 M [.ref a, .int (nI j)]) (gw_Qq E D (fun r M' => r = some q ∧ ∃ f' : Nat → Option Nat, M' t = some (.inl (cO, 10, .inr (.inr (.inr (.inr f'))))) ∧ (∀ p, p < n → f' p = if p < j then f p else f (p + 1)) ∧ M' a = some (.inr (1, [.int (k + 1), .ref t, .int (nI n)])) ∧ ∀ b, b ≠ a → b ≠ t → M' b = M b)) 0 0 (gw_A E) := by
  refine gw_ofW (cc := b_AL_remove) (maxL := 4) (ret := (some (.object "java/lang/Object"))) (by decide) rfl (Nat.le_of_ble_eq_true rfl) ?_
  intro p e s m args below meth c hx hb hr hml hts hown hlk hnm hF hG ls hl
  have hT : ∀ w ∈ gT, w.before args s = true := fun w h => hts w (List.mem_cons_of_mem _ h)
  have hK := hF.1
  have hl : lv_has ls 4 [(0, .ref a), (1, .int (nI j))] := hl
  refine lv_iload_n hx hb d_AL_remove_0 rfl (lv_at hl 1 rfl) ?_
  refine lv_aload_n hx hb d_AL_remove_1 rfl (lv_at hl 0 rfl) ?_
  refine gw_get hx hb hT i_List hown hK hG ha rfl 2 (by decide) (hT _ wm_72) (fun _ h => h) rfl d_AL_remove_2 ?_
  refine gw_calli (gw_runS (As := [.int (nI j), .int (nI (n + 1))]) (rest := []) ⟨hx, hb, hml, hown, hts⟩ (c_Objects_checkIndex l E D cI cO cZ z0 M (nI_pos (by omega)) (nI_lt (Nat.lt_succ_of_le hj) (by omega))) (gw_cwS 2 hts (gT_gi wm_365) rfl rfl rfl (hT _ wm_44) (hT _ wm_363) (hT _ wm_364) (by decide +kernel) ⟨Nat.le_of_ble_eq_true rfl, Nat.le_of_ble_eq_true rfl⟩) hF hG rfl hl.1 rfl (Nat.le_of_ble_eq_true rfl) d_AL_remove_5 ⟨Nat.le_of_ble_eq_true rfl, Nat.le_of_ble_eq_true rfl⟩) hG (fun r M1 H locs hp hG => ?_)
  rw [hp.1]
  replace hG := gw_nm hp.2.symm hG
  refine lv_pop hx hb d_AL_remove_8 rfl ?_
  refine lv_aload_n hx hb d_AL_remove_9 rfl (lv_at hl 0 rfl) ?_
  refine gw_get hx hb hT i_List hown hK hG ha rfl 1 (by decide) (hT _ wm_71) (fun _ h => h) rfl d_AL_remove_10 ?_
  refine lv_astore_n (lv' := [(2, .ref t), (0, .ref a), (1, .int (nI j))]) hx hb d_AL_remove_13 rfl hl (by decide) rfl (fun ls hl => ?_)
  refine lv_aload_n hx hb d_AL_remove_14 rfl (lv_at hl 0 rfl) ?_
  refine lv_iload_n hx hb d_AL_remove_15 rfl (lv_at hl 2 rfl) ?_
  refine gw_aldq hx hb hK hG ht (vp_in_nI (by omega) (by decide)) d_AL_remove_16 ?_
  rw [nI_clamp (by omega), hq]
  refine lv_astore_n (lv' := [(3, .ref q), (2, .ref t), (0, .ref a), (1, .int (nI j))]) hx hb d_AL_remove_17 rfl hl (by decide) rfl (fun ls hl => ?_)
  refine lv_aload_n hx hb d_AL_remove_18 rfl (lv_at hl 2 rfl) ?_
  refine lv_aload_n hx hb d_AL_remove_19 rfl (lv_at hl 1 rfl) ?_
  refine lv_iload_n hx hb d_AL_remove_20 rfl (lv_at hl 3 rfl) ?_
  refine gw_callv (gw_runV (As := [.ref t, .int (nI j)]) (rest := []) ⟨hx, hb, hml, hown, hts⟩ (c_AL_fastRemove l E D cI cO cZ z0 M ha ht hj h10 hc hca hel) (gw_cwV 2 hts (gT_gi wm_604) rfl rfl rfl (hT _ wm_26) (hT _ wm_601) (hT _ wm_603) (hT _ wm_11) (by decide +kernel) ⟨Nat.le_of_ble_eq_true rfl, Nat.le_of_ble_eq_true rfl⟩) hF hG rfl ha rfl hl.1 rfl (Nat.le_of_ble_eq_true rfl) d_AL_remove_21 ⟨Nat.le_of_ble_eq_true rfl, Nat.le_of_ble_eq_true rfl⟩) hG (fun M2 H locs hp hG => ?_)
  refine lv_aload_n hx hb d_AL_remove_24 rfl (lv_at hl 0 rfl) ?_
  exact gw_aret hx hb hr (Or.inl ⟨_, rfl⟩) hlk hG (⟨rfl, hp⟩) (Nat.le_of_ble_eq_true rfl) (Nat.le_of_ble_eq_true rfl) d_AL_remove_25
theorem c_L_remove (l : Launch) (E : Nat) (D : va_G) (cI cO cZ : ClassId) (z0 : Nat) (M : gM) {a t n j ci : Nat} {g : Nat → Nat} {r : vw_C} (hL : gw_L z0 cO M a t (n + 1) g) (hj : j ≤ n) (hc : classes[ci]? = some r) (hca : Cond.castable r.1 "java/lang/Object" ∈ lw_tbl) (hel : ∀ p, p ≤ n → ∃ fs, M (g p) = some (.inr (ci, fs))) : Met l y_AL_remove (Cond.code y_AL_remove b_AL_remove 4 (some (.object "java/lang/Object")) :: gT) ({ frames := 2, cells := 0, slots := 0, locals := 83 }) (gw_Pc E D cI cO cZ z0 M [.ref a, .int (nI j)]) (gw_Qq E D (fun r M' => r = some (g j) ∧ gw_L z0 cO M' a t n (fun p => if p < j then g p else g (p + 1)) ∧ ∀ b, b ≠ a → b ≠ t → M' b = M b)) 0 0 (gw_A E) := by
  obtain ⟨k, ha, h10, hf⟩ := hL
  rcases hf with ⟨h0, -⟩ | ⟨f, ht, hfp⟩
  · omega
  · refine gw_weakQ (c_AL_remove l E D cI cO cZ z0 M ha ht hj (by omega) hc hca (fun p hp y hy => by rw [hfp p (by omega)] at hy; cases hy; exact hel p hp) (hfp j (by omega))) ?_
    rintro r M' ⟨h1, f', h2, h3, h4, h5⟩
    refine ⟨h1, ⟨k + 1, h4, by omega, Or.inr ⟨f', h2, fun p hp => ?_⟩⟩, h5⟩
    rw [h3 p hp]
    show _ = some (if p < j then g p else g (p + 1))
    by_cases hpj : p < j
    · rw [if_pos hpj, if_pos hpj]; exact hfp p (by omega)
    · rw [if_neg hpj, if_neg hpj]; exact hfp (p + 1) (by omega)
