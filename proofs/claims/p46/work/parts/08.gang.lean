theorem d_Gang_init_0 : decode b_Gang_init 0 = .ok (.aload_n 0, 1) := by decide +kernel
theorem wm_88 : Cond.methodLink "ThresholdRow$Gang" 3 ⟨"java/lang/Object", "<init>", "()V"⟩ ∈ gT := gT_m (List.mem_of_getElem? (i := 88) (by decide +kernel)) (by decide +kernel)
theorem d_Gang_init_1 : decode b_Gang_init 1 = .ok (.invokespecial 3, 3) := by decide +kernel
theorem d_Gang_init_4 : decode b_Gang_init 4 = .ok (.aload_n 0, 1) := by decide +kernel
theorem wm_89 : Cond.classLink "ThresholdRow$Gang" 9 "java/util/ArrayList" ∈ gT := gT_m (List.mem_of_getElem? (i := 89) (by decide +kernel)) (by decide +kernel)
theorem wm_58 : Cond.instantiable "java/util/ArrayList" 3 ∈ gT := gT_m (List.mem_of_getElem? (i := 58) (by decide +kernel)) (by decide +kernel)
theorem d_Gang_init_5 : decode b_Gang_init 5 = .ok (.new 9, 3) := by decide +kernel
theorem d_Gang_init_8 : decode b_Gang_init 8 = .ok (.dup, 1) := by decide +kernel
theorem wm_61 : Cond.code ⟨"java/util/ArrayList", "<init>", "()V"⟩ prog_30_method_2_code 1 none ∈ gT := gT_m (List.mem_of_getElem? (i := 61) (by decide +kernel)) (by decide +kernel)
theorem wm_90 : Cond.methodLink "ThresholdRow$Gang" 11 ⟨"java/util/ArrayList", "<init>", "()V"⟩ ∈ gT := gT_m (List.mem_of_getElem? (i := 90) (by decide +kernel)) (by decide +kernel)
theorem d_Gang_init_9 : decode b_Gang_init 9 = .ok (.invokespecial 11, 3) := by decide +kernel
theorem wm_60 : Cond.instanceMethod ⟨"java/util/ArrayList", "<init>", "()V"⟩ ∈ gT := gT_m (List.mem_of_getElem? (i := 60) (by decide +kernel)) (by decide +kernel)
theorem wm_91 : Cond.fieldLink "ThresholdRow$Gang" 12 "ThresholdRow$Gang" "order" "Ljava/util/ArrayList;" ∈ gT := gT_m (List.mem_of_getElem? (i := 91) (by decide +kernel)) (by decide +kernel)
theorem d_Gang_init_12 : decode b_Gang_init 12 = .ok (.putfield 12, 3) := by decide +kernel
theorem d_Gang_init_15 : decode b_Gang_init 15 = .ok (.return_, 1) := by decide +kernel
theorem d_Gang_count_0 : decode b_Gang_count 0 = .ok (.aload_n 0, 1) := by decide +kernel
theorem d_Gang_count_1 : decode b_Gang_count 1 = .ok (.getfield 12, 3) := by decide +kernel
theorem wm_286 : Cond.code ⟨"java/util/ArrayList", "size", "()I"⟩ prog_30_method_8_code 1 (some .int) ∈ gT := gT_m (List.mem_of_getElem? (i := 286) (by decide +kernel)) (by decide +kernel)
theorem wm_411 : Cond.methodLink "ThresholdRow$Gang" 18 ⟨"java/util/ArrayList", "size", "()I"⟩ ∈ gT := gT_m (List.mem_of_getElem? (i := 411) (by decide +kernel)) (by decide +kernel)
theorem d_Gang_count_4 : decode b_Gang_count 4 = .ok (.invokevirtual 18, 3) := by decide +kernel
theorem wm_284 : Cond.instanceMethod ⟨"java/util/ArrayList", "size", "()I"⟩ ∈ gT := gT_m (List.mem_of_getElem? (i := 284) (by decide +kernel)) (by decide +kernel)
theorem wm_285 : Cond.selects "java/util/ArrayList" ⟨"java/util/ArrayList", "size", "()I"⟩ ⟨"java/util/ArrayList", "size", "()I"⟩ ∈ gT := gT_m (List.mem_of_getElem? (i := 285) (by decide +kernel)) (by decide +kernel)
theorem d_Gang_count_7 : decode b_Gang_count 7 = .ok (.ireturn, 1) := by decide +kernel
theorem d_Gang_placeFor_0 : decode b_Gang_placeFor 0 = .ok (.iconst 0, 1) := by decide +kernel
theorem d_Gang_placeFor_1 : decode b_Gang_placeFor 1 = .ok (.istore_n 2, 1) := by decide +kernel
theorem d_Gang_placeFor_2 : decode b_Gang_placeFor 2 = .ok (.iload_n 2, 1) := by decide +kernel
theorem d_Gang_placeFor_3 : decode b_Gang_placeFor 3 = .ok (.aload_n 0, 1) := by decide +kernel
theorem d_Gang_placeFor_4 : decode b_Gang_placeFor 4 = .ok (.getfield 12, 3) := by decide +kernel
theorem d_Gang_placeFor_7 : decode b_Gang_placeFor 7 = .ok (.invokevirtual 18, 3) := by decide +kernel
theorem d_Gang_placeFor_10 : decode b_Gang_placeFor 10 = .ok (.if_icmp .ge 23, 3) := by decide +kernel
theorem d_Gang_placeFor_33 : decode b_Gang_placeFor 33 = .ok (.iconst (-1), 1) := by decide +kernel
theorem d_Gang_placeFor_34 : decode b_Gang_placeFor 34 = .ok (.ireturn, 1) := by decide +kernel
theorem d_Gang_placeFor_13 : decode b_Gang_placeFor 13 = .ok (.aload_n 0, 1) := by decide +kernel
theorem d_Gang_placeFor_14 : decode b_Gang_placeFor 14 = .ok (.getfield 12, 3) := by decide +kernel
theorem d_Gang_placeFor_17 : decode b_Gang_placeFor 17 = .ok (.iload_n 2, 1) := by decide +kernel
theorem wm_362 : Cond.code ⟨"java/util/ArrayList", "get", "(I)Ljava/lang/Object;"⟩ prog_30_method_20_code 2 (some (.object "java/lang/Object")) ∈ gT := gT_m (List.mem_of_getElem? (i := 362) (by decide +kernel)) (by decide +kernel)
theorem wm_412 : Cond.methodLink "ThresholdRow$Gang" 22 ⟨"java/util/ArrayList", "get", "(I)Ljava/lang/Object;"⟩ ∈ gT := gT_m (List.mem_of_getElem? (i := 412) (by decide +kernel)) (by decide +kernel)
theorem d_Gang_placeFor_18 : decode b_Gang_placeFor 18 = .ok (.invokevirtual 22, 3) := by decide +kernel
theorem wm_360 : Cond.instanceMethod ⟨"java/util/ArrayList", "get", "(I)Ljava/lang/Object;"⟩ ∈ gT := gT_m (List.mem_of_getElem? (i := 360) (by decide +kernel)) (by decide +kernel)
theorem wm_361 : Cond.selects "java/util/ArrayList" ⟨"java/util/ArrayList", "get", "(I)Ljava/lang/Object;"⟩ ⟨"java/util/ArrayList", "get", "(I)Ljava/lang/Object;"⟩ ∈ gT := gT_m (List.mem_of_getElem? (i := 361) (by decide +kernel)) (by decide +kernel)
theorem d_Gang_placeFor_21 : decode b_Gang_placeFor 21 = .ok (.aload_n 1, 1) := by decide +kernel
theorem d_Gang_placeFor_22 : decode b_Gang_placeFor 22 = .ok (.if_acmp .ne 5, 3) := by decide +kernel
theorem d_Gang_placeFor_27 : decode b_Gang_placeFor 27 = .ok (.iinc 2 1, 3) := by decide +kernel
theorem d_Gang_placeFor_30 : decode b_Gang_placeFor 30 = .ok (.goto (-28), 3) := by decide +kernel
theorem d_Gang_placeFor_25 : decode b_Gang_placeFor 25 = .ok (.iload_n 2, 1) := by decide +kernel
theorem d_Gang_placeFor_26 : decode b_Gang_placeFor 26 = .ok (.ireturn, 1) := by decide +kernel
/-- the gang: its object, its list, its hands' values by their places -/
def gw_Gg (z0 : Nat) (cO : ClassId) (M : gM) (gg gl gt n : Nat) (g : Nat → Nat) (v : Nat → gH) : Prop := M gg = some (.inr (2, [.ref gl])) ∧ gw_L z0 cO M gl gt n g ∧ (∀ p, p < n → M (g p) = some (gw_hd (v p))) ∧ ∀ p q, p < n → q < n → g p = g q → p = q
/-- only the hands have changed -/
def gw_ch (M M' : gM) (n : Nat) (g : Nat → Nat) (v' : Nat → gH) : Prop := (∀ b, (∀ p, p < n → b ≠ g p) → M' b = M b) ∧ ∀ p, p < n → M' (g p) = some (gw_hd (v' p))
theorem gw_ch.obj {M M' : gM} {n : Nat} {g : Nat → Nat} {v v' : Nat → gH} (hh : ∀ p, p < n → M (g p) = some (gw_hd (v p))) (h : gw_ch M M' n g v') {b i : Nat} {fs : List Value} (hb : M b = some (.inr (i, fs))) (hi : i ≠ 6) : M' b = M b := h.1 b (fun p hp => gw_neO hb (hh p hp) hi)
theorem gw_ch.arr {M M' : gM} {n : Nat} {g : Nat → Nat} {v v' : Nat → gH} (hh : ∀ p, p < n → M (g p) = some (gw_hd (v p))) (h : gw_ch M M' n g v') {b : Nat} {x : ClassId × vp_A} (hb : M b = some (.inl x)) : M' b = M b := h.1 b (fun p hp => gw_neA hb (hh p hp))
theorem gw_ch.L {M M' : gM} {n : Nat} {g : Nat → Nat} {v v' : Nat → gH} (hh : ∀ p, p < n → M (g p) = some (gw_hd (v p))) (h : gw_ch M M' n g v') {z0 a t k : Nat} {cO : ClassId} {f : Nat → Nat} (hL : gw_L z0 cO M a t k f) : gw_L z0 cO M' a t k f := by
  have hL2 := hL
  obtain ⟨k, ha, -⟩ := hL2
  exact hL.kept (h.obj hh ha (by decide)) (fun f hf => h.arr hh hf)
theorem gw_Gg.ch {z0 : Nat} {cO : ClassId} {M M' : gM} {gg gl gt n : Nat} {g : Nat → Nat} {v v' : Nat → gH} (h : gw_Gg z0 cO M gg gl gt n g v) (hc : gw_ch M M' n g v') : gw_Gg z0 cO M' gg gl gt n g v' :=
  ⟨(hc.obj h.2.2.1 h.1 (by decide)).trans h.1, hc.L h.2.2.1 h.2.1, hc.2, h.2.2.2⟩
theorem gw_ch.trans {M M1 M2 : gM} {n : Nat} {g : Nat → Nat} {v1 v2 : Nat → gH} (h1 : gw_ch M M1 n g v1) (h2 : gw_ch M1 M2 n g v2) : gw_ch M M2 n g v2 := ⟨fun b hb => (h2.1 b hb).trans (h1.1 b hb), h2.2⟩
theorem gw_ch.to {M M1 : gM} {n : Nat} {g : Nat → Nat} {v1 v2 : Nat → gH} (h1 : gw_ch M M1 n g v1) (h2 : ∀ p, p < n → v1 p = v2 p) : gw_ch M M1 n g v2 := ⟨h1.1, fun p hp => by rw [← h2 p hp]; exact h1.2 p hp⟩
theorem gw_ch.refl {M : gM} {n : Nat} {g : Nat → Nat} {v : Nat → gH} (hh : ∀ p, p < n → M (g p) = some (gw_hd (v p))) : gw_ch M M n g v := ⟨fun _ _ => rfl, hh⟩
theorem gw_ch.one {M X : gM} {n : Nat} {g : Nat → Nat} {v : Nat → gH} {i : Nat} {u : gH} (hd : ∀ p q, p < n → q < n → g p = g q → p = q) (hi : i < n) (h : gw_ch M X n g v) : gw_ch M (gw_up X (g i) (gw_hd u)) n g (fun p => if p = i then u else v p) := by
  refine ⟨fun b hb => ?_, fun p hp => ?_⟩
  · rw [gw_miss (hb i hi)]; exact h.1 b hb
  · by_cases hpi : p = i
    · subst hpi
      rw [gw_hit]
      show _ = some (gw_hd (if p = p then u else v p))
      rw [if_pos rfl]
    · rw [gw_miss (fun z => hpi (hd p i hp hi z))]
      show _ = some (gw_hd (if p = i then u else v p))
      rw [if_neg hpi]
      exact h.2 p hp
theorem gw_ch.step {M X : gM} {n : Nat} {g : Nat → Nat} {v w : Nat → gH} {i : Nat} (hd : ∀ p q, p < n → q < n → g p = g q → p = q) (hi : i < n) (h : gw_ch M X n g (fun p => if p < i then w p else v p)) : gw_ch M (gw_up X (g i) (gw_hd (w i))) n g (fun p => if p < i + 1 then w p else v p) := by
  refine (h.one (u := w i) hd hi).to (fun p _ => ?_)
  show (if p = i then w i else if p < i then w p else v p) = if p < i + 1 then w p else v p
  by_cases h1 : p = i
  · subst h1; rw [if_pos rfl, if_pos (Nat.lt_succ_self p)]
  · rw [if_neg h1]
    by_cases h2 : p < i
    · rw [if_pos h2, if_pos (by omega)]
    · rw [if_neg h2, if_neg (by omega)]
theorem gw_ch.at {M X : gM} {n : Nat} {g : Nat → Nat} {v w : Nat → gH} {i : Nat} (hi : i < n) (h : gw_ch M X n g (fun p => if p < i then w p else v p)) : X (g i) = some (gw_hd (v i)) := (h.2 i hi).trans (by
  show some (gw_hd (if i < i then w i else v i)) = _
  rw [if_neg (Nat.lt_irrefl i)])
theorem gw_ch.zero {M : gM} {n : Nat} {g : Nat → Nat} {v w : Nat → gH} (hh : ∀ p, p < n → M (g p) = some (gw_hd (v p))) : gw_ch M M n g (fun p => if p < 0 then w p else v p) := (gw_ch.refl hh).to (fun p _ => (if_neg (Nat.not_lt_zero p)).symm)
theorem gw_ch.all {M X : gM} {n : Nat} {g : Nat → Nat} {v w : Nat → gH} (h : gw_ch M X n g (fun p => if p < n then w p else v p)) : gw_ch M X n g w := h.to (fun _ hp => if_pos hp)
set_option maxHeartbeats 4000000 in
set_option maxRecDepth 100000 in
theorem c_Gang_init (l : Launch) (E : Nat) (D : va_G) (cI cO cZ : ClassId) (z0 : Nat) (M : gM) {a : Nat} (ha : M a = some (.inr (2, [.null]))) : Met l y_Gang_init (Cond.code y_Gang_init b_Gang_init 1 none :: gT) ({ frames := 4, cells := 1, slots := 3, locals := 72 }) (gw_Pc E D cI cO cZ z0 M [.ref a]) (gw_Qv E D (fun M' => ∃ q : Nat, M q = none ∧ M' = gw_up (gw_up M q (.inr (1, [.int 0, .ref z0, .int 0]))) a (.inr (2, [.ref q])))) 1 3 (gw_A E) := by
  refine gw_ofW (cc := b_Gang_init) (maxL := 1) (ret := none) (by decide) rfl (Nat.le_of_ble_eq_true rfl) ?_
  intro p e s m args below meth c hx hb hr hml hts hown hlk hnm hF hG ls hl
  have hT : ∀ w ∈ gT, w.before args s = true := fun w h => hts w (List.mem_cons_of_mem _ h)
  have hK := hF.1
  have hl : lv_has ls 1 [(0, .ref a)] := hl
  refine lv_aload_n hx hb d_Gang_init_0 rfl (lv_at hl 0 rfl) ?_
  refine gw_objI hx hb hown (hml.trans hl.1.symm) (hT _ wm_88) (hT _ wm_55) (hT _ wm_56) (Nat.le_of_ble_eq_true rfl) (Nat.le_of_ble_eq_true rfl) d_Gang_init_1 ?_
  refine lv_aload_n hx hb d_Gang_init_4 rfl (lv_at hl 0 rfl) ?_
  refine gw_new (fs := [.int 0, .null, .int 0]) (C := R_List) (T := F_List) (N := 3) (ci := 1) hx hb hT i_List t_List t_List_ok hown (hT _ wm_89) (hT _ wm_58) (hT _ wm_26) hK hF.2.1 hG rfl (fun j hj => by rcases (show j = 0 ∨ j = 1 ∨ j = 2 by omega) with rfl | rfl | rfl <;> rfl) (Nat.le_of_ble_eq_true rfl) (Nat.le_of_ble_eq_true rfl) d_Gang_init_5 (fun q H hq hG => ?_)
  have haq : a ≠ q := gw_neF hq ha
  obtain ⟨M1, e_M1⟩ : ∃ Y_ : gM, Y_ = gw_up M q (.inr (1, [.int 0, .null, .int 0])) := ⟨_, rfl⟩
  replace hG := gw_nm e_M1 hG
  have hM1_a := (congrFun e_M1 a).trans ((gw_miss haq).trans ha)
  have hM1_q := (congrFun e_M1 q).trans gw_hit
  refine lv_dup hx hb d_Gang_init_8 rfl ?_
  refine gw_callv (gw_runI (As := []) (rest := [.ref q, .ref a]) ⟨hx, hb, hml, hown, hts⟩ (c_AL_init l E D cI cO cZ z0 M1 hM1_q) (cwI 0 hts (gT_gi wm_61) rfl rfl rfl (hT _ wm_26) (hT _ wm_90) (hT _ wm_60) rfl (by decide +kernel) ⟨Nat.le_of_ble_eq_true rfl, Nat.le_of_ble_eq_true rfl⟩) hF hG rfl hl.1 rfl (Nat.le_of_ble_eq_true rfl) d_Gang_init_9 ⟨Nat.le_of_ble_eq_true rfl, Nat.le_of_ble_eq_true rfl⟩) hG (fun M2 H locs hp hG => ?_)
  have hM2_a := (congrFun hp a).trans ((gw_miss haq).trans hM1_a)
  have hM2_q := (congrFun hp q).trans gw_hit
  refine gw_putF (v := .ref q) hx hb hT i_Gang t_Gang t_Gang_ok n_Gang hown hK hG hM2_a rfl 0 (by decide) (hT _ wm_91) (fun _ h => h) rfl hnm rfl rfl rfl (Nat.le_of_ble_eq_true rfl) d_Gang_init_12 (fun H locs hG => ?_)
  obtain ⟨M3, e_M3⟩ : ∃ Y_ : gM, Y_ = gw_up M2 a (.inr (2, [.ref q])) := ⟨_, rfl⟩
  replace hG := gw_nm e_M3 hG
  have hM3_q := (congrFun e_M3 q).trans ((gw_miss haq.symm).trans hM2_q)
  have hM3_a := (congrFun e_M3 a).trans gw_hit
  exact gw_vret hx hb hr hlk hG (⟨q, hq, by rw [e_M3, hp, e_M1, gw_twice]⟩) (Nat.le_of_ble_eq_true rfl) (Nat.le_of_ble_eq_true rfl) d_Gang_init_15
set_option maxHeartbeats 4000000 in
set_option maxRecDepth 100000 in
theorem c_Gang_count (l : Launch) (E : Nat) (D : va_G) (cI cO cZ : ClassId) (z0 : Nat) (M : gM) {gg gl gt n : Nat} {g : Nat → Nat} {v : Nat → gH} (hg : gw_Gg z0 cO M gg gl gt n g v) : Met l y_Gang_count (Cond.code y_Gang_count b_Gang_count 1 (some .int) :: gT) ({ frames := 1, cells := 0, slots := 0, locals := 20 }) (gw_Pc E D cI cO cZ z0 M [.ref gg]) (gw_Qi E D (fun r M' => r = nI n ∧ M' = M)) 0 0 (gw_A E) := by
  refine gw_ofW (cc := b_Gang_count) (maxL := 1) (ret := (some .int)) (by decide) rfl (Nat.le_of_ble_eq_true rfl) ?_
  intro p e s m args below meth c hx hb hr hml hts hown hlk hnm hF hG ls hl
  have hT : ∀ w ∈ gT, w.before args s = true := fun w h => hts w (List.mem_cons_of_mem _ h)
  have hK := hF.1
  have hl : lv_has ls 1 [(0, .ref gg)] := hl
  obtain ⟨hgg, hL, hh, hd⟩ := id hg
  obtain ⟨k, hgl, h10, -⟩ := id hL
  refine lv_aload_n hx hb d_Gang_count_0 rfl (lv_at hl 0 rfl) ?_
  refine gw_get hx hb hT i_Gang hown hK hG hgg rfl 0 (by decide) (hT _ wm_91) (fun _ h => h) rfl d_Gang_count_1 ?_
  refine gw_calli (gw_runV (As := []) (rest := []) ⟨hx, hb, hml, hown, hts⟩ (c_L_size l E D cI cO cZ z0 M hL) (gw_cwV 0 hts (gT_gi wm_286) rfl rfl rfl (hT _ wm_26) (hT _ wm_411) (hT _ wm_284) (hT _ wm_285) (by decide +kernel) ⟨Nat.le_of_ble_eq_true rfl, Nat.le_of_ble_eq_true rfl⟩) hF hG rfl hgl rfl hl.1 rfl (Nat.le_of_ble_eq_true rfl) d_Gang_count_4 ⟨Nat.le_of_ble_eq_true rfl, Nat.le_of_ble_eq_true rfl⟩) hG (fun r M1 H locs hp hG => ?_)
  rw [hp.1]
  replace hG := gw_nm hp.2.symm hG
  exact gw_iret (v := (nI n)) hx hb hr hlk hG (⟨rfl, rfl⟩) (Nat.le_of_ble_eq_true rfl) (Nat.le_of_ble_eq_true rfl) d_Gang_count_7
set_option maxHeartbeats 4000000 in
set_option maxRecDepth 100000 in
theorem c_Gang_placeFor (l : Launch) (E : Nat) (D : va_G) (cI cO cZ : ClassId) (z0 : Nat) (M : gM) {gg gl gt n : Nat} {g : Nat → Nat} {v : Nat → gH} (hg : gw_Gg z0 cO M gg gl gt n g v) {h J : Nat} (hJ1 : J ≤ n) (hJ2 : ∀ p, p < J → g p ≠ h) (hJ3 : J < n → g J = h) : Met l y_Gang_placeFor (Cond.code y_Gang_placeFor b_Gang_placeFor 3 (some .int) :: gT) ({ frames := 3, cells := 0, slots := 0, locals := 64 }) (gw_Pc E D cI cO cZ z0 M [.ref gg, .ref h]) (gw_Qi E D (fun r M' => r = (if J < n then nI J else -1) ∧ M' = M)) 0 0 (gw_A E) := by
  refine gw_ofW (cc := b_Gang_placeFor) (maxL := 3) (ret := (some .int)) (by decide) rfl (Nat.le_of_ble_eq_true rfl) ?_
  intro p e s m args below meth c hx hb hr hml hts hown hlk hnm hF hG ls hl
  have hT : ∀ w ∈ gT, w.before args s = true := fun w h => hts w (List.mem_cons_of_mem _ h)
  have hK := hF.1
  have hl : lv_has ls 3 [(0, .ref gg), (1, .ref h)] := hl
  obtain ⟨hgg, hL, hh, hd⟩ := id hg
  obtain ⟨k, hgl, h10, -⟩ := id hL
  refine lv_iconst (v := 0) hx hb d_Gang_placeFor_0 (by decide) ?_
  refine lv_istore_n (lv' := [(2, .int 0), (0, .ref gg), (1, .ref h)]) hx hb d_Gang_placeFor_1 rfl hl (by decide) rfl (fun ls hl => ?_)
  have loop : ∀ (d i : Nat), i + d = n → ∀ (X : gM) (H : Heap) (locs : List Loc) (ls : Array Slot), (i ≤ J ∧ X = M) → gw_H E D X s H locs → lv_has ls 3 [(2, .int (nI i)), (0, .ref gg), (1, .ref h)] → W p l e ({ frames := 3, cells := 0, slots := 0, locals := 64 } : Room) s m args below meth c H locs 0 0 (MQ below (gw_Qi E D (fun r M' => r = (if J < n then nI J else -1) ∧ M' = M)) args s 0 0 (gw_A E)) (F0 m 2 ls []) := by
    intro d
    induction d with
    | zero =>
      intro i hi X H locs ls hI hG hl
      obtain ⟨hI, hX⟩ := hI
      replace hG := gw_nm hX.symm hG
      refine lv_iload_n hx hb d_Gang_placeFor_2 rfl (lv_at hl 0 rfl) ?_
      refine lv_aload_n hx hb d_Gang_placeFor_3 rfl (lv_at hl 1 rfl) ?_
      refine gw_get hx hb hT i_Gang hown hK hG hgg rfl 0 (by decide) (hT _ wm_91) (fun _ h => h) rfl d_Gang_placeFor_4 ?_
      refine gw_calli (gw_runV (As := []) (rest := [.int (nI i)]) ⟨hx, hb, hml, hown, hts⟩ (c_L_size l E D cI cO cZ z0 M hL) (gw_cwV 0 hts (gT_gi wm_286) rfl rfl rfl (hT _ wm_26) (hT _ wm_411) (hT _ wm_284) (hT _ wm_285) (by decide +kernel) ⟨Nat.le_of_ble_eq_true rfl, Nat.le_of_ble_eq_true rfl⟩) hF hG rfl hgl rfl hl.1 rfl (Nat.le_of_ble_eq_true rfl) d_Gang_placeFor_7 ⟨Nat.le_of_ble_eq_true rfl, Nat.le_of_ble_eq_true rfl⟩) hG (fun r M1 H locs hp hG => ?_)
      rw [hp.1]
      replace hG := gw_nm hp.2.symm hG
      refine lv_icmp_ge (tgt := 33) hx hb d_Gang_placeFor_10 (by decide) (fun c_10 => ?_) (fun z_ => absurd (nI_le (by omega) (by omega)) z_)
      refine lv_iconst (v := (-1)) hx hb d_Gang_placeFor_33 (by decide) ?_
      exact gw_iret (v := (-1)) hx hb hr hlk hG (⟨by rw [if_neg (by omega)], rfl⟩) (Nat.le_of_ble_eq_true rfl) (Nat.le_of_ble_eq_true rfl) d_Gang_placeFor_34
    | succ d ih =>
      intro i hi X H locs ls hI hG hl
      obtain ⟨hI, hX⟩ := hI
      replace hG := gw_nm hX.symm hG
      refine lv_iload_n hx hb d_Gang_placeFor_2 rfl (lv_at hl 0 rfl) ?_
      refine lv_aload_n hx hb d_Gang_placeFor_3 rfl (lv_at hl 1 rfl) ?_
      refine gw_get hx hb hT i_Gang hown hK hG hgg rfl 0 (by decide) (hT _ wm_91) (fun _ h => h) rfl d_Gang_placeFor_4 ?_
      refine gw_calli (gw_runV (As := []) (rest := [.int (nI i)]) ⟨hx, hb, hml, hown, hts⟩ (c_L_size l E D cI cO cZ z0 M hL) (gw_cwV 0 hts (gT_gi wm_286) rfl rfl rfl (hT _ wm_26) (hT _ wm_411) (hT _ wm_284) (hT _ wm_285) (by decide +kernel) ⟨Nat.le_of_ble_eq_true rfl, Nat.le_of_ble_eq_true rfl⟩) hF hG rfl hgl rfl hl.1 rfl (Nat.le_of_ble_eq_true rfl) d_Gang_placeFor_7 ⟨Nat.le_of_ble_eq_true rfl, Nat.le_of_ble_eq_true rfl⟩) hG (fun r M2 H locs hp hG => ?_)
      rw [hp.1]
      replace hG := gw_nm hp.2.symm hG
      refine lv_icmp_ge (tgt := 33) hx hb d_Gang_placeFor_10 (by decide) (fun z_ => absurd z_ (nI_ge (by omega) (by omega))) (fun c_10 => ?_)
      refine lv_aload_n hx hb d_Gang_placeFor_13 rfl (lv_at hl 1 rfl) ?_
      refine gw_get hx hb hT i_Gang hown hK hG hgg rfl 0 (by decide) (hT _ wm_91) (fun _ h => h) rfl d_Gang_placeFor_14 ?_
      refine lv_iload_n hx hb d_Gang_placeFor_17 rfl (lv_at hl 0 rfl) ?_
      refine gw_callq (gw_runV (As := [.int (nI i)]) (rest := []) ⟨hx, hb, hml, hown, hts⟩ (c_L_get l E D cI cO cZ z0 M hL (p := i) (by omega)) (gw_cwV 1 hts (gT_gi wm_362) rfl rfl rfl (hT _ wm_26) (hT _ wm_412) (hT _ wm_360) (hT _ wm_361) (by decide +kernel) ⟨Nat.le_of_ble_eq_true rfl, Nat.le_of_ble_eq_true rfl⟩) hF hG rfl hgl rfl hl.1 rfl (Nat.le_of_ble_eq_true rfl) d_Gang_placeFor_18 ⟨Nat.le_of_ble_eq_true rfl, Nat.le_of_ble_eq_true rfl⟩) hG (fun r M3 H locs hp hG => ?_)
      rw [hp.1]
      replace hG := gw_nm hp.2.symm hG
      refine lv_aload_n hx hb d_Gang_placeFor_21 rfl (lv_at hl 2 rfl) ?_
      refine lv_acmp_ne (rx := some (g i)) (ry := some h) (tgt := 27) hx hb d_Gang_placeFor_22 (by decide) (fun c_ => ?_) (fun c_ => ?_)
      · skip
        have hne : g i ≠ h := fun z => c_ (congrArg some z)
        refine lv_iinc (v := nI (i + 1)) (lv' := [(2, .int (nI (i + 1))), (0, .ref gg), (1, .ref h)]) hx hb d_Gang_placeFor_27 hl (k := 0) rfl (nI_succ i).symm (by decide) rfl (fun ls hl => ?_)
        refine lv_goto (tgt := 2) hx hb d_Gang_placeFor_30 (by decide) ?_
        exact ih (i + 1) (by omega) M _ _ _ ⟨by rcases Nat.lt_or_eq_of_le hI with h1 | h1; (omega); (subst h1; exact absurd (hJ3 (by omega)) hne), rfl⟩ hG (lv_sub hl [0, 1, 2] rfl)
      · skip
        have heq : g i = h := Option.some.inj c_
        have hJi : J = i := by rcases Nat.lt_or_eq_of_le hI with h1 | h1; (exact absurd heq (hJ2 i h1)); (exact h1.symm)
        refine lv_iload_n hx hb d_Gang_placeFor_25 rfl (lv_at hl 0 rfl) ?_
        exact gw_iret (v := (nI i)) hx hb hr hlk hG (⟨by rw [hJi, if_pos (by omega)], rfl⟩) (Nat.le_of_ble_eq_true rfl) (Nat.le_of_ble_eq_true rfl) d_Gang_placeFor_26
  exact loop _ _ (Nat.zero_add n) M _ _ _ ⟨Nat.zero_le J, rfl⟩ hG (lv_sub hl [0, 1, 2] rfl)
