theorem wm_764 : Cond.constant "ThresholdRowLaw" 7 69069 ∈ gT := gT_m (List.mem_of_getElem? (i := 764) (by decide +kernel)) (by decide +kernel)
theorem d_Law_cell_0 : decode b_Law_cell 0 = .ok (.ldc 7, 2) := by decide +kernel
theorem d_Law_cell_2 : decode b_Law_cell 2 = .ok (.iload_n 1, 1) := by decide +kernel
theorem d_Law_cell_3 : decode b_Law_cell 3 = .ok (.aload_n 0, 1) := by decide +kernel
theorem d_Law_cell_4 : decode b_Law_cell 4 = .ok (.arraylength, 1) := by decide +kernel
theorem d_Law_cell_5 : decode b_Law_cell 5 = .ok (.if_icmp .ge 9, 3) := by decide +kernel
theorem d_Law_cell_14 : decode b_Law_cell 14 = .ok (.iconst 0, 1) := by decide +kernel
theorem d_Law_cell_15 : decode b_Law_cell 15 = .ok (.sipush 1009, 3) := by decide +kernel
theorem d_Law_cell_18 : decode b_Law_cell 18 = .ok (.iload_n 1, 1) := by decide +kernel
theorem d_Law_cell_19 : decode b_Law_cell 19 = .ok (.imul, 1) := by decide +kernel
theorem d_Law_cell_20 : decode b_Law_cell 20 = .ok (.iadd, 1) := by decide +kernel
theorem d_Law_cell_21 : decode b_Law_cell 21 = .ok (.imul, 1) := by decide +kernel
theorem d_Law_cell_22 : decode b_Law_cell 22 = .ok (.sipush 12345, 3) := by decide +kernel
theorem d_Law_cell_25 : decode b_Law_cell 25 = .ok (.iadd, 1) := by decide +kernel
theorem d_Law_cell_26 : decode b_Law_cell 26 = .ok (.istore_n 2, 1) := by decide +kernel
theorem d_Law_cell_27 : decode b_Law_cell 27 = .ok (.iload_n 2, 1) := by decide +kernel
theorem d_Law_cell_28 : decode b_Law_cell 28 = .ok (.iload_n 2, 1) := by decide +kernel
theorem d_Law_cell_29 : decode b_Law_cell 29 = .ok (.bipush 13, 2) := by decide +kernel
theorem d_Law_cell_31 : decode b_Law_cell 31 = .ok (.iushr, 1) := by decide +kernel
theorem d_Law_cell_32 : decode b_Law_cell 32 = .ok (.ixor, 1) := by decide +kernel
theorem wm_765 : Cond.constant "ThresholdRowLaw" 8 1103515245 ∈ gT := gT_m (List.mem_of_getElem? (i := 765) (by decide +kernel)) (by decide +kernel)
theorem d_Law_cell_33 : decode b_Law_cell 33 = .ok (.ldc 8, 2) := by decide +kernel
theorem d_Law_cell_35 : decode b_Law_cell 35 = .ok (.imul, 1) := by decide +kernel
theorem d_Law_cell_36 : decode b_Law_cell 36 = .ok (.istore_n 2, 1) := by decide +kernel
theorem d_Law_cell_37 : decode b_Law_cell 37 = .ok (.iload_n 2, 1) := by decide +kernel
theorem d_Law_cell_38 : decode b_Law_cell 38 = .ok (.iload_n 2, 1) := by decide +kernel
theorem d_Law_cell_39 : decode b_Law_cell 39 = .ok (.bipush 16, 2) := by decide +kernel
theorem d_Law_cell_41 : decode b_Law_cell 41 = .ok (.iushr, 1) := by decide +kernel
theorem d_Law_cell_42 : decode b_Law_cell 42 = .ok (.ixor, 1) := by decide +kernel
theorem d_Law_cell_43 : decode b_Law_cell 43 = .ok (.ireturn, 1) := by decide +kernel
theorem d_Law_cell_8 : decode b_Law_cell 8 = .ok (.aload_n 0, 1) := by decide +kernel
theorem d_Law_cell_9 : decode b_Law_cell 9 = .ok (.iload_n 1, 1) := by decide +kernel
theorem d_Law_cell_10 : decode b_Law_cell 10 = .ok (.iaload, 1) := by decide +kernel
theorem d_Law_cell_11 : decode b_Law_cell 11 = .ok (.goto 4, 3) := by decide +kernel
theorem d_Law_in_0 : decode b_Law_in 0 = .ok (.aload_n 0, 1) := by decide +kernel
theorem d_Law_in_1 : decode b_Law_in 1 = .ok (.iload_n 1, 1) := by decide +kernel
theorem wm_763 : Cond.code ⟨"ThresholdRowLaw", "cell", "([II)I"⟩ method_2_code 3 (some .int) ∈ gT := gT_m (List.mem_of_getElem? (i := 763) (by decide +kernel)) (by decide +kernel)
theorem wm_22 : Cond.initialized "ThresholdRowLaw" ∈ gT := gT_m (List.mem_of_getElem? (i := 22) (by decide +kernel)) (by decide +kernel)
theorem wm_761 : Cond.methodLink "ThresholdRowLaw" 59 ⟨"ThresholdRowLaw", "cell", "([II)I"⟩ ∈ gT := gT_m (List.mem_of_getElem? (i := 761) (by decide +kernel)) (by decide +kernel)
theorem wm_762 : Cond.static ⟨"ThresholdRowLaw", "cell", "([II)I"⟩ ∈ gT := gT_m (List.mem_of_getElem? (i := 762) (by decide +kernel)) (by decide +kernel)
theorem d_Law_in_2 : decode b_Law_in 2 = .ok (.invokestatic 59, 3) := by decide +kernel
theorem wm_766 : Cond.constant "ThresholdRowLaw" 65 2147483647 ∈ gT := gT_m (List.mem_of_getElem? (i := 766) (by decide +kernel)) (by decide +kernel)
theorem d_Law_in_5 : decode b_Law_in 5 = .ok (.ldc 65, 2) := by decide +kernel
theorem d_Law_in_7 : decode b_Law_in 7 = .ok (.iand, 1) := by decide +kernel
theorem d_Law_in_8 : decode b_Law_in 8 = .ok (.iload_n 2, 1) := by decide +kernel
theorem d_Law_in_9 : decode b_Law_in 9 = .ok (.irem, 1) := by decide +kernel
theorem d_Law_in_10 : decode b_Law_in 10 = .ok (.ireturn, 1) := by decide +kernel
theorem d_Law_amount_0 : decode b_Law_amount 0 = .ok (.iload_n 0, 1) := by decide +kernel
theorem d_Law_amount_1 : decode b_Law_amount 1 = .ok (.ifCond .ge 8, 3) := by decide +kernel
theorem d_Law_amount_9 : decode b_Law_amount 9 = .ok (.iload_n 0, 1) := by decide +kernel
theorem d_Law_amount_10 : decode b_Law_amount 10 = .ok (.ireturn, 1) := by decide +kernel
theorem d_Law_amount_4 : decode b_Law_amount 4 = .ok (.iload_n 0, 1) := by decide +kernel
theorem d_Law_amount_5 : decode b_Law_amount 5 = .ok (.ineg, 1) := by decide +kernel
theorem d_Law_amount_6 : decode b_Law_amount 6 = .ok (.goto 4, 3) := by decide +kernel
theorem d_Law_placeIn_0 : decode b_Law_placeIn 0 = .ok (.iconst (-1), 1) := by decide +kernel
theorem d_Law_placeIn_1 : decode b_Law_placeIn 1 = .ok (.istore_n 2, 1) := by decide +kernel
theorem d_Law_placeIn_2 : decode b_Law_placeIn 2 = .ok (.iconst 1, 1) := by decide +kernel
theorem d_Law_placeIn_3 : decode b_Law_placeIn 3 = .ok (.istore_n 3, 1) := by decide +kernel
theorem d_Law_placeIn_4 : decode b_Law_placeIn 4 = .ok (.iload_n 3, 1) := by decide +kernel
theorem d_Law_placeIn_5 : decode b_Law_placeIn 5 = .ok (.aload_n 0, 1) := by decide +kernel
theorem d_Law_placeIn_6 : decode b_Law_placeIn 6 = .ok (.iconst 0, 1) := by decide +kernel
theorem d_Law_placeIn_7 : decode b_Law_placeIn 7 = .ok (.iaload, 1) := by decide +kernel
theorem d_Law_placeIn_8 : decode b_Law_placeIn 8 = .ok (.if_icmp .gt 24, 3) := by decide +kernel
theorem d_Law_placeIn_32 : decode b_Law_placeIn 32 = .ok (.iload_n 2, 1) := by decide +kernel
theorem d_Law_placeIn_33 : decode b_Law_placeIn 33 = .ok (.ireturn, 1) := by decide +kernel
theorem d_Law_placeIn_11 : decode b_Law_placeIn 11 = .ok (.aload_n 0, 1) := by decide +kernel
theorem d_Law_placeIn_12 : decode b_Law_placeIn 12 = .ok (.iload_n 3, 1) := by decide +kernel
theorem d_Law_placeIn_13 : decode b_Law_placeIn 13 = .ok (.iaload, 1) := by decide +kernel
theorem d_Law_placeIn_14 : decode b_Law_placeIn 14 = .ok (.iload_n 1, 1) := by decide +kernel
theorem d_Law_placeIn_15 : decode b_Law_placeIn 15 = .ok (.if_icmp .ne 9, 3) := by decide +kernel
theorem d_Law_placeIn_24 : decode b_Law_placeIn 24 = .ok (.iload_n 2, 1) := by decide +kernel
theorem d_Law_placeIn_25 : decode b_Law_placeIn 25 = .ok (.istore_n 2, 1) := by decide +kernel
theorem d_Law_placeIn_26 : decode b_Law_placeIn 26 = .ok (.iinc 3 1, 3) := by decide +kernel
theorem d_Law_placeIn_29 : decode b_Law_placeIn 29 = .ok (.goto (-25), 3) := by decide +kernel
theorem d_Law_placeIn_18 : decode b_Law_placeIn 18 = .ok (.iload_n 3, 1) := by decide +kernel
theorem d_Law_placeIn_19 : decode b_Law_placeIn 19 = .ok (.iconst 1, 1) := by decide +kernel
theorem d_Law_placeIn_20 : decode b_Law_placeIn 20 = .ok (.isub, 1) := by decide +kernel
theorem d_Law_placeIn_21 : decode b_Law_placeIn 21 = .ok (.goto 4, 3) := by decide +kernel
theorem d_Law_leaves_0 : decode b_Law_leaves 0 = .ok (.iconst 0, 1) := by decide +kernel
theorem d_Law_leaves_1 : decode b_Law_leaves 1 = .ok (.istore_n 2, 1) := by decide +kernel
theorem d_Law_leaves_2 : decode b_Law_leaves 2 = .ok (.iconst 1, 1) := by decide +kernel
theorem d_Law_leaves_3 : decode b_Law_leaves 3 = .ok (.istore_n 3, 1) := by decide +kernel
theorem d_Law_leaves_4 : decode b_Law_leaves 4 = .ok (.iload_n 3, 1) := by decide +kernel
theorem d_Law_leaves_5 : decode b_Law_leaves 5 = .ok (.aload_n 0, 1) := by decide +kernel
theorem d_Law_leaves_6 : decode b_Law_leaves 6 = .ok (.iconst 0, 1) := by decide +kernel
theorem d_Law_leaves_7 : decode b_Law_leaves 7 = .ok (.iaload, 1) := by decide +kernel
theorem d_Law_leaves_8 : decode b_Law_leaves 8 = .ok (.if_icmp .gt 32, 3) := by decide +kernel
theorem d_Law_leaves_40 : decode b_Law_leaves 40 = .ok (.aload_n 0, 1) := by decide +kernel
theorem d_Law_leaves_41 : decode b_Law_leaves 41 = .ok (.iconst 0, 1) := by decide +kernel
theorem d_Law_leaves_42 : decode b_Law_leaves 42 = .ok (.iload_n 2, 1) := by decide +kernel
theorem d_Law_leaves_43 : decode b_Law_leaves 43 = .ok (.iastore, 1) := by decide +kernel
theorem d_Law_leaves_44 : decode b_Law_leaves 44 = .ok (.return_, 1) := by decide +kernel
theorem d_Law_leaves_11 : decode b_Law_leaves 11 = .ok (.aload_n 0, 1) := by decide +kernel
theorem d_Law_leaves_12 : decode b_Law_leaves 12 = .ok (.iload_n 2, 1) := by decide +kernel
theorem d_Law_leaves_13 : decode b_Law_leaves 13 = .ok (.iconst 1, 1) := by decide +kernel
theorem d_Law_leaves_14 : decode b_Law_leaves 14 = .ok (.iadd, 1) := by decide +kernel
theorem d_Law_leaves_15 : decode b_Law_leaves 15 = .ok (.aload_n 0, 1) := by decide +kernel
theorem d_Law_leaves_16 : decode b_Law_leaves 16 = .ok (.iload_n 3, 1) := by decide +kernel
theorem d_Law_leaves_17 : decode b_Law_leaves 17 = .ok (.iaload, 1) := by decide +kernel
theorem d_Law_leaves_18 : decode b_Law_leaves 18 = .ok (.iastore, 1) := by decide +kernel
theorem d_Law_leaves_19 : decode b_Law_leaves 19 = .ok (.iload_n 2, 1) := by decide +kernel
theorem d_Law_leaves_20 : decode b_Law_leaves 20 = .ok (.aload_n 0, 1) := by decide +kernel
theorem d_Law_leaves_21 : decode b_Law_leaves 21 = .ok (.iload_n 3, 1) := by decide +kernel
theorem d_Law_leaves_22 : decode b_Law_leaves 22 = .ok (.iaload, 1) := by decide +kernel
theorem d_Law_leaves_23 : decode b_Law_leaves 23 = .ok (.iload_n 1, 1) := by decide +kernel
theorem d_Law_leaves_24 : decode b_Law_leaves 24 = .ok (.if_icmp .ne 7, 3) := by decide +kernel
theorem d_Law_leaves_31 : decode b_Law_leaves 31 = .ok (.iconst 1, 1) := by decide +kernel
theorem d_Law_leaves_32 : decode b_Law_leaves 32 = .ok (.iadd, 1) := by decide +kernel
theorem d_Law_leaves_33 : decode b_Law_leaves 33 = .ok (.istore_n 2, 1) := by decide +kernel
theorem d_Law_leaves_34 : decode b_Law_leaves 34 = .ok (.iinc 3 1, 3) := by decide +kernel
theorem d_Law_leaves_37 : decode b_Law_leaves 37 = .ok (.goto (-33), 3) := by decide +kernel
theorem d_Law_leaves_27 : decode b_Law_leaves 27 = .ok (.iconst 0, 1) := by decide +kernel
theorem d_Law_leaves_28 : decode b_Law_leaves 28 = .ok (.goto 4, 3) := by decide +kernel
section GS
variable {E : Nat} {D : va_G} {cI cO cZ : ClassId} {z0 : Nat} {M : gM} {l : Launch} {sb sL : Nat} {xs : Nat → Int32}
/-- a start with the script below the boundary -/
def gw_Ps (E : Nat) (D : va_G) (cI cO cZ : ClassId) (z0 : Nat) (M : gM) (sb sL : Nat) (xs : Nat → Int32) (av : List Value) : Array Value → State → Prop := va_Pc av (fun U => (gw_F E D cI cO cZ z0 U ∧ gw_B E D M U) ∧ va_X sb sL xs U U.heap ∧ sb < E)
theorem gw_ofS {y : MethodName} {ws ws' : List Cond} {rm : Room} {av : List Value} {Qc : Array Value → State → Outcome → State → Prop} {mc ms : Nat} {cc : ByteArray} {maxL : Nat} {ret : Option FieldType} (hy : plainName y.cls = true) (hw : ws = Cond.code y cc maxL ret :: ws') (hlen : (lg_sl av).length ≤ maxL)
    (body : ∀ (p : Program) (e : Env) (s : State) (m : MethodId) (args : Array Value) (below : List Frame) (meth : Method) (c : Code), p.tables.exec = Jvm.exec → c.code = cc → meth.sig.returnType = ret → c.maxLocals = maxL → (∀ w ∈ ws, w.before args s = true) → s.vm.findClass y.cls = some m.cls → meth.locks = false → meth.name = y.name → gw_F E D cI cO cZ z0 s → gw_H E D M s s.heap [] → ∀ ls : Array Slot, lv_has ls maxL (lv_args 0 av) → va_X sb sL xs s s.heap → sb < E →
      W p l e rm s m args below meth c s.heap [] 0 0 (MQ below Qc args s mc ms (gw_A E)) (F0 m 0 ls [])) : Met l y ws rm (gw_Ps E D cI cO cZ z0 M sb sL xs av) Qc mc ms (gw_A E) := by
  refine Met.ofW (cc := cc) (maxL := maxL) (ret := ret) hy hw ?_
  intro p e s m args below meth c s₁ B hml hv
  obtain ⟨rfl, ⟨hF, hB⟩, hX, hsb⟩ := hv
  have hts := atoms_spec (ws := ws) B.pre
  have hown : s.vm.findClass y.cls = some m.cls := findClass_of_methodNamed B.named
  have hl := lv_entry av (n := maxL) hlen
  rw [lg_entry_eq]
  exact body p e s m _ below meth c B.exec B.bytes B.returns hml hts hown B.notSynchronized (name_of_methodNamed B.named B.method).1 hF ⟨hB.1, hB.2, va_S.rf⟩ _ hl hX hsb
variable {p : Program} {e : Env} {R : Room} {s : State} {m : MethodId} {args : Array Value} {below : List Frame} {meth : Method} {c : Code} {H : Heap} {locs : List Loc} {cells slots : Nat} {Q : State → Prop}
variable {cc : ByteArray} {pc : Nat} {ls : Array Slot}
theorem gw_runSs {y : MethodName} {bytes : ByteArray} {maxL nL mc ms n index : Nat} {ret : Option FieldType} {ws : List Cond} {rm : Room} {Qc : Array Value → State → Outcome → State → Prop} {Ts : List Cond} {own : String} {As rest st0 : List Value}
    (S : CallFix p m c cc nL s args Ts own) (hM : Met l y ws rm (gw_Ps E D cI cO cZ z0 M sb sL xs As) Qc mc ms (gw_A E)) (cw : CallB R s args own index y bytes maxL ret ws rm mc ms n ∧ (Cond.static y).before args s = true) (hF : gw_F E D cI cO cZ z0 s) (hG : gw_H E D M s H locs) (hX : va_X sb sL xs s s.heap) (hsb : sb < E)
    (hn : As.length = n) (hsize : ls.size = nL) (hstack : st0 = As.reverse ++ rest) (hW : (rest.map fun v => v.category).sum ≤ 8) (hdg : decode cc pc = .ok (.invokestatic index, 3)) (hf : cells + mc ≤ R.cells ∧ slots + ms ≤ R.slots) :
    va_Run p l e R s m args below meth c H locs cells slots mc ms (F0 m pc ls st0) rest (Qc As.toArray) (gw_A E) :=
  va_runS S hM cw ⟨by
    rintro a U g mk ⟨h0, ⟨⟨h1, h2, h3⟩, h4, h5⟩, h6, h7⟩
    exact ⟨h0, ⟨⟨va_K.moved (u := U) (U := U.calling g mk a) (Vm.Alike.refl U.vm) h1, h2, gw_T.same (u := U) (U := U.calling g mk a) rfl h3⟩, h4, h5⟩, va_X.moved (u := U) (U := U.calling g mk a) (Vm.Alike.refl U.vm) h6, h7⟩, fun U hU hW => by
    obtain ⟨q1, q2⟩ := gw_pre (av := As) hF hG U hU hW
    refine ⟨q1, q2, va_X.moved hW.alike ?_, hsb⟩
    rw [hU]
    exact hX.kept (hG.2.2.2.1 sb (Nat.lt_of_lt_of_le hsb hF.2.1) (Nat.not_le.mpr hsb))⟩ rfl hn hsize hstack (lv_room (rest := st0) hW) hdg hf
end GS
set_option maxHeartbeats 4000000 in
set_option maxRecDepth 100000 in
theorem c_Law_cell (l : Launch) (E : Nat) (D : va_G) (cI cO cZ : ClassId) (z0 : Nat) (M : gM) {sb sL : Nat} {xs : Nat → Int32} (hsL : sL < 2 ^ 31) {i : Nat} (hi : i < 2 ^ 31) : Met l y_Law_cell (Cond.code y_Law_cell b_Law_cell 3 (some .int) :: gT) ({ frames := 0, cells := 0, slots := 0, locals := 0 }) (gw_Ps E D cI cO cZ z0 M sb sL xs [.ref sb, .int (nI i)]) (gw_Qi E D (fun _ M' => M' = M)) 0 0 (gw_A E) := by
  refine gw_ofS (cc := b_Law_cell) (maxL := 3) (ret := (some .int)) (by decide) rfl (Nat.le_of_ble_eq_true rfl) ?_
  intro p e s m args below meth c hx hb hr hml hts hown hlk hnm hF hG ls hl hX hsb
  have hT : ∀ w ∈ gT, w.before args s = true := fun w h => hts w (List.mem_cons_of_mem _ h)
  have hK := hF.1
  have hl : lv_has ls 3 [(0, .ref sb), (1, .int (nI i))] := hl
  refine lv_ldc hx hb hown (hT _ wm_764) d_Law_cell_0 ?_
  refine lv_iload_n hx hb d_Law_cell_2 rfl (lv_at hl 1 rfl) ?_
  refine lv_aload_n hx hb d_Law_cell_3 rfl (lv_at hl 0 rfl) ?_
  refine va_slen hx hb hX (Nat.lt_of_lt_of_le hsb hF.2.1) (Nat.not_le.mpr hsb) hG.2.2 d_Law_cell_4 ?_
  refine lv_icmp_ge (tgt := 14) hx hb d_Law_cell_5 (by decide) (fun c_5 => ?_) (fun c_5 => ?_)
  · skip
    refine lv_iconst (v := 0) hx hb d_Law_cell_14 (by decide) ?_
    refine lv_sipush (v := 1009) hx hb d_Law_cell_15 (by decide) ?_
    refine lv_iload_n hx hb d_Law_cell_18 rfl (lv_at hl 1 rfl) ?_
    refine lv_imul hx hb d_Law_cell_19 ?_
    refine lv_iadd hx hb d_Law_cell_20 ?_
    refine lv_imul hx hb d_Law_cell_21 ?_
    refine lv_sipush (v := 12345) hx hb d_Law_cell_22 (by decide) ?_
    refine lv_iadd hx hb d_Law_cell_25 ?_
    refine lv_topi (fun h1 e_h1 => ?_)
    refine lv_istore_n (lv' := [(2, .int h1), (0, .ref sb), (1, .int (nI i))]) hx hb d_Law_cell_26 rfl hl (by decide) rfl (fun ls hl => ?_)
    refine lv_iload_n hx hb d_Law_cell_27 rfl (lv_at hl 0 rfl) ?_
    refine lv_iload_n hx hb d_Law_cell_28 rfl (lv_at hl 0 rfl) ?_
    refine lv_bipush (v := 13) hx hb d_Law_cell_29 (by decide) ?_
    refine lv_iushr hx hb d_Law_cell_31 rfl ?_
    refine lv_topi (fun h2 _ => ?_)
    refine lv_ixor hx hb d_Law_cell_32 ?_
    refine lv_ldc hx hb hown (hT _ wm_765) d_Law_cell_33 ?_
    refine lv_imul hx hb d_Law_cell_35 ?_
    refine lv_topi (fun h3 e_h3 => ?_)
    refine lv_istore_n (lv' := [(2, .int h3), (0, .ref sb), (1, .int (nI i))]) hx hb d_Law_cell_36 rfl hl (by decide) rfl (fun ls hl => ?_)
    refine lv_iload_n hx hb d_Law_cell_37 rfl (lv_at hl 0 rfl) ?_
    refine lv_iload_n hx hb d_Law_cell_38 rfl (lv_at hl 0 rfl) ?_
    refine lv_bipush (v := 16) hx hb d_Law_cell_39 (by decide) ?_
    refine lv_iushr hx hb d_Law_cell_41 rfl ?_
    refine lv_topi (fun h4 _ => ?_)
    refine lv_ixor hx hb d_Law_cell_42 ?_
    exact gw_iret hx hb hr hlk hG rfl (Nat.le_of_ble_eq_true rfl) (Nat.le_of_ble_eq_true rfl) d_Law_cell_43
  · skip
    refine lv_aload_n hx hb d_Law_cell_8 rfl (lv_at hl 0 rfl) ?_
    refine lv_iload_n hx hb d_Law_cell_9 rfl (lv_at hl 1 rfl) ?_
    have hlt : i < sL := by rcases Nat.lt_or_ge i sL with h | h; exact h; exact absurd (show nI sL ≤ nI i from nI_le h hi) c_5
    refine va_sld hx hb hX (Nat.lt_of_lt_of_le hsb hF.2.1) (Nat.not_le.mpr hsb) hG.2.2 (vp_in_nI hlt hsL) d_Law_cell_10 ?_
    refine lv_goto (tgt := 15) hx hb d_Law_cell_11 (by decide) ?_
    refine lv_sipush (v := 1009) hx hb d_Law_cell_15 (by decide) ?_
    refine lv_iload_n hx hb d_Law_cell_18 rfl (lv_at hl 1 rfl) ?_
    refine lv_imul hx hb d_Law_cell_19 ?_
    refine lv_iadd hx hb d_Law_cell_20 ?_
    refine lv_imul hx hb d_Law_cell_21 ?_
    refine lv_sipush (v := 12345) hx hb d_Law_cell_22 (by decide) ?_
    refine lv_iadd hx hb d_Law_cell_25 ?_
    refine lv_topi (fun h1 e_h1 => ?_)
    refine lv_istore_n (lv' := [(2, .int h1), (0, .ref sb), (1, .int (nI i))]) hx hb d_Law_cell_26 rfl hl (by decide) rfl (fun ls hl => ?_)
    refine lv_iload_n hx hb d_Law_cell_27 rfl (lv_at hl 0 rfl) ?_
    refine lv_iload_n hx hb d_Law_cell_28 rfl (lv_at hl 0 rfl) ?_
    refine lv_bipush (v := 13) hx hb d_Law_cell_29 (by decide) ?_
    refine lv_iushr hx hb d_Law_cell_31 rfl ?_
    refine lv_topi (fun h2 _ => ?_)
    refine lv_ixor hx hb d_Law_cell_32 ?_
    refine lv_ldc hx hb hown (hT _ wm_765) d_Law_cell_33 ?_
    refine lv_imul hx hb d_Law_cell_35 ?_
    refine lv_topi (fun h3 e_h3 => ?_)
    refine lv_istore_n (lv' := [(2, .int h3), (0, .ref sb), (1, .int (nI i))]) hx hb d_Law_cell_36 rfl hl (by decide) rfl (fun ls hl => ?_)
    refine lv_iload_n hx hb d_Law_cell_37 rfl (lv_at hl 0 rfl) ?_
    refine lv_iload_n hx hb d_Law_cell_38 rfl (lv_at hl 0 rfl) ?_
    refine lv_bipush (v := 16) hx hb d_Law_cell_39 (by decide) ?_
    refine lv_iushr hx hb d_Law_cell_41 rfl ?_
    refine lv_topi (fun h4 _ => ?_)
    refine lv_ixor hx hb d_Law_cell_42 ?_
    exact gw_iret hx hb hr hlk hG rfl (Nat.le_of_ble_eq_true rfl) (Nat.le_of_ble_eq_true rfl) d_Law_cell_43
set_option maxHeartbeats 4000000 in
set_option maxRecDepth 100000 in
theorem c_Law_in (l : Launch) (E : Nat) (D : va_G) (cI cO cZ : ClassId) (z0 : Nat) (M : gM) {sb sL : Nat} {xs : Nat → Int32} (hsL : sL < 2 ^ 31) {i k : Nat} (hi : i < 2 ^ 31) (hk0 : 0 < k) (hk : k < 2 ^ 31) : Met l y_Law_in (Cond.code y_Law_in b_Law_in 3 (some .int) :: gT) ({ frames := 1, cells := 0, slots := 0, locals := 22 }) (gw_Ps E D cI cO cZ z0 M sb sL xs [.ref sb, .int (nI i), .int (nI k)]) (gw_Qi E D (fun r M' => (∃ j : Nat, j < k ∧ r = nI j) ∧ M' = M)) 0 0 (gw_A E) := by
  refine gw_ofS (cc := b_Law_in) (maxL := 3) (ret := (some .int)) (by decide) rfl (Nat.le_of_ble_eq_true rfl) ?_
  intro p e s m args below meth c hx hb hr hml hts hown hlk hnm hF hG ls hl hX hsb
  have hT : ∀ w ∈ gT, w.before args s = true := fun w h => hts w (List.mem_cons_of_mem _ h)
  have hK := hF.1
  have hl : lv_has ls 3 [(0, .ref sb), (1, .int (nI i)), (2, .int (nI k))] := hl
  refine lv_aload_n hx hb d_Law_in_0 rfl (lv_at hl 0 rfl) ?_
  refine lv_iload_n hx hb d_Law_in_1 rfl (lv_at hl 1 rfl) ?_
  refine gw_calli (gw_runSs (As := [.ref sb, .int (nI i)]) (rest := []) ⟨hx, hb, hml, hown, hts⟩ (c_Law_cell l E D cI cO cZ z0 M hsL hi) (gw_cwS 2 hts (gT_gi wm_763) rfl rfl rfl (hT _ wm_22) (hT _ wm_761) (hT _ wm_762) (by decide +kernel) ⟨Nat.le_of_ble_eq_true rfl, Nat.le_of_ble_eq_true rfl⟩) hF hG hX hsb rfl hl.1 rfl (Nat.le_of_ble_eq_true rfl) d_Law_in_2 ⟨Nat.le_of_ble_eq_true rfl, Nat.le_of_ble_eq_true rfl⟩) hG (fun r M1 H locs hp hG => ?_)
  replace hG := gw_nm hp.symm hG
  refine lv_ldc hx hb hown (hT _ wm_766) d_Law_in_5 ?_
  refine lv_iand hx hb d_Law_in_7 ?_
  obtain ⟨j, hj, ej⟩ := pk_andE r (m := 2147483647) 31 (by decide)
  rw [ej]
  refine lv_iload_n hx hb d_Law_in_8 rfl (lv_at hl 2 rfl) ?_
  refine lv_irem hx hb d_Law_in_9 (nI_ne0 hk0 hk) ?_
  rw [pk_rem hj hk0 hk]
  exact gw_iret (v := (nI (j % k))) hx hb hr hlk hG (⟨⟨j % k, Nat.mod_lt j hk0, rfl⟩, rfl⟩) (Nat.le_of_ble_eq_true rfl) (Nat.le_of_ble_eq_true rfl) d_Law_in_10
theorem p_abs_neg {x : Int32} (h : ¬ 0 ≤ x) : p_abs x = -x := by unfold p_abs; rw [if_neg h]; exact Int32.zero_sub x
set_option maxHeartbeats 4000000 in
set_option maxRecDepth 100000 in
theorem c_Law_amount (l : Launch) (E : Nat) (D : va_G) (cI cO cZ : ClassId) (z0 : Nat) (M : gM) {x : Int32} : Met l y_Law_amount (Cond.code y_Law_amount b_Law_amount 1 (some .int) :: gT) ({ frames := 0, cells := 0, slots := 0, locals := 0 }) (gw_Pc E D cI cO cZ z0 M [.int x]) (gw_Qi E D (fun r M' => r = p_abs x ∧ M' = M)) 0 0 (gw_A E) := by
  refine gw_ofW (cc := b_Law_amount) (maxL := 1) (ret := (some .int)) (by decide) rfl (Nat.le_of_ble_eq_true rfl) ?_
  intro p e s m args below meth c hx hb hr hml hts hown hlk hnm hF hG ls hl
  have hT : ∀ w ∈ gT, w.before args s = true := fun w h => hts w (List.mem_cons_of_mem _ h)
  have hK := hF.1
  have hl : lv_has ls 1 [(0, .int x)] := hl
  refine lv_iload_n hx hb d_Law_amount_0 rfl (lv_at hl 0 rfl) ?_
  refine lv_if_ge (tgt := 9) hx hb d_Law_amount_1 (by decide) (fun c_1 => ?_) (fun c_1 => ?_)
  · skip
    refine lv_iload_n hx hb d_Law_amount_9 rfl (lv_at hl 0 rfl) ?_
    exact gw_iret (v := x) hx hb hr hlk hG (⟨by unfold p_abs; rw [if_pos c_1], rfl⟩) (Nat.le_of_ble_eq_true rfl) (Nat.le_of_ble_eq_true rfl) d_Law_amount_10
  · skip
    refine lv_iload_n hx hb d_Law_amount_4 rfl (lv_at hl 0 rfl) ?_
    refine lv_ineg hx hb d_Law_amount_5 ?_
    refine lv_goto (tgt := 10) hx hb d_Law_amount_6 (by decide) ?_
    exact gw_iret (v := (-x)) hx hb hr hlk hG (⟨(p_abs_neg c_1).symm, rfl⟩) (Nat.le_of_ble_eq_true rfl) (Nat.le_of_ble_eq_true rfl) d_Law_amount_10
set_option maxHeartbeats 4000000 in
set_option maxRecDepth 100000 in
theorem c_Law_placeIn (l : Launch) (E : Nat) (D : va_G) (cI cO cZ : ClassId) (z0 : Nat) (M : gM) {ga : Nat} {fg : Nat → Int32} {m1 : Nat} {ord : Nat → Nat} (hga : M ga = some (.inl (cI, 8, .inl fg))) (hm7 : m1 ≤ 7) (hg0 : fg 0 = nI m1) (hgp : ∀ p, p < m1 → fg (p + 1) = nI (ord p)) (hoo : ∀ p, p < m1 → ord p < 1000) {i J : Nat} (hi : i < 1000) (hinj : ∀ p q, p < m1 → q < m1 → ord p = ord q → p = q) (hJ1 : J ≤ m1) (hJ2 : ∀ p, p < J → ord p ≠ i) (hJ3 : J < m1 → ord J = i) : Met l y_Law_placeIn (Cond.code y_Law_placeIn b_Law_placeIn 4 (some .int) :: gT) ({ frames := 0, cells := 0, slots := 0, locals := 0 }) (gw_Pc E D cI cO cZ z0 M [.ref ga, .int (nI i)]) (gw_Qi E D (fun r M' => r = (if J < m1 then nI J else -1) ∧ M' = M)) 0 0 (gw_A E) := by
  refine gw_ofW (cc := b_Law_placeIn) (maxL := 4) (ret := (some .int)) (by decide) rfl (Nat.le_of_ble_eq_true rfl) ?_
  intro p e s m args below meth c hx hb hr hml hts hown hlk hnm hF hG ls hl
  have hT : ∀ w ∈ gT, w.before args s = true := fun w h => hts w (List.mem_cons_of_mem _ h)
  have hK := hF.1
  have hl : lv_has ls 4 [(0, .ref ga), (1, .int (nI i))] := hl
  refine lv_iconst (v := (-1)) hx hb d_Law_placeIn_0 (by decide) ?_
  refine lv_istore_n (lv' := [(2, .int (-1)), (0, .ref ga), (1, .int (nI i))]) hx hb d_Law_placeIn_1 rfl hl (by decide) rfl (fun ls hl => ?_)
  refine lv_iconst (v := 1) hx hb d_Law_placeIn_2 (by decide) ?_
  refine lv_istore_n (lv' := [(3, .int 1), (2, .int (-1)), (0, .ref ga), (1, .int (nI i))]) hx hb d_Law_placeIn_3 rfl hl (by decide) rfl (fun ls hl => ?_)
  have loop : ∀ (d p2 : Nat), p2 + d = m1 → ∀ (X : gM) (H : Heap) (locs : List Loc) (ls : Array Slot), (X = M) → gw_H E D X s H locs → lv_has ls 4 [(2, .int (if J < p2 then nI J else -1)), (3, .int (nI (p2 + 1))), (0, .ref ga), (1, .int (nI i))] → W p l e ({ frames := 0, cells := 0, slots := 0, locals := 0 } : Room) s m args below meth c H locs 0 0 (MQ below (gw_Qi E D (fun r M' => r = (if J < m1 then nI J else -1) ∧ M' = M)) args s 0 0 (gw_A E)) (F0 m 4 ls []) := by
    intro d
    induction d with
    | zero =>
      intro p2 hi X H locs ls hI hG hl
      replace hG := gw_nm hI.symm hG
      refine lv_iload_n hx hb d_Law_placeIn_4 rfl (lv_at hl 1 rfl) ?_
      refine lv_aload_n hx hb d_Law_placeIn_5 rfl (lv_at hl 2 rfl) ?_
      refine lv_iconst (v := 0) hx hb d_Law_placeIn_6 (by decide) ?_
      refine gw_iald hx hb hK hG hga (vp_in_nI (n := 0) (by omega) (by decide)) d_Law_placeIn_7 ?_
      rw [show fg (0 : Int32).toNatClampNeg = nI m1 from hg0]
      refine lv_icmp_gt (tgt := 32) hx hb d_Law_placeIn_8 (by decide) (fun c_8 => ?_) (fun z_ => absurd (nI_lt (by omega) (by omega)) z_)
      have hpm : p2 = m1 := by omega
      rw [hpm] at hl
      refine lv_iload_n hx hb d_Law_placeIn_32 rfl (lv_at hl 0 rfl) ?_
      exact gw_iret (v := (if J < m1 then nI J else -1)) hx hb hr hlk hG (⟨rfl, rfl⟩) (Nat.le_of_ble_eq_true rfl) (Nat.le_of_ble_eq_true rfl) d_Law_placeIn_33
    | succ d ih =>
      intro p2 hi X H locs ls hI hG hl
      replace hG := gw_nm hI.symm hG
      refine lv_iload_n hx hb d_Law_placeIn_4 rfl (lv_at hl 1 rfl) ?_
      refine lv_aload_n hx hb d_Law_placeIn_5 rfl (lv_at hl 2 rfl) ?_
      refine lv_iconst (v := 0) hx hb d_Law_placeIn_6 (by decide) ?_
      refine gw_iald hx hb hK hG hga (vp_in_nI (n := 0) (by omega) (by decide)) d_Law_placeIn_7 ?_
      rw [show fg (0 : Int32).toNatClampNeg = nI m1 from hg0]
      refine lv_icmp_gt (tgt := 32) hx hb d_Law_placeIn_8 (by decide) (fun z_ => absurd z_ (nI_nlt (by omega) (by omega))) (fun c_8 => ?_)
      refine lv_aload_n hx hb d_Law_placeIn_11 rfl (lv_at hl 2 rfl) ?_
      refine lv_iload_n hx hb d_Law_placeIn_12 rfl (lv_at hl 1 rfl) ?_
      refine gw_iald hx hb hK hG hga (vp_in_nI (by omega) (by decide)) d_Law_placeIn_13 ?_
      rw [nI_clamp (n := p2 + 1) (by omega), hgp p2 (by omega)]
      have ho2 := hoo p2 (by omega)
      refine lv_iload_n hx hb d_Law_placeIn_14 rfl (lv_at hl 3 rfl) ?_
      refine lv_icmp_ne (tgt := 24) hx hb d_Law_placeIn_15 (by decide) (fun c_15 => ?_) (fun c_15 => ?_)
      · skip
        have hne : ord p2 ≠ i := fun z => c_15 (congrArg nI z)
        have hpJ : p2 ≠ J := fun z => hne (by rw [z]; exact hJ3 (by omega))
        have e2 : (if J < p2 + 1 then nI J else -1) = (if J < p2 then nI J else -1) := by by_cases h : J < p2; (rw [if_pos h, if_pos (by omega)]); (rw [if_neg h, if_neg (by omega)])
        refine lv_iload_n hx hb d_Law_placeIn_24 rfl (lv_at hl 0 rfl) ?_
        refine lv_istore_n (lv' := [(2, .int (if J < p2 then nI J else -1)), (3, .int (nI (p2 + 1))), (0, .ref ga), (1, .int (nI i))]) hx hb d_Law_placeIn_25 rfl hl (by decide) rfl (fun ls hl => ?_)
        refine lv_iinc (v := nI (p2 + 2)) (lv' := [(3, .int (nI (p2 + 2))), (2, .int (if J < p2 then nI J else -1)), (0, .ref ga), (1, .int (nI i))]) hx hb d_Law_placeIn_26 hl (k := 1) rfl (nI_succ (p2 + 1)).symm (by decide) rfl (fun ls hl => ?_)
        refine lv_goto (tgt := 4) hx hb d_Law_placeIn_29 (by decide) ?_
        exact ih (p2 + 1) (by omega) M _ _ _ rfl hG (by rw [e2]; exact lv_sub hl [1, 0, 2, 3] rfl)
      · skip
        have heq : ord p2 = i := (nI_eq (by omega) (by omega)).mp c_15
        have hpJ : p2 = J := by rcases Nat.lt_trichotomy p2 J with h | h | h; (exact absurd heq (hJ2 p2 h)); (exact h); (exact hinj p2 J (by omega) (by omega) (heq.trans (hJ3 (by omega)).symm))
        refine lv_iload_n hx hb d_Law_placeIn_18 rfl (lv_at hl 1 rfl) ?_
        refine lv_iconst (v := 1) hx hb d_Law_placeIn_19 (by decide) ?_
        refine lv_isub hx hb d_Law_placeIn_20 ?_
        rw [show nI (p2 + 1) - 1 = (nI p2) from nI_pred p2]
        have e2 : (if J < p2 + 1 then nI J else -1) = nI p2 := by rw [if_pos (by omega), hpJ]
        refine lv_goto (tgt := 25) hx hb d_Law_placeIn_21 (by decide) ?_
        refine lv_istore_n (lv' := [(2, .int (nI p2)), (3, .int (nI (p2 + 1))), (0, .ref ga), (1, .int (nI i))]) hx hb d_Law_placeIn_25 rfl hl (by decide) rfl (fun ls hl => ?_)
        refine lv_iinc (v := nI (p2 + 2)) (lv' := [(3, .int (nI (p2 + 2))), (2, .int (nI p2)), (0, .ref ga), (1, .int (nI i))]) hx hb d_Law_placeIn_26 hl (k := 1) rfl (nI_succ (p2 + 1)).symm (by decide) rfl (fun ls hl => ?_)
        refine lv_goto (tgt := 4) hx hb d_Law_placeIn_29 (by decide) ?_
        exact ih (p2 + 1) (by omega) M _ _ _ rfl hG (by rw [e2]; exact lv_sub hl [1, 0, 2, 3] rfl)
  exact loop _ _ (Nat.zero_add m1) M _ _ _ rfl hG (lv_sub hl [1, 0, 2, 3] rfl)
set_option maxHeartbeats 4000000 in
set_option maxRecDepth 100000 in
theorem c_Law_leaves (l : Launch) (E : Nat) (D : va_G) (cI cO cZ : ClassId) (z0 : Nat) (M : gM) {ga : Nat} {fg : Nat → Int32} {m1 : Nat} {ord : Nat → Nat} (hga : M ga = some (.inl (cI, 8, .inl fg))) (hm7 : m1 ≤ 7) (hg0 : fg 0 = nI m1) (hgp : ∀ p, p < m1 → fg (p + 1) = nI (ord p)) (hoo : ∀ p, p < m1 → ord p < 1000) {i J : Nat} (hi : i < 1000) (hinj : ∀ p q, p < m1 → q < m1 → ord p = ord q → p = q) (hJ1 : J ≤ m1) (hJ2 : ∀ p, p < J → ord p ≠ i) (hJ3 : J < m1 → ord J = i) : Met l y_Law_leaves (Cond.code y_Law_leaves b_Law_leaves 4 none :: gT) ({ frames := 0, cells := 0, slots := 0, locals := 0 }) (gw_Pc E D cI cO cZ z0 M [.ref ga, .int (nI i)]) (gw_Qv E D (fun M' => ∃ f' : Nat → Int32, M' = gw_up M ga (.inl (cI, 8, .inl f')) ∧ f' 0 = nI (if J < m1 then m1 - 1 else m1) ∧ ∀ p, p < (if J < m1 then m1 - 1 else m1) → f' (p + 1) = nI (skp J ord p))) 0 0 (gw_A E) := by
  refine gw_ofW (cc := b_Law_leaves) (maxL := 4) (ret := none) (by decide) rfl (Nat.le_of_ble_eq_true rfl) ?_
  intro p e s m args below meth c hx hb hr hml hts hown hlk hnm hF hG ls hl
  have hT : ∀ w ∈ gT, w.before args s = true := fun w h => hts w (List.mem_cons_of_mem _ h)
  have hK := hF.1
  have hl : lv_has ls 4 [(0, .ref ga), (1, .int (nI i))] := hl
  refine lv_iconst (v := 0) hx hb d_Law_leaves_0 (by decide) ?_
  refine lv_istore_n (lv' := [(2, .int 0), (0, .ref ga), (1, .int (nI i))]) hx hb d_Law_leaves_1 rfl hl (by decide) rfl (fun ls hl => ?_)
  refine lv_iconst (v := 1) hx hb d_Law_leaves_2 (by decide) ?_
  refine lv_istore_n (lv' := [(3, .int 1), (2, .int 0), (0, .ref ga), (1, .int (nI i))]) hx hb d_Law_leaves_3 rfl hl (by decide) rfl (fun ls hl => ?_)
  have hin7 : ∀ k, k ≤ 7 → vp_in (nI k) 8 := fun k hk => vp_in_nI (by omega) (by decide)
  have loop : ∀ (d p2 : Nat), p2 + d = m1 → ∀ (X : gM) (H : Heap) (locs : List Loc) (ls : Array Slot), (∃ fX : Nat → Int32, X = gw_up M ga (.inl (cI, 8, .inl fX)) ∧ fX 0 = nI m1 ∧ (∀ q, q < (if J < p2 then p2 - 1 else p2) → fX (q + 1) = nI (skp J ord q)) ∧ ∀ q, p2 ≤ q → q < m1 → fX (q + 1) = nI (ord q)) → gw_H E D X s H locs → lv_has ls 4 [(2, .int (nI (if J < p2 then p2 - 1 else p2))), (3, .int (nI (p2 + 1))), (0, .ref ga), (1, .int (nI i))] → W p l e ({ frames := 0, cells := 0, slots := 0, locals := 0 } : Room) s m args below meth c H locs 0 0 (MQ below (gw_Qv E D (fun M' => ∃ f' : Nat → Int32, M' = gw_up M ga (.inl (cI, 8, .inl f')) ∧ f' 0 = nI (if J < m1 then m1 - 1 else m1) ∧ ∀ p, p < (if J < m1 then m1 - 1 else m1) → f' (p + 1) = nI (skp J ord p))) args s 0 0 (gw_A E)) (F0 m 4 ls []) := by
    intro d
    induction d with
    | zero =>
      intro p2 hi X H locs ls hI hG hl
      obtain ⟨fX, hX, hX0, hXa, hXb⟩ := hI
      have hgX : X ga = some (.inl (cI, 8, .inl fX)) := by rw [hX]; exact gw_hit
      refine lv_iload_n hx hb d_Law_leaves_4 rfl (lv_at hl 1 rfl) ?_
      refine lv_aload_n hx hb d_Law_leaves_5 rfl (lv_at hl 2 rfl) ?_
      refine lv_iconst (v := 0) hx hb d_Law_leaves_6 (by decide) ?_
      refine gw_iald hx hb hK hG hgX (vp_in_nI (n := 0) (by omega) (by decide)) d_Law_leaves_7 ?_
      rw [show fX (0 : Int32).toNatClampNeg = nI m1 from hX0]
      refine lv_icmp_gt (tgt := 40) hx hb d_Law_leaves_8 (by decide) (fun c_8 => ?_) (fun z_ => absurd (nI_lt (by omega) (by omega)) z_)
      have hpm : p2 = m1 := by omega
      rw [hpm] at hl hXa
      refine lv_aload_n hx hb d_Law_leaves_40 rfl (lv_at hl 2 rfl) ?_
      refine lv_iconst (v := 0) hx hb d_Law_leaves_41 (by decide) ?_
      refine lv_iload_n hx hb d_Law_leaves_42 rfl (lv_at hl 0 rfl) ?_
      refine gw_iast hx hb hK hG hgX (vp_in_nI (n := 0) (by omega) (by decide)) d_Law_leaves_43 (fun H locs hG => ?_)
      refine gw_vret hx hb hr hlk hG ⟨upd fX (0 : Int32).toNatClampNeg (nI (if J < m1 then m1 - 1 else m1)), by rw [hX, gw_twice], rfl, fun p hp => ?_⟩ (Nat.le_of_ble_eq_true rfl) (Nat.le_of_ble_eq_true rfl) d_Law_leaves_44
      exact hXa p hp
    | succ d ih =>
      intro p2 hi X H locs ls hI hG hl
      obtain ⟨fX, hX, hX0, hXa, hXb⟩ := hI
      have hgX : X ga = some (.inl (cI, 8, .inl fX)) := by rw [hX]; exact gw_hit
      refine lv_iload_n hx hb d_Law_leaves_4 rfl (lv_at hl 1 rfl) ?_
      refine lv_aload_n hx hb d_Law_leaves_5 rfl (lv_at hl 2 rfl) ?_
      refine lv_iconst (v := 0) hx hb d_Law_leaves_6 (by decide) ?_
      refine gw_iald hx hb hK hG hgX (vp_in_nI (n := 0) (by omega) (by decide)) d_Law_leaves_7 ?_
      rw [show fX (0 : Int32).toNatClampNeg = nI m1 from hX0]
      refine lv_icmp_gt (tgt := 40) hx hb d_Law_leaves_8 (by decide) (fun z_ => absurd z_ (nI_nlt (by omega) (by omega))) (fun c_8 => ?_)
      refine lv_aload_n hx hb d_Law_leaves_11 rfl (lv_at hl 2 rfl) ?_
      refine lv_iload_n hx hb d_Law_leaves_12 rfl (lv_at hl 0 rfl) ?_
      refine lv_iconst (v := 1) hx hb d_Law_leaves_13 (by decide) ?_
      obtain ⟨lf, hlf⟩ : ∃ z, z = (if J < p2 then p2 - 1 else p2) := ⟨_, rfl⟩
      rw [← hlf] at hl hXa ⊢
      have hlp : lf ≤ p2 ∧ p2 ≤ lf + 1 ∧ (J < p2 → lf + 1 = p2) ∧ (¬ J < p2 → lf = p2) := by rw [hlf]; split <;> omega
      refine lv_iadd hx hb d_Law_leaves_14 ?_
      rw [show nI lf + 1 = (nI (lf + 1)) from (nI_succ lf).symm]
      refine lv_aload_n hx hb d_Law_leaves_15 rfl (lv_at hl 2 rfl) ?_
      refine lv_iload_n hx hb d_Law_leaves_16 rfl (lv_at hl 1 rfl) ?_
      refine gw_iald hx hb hK hG hgX (vp_in_nI (by omega) (by decide)) d_Law_leaves_17 ?_
      rw [nI_clamp (n := p2 + 1) (by omega), hXb p2 (Nat.le_refl _) (by omega)]
      refine gw_iast hx hb hK hG hgX (vp_in_nI (by omega) (by decide)) d_Law_leaves_18 (fun H locs hG => ?_)
      rw [nI_clamp (n := lf + 1) (by omega)] at hG
      obtain ⟨fY, hfY⟩ : ∃ z, z = upd fX (lf + 1) (nI (ord p2)) := ⟨_, rfl⟩
      rw [← hfY] at hG
      obtain ⟨Y, hY⟩ : ∃ Y_ : gM, Y_ = gw_up X ga (.inl (cI, 8, .inl fY)) := ⟨_, rfl⟩
      replace hG := gw_nm hY hG
      have hgY : Y ga = some (.inl (cI, 8, .inl fY)) := by rw [hY]; exact gw_hit
      have hYp : fY (p2 + 1) = nI (ord p2) := by rw [hfY]; unfold upd; split; rfl; exact hXb p2 (Nat.le_refl _) (by omega)
      have hYn : ∀ q, q ≠ lf + 1 → fY q = fX q := fun q hq => by rw [hfY]; unfold upd; rw [if_neg hq]
      have hYl : fY (lf + 1) = nI (ord p2) := by rw [hfY]; unfold upd; rw [if_pos rfl]
      have ho2 := hoo p2 (by omega)
      refine lv_iload_n hx hb d_Law_leaves_19 rfl (lv_at hl 0 rfl) ?_
      refine lv_aload_n hx hb d_Law_leaves_20 rfl (lv_at hl 2 rfl) ?_
      refine lv_iload_n hx hb d_Law_leaves_21 rfl (lv_at hl 1 rfl) ?_
      refine gw_iald hx hb hK hG hgY (vp_in_nI (by omega) (by decide)) d_Law_leaves_22 ?_
      rw [nI_clamp (n := p2 + 1) (by omega), hYp]
      refine lv_iload_n hx hb d_Law_leaves_23 rfl (lv_at hl 3 rfl) ?_
      have hYX : Y = gw_up M ga (.inl (cI, 8, .inl fY)) := by rw [hY, hX, gw_twice]
      have hY0 : fY 0 = nI m1 := (hYn 0 (by omega)).trans hX0
      have hYb : ∀ q, p2 + 1 ≤ q → q < m1 → fY (q + 1) = nI (ord q) := fun q q1 q2 => (hYn (q + 1) (by omega)).trans (hXb q (by omega) q2)
      refine lv_icmp_ne (tgt := 31) hx hb d_Law_leaves_24 (by decide) (fun c_24 => ?_) (fun c_24 => ?_)
      · skip
        have hne : ord p2 ≠ i := fun z => c_24 (congrArg nI z)
        have hpJ : p2 ≠ J := fun z => hne (by rw [z]; exact hJ3 (by omega))
        refine lv_iconst (v := 1) hx hb d_Law_leaves_31 (by decide) ?_
        refine lv_iadd hx hb d_Law_leaves_32 ?_
        rw [show nI lf + 1 = (nI (lf + 1)) from (nI_succ lf).symm]
        refine lv_istore_n (lv' := [(2, .int (nI (lf + 1))), (3, .int (nI (p2 + 1))), (0, .ref ga), (1, .int (nI i))]) hx hb d_Law_leaves_33 rfl hl (by decide) rfl (fun ls hl => ?_)
        have hl2 : lf + 1 = (if J < p2 + 1 then p2 + 1 - 1 else p2 + 1) := by split <;> omega
        refine lv_iinc (v := nI (p2 + 2)) (lv' := [(3, .int (nI (p2 + 2))), (2, .int (nI (lf + 1))), (0, .ref ga), (1, .int (nI i))]) hx hb d_Law_leaves_34 hl (k := 1) rfl (nI_succ (p2 + 1)).symm (by decide) rfl (fun ls hl => ?_)
        refine lv_goto (tgt := 4) hx hb d_Law_leaves_37 (by decide) ?_
        refine ih (p2 + 1) (by omega) Y _ _ _ ⟨fY, hYX, hY0, fun q hq => ?_, hYb⟩ hG (by rw [← hl2]; exact lv_sub hl [1, 0, 2, 3] rfl)
        rw [← hl2] at hq
        rcases Nat.lt_or_eq_of_le (Nat.le_of_lt_succ hq) with h | h
        · rw [hYn (q + 1) (by omega)]; exact hXa q h
        · rw [h, hYl]; unfold skp
          by_cases hJl : lf < J
          · have e5 : lf = p2 := hlp.2.2.2 (by omega)
            rw [if_pos hJl, e5]
          · have e5 : lf + 1 = p2 := hlp.2.2.1 (by omega)
            rw [if_neg hJl, e5]
      · skip
        have heq : ord p2 = i := (nI_eq (by omega) (by omega)).mp c_24
        have hpJ : p2 = J := by rcases Nat.lt_trichotomy p2 J with h | h | h; (exact absurd heq (hJ2 p2 h)); (exact h); (exact hinj p2 J (by omega) (by omega) (heq.trans (hJ3 (by omega)).symm))
        refine lv_iconst (v := 0) hx hb d_Law_leaves_27 (by decide) ?_
        refine lv_goto (tgt := 32) hx hb d_Law_leaves_28 (by decide) ?_
        refine lv_iadd hx hb d_Law_leaves_32 ?_
        rw [show nI lf + 0 = (nI lf) from Int32.add_zero _]
        refine lv_istore_n (lv' := [(2, .int (nI lf)), (3, .int (nI (p2 + 1))), (0, .ref ga), (1, .int (nI i))]) hx hb d_Law_leaves_33 rfl hl (by decide) rfl (fun ls hl => ?_)
        have hl2 : lf = (if J < p2 + 1 then p2 + 1 - 1 else p2 + 1) := by rw [if_pos (by omega)]; omega
        refine lv_iinc (v := nI (p2 + 2)) (lv' := [(3, .int (nI (p2 + 2))), (2, .int (nI lf)), (0, .ref ga), (1, .int (nI i))]) hx hb d_Law_leaves_34 hl (k := 1) rfl (nI_succ (p2 + 1)).symm (by decide) rfl (fun ls hl => ?_)
        refine lv_goto (tgt := 4) hx hb d_Law_leaves_37 (by decide) ?_
        refine ih (p2 + 1) (by omega) Y _ _ _ ⟨fY, hYX, hY0, fun q hq => ?_, hYb⟩ hG (by rw [← hl2]; exact lv_sub hl [1, 0, 2, 3] rfl)
        rw [← hl2] at hq
        rw [hYn (q + 1) (by omega)]; exact hXa q hq
  exact loop _ _ (Nat.zero_add m1) M _ _ _ ⟨fg, (gw_same hga).symm, hg0, fun q hq => by rw [if_neg (Nat.not_lt_zero J)] at hq; omega, fun q _ hq => hgp q hq⟩ hG (lv_sub hl [1, 0, 2, 3] rfl)
