theorem d_Row_checkRange_0 : decode b_Row_checkRange 0 = .ok (.iload_n 0, 1) := by decide +kernel
theorem d_Row_checkRange_1 : decode b_Row_checkRange 1 = .ok (.iload_n 1, 1) := by decide +kernel
theorem d_Row_checkRange_2 : decode b_Row_checkRange 2 = .ok (.if_icmp .lt 8, 3) := by decide +kernel
theorem d_Row_checkRange_5 : decode b_Row_checkRange 5 = .ok (.iload_n 0, 1) := by decide +kernel
theorem d_Row_checkRange_6 : decode b_Row_checkRange 6 = .ok (.iload_n 2, 1) := by decide +kernel
theorem d_Row_checkRange_7 : decode b_Row_checkRange 7 = .ok (.if_icmp .le 14, 3) := by decide +kernel
theorem d_Row_checkRange_21 : decode b_Row_checkRange 21 = .ok (.return_, 1) := by decide +kernel
theorem d_Row_checkRange_10 : decode b_Row_checkRange 10 = .ok (.new 175, 3) := by decide +kernel
theorem d_Row_checkRange_13 : decode b_Row_checkRange 13 = .ok (.dup, 1) := by decide +kernel
theorem d_Row_checkRange_14 : decode b_Row_checkRange 14 = .ok (.ldc_w 379, 3) := by decide +kernel
theorem d_Row_checkRange_17 : decode b_Row_checkRange 17 = .ok (.invokespecial 179, 3) := by decide +kernel
theorem d_Row_checkRange_20 : decode b_Row_checkRange 20 = .ok (.athrow, 1) := by decide +kernel
theorem wm_426 : Cond.classLink "ThresholdRow" 175 "java/lang/IllegalArgumentException" ∈ gT := gT_m (List.mem_of_getElem? (i := 426) (by decide +kernel)) (by decide +kernel)
theorem wm_38 : Cond.initialized "java/lang/IllegalArgumentException" ∈ gT := gT_m (List.mem_of_getElem? (i := 38) (by decide +kernel)) (by decide +kernel)
/-! what leaves a method of ours by a throw: the class, the world as it was -/
def gw_XC (E : Nat) (D : va_G) (cls : String) (M : gM) : String → State → State → Prop := vx_X (fun M' : gM => M' = M) (fun E' M' t => E' = cls ∧ gw_B E D M' t) (gw_A E)
theorem gw_at {L : List Cond} (h : L.all (fun w => decide (w ∈ lw_tbl) && (goodWord w || gw_wk w)) = true) {args : Array Value} {s : State} (hT : ∀ w ∈ gT, w.before args s = true) (hN : gw_N s) : ∀ w ∈ L, w.before args s = true := by
  intro w hw
  have h1 := List.all_eq_true.mp h w hw
  simp only [Bool.and_eq_true, decide_eq_true_eq, Bool.or_eq_true] at h1
  rcases h1.2 with h2 | h2
  · exact hT w (gT_m h1.1 h2)
  · exact va_Nw.use (gw_wk_on h2) (gW_m hN h1.1 h2)
section GX
variable {p : Program} {l : Launch} {e : Env} {R : Room} {s : State} {m : MethodId} {args : Array Value} {below : List Frame} {meth : Method} {c : Code} {H : Heap} {locs : List Loc} {cells slots : Nat} {Q : State → Prop}
variable {cc : ByteArray} {pc : Nat} {ls : Array Slot} {rest : List Value} {D : va_G} {a : Nat} {E : Nat} {M : gM} {cI cO cZ : ClassId} {z0 : Nat}
abbrev gw_up2 : List String := ["java/lang/RuntimeException", "java/lang/Exception"]
theorem gw_XCof {cls : String} {t : State} (hG : gw_H E D M s H locs) (h1 : H.size ≤ t.heap.size) (h2 : ∀ q : Nat, q < H.size → t.heap[q]? = H[q]?) : gw_XC E D cls M cls s t := by
  refine ⟨M, rfl, ⟨rfl, fun a e he => ?_, hG.2.1⟩, Nat.le_trans hG.2.2.1 h1, fun q q1 q2 => ?_⟩
  · exact (hG.1 a e he).kept (h2 a (hG.1 a e he).lt)
  · rw [h2 q (Nat.lt_of_lt_of_le q1 hG.2.2.1)]
    exact hG.2.2.2.1 q q1 q2
theorem gw_thrS (hx : p.tables.exec = Jvm.exec) (hb : c.code = cc) (hl : l.stackTraces = false) {cls text : String} {ik is ic mc ms : Nat} {Qc : Array Value → State → Outcome → State → Prop} (hown : s.vm.findClass "ThresholdRow" = some m.cls) (hcls : Bundle.fit cls = true)
    (hk : (Cond.classLink "ThresholdRow" ik cls).before args s = true) (hini : (Cond.initialized cls).before args s = true) (htx : (is, text) ∈ gw_texts) (hT : ∀ w ∈ gT, w.before args s = true) (hat : (vx_atS "ThresholdRow" ic cls gw_up2).all (fun w => decide (w ∈ lw_tbl) && (goodWord w || gw_wk w)) = true) (hgood : (vx_atS "ThresholdRow" ic cls gw_up2).all vx_ot = true)
    (hF : gw_F E D cI cO cZ z0 s) (hG : gw_H E D M s H locs) (hsize : ls.size = c.maxLocals)
    (d0 : decode cc pc = .ok (.new ik, 3)) (d3 : decode cc (pc + 3) = .ok (.dup, 1)) (d4 : decode cc (pc + 4) = .ok (.ldc is, 2)) (d6 : decode cc (pc + 6) = .ok (.invokespecial ic, 3)) (d9 : decode cc (pc + 9) = .ok (.athrow, 1))
    (hnt : ∀ x ∈ c.exceptionTable.toList, False) (hRf : 5 < R.frames) (hRl : (rest.map fun v => v.category).sum + 82 ≤ R.locals) (hRc : cells + 1 ≤ R.cells) (hRs : slots + 6 ≤ R.slots) (hlk : meth.locks = false) (hc : cells + 1 ≤ mc) (hs : slots + 6 ≤ ms) :
    W p l e R s m args below meth c H locs cells slots (vx_MQ below Qc (gw_XC E D cls M) args s mc ms (gw_A E)) (F0 m pc ls rest) := by
  obtain ⟨sa, hsa⟩ := hF.2.2.2.2.2.2.2.2.2 _ htx
  refine vx_throwS (names := gw_up2) (A := gw_A E) hx hb hl hown hcls (by decide) hk hini hsa (gw_at hat hT hF.2.2.2.2.2.2) (fun w hw => ?_) hF.2.2.2.2.1 hF.2.2.2.2.2.1 hG.2.2 hsize d0 d3 d4 d6 d9 (fun x h => (hnt x h).elim) hRf hRl hRc hRs hlk (fun t _ h1 h2 => gw_XCof hG h1 h2) hG.2.2.2.2 hc hs
  rcases List.mem_cons.mp hw with rfl | hw
  · rfl
  · rcases List.mem_cons.mp hw with rfl | hw
    · rfl
    · exact List.all_eq_true.mp hgood w hw
theorem gw_thrSW (hx : p.tables.exec = Jvm.exec) (hb : c.code = cc) (hl : l.stackTraces = false) {cls text : String} {ik is ic mc ms : Nat} {Qc : Array Value → State → Outcome → State → Prop} (hown : s.vm.findClass "ThresholdRow" = some m.cls) (hcls : Bundle.fit cls = true)
    (hk : (Cond.classLink "ThresholdRow" ik cls).before args s = true) (hini : (Cond.initialized cls).before args s = true) (htx : (is, text) ∈ gw_texts) (hT : ∀ w ∈ gT, w.before args s = true) (hat : (vx_atS "ThresholdRow" ic cls gw_up2).all (fun w => decide (w ∈ lw_tbl) && (goodWord w || gw_wk w)) = true) (hgood : (vx_atS "ThresholdRow" ic cls gw_up2).all vx_ot = true)
    (hF : gw_F E D cI cO cZ z0 s) (hG : gw_H E D M s H locs) (hsize : ls.size = c.maxLocals)
    (d0 : decode cc pc = .ok (.new ik, 3)) (d3 : decode cc (pc + 3) = .ok (.dup, 1)) (d4 : decode cc (pc + 4) = .ok (.ldc_w is, 3)) (d7 : decode cc (pc + 7) = .ok (.invokespecial ic, 3)) (d10 : decode cc (pc + 10) = .ok (.athrow, 1))
    (hnt : ∀ x ∈ c.exceptionTable.toList, False) (hRf : 5 < R.frames) (hRl : (rest.map fun v => v.category).sum + 82 ≤ R.locals) (hRc : cells + 1 ≤ R.cells) (hRs : slots + 6 ≤ R.slots) (hlk : meth.locks = false) (hc : cells + 1 ≤ mc) (hs : slots + 6 ≤ ms) :
    W p l e R s m args below meth c H locs cells slots (vx_MQ below Qc (gw_XC E D cls M) args s mc ms (gw_A E)) (F0 m pc ls rest) := by
  obtain ⟨sa, hsa⟩ := hF.2.2.2.2.2.2.2.2.2 _ htx
  refine vx_throwSW (names := gw_up2) (A := gw_A E) hx hb hl hown hcls (by decide) hk hini hsa (gw_at hat hT hF.2.2.2.2.2.2) (fun w hw => ?_) hF.2.2.2.2.1 hF.2.2.2.2.2.1 hG.2.2 hsize d0 d3 d4 d7 d10 (fun x h => (hnt x h).elim) hRf hRl hRc hRs hlk (fun t _ h1 h2 => gw_XCof hG h1 h2) hG.2.2.2.2 hc hs
  rcases List.mem_cons.mp hw with rfl | hw
  · rfl
  · rcases List.mem_cons.mp hw with rfl | hw
    · rfl
    · exact List.all_eq_true.mp hgood w hw
theorem gw_ofX {y : MethodName} {ws ws' : List Cond} {rm : Room} {av : List Value} {Qc : Array Value → State → Outcome → State → Prop} {XC : String → State → State → Prop} {mc ms : Nat} {cc : ByteArray} {maxL : Nat} {ret : Option FieldType} (hy : plainName y.cls = true) (hw : ws = Cond.code y cc maxL ret :: ws') (hlen : (lg_sl av).length ≤ maxL)
    (body : ∀ (p : Program) (e : Env) (s : State) (m : MethodId) (args : Array Value) (below : List Frame) (meth : Method) (c : Code), p.tables.exec = Jvm.exec → c.code = cc → meth.sig.returnType = ret → c.maxLocals = maxL → (∀ w ∈ ws, w.before args s = true) → s.vm.findClass y.cls = some m.cls → meth.locks = false → (∀ x ∈ c.exceptionTable.toList, False) → gw_F E D cI cO cZ z0 s → gw_H E D M s s.heap [] → ∀ ls : Array Slot, lv_has ls maxL (lv_args 0 av) →
      W p l e rm s m args below meth c s.heap [] 0 0 (vx_MQ below Qc XC args s mc ms (gw_A E)) (F0 m 0 ls [])) : vx_Met l y ws rm (gw_Pc E D cI cO cZ z0 M av) Qc XC mc ms (gw_A E) := by
  refine vx_ofW (cc := cc) (maxL := maxL) (ret := ret) hy hw ?_
  intro p e s m args below meth c s₁ B hml hnt hv
  obtain ⟨rfl, hF, hB⟩ := hv
  have hts := atoms_spec (ws := ws) B.pre
  have hown : s.vm.findClass y.cls = some m.cls := findClass_of_methodNamed B.named
  have hl := lv_entry av (n := maxL) hlen
  rw [lg_entry_eq]
  exact body p e s m _ below meth c B.exec B.bytes B.returns hml hts hown B.notSynchronized hnt hF ⟨hB.1, hB.2, va_S.rf⟩ _ hl
theorem gw_xrunV {y : MethodName} {bytes : ByteArray} {maxL nL mc ms n index ci N : Nat} {ret : Option FieldType} {ws : List Cond} {rm : Room} {Qc : Array Value → State → Outcome → State → Prop} {XC : String → State → State → Prop} {Ts : List Cond} {own C : String} {T : u_T} {b : Nat} {As rest st0 : List Value} {fs : List Value}
    (S : CallFix p m c cc nL s args Ts own) (hM : vx_Met l y ws rm (gw_Pc E D cI cO cZ z0 M (.ref b :: As)) Qc XC mc ms (gw_A E)) (cw : CallW R s args own C index y bytes maxL ret ws rm mc ms n) (hF : gw_F E D cI cO cZ z0 s) (hG : gw_H E D M s H locs) (hc : classes[ci]? = some (C, T, N)) (he : M b = some (.inr (ci, fs)))
    (hn : As.length = n) (hsize : ls.size = nL) (hstack : st0 = As.reverse ++ .ref b :: rest) (hW : (rest.map fun v => v.category).sum ≤ 8) (hdg : decode cc pc = .ok (.invokevirtual index, 3)) (hf : cells + mc ≤ R.cells ∧ slots + ms ≤ R.slots) :
    vx_Run p l e R s m args below meth c H locs cells slots mc ms (F0 m pc ls st0) rest (Qc (Value.ref b :: As).toArray) XC (gw_A E) :=
  vx_runV S hM cw ⟨gw_blind, gw_recv hF hG hc he, gw_pre hF hG⟩ rfl hn hsize hstack (lv_room (rest := st0) hW) hdg hf
theorem gw_xrunS {y : MethodName} {bytes : ByteArray} {maxL nL mc ms n index : Nat} {ret : Option FieldType} {ws : List Cond} {rm : Room} {Qc : Array Value → State → Outcome → State → Prop} {XC : String → State → State → Prop} {Ts : List Cond} {own : String} {As rest st0 : List Value}
    (S : CallFix p m c cc nL s args Ts own) (hM : vx_Met l y ws rm (gw_Pc E D cI cO cZ z0 M As) Qc XC mc ms (gw_A E)) (cw : CallB R s args own index y bytes maxL ret ws rm mc ms n ∧ (Cond.static y).before args s = true) (hF : gw_F E D cI cO cZ z0 s) (hG : gw_H E D M s H locs)
    (hn : As.length = n) (hsize : ls.size = nL) (hstack : st0 = As.reverse ++ rest) (hW : (rest.map fun v => v.category).sum ≤ 8) (hdg : decode cc pc = .ok (.invokestatic index, 3)) (hf : cells + mc ≤ R.cells ∧ slots + ms ≤ R.slots) :
    vx_Run p l e R s m args below meth c H locs cells slots mc ms (F0 m pc ls st0) rest (Qc As.toArray) XC (gw_A E) :=
  vx_runS S hM cw ⟨gw_blind, gw_pre hF hG⟩ rfl hn hsize hstack (lv_room (rest := st0) hW) hdg hf
theorem gw_xcalli {cls : String} {mc ms : Nat} {st0 : List Value} {aa : Array Value} (hr : vx_Run p l e R s m args below meth c H locs cells slots mc ms (F0 m pc ls st0) rest (gw_Qi E D (fun _ _ => False) aa) (gw_XC E D cls M) (gw_A E)) (hG : gw_H E D M s H locs)
    (kx : ∀ (ce : Cell) (q : Addr) (H1 : Heap) (locs1 : List Loc), gw_H E D M s H1 locs1 → H1[q]? = some ce → ce.vm = .none → s.vm.findClass cls = some ce.cls → vx_W p l e R s m args below meth c H1 locs1 (cells + mc) (slots + ms) Q (F0 m pc ls rest) q) : W p l e R s m args below meth c H locs cells slots Q (F0 m pc ls st0) :=
  vx_calli hr hG.2.2 (fun _ _ h => h) (fun _ h => h) (fun _ _ h => h) (fun E' ce q u t H1 locs1 ht _ hu hB _ _ hS1 h1 h2 h3 => by
    obtain ⟨rfl, hB⟩ := hB
    subst hu
    exact kx ce q H1 locs1 (gw_back ht hB hS1) h1 h2 h3) (fun _ _ _ _ _ _ _ h => h.elim)
theorem gw_xcallv {cls : String} {mc ms : Nat} {st0 : List Value} {aa : Array Value} (hr : vx_Run p l e R s m args below meth c H locs cells slots mc ms (F0 m pc ls st0) rest (gw_Qv E D (fun _ => False) aa) (gw_XC E D cls M) (gw_A E)) (hG : gw_H E D M s H locs)
    (kx : ∀ (ce : Cell) (q : Addr) (H1 : Heap) (locs1 : List Loc), gw_H E D M s H1 locs1 → H1[q]? = some ce → ce.vm = .none → s.vm.findClass cls = some ce.cls → vx_W p l e R s m args below meth c H1 locs1 (cells + mc) (slots + ms) Q (F0 m pc ls rest) q) : W p l e R s m args below meth c H locs cells slots Q (F0 m pc ls st0) :=
  vx_callv hr hG.2.2 (fun _ _ h => h) (fun _ h => h) (fun _ _ h => h) (fun E' ce q u t H1 locs1 ht _ hu hB _ _ hS1 h1 h2 h3 => by
    obtain ⟨rfl, hB⟩ := hB
    subst hu
    exact kx ce q H1 locs1 (gw_back ht hB hS1) h1 h2 h3) (fun _ _ _ _ _ _ h => h.elim)
theorem gw_xcallq {cls : String} {mc ms : Nat} {st0 : List Value} {aa : Array Value} (hr : vx_Run p l e R s m args below meth c H locs cells slots mc ms (F0 m pc ls st0) rest (gw_Qq E D (fun _ _ => False) aa) (gw_XC E D cls M) (gw_A E)) (hG : gw_H E D M s H locs)
    (kx : ∀ (ce : Cell) (q : Addr) (H1 : Heap) (locs1 : List Loc), gw_H E D M s H1 locs1 → H1[q]? = some ce → ce.vm = .none → s.vm.findClass cls = some ce.cls → vx_W p l e R s m args below meth c H1 locs1 (cells + mc) (slots + ms) Q (F0 m pc ls rest) q) : W p l e R s m args below meth c H locs cells slots Q (F0 m pc ls st0) :=
  vx_callq hr hG.2.2 (fun _ _ h => h) (fun _ h => h) (fun _ _ h => h) (fun E' ce q u t H1 locs1 ht _ hu hB _ _ hS1 h1 h2 h3 => by
    obtain ⟨rfl, hB⟩ := hB
    subst hu
    exact kx ce q H1 locs1 (gw_back ht hB hS1) h1 h2 h3) (fun _ _ _ _ _ _ _ h => h.elim)
theorem gw_xout {cls : String} {ce : Cell} {q : Addr} {mc ms : Nat} {Qc : Array Value → State → Outcome → State → Prop} (hnt : ∀ x ∈ c.exceptionTable.toList, False) (hlk : meth.locks = false) (hG : gw_H E D M s H locs) (h1 : H[q]? = some ce) (h2 : ce.vm = .none) (h3 : s.vm.findClass cls = some ce.cls) (hc : cells ≤ mc) (hs : slots ≤ ms) :
    vx_W p l e R s m args below meth c H locs cells slots (vx_MQ below Qc (gw_XC E D cls M) args s mc ms (gw_A E)) (F0 m pc ls rest) q :=
  vx_out (fun x h => (hnt x h).elim) hlk h1 h2 h3 (fun t ht _ => by
    refine gw_XCof hG ?_ ?_
    · rw [ht]; exact Nat.le_refl _
    · intro q _; rw [ht]) hG.2.2.2.2 hc hs
end GX
set_option maxHeartbeats 4000000 in
set_option maxRecDepth 100000 in
theorem c_Row_checkRange (l : Launch) (E : Nat) (D : va_G) (cI cO cZ : ClassId) (z0 : Nat) (M : gM) {x y z : Int32} (h1 : ¬ x < y) (h2 : x ≤ z) : Met l y_Row_checkRange (Cond.code y_Row_checkRange b_Row_checkRange 3 none :: gT) ({ frames := 0, cells := 0, slots := 0, locals := 0 }) (gw_Pc E D cI cO cZ z0 M [.int x, .int y, .int z]) (gw_Qv E D (fun M' => M' = M)) 0 0 (gw_A E) := by
  refine gw_ofW (cc := b_Row_checkRange) (maxL := 3) (ret := none) (by decide) rfl (Nat.le_of_ble_eq_true rfl) ?_
  intro p e s m args below meth c hx hb hr hml hts hown hlk hnm hF hG ls hl
  have hT : ∀ w ∈ gT, w.before args s = true := fun w h => hts w (List.mem_cons_of_mem _ h)
  have hK := hF.1
  have hl : lv_has ls 3 [(0, .int x), (1, .int y), (2, .int z)] := hl
  refine lv_iload_n hx hb d_Row_checkRange_0 rfl (lv_at hl 0 rfl) ?_
  refine lv_iload_n hx hb d_Row_checkRange_1 rfl (lv_at hl 1 rfl) ?_
  refine lv_icmp_lt (tgt := 10) hx hb d_Row_checkRange_2 (by decide) (fun z_ => absurd z_ (h1)) (fun c_2 => ?_)
  refine lv_iload_n hx hb d_Row_checkRange_5 rfl (lv_at hl 0 rfl) ?_
  refine lv_iload_n hx hb d_Row_checkRange_6 rfl (lv_at hl 2 rfl) ?_
  refine lv_icmp_le (tgt := 21) hx hb d_Row_checkRange_7 (by decide) (fun c_7 => ?_) (fun z_ => absurd (h2) z_)
  exact gw_vret hx hb hr hlk hG (rfl) (Nat.le_of_ble_eq_true rfl) (Nat.le_of_ble_eq_true rfl) d_Row_checkRange_21
set_option maxHeartbeats 4000000 in
set_option maxRecDepth 100000 in
theorem c_Row_checkRange_x (l : Launch) (E : Nat) (D : va_G) (cI cO cZ : ClassId) (z0 : Nat) (M : gM) (hst : l.stackTraces = false) {x y z : Int32} (h1 : x < y ∨ z < x) : vx_Met l y_Row_checkRange (Cond.code y_Row_checkRange b_Row_checkRange 3 none :: gT) ({ frames := 6, cells := 1, slots := 6, locals := 82 }) (gw_Pc E D cI cO cZ z0 M [.int x, .int y, .int z]) (gw_Qv E D (fun _ => False)) (gw_XC E D "java/lang/IllegalArgumentException" M) 1 6 (gw_A E) := by
  refine gw_ofX (cc := b_Row_checkRange) (maxL := 3) (ret := none) (by decide) rfl (Nat.le_of_ble_eq_true rfl) ?_
  intro p e s m args below meth c hx hb hr hml hts hown hlk hnt hF hG ls hl
  have hT : ∀ w ∈ gT, w.before args s = true := fun w h => hts w (List.mem_cons_of_mem _ h)
  have hK := hF.1
  have hl : lv_has ls 3 [(0, .int x), (1, .int y), (2, .int z)] := hl
  refine lv_iload_n hx hb d_Row_checkRange_0 rfl (lv_at hl 0 rfl) ?_
  refine lv_iload_n hx hb d_Row_checkRange_1 rfl (lv_at hl 1 rfl) ?_
  refine lv_icmp_lt (tgt := 10) hx hb d_Row_checkRange_2 (by decide) (fun c_2 => ?_) (fun c_2 => ?_)
  · skip
    exact gw_thrSW (cls := "java/lang/IllegalArgumentException") (text := "a number is out of range") hx hb hst hown (by decide) (hT _ wm_426) (hT _ wm_38) (by decide) hT (by decide +kernel) (by decide +kernel) hF hG (hl.1.trans hml.symm) d_Row_checkRange_10 d_Row_checkRange_13 d_Row_checkRange_14 d_Row_checkRange_17 d_Row_checkRange_20 hnt (Nat.le_of_ble_eq_true rfl) (Nat.le_of_ble_eq_true rfl) (Nat.le_of_ble_eq_true rfl) (Nat.le_of_ble_eq_true rfl) hlk (Nat.le_of_ble_eq_true rfl) (Nat.le_of_ble_eq_true rfl)
  · skip
    refine lv_iload_n hx hb d_Row_checkRange_5 rfl (lv_at hl 0 rfl) ?_
    refine lv_iload_n hx hb d_Row_checkRange_6 rfl (lv_at hl 2 rfl) ?_
    refine lv_icmp_le (tgt := 21) hx hb d_Row_checkRange_7 (by decide) (fun z_ => absurd z_ (fun z_ => by rcases h1 with h | h; exact c_2 h; exact absurd h (Int32.not_lt.mpr z_))) (fun c_7 => ?_)
    exact gw_thrSW (cls := "java/lang/IllegalArgumentException") (text := "a number is out of range") hx hb hst hown (by decide) (hT _ wm_426) (hT _ wm_38) (by decide) hT (by decide +kernel) (by decide +kernel) hF hG (hl.1.trans hml.symm) d_Row_checkRange_10 d_Row_checkRange_13 d_Row_checkRange_14 d_Row_checkRange_17 d_Row_checkRange_20 hnt (Nat.le_of_ble_eq_true rfl) (Nat.le_of_ble_eq_true rfl) (Nat.le_of_ble_eq_true rfl) (Nat.le_of_ble_eq_true rfl) hlk (Nat.le_of_ble_eq_true rfl) (Nat.le_of_ble_eq_true rfl)
