section GC
variable {p : Program} {l : Launch} {e : Env} {R : Room} {s : State} {m : MethodId} {args : Array Value} {below : List Frame} {meth : Method} {c : Code} {H : Heap} {locs : List Loc} {cells slots : Nat} {Q : State → Prop}
variable {cc : ByteArray} {pc : Nat} {ls : Array Slot} {rest : List Value} {D : va_G} {a : Nat} {E : Nat} {M : gM} {cI cO cZ : ClassId} {z0 : Nat}
/-- the texts of the class's own throws -/
def gw_texts : List (Nat × String) := [(379, "a number is out of range"), (385, "no such hand"), (110, "the hand stands in the gang, or is hurt"), (116, "there are 5 in the gang"), (122, "the hand does not stand in the gang"), (381, "fewer than two stand in the gang")]
/-- what stands below the law's entry and stays: ArrayList's empty array, Throwable's two statics, the texts -/
def gw_T (E z0 : Nat) (U : State) (H : Heap) : Prop := va_Z "java/util/ArrayList" "DEFAULTCAPACITY_EMPTY_ELEMENTDATA" "[Ljava/lang/Object;" (.ref z0) (gw_A E) U H ∧ va_T (.object "java/lang/Object") z0 0 (fun _ => .null) (gw_A E) U H ∧ vx_Zq Bundle.tN "UNASSIGNED_STACK" Bundle.steD (gw_A E) U H ∧ vx_Zq Bundle.tN "SUPPRESSED_SENTINEL" Bundle.listD (gw_A E) U H ∧ ∀ q ∈ gw_texts, ∃ sa : Nat, vk_R "ThresholdRow" q.1 q.2 sa U
theorem gw_T.warm {E z0 : Nat} {u U : State} {H H1 : Heap} (hW : u.WarmedH U.vm) (hq : ∀ a : Nat, a < H.size → ¬ gw_A E a → H1[a]? = H[a]?) (h : gw_T E z0 u H) : gw_T E z0 U H1 :=
  ⟨(h.1.moved hW.alike).kept hq, (h.2.1.moved hW.alike).kept hq, (h.2.2.1.moved hW.alike).kept hq, (h.2.2.2.1.moved hW.alike).kept hq, fun q hm => by obtain ⟨sa, hs⟩ := h.2.2.2.2 q hm; exact ⟨sa, hs.warm hW⟩⟩
theorem gw_T.same {E z0 : Nat} {u U : State} {H : Heap} (hv : U.vm = u.vm) (h : gw_T E z0 u H) : gw_T E z0 U H :=
  ⟨h.1.moved (by rw [hv]; exact Vm.Alike.refl _), h.2.1.moved (by rw [hv]; exact Vm.Alike.refl _), h.2.2.1.moved (by rw [hv]; exact Vm.Alike.refl _), h.2.2.2.1.moved (by rw [hv]; exact Vm.Alike.refl _), fun q hm => by obtain ⟨sa, hs⟩ := h.2.2.2.2 q hm; exact ⟨sa, hs.same hv⟩⟩
/-- what a walk has at hand of its start: the tables' classes, the boundary, what stands below it -/
def gw_F (E : Nat) (D : va_G) (cI cO cZ : ClassId) (z0 : Nat) (s : State) : Prop := va_K D classes (gw_ty cI cO cZ) s ∧ E ≤ s.heap.size ∧ gw_T E z0 s s.heap
def gw_Pc (E : Nat) (D : va_G) (cI cO cZ : ClassId) (z0 : Nat) (M : gM) (av : List Value) : Array Value → State → Prop := va_Pc av (fun U => gw_F E D cI cO cZ z0 U ∧ gw_B E D M U)
abbrev gw_Qi (E : Nat) (D : va_G) (post : Int32 → gM → Prop) : Array Value → State → Outcome → State → Prop := va_Qi post (fun M' t => gw_B E D M' t) (gw_A E)
abbrev gw_Qd (E : Nat) (D : va_G) (post : UInt64 → gM → Prop) : Array Value → State → Outcome → State → Prop := va_Qd post (fun M' t => gw_B E D M' t) (gw_A E)
abbrev gw_Qv (E : Nat) (D : va_G) (post : gM → Prop) : Array Value → State → Outcome → State → Prop := va_Qv post (fun M' t => gw_B E D M' t) (gw_A E)
abbrev gw_Qq (E : Nat) (D : va_G) (post : Option Nat → gM → Prop) : Array Value → State → Outcome → State → Prop := va_Qq post (fun M' t => gw_B E D M' t) (gw_A E)
theorem gw_blind {av : List Value} : FrameBlind (gw_Pc E D cI cO cZ z0 M av) := by
  rintro a U g mk ⟨h0, ⟨h1, h2, h3⟩, h4, h5⟩
  exact ⟨h0, ⟨va_K.moved (u := U) (U := U.calling g mk a) (Vm.Alike.refl U.vm) h1, h2, gw_T.same (u := U) (U := U.calling g mk a) rfl h3⟩, h4, h5⟩
theorem gw_pre {av : List Value} (hF : gw_F E D cI cO cZ z0 s) (hG : gw_H E D M s H locs) : ∀ U : State, U.heap = H → s.WarmedH U.vm → gw_Pc E D cI cO cZ z0 M av av.toArray U := by
  intro U hU hW
  refine ⟨rfl, ⟨va_K.moved hW.alike hF.1, ?_, ?_⟩, ?_, hG.2.1⟩
  · rw [hU]; exact Nat.le_trans hF.2.1 hG.2.2.1
  · rw [hU]; exact hF.2.2.warm hW hG.2.2.2.1
  · rw [hU]; exact hG.1
theorem gw_recv (hF : gw_F E D cI cO cZ z0 s) (hG : gw_H E D M s H locs) {b ci : Nat} {q : vw_C} {fs : List Value} (hc : classes[ci]? = some q) (he : M b = some (.inr (ci, fs))) : ∃ cell : Cell, H[b]? = some cell ∧ cell.vm.isStatics = false ∧ s.vm.findClass q.1 = some cell.cls :=
  va_recv (q0 := 0) (ci := ci) (fs := fs) hF.1 (gw_one hG he) hc rfl
theorem gw_back {M' : gM} {t : State} {H1 : Heap} {locs1 : List Loc} (ht : t.heap = H1) (hB : gw_B E D M' t) (hS : va_S (gw_A E) s.heap H1 locs1) : gw_H E D M' s H1 locs1 := ⟨by rw [← ht]; exact hB.1, hB.2, hS⟩
-- what is said of a call's answer, four kinds
theorem gw_calli {mc ms : Nat} {st0 : List Value} {aa : Array Value} {post : Int32 → gM → Prop} (hr : va_Run p l e R s m args below meth c H locs cells slots mc ms (F0 m pc ls st0) rest (gw_Qi E D post aa) (gw_A E)) (hG : gw_H E D M s H locs)
    (kk : ∀ (r : Int32) (M' : gM) (H1 : Heap) (locs1 : List Loc), post r M' → gw_H E D M' s H1 locs1 → W p l e R s m args below meth c H1 locs1 (cells + mc) (slots + ms) Q (F0 m (pc + 3) ls (.int r :: rest))) : W p l e R s m args below meth c H locs cells slots Q (F0 m pc ls st0) :=
  va_calli hr hG.2.2 (fun _ _ h => h) (fun _ h => h) (fun r u _ H1 locs1 ht _ hw hB _ _ hS1 => kk r u H1 locs1 hw (gw_back ht hB hS1))
theorem gw_calld {mc ms : Nat} {st0 : List Value} {aa : Array Value} {post : UInt64 → gM → Prop} (hr : va_Run p l e R s m args below meth c H locs cells slots mc ms (F0 m pc ls st0) rest (gw_Qd E D post aa) (gw_A E)) (hG : gw_H E D M s H locs)
    (kk : ∀ (r : UInt64) (M' : gM) (H1 : Heap) (locs1 : List Loc), post r M' → gw_H E D M' s H1 locs1 → W p l e R s m args below meth c H1 locs1 (cells + mc) (slots + ms) Q (F0 m (pc + 3) ls (.double r :: rest))) : W p l e R s m args below meth c H locs cells slots Q (F0 m pc ls st0) :=
  va_calld hr hG.2.2 (fun _ _ h => h) (fun _ h => h) (fun r u _ H1 locs1 ht _ hw hB _ _ hS1 => kk r u H1 locs1 hw (gw_back ht hB hS1))
theorem gw_callv {mc ms : Nat} {st0 : List Value} {aa : Array Value} {post : gM → Prop} (hr : va_Run p l e R s m args below meth c H locs cells slots mc ms (F0 m pc ls st0) rest (gw_Qv E D post aa) (gw_A E)) (hG : gw_H E D M s H locs)
    (kk : ∀ (M' : gM) (H1 : Heap) (locs1 : List Loc), post M' → gw_H E D M' s H1 locs1 → W p l e R s m args below meth c H1 locs1 (cells + mc) (slots + ms) Q (F0 m (pc + 3) ls rest)) : W p l e R s m args below meth c H locs cells slots Q (F0 m pc ls st0) :=
  va_callv hr hG.2.2 (fun _ _ h => h) (fun _ h => h) (fun u _ H1 locs1 ht _ hw hB _ _ hS1 => kk u H1 locs1 hw (gw_back ht hB hS1))
theorem gw_callq {mc ms : Nat} {st0 : List Value} {aa : Array Value} {post : Option Nat → gM → Prop} (hr : va_Run p l e R s m args below meth c H locs cells slots mc ms (F0 m pc ls st0) rest (gw_Qq E D post aa) (gw_A E)) (hG : gw_H E D M s H locs)
    (kk : ∀ (r : Option Nat) (M' : gM) (H1 : Heap) (locs1 : List Loc), post r M' → gw_H E D M' s H1 locs1 → W p l e R s m args below meth c H1 locs1 (cells + mc) (slots + ms) Q (F0 m (pc + 3) ls (va_rf r :: rest))) : W p l e R s m args below meth c H locs cells slots Q (F0 m pc ls st0) :=
  va_callq hr hG.2.2 (fun _ _ h => h) (fun _ h => h) (fun r u _ H1 locs1 ht _ hw hB _ _ hS1 => kk r u H1 locs1 hw (gw_back ht hB hS1))
-- how a call is run: virtual (own class, also private), static, constructor (also of a nest mate)
theorem gw_runV {y : MethodName} {bytes : ByteArray} {maxL nL mc ms n index ci N : Nat} {ret : Option FieldType} {ws : List Cond} {rm : Room} {Qc : Array Value → State → Outcome → State → Prop} {Ts : List Cond} {own C : String} {T : u_T} {b : Nat} {As rest st0 : List Value} {fs : List Value}
    (S : CallFix p m c cc nL s args Ts own) (hM : Met l y ws rm (gw_Pc E D cI cO cZ z0 M (.ref b :: As)) Qc mc ms (gw_A E)) (cw : CallW R s args own C index y bytes maxL ret ws rm mc ms n) (hF : gw_F E D cI cO cZ z0 s) (hG : gw_H E D M s H locs) (hc : classes[ci]? = some (C, T, N)) (he : M b = some (.inr (ci, fs)))
    (hn : As.length = n) (hsize : ls.size = nL) (hstack : st0 = As.reverse ++ .ref b :: rest) (hW : (rest.map fun v => v.category).sum ≤ 8) (hdg : decode cc pc = .ok (.invokevirtual index, 3)) (hf : cells + mc ≤ R.cells ∧ slots + ms ≤ R.slots) :
    va_Run p l e R s m args below meth c H locs cells slots mc ms (F0 m pc ls st0) rest (Qc (Value.ref b :: As).toArray) (gw_A E) :=
  va_runV S hM cw ⟨gw_blind, gw_recv hF hG hc he, gw_pre hF hG⟩ rfl hn hsize hstack (lv_room (rest := st0) hW) hdg hf
theorem gw_runS {y : MethodName} {bytes : ByteArray} {maxL nL mc ms n index : Nat} {ret : Option FieldType} {ws : List Cond} {rm : Room} {Qc : Array Value → State → Outcome → State → Prop} {Ts : List Cond} {own : String} {As rest st0 : List Value}
    (S : CallFix p m c cc nL s args Ts own) (hM : Met l y ws rm (gw_Pc E D cI cO cZ z0 M As) Qc mc ms (gw_A E)) (cw : CallB R s args own index y bytes maxL ret ws rm mc ms n ∧ (Cond.static y).before args s = true) (hF : gw_F E D cI cO cZ z0 s) (hG : gw_H E D M s H locs)
    (hn : As.length = n) (hsize : ls.size = nL) (hstack : st0 = As.reverse ++ rest) (hW : (rest.map fun v => v.category).sum ≤ 8) (hdg : decode cc pc = .ok (.invokestatic index, 3)) (hf : cells + mc ≤ R.cells ∧ slots + ms ≤ R.slots) :
    va_Run p l e R s m args below meth c H locs cells slots mc ms (F0 m pc ls st0) rest (Qc As.toArray) (gw_A E) :=
  va_runS S hM cw ⟨gw_blind, gw_pre hF hG⟩ rfl hn hsize hstack (lv_room (rest := st0) hW) hdg hf
theorem gw_runI {y : MethodName} {bytes : ByteArray} {maxL nL mc ms n index : Nat} {ws : List Cond} {rm : Room} {Qc : Array Value → State → Outcome → State → Prop} {Ts : List Cond} {own : String} {b : Nat} {As rest st0 : List Value}
    (S : CallFix p m c cc nL s args Ts own) (hM : Met l y ws rm (gw_Pc E D cI cO cZ z0 M (.ref b :: As)) Qc mc ms (gw_A E)) (cw : CallB R s args own index y bytes maxL none ws rm mc ms n ∧ y.name = "<init>" ∧ (Cond.instanceMethod y).before args s = true) (hF : gw_F E D cI cO cZ z0 s) (hG : gw_H E D M s H locs)
    (hn : As.length = n) (hsize : ls.size = nL) (hstack : st0 = As.reverse ++ .ref b :: rest) (hW : (rest.map fun v => v.category).sum ≤ 8) (hdg : decode cc pc = .ok (.invokespecial index, 3)) (hf : cells + mc ≤ R.cells ∧ slots + ms ≤ R.slots) :
    va_Run p l e R s m args below meth c H locs cells slots mc ms (F0 m pc ls st0) rest (Qc (Value.ref b :: As).toArray) (gw_A E) :=
  va_runI S hM cw ⟨gw_blind, gw_pre hF hG⟩ rfl hn hsize hstack (lv_room (rest := st0) hW) hdg hf
theorem gw_runIN {y : MethodName} {bytes : ByteArray} {maxL nL mc ms n index : Nat} {ws : List Cond} {rm : Room} {Qc : Array Value → State → Outcome → State → Prop} {Ts : List Cond} {own host : String} {b : Nat} {As rest st0 : List Value}
    (S : CallFix p m c cc nL s args Ts own) (hM : Met l y ws rm (gw_Pc E D cI cO cZ z0 M (.ref b :: As)) Qc mc ms (gw_A E)) (cw : va_CN R s args own index y host bytes maxL none ws rm mc ms n ∧ y.name = "<init>" ∧ (Cond.instanceMethod y).before args s = true) (hF : gw_F E D cI cO cZ z0 s) (hG : gw_H E D M s H locs)
    (hn : As.length = n) (hsize : ls.size = nL) (hstack : st0 = As.reverse ++ .ref b :: rest) (hW : (rest.map fun v => v.category).sum ≤ 8) (hdg : decode cc pc = .ok (.invokespecial index, 3)) (hf : cells + mc ≤ R.cells ∧ slots + ms ≤ R.slots) :
    va_Run p l e R s m args below meth c H locs cells slots mc ms (F0 m pc ls st0) rest (Qc (Value.ref b :: As).toArray) (gw_A E) :=
  va_runIN S hM cw ⟨gw_blind, gw_pre hF hG⟩ rfl hn hsize hstack (lv_room (rest := st0) hW) hdg hf
-- words of a call
theorem gw_cwV {own C : String} {index maxL mc ms : Nat} {y : MethodName} {bytes : ByteArray} {ret : Option FieldType} {Ts ws ws' : List Cond} {rm : Room} (n : Nat) (ht : ∀ w ∈ Ts, w.before args s = true) (hG : GoodIn Ts ws) (hw : ws = Cond.code y bytes maxL ret :: ws') (hrc : rm.cells = mc) (hrs : rm.slots = ms) (hini : (Cond.initialized y.cls).before args s = true) (hl : (Cond.methodLink own index y).before args s = true) (hin : (Cond.instanceMethod y).before args s = true) (hse : (Cond.selects C y y).before args s = true)
    (hd : y.cls ≠ "java/lang/invoke/MethodHandle" ∧ y.cls ≠ "java/lang/invoke/VarHandle" ∧ (parseMethodDescriptor y.desc).map (fun d => d.parameters.length) = some n) (hR : rm.frames + 1 ≤ R.frames ∧ 8 + (maxL + 11) + rm.locals ≤ R.locals) : CallW R s args own C index y bytes maxL ret ws rm mc ms n :=
  ⟨callB_of n ht hG hw hrc hrs hini hl hd hR, hin, hse⟩
theorem gw_cwS {own : String} {index maxL mc ms : Nat} {y : MethodName} {bytes : ByteArray} {ret : Option FieldType} {Ts ws ws' : List Cond} {rm : Room} (n : Nat) (ht : ∀ w ∈ Ts, w.before args s = true) (hG : GoodIn Ts ws) (hw : ws = Cond.code y bytes maxL ret :: ws') (hrc : rm.cells = mc) (hrs : rm.slots = ms) (hini : (Cond.initialized y.cls).before args s = true) (hl : (Cond.methodLink own index y).before args s = true) (hst : (Cond.static y).before args s = true)
    (hd : y.cls ≠ "java/lang/invoke/MethodHandle" ∧ y.cls ≠ "java/lang/invoke/VarHandle" ∧ (parseMethodDescriptor y.desc).map (fun d => d.parameters.length) = some n) (hR : rm.frames + 1 ≤ R.frames ∧ 8 + (maxL + 11) + rm.locals ≤ R.locals) : CallB R s args own index y bytes maxL ret ws rm mc ms n ∧ (Cond.static y).before args s = true :=
  ⟨callB_of n ht hG hw hrc hrs hini hl hd hR, hst⟩
-- a contract's proof from its walk; its ends
theorem gw_ofW {y : MethodName} {ws ws' : List Cond} {rm : Room} {av : List Value} {Qc : Array Value → State → Outcome → State → Prop} {mc ms : Nat} {cc : ByteArray} {maxL : Nat} {ret : Option FieldType} (hy : plainName y.cls = true) (hw : ws = Cond.code y cc maxL ret :: ws') (hlen : (lg_sl av).length ≤ maxL)
    (body : ∀ (p : Program) (e : Env) (s : State) (m : MethodId) (args : Array Value) (below : List Frame) (meth : Method) (c : Code), p.tables.exec = Jvm.exec → c.code = cc → meth.sig.returnType = ret → c.maxLocals = maxL → (∀ w ∈ ws, w.before args s = true) → s.vm.findClass y.cls = some m.cls → meth.locks = false → meth.name = y.name → gw_F E D cI cO cZ z0 s → gw_H E D M s s.heap [] → ∀ ls : Array Slot, lv_has ls maxL (lv_args 0 av) →
      W p l e rm s m args below meth c s.heap [] 0 0 (MQ below Qc args s mc ms (gw_A E)) (F0 m 0 ls [])) : Met l y ws rm (gw_Pc E D cI cO cZ z0 M av) Qc mc ms (gw_A E) := by
  refine Met.ofW (cc := cc) (maxL := maxL) (ret := ret) hy hw ?_
  intro p e s m args below meth c s₁ B hml hv
  obtain ⟨rfl, hF, hB⟩ := hv
  have hts := atoms_spec (ws := ws) B.pre
  have hown : s.vm.findClass y.cls = some m.cls := findClass_of_methodNamed B.named
  have hl := lv_entry av (n := maxL) hlen
  rw [lg_entry_eq]
  exact body p e s m _ below meth c B.exec B.bytes B.returns hml hts hown B.notSynchronized (name_of_methodNamed B.named B.method).1 hF ⟨hB.1, hB.2, va_S.rf⟩ _ hl
theorem gw_iret {post : Int32 → gM → Prop} {v : Int32} {mc ms : Nat} (hx : p.tables.exec = Jvm.exec) (hb : c.code = cc) (hr : meth.sig.returnType = some .int) (hlk : meth.locks = false) (hG : gw_H E D M s H locs) (hp : post v M) (hc : cells ≤ mc) (hs : slots ≤ ms) (hdg : decode cc pc = .ok (.ireturn, 1)) : W p l e R s m args below meth c H locs cells slots (MQ below (gw_Qi E D post) args s mc ms (gw_A E)) (F0 m pc ls [.int v]) :=
  W.widen hc hs (W.iret hx hb hr (fun t ht _ => ⟨⟨v, M, rfl, hp, ⟨by rw [ht]; exact hG.1, hG.2.1⟩⟩, hG.2.2.F ht⟩) hG.2.2.2.2 hdg hlk)
theorem gw_vret {post : gM → Prop} {mc ms : Nat} (hx : p.tables.exec = Jvm.exec) (hb : c.code = cc) (hr : meth.sig.returnType = none) (hlk : meth.locks = false) (hG : gw_H E D M s H locs) (hp : post M) (hc : cells ≤ mc) (hs : slots ≤ ms) (hdg : decode cc pc = .ok (.return_, 1)) : W p l e R s m args below meth c H locs cells slots (MQ below (gw_Qv E D post) args s mc ms (gw_A E)) (F0 m pc ls []) :=
  W.widen hc hs (W.vret hx hb hr (fun t ht _ => ⟨⟨M, rfl, hp, ⟨by rw [ht]; exact hG.1, hG.2.1⟩⟩, hG.2.2.F ht⟩) hG.2.2.2.2 hdg hlk)
theorem gw_aret {post : Option Nat → gM → Prop} {q : Nat} {mc ms : Nat} {rt : FieldType} (hx : p.tables.exec = Jvm.exec) (hb : c.code = cc) (hr : meth.sig.returnType = some rt) (hrt : (∃ n, rt = .object n) ∨ ∃ t, rt = .array t) (hlk : meth.locks = false) (hG : gw_H E D M s H locs) (hp : post (some q) M) (hc : cells ≤ mc) (hs : slots ≤ ms) (hdg : decode cc pc = .ok (.areturn, 1)) : W p l e R s m args below meth c H locs cells slots (MQ below (gw_Qq E D post) args s mc ms (gw_A E)) (F0 m pc ls [.ref q]) :=
  W.widen hc hs (W.aret hx hb hr hrt (Or.inr ⟨q, rfl⟩) (fun t ht _ => ⟨⟨some q, M, rfl, hp, ⟨by rw [ht]; exact hG.1, hG.2.1⟩⟩, hG.2.2.F ht⟩) hG.2.2.2.2 hdg hlk)
theorem gw_aretN {post : Option Nat → gM → Prop} {mc ms : Nat} {rt : FieldType} (hx : p.tables.exec = Jvm.exec) (hb : c.code = cc) (hr : meth.sig.returnType = some rt) (hrt : (∃ n, rt = .object n) ∨ ∃ t, rt = .array t) (hlk : meth.locks = false) (hG : gw_H E D M s H locs) (hp : post none M) (hc : cells ≤ mc) (hs : slots ≤ ms) (hdg : decode cc pc = .ok (.areturn, 1)) : W p l e R s m args below meth c H locs cells slots (MQ below (gw_Qq E D post) args s mc ms (gw_A E)) (F0 m pc ls [.null]) :=
  W.widen hc hs (W.aret hx hb hr hrt (Or.inl rfl) (fun t ht _ => ⟨⟨none, M, rfl, hp, ⟨by rw [ht]; exact hG.1, hG.2.1⟩⟩, hG.2.2.F ht⟩) hG.2.2.2.2 hdg hlk)
end GC
