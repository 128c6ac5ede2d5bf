section GC
variable {p : Program} {l : Launch} {e : Env} {R : Room} {s : State} {m : MethodId} {args : Array Value} {below : List Frame} {meth : Method} {c : Code} {H : Heap} {locs : List Loc} {cells slots : Nat} {Q : State → Prop}
variable {cc : ByteArray} {pc : Nat} {ls : Array Slot} {rest : List Value} {D : va_G} {a : Nat} {E : Nat} {M : gM} {cI cO cZ : ClassId} {z0 : Nat}
/-- the texts of the class's own throws -/
def gw_texts : List (Nat × String) := [(379, "a number is out of range"), (385, "no such hand"), (110, "the hand stands in the gang, or is hurt"), (116, "there are 5 in the gang"), (122, "the hand does not stand in the gang"), (381, "fewer than two stand in the gang")]
/-- words that stay, though no call carries them on: what is castable, the nest mates' links, what is declared -/
def gw_wk : Cond → Bool
  | .castable .. => true
  | .methodLinkNest .. => true
  | .declares _ => true
  | _ => false
def gW : List Cond := lw_tbl.filter gw_wk
theorem gw_wk_on {w : Cond} (h : gw_wk w = true) : w.onTables = true := by
  cases w <;> first | rfl | (simp [gw_wk] at h)
theorem gw_wk_warm {w : Cond} (h : gw_wk w = true) {s U : State} (hW : s.WarmedH U.vm) (hZ : va_Nw w s) : va_Nw w U := by
  cases w <;> first | exact va_Nw.warmC hW hZ | exact va_Nw.warmM hW hZ | exact va_Nw.warmD hW hZ | (simp [gw_wk] at h)
/-- the classes of what is thrown: none can be cast to another -/
def gw_exc : List String := ["java/lang/IllegalArgumentException", "java/lang/IllegalStateException", "java/lang/IndexOutOfBoundsException", "java/lang/UnsupportedOperationException", "java/util/NoSuchElementException"]
def gw_N (U : State) : Prop := (∀ w ∈ gW, va_Nw w U) ∧ va_AO "java/lang/Object" U ∧ (∀ a ∈ gw_exc, ∀ b ∈ gw_exc, a ≠ b → va_Nc a b U) ∧ ∀ q ∈ gw_texts, ∃ sa : Nat, vk_R "ThresholdRow" q.1 q.2 sa U
theorem gw_N.warm {u U : State} (hW : u.WarmedH U.vm) (h : gw_N u) : gw_N U :=
  ⟨fun w hw => gw_wk_warm (List.mem_filter.mp hw).2 hW (h.1 w hw), h.2.1.moved hW.alike, fun a ha b hb hn => (h.2.2.1 a ha b hb hn).moved hW.alike, fun q hm => by obtain ⟨sa, hs⟩ := h.2.2.2 q hm; exact ⟨sa, hs.warm hW⟩⟩
theorem gw_N.same {u U : State} (hv : U.vm = u.vm) (h : gw_N u) : gw_N U :=
  ⟨fun w hw => va_Nw.same (gw_wk_on (List.mem_filter.mp hw).2) hv.symm (h.1 w hw), h.2.1.moved (by rw [hv]; exact Vm.Alike.refl _), fun a ha b hb hn => (h.2.2.1 a ha b hb hn).moved (by rw [hv]; exact Vm.Alike.refl _), fun q hm => by obtain ⟨sa, hs⟩ := h.2.2.2 q hm; exact ⟨sa, hs.same hv⟩⟩
theorem gW_m {w : Cond} {s : State} (h : gw_N s) (hm : w ∈ lw_tbl) (hg : gw_wk w = true) : va_Nw w s := h.1 w (List.mem_filter.mpr ⟨hm, hg⟩)
/-- what stands below the law's entry and stays: ArrayList's empty array, Throwable's two statics -/
def gw_T (E z0 : Nat) (U : State) (H : Heap) : Prop := va_Z "java/util/ArrayList" "DEFAULTCAPACITY_EMPTY_ELEMENTDATA" "[Ljava/lang/Object;" (.ref z0) (gw_A E) U H ∧ va_T (.object "java/lang/Object") z0 0 (fun _ => .null) (gw_A E) U H ∧ vx_Zq Bundle.tN "UNASSIGNED_STACK" Bundle.steD (gw_A E) U H ∧ vx_Zq Bundle.tN "SUPPRESSED_SENTINEL" Bundle.listD (gw_A E) U H ∧ gw_N U
theorem gw_T.warm {E z0 : Nat} {u U : State} {H H1 : Heap} (hW : u.WarmedH U.vm) (hq : ∀ a : Nat, a < H.size → ¬ gw_A E a → H1[a]? = H[a]?) (h : gw_T E z0 u H) : gw_T E z0 U H1 :=
  ⟨(h.1.moved hW.alike).kept hq, (h.2.1.moved hW.alike).kept hq, (h.2.2.1.moved hW.alike).kept hq, (h.2.2.2.1.moved hW.alike).kept hq, h.2.2.2.2.warm hW⟩
theorem gw_T.same {E z0 : Nat} {u U : State} {H : Heap} (hv : U.vm = u.vm) (h : gw_T E z0 u H) : gw_T E z0 U H :=
  ⟨h.1.moved (by rw [hv]; exact Vm.Alike.refl _), h.2.1.moved (by rw [hv]; exact Vm.Alike.refl _), h.2.2.1.moved (by rw [hv]; exact Vm.Alike.refl _), h.2.2.2.1.moved (by rw [hv]; exact Vm.Alike.refl _), h.2.2.2.2.same hv⟩
/-- what a walk has at hand of its start: the tables' classes, the boundary, what stands below it -/
def gw_F (E : Nat) (D : va_G) (cI cO cZ : ClassId) (z0 : Nat) (s : State) : Prop := va_K D classes (gw_ty cI cO cZ) s ∧ E ≤ s.heap.size ∧ gw_T E z0 s s.heap
def gw_Pc (E : Nat) (D : va_G) (cI cO cZ : ClassId) (z0 : Nat) (M : gM) (av : List Value) : Array Value → State → Prop := va_Pc av (fun U => gw_F E D cI cO cZ z0 U ∧ gw_B E D M U)
abbrev gw_Qi (E : Nat) (D : va_G) (post : Int32 → gM → Prop) : Array Value → State → Outcome → State → Prop := va_Qi post (fun M' t => gw_B E D M' t) (gw_A E)
abbrev gw_Qd (E : Nat) (D : va_G) (post : UInt64 → gM → Prop) : Array Value → State → Outcome → State → Prop := va_Qd post (fun M' t => gw_B E D M' t) (gw_A E)
abbrev gw_Qv (E : Nat) (D : va_G) (post : gM → Prop) : Array Value → State → Outcome → State → Prop := va_Qv post (fun M' t => gw_B E D M' t) (gw_A E)
abbrev gw_Qq (E : Nat) (D : va_G) (post : Option Nat → gM → Prop) : Array Value → State → Outcome → State → Prop := va_Qq post (fun M' t => gw_B E D M' t) (gw_A E)
theorem gw_blind {av : List Value} : FrameBlind (gw_Pc E D cI cO cZ z0 M av) := by
  rintro a U g mk ⟨h0, ⟨h1, h2, h3⟩, h4, h5⟩
  exact ⟨h0, ⟨va_K.moved (u := U) (U := U.calling g mk a) (Vm.Alike.refl U.vm) h1, h2, gw_T.same (u := U) (U := U.calling g mk a) rfl h3⟩, h4, h5⟩
theorem gw_pre {av : List Value} (hF : gw_F E D cI cO cZ z0 s) (hG : gw_H E D M s H locs) : ∀ U : State, U.heap = H → s.WarmedH U.vm → gw_Pc E D cI cO cZ z0 M av av.toArray U := by
  intro U hU hW
  refine ⟨rfl, ⟨va_K.moved hW.alike hF.1, ?_, ?_⟩, ?_, hG.2.1⟩
  · rw [hU]; exact Nat.le_trans hF.2.1 hG.2.2.1
  · rw [hU]; exact hF.2.2.warm hW hG.2.2.2.1
  · rw [hU]; exact hG.1
theorem gw_recv (hF : gw_F E D cI cO cZ z0 s) (hG : gw_H E D M s H locs) {b ci : Nat} {q : vw_C} {fs : List Value} (hc : classes[ci]? = some q) (he : M b = some (.inr (ci, fs))) : ∃ cell : Cell, H[b]? = some cell ∧ cell.vm.isStatics = false ∧ s.vm.findClass q.1 = some cell.cls :=
  va_recv (q0 := 0) (ci := ci) (fs := fs) hF.1 (gw_one hG he) hc rfl
theorem gw_back {M' : gM} {t : State} {H1 : Heap} {locs1 : List Loc} (ht : t.heap = H1) (hB : gw_B E D M' t) (hS : va_S (gw_A E) s.heap H1 locs1) : gw_H E D M' s H1 locs1 := ⟨by rw [← ht]; exact hB.1, hB.2, hS⟩
-- what is said of a call's answer, four kinds
theorem gw_calli {mc ms : Nat} {st0 : List Value} {aa : Array Value} {post : Int32 → gM → Prop} (hr : va_Run p l e R s m args below meth c H locs cells slots mc ms (F0 m pc ls st0) rest (gw_Qi E D post aa) (gw_A E)) (hG : gw_H E D M s H locs)
    (kk : ∀ (r : Int32) (M' : gM) (H1 : Heap) (locs1 : List Loc), post r M' → gw_H E D M' s H1 locs1 → W p l e R s m args below meth c H1 locs1 (cells + mc) (slots + ms) Q (F0 m (pc + 3) ls (.int r :: rest))) : W p l e R s m args below meth c H locs cells slots Q (F0 m pc ls st0) :=
  va_calli hr hG.2.2 (fun _ _ h => h) (fun _ h => h) (fun r u _ H1 locs1 ht _ hw hB _ _ hS1 => kk r u H1 locs1 hw (gw_back ht hB hS1))
theorem gw_calld {mc ms : Nat} {st0 : List Value} {aa : Array Value} {post : UInt64 → gM → Prop} (hr : va_Run p l e R s m args below meth c H locs cells slots mc ms (F0 m pc ls st0) rest (gw_Qd E D post aa) (gw_A E)) (hG : gw_H E D M s H locs)
    (kk : ∀ (r : UInt64) (M' : gM) (H1 : Heap) (locs1 : List Loc), post r M' → gw_H E D M' s H1 locs1 → W p l e R s m args below meth c H1 locs1 (cells + mc) (slots + ms) Q (F0 m (pc + 3) ls (.double r :: rest))) : W p l e R s m args below meth c H locs cells slots Q (F0 m pc ls st0) :=
  va_calld hr hG.2.2 (fun _ _ h => h) (fun _ h => h) (fun r u _ H1 locs1 ht _ hw hB _ _ hS1 => kk r u H1 locs1 hw (gw_back ht hB hS1))
theorem gw_callv {mc ms : Nat} {st0 : List Value} {aa : Array Value} {post : gM → Prop} (hr : va_Run p l e R s m args below meth c H locs cells slots mc ms (F0 m pc ls st0) rest (gw_Qv E D post aa) (gw_A E)) (hG : gw_H E D M s H locs)
    (kk : ∀ (M' : gM) (H1 : Heap) (locs1 : List Loc), post M' → gw_H E D M' s H1 locs1 → W p l e R s m args below meth c H1 locs1 (cells + mc) (slots + ms) Q (F0 m (pc + 3) ls rest)) : W p l e R s m args below meth c H locs cells slots Q (F0 m pc ls st0) :=
  va_callv hr hG.2.2 (fun _ _ h => h) (fun _ h => h) (fun u _ H1 locs1 ht _ hw hB _ _ hS1 => kk u H1 locs1 hw (gw_back ht hB hS1))
theorem gw_callq {mc ms : Nat} {st0 : List Value} {aa : Array Value} {post : Option Nat → gM → Prop} (hr : va_Run p l e R s m args below meth c H locs cells slots mc ms (F0 m pc ls st0) rest (gw_Qq E D post aa) (gw_A E)) (hG : gw_H E D M s H locs)
    (kk : ∀ (r : Option Nat) (M' : gM) (H1 : Heap) (locs1 : List Loc), post r M' → gw_H E D M' s H1 locs1 → W p l e R s m args below meth c H1 locs1 (cells + mc) (slots + ms) Q (F0 m (pc + 3) ls (va_rf r :: rest))) : W p l e R s m args below meth c H locs cells slots Q (F0 m pc ls st0) :=
  va_callq hr hG.2.2 (fun _ _ h => h) (fun _ h => h) (fun r u _ H1 locs1 ht _ hw hB _ _ hS1 => kk r u H1 locs1 hw (gw_back ht hB hS1))
-- how a call is run: virtual (own class, also private), static, constructor (also of a nest mate)
theorem gw_runV {y : MethodName} {bytes : ByteArray} {maxL nL mc ms n index ci N : Nat} {ret : Option FieldType} {ws : List Cond} {rm : Room} {Qc : Array Value → State → Outcome → State → Prop} {Ts : List Cond} {own C : String} {T : u_T} {b : Nat} {As rest st0 : List Value} {fs : List Value}
    (S : CallFix p m c cc nL s args Ts own) (hM : Met l y ws rm (gw_Pc E D cI cO cZ z0 M (.ref b :: As)) Qc mc ms (gw_A E)) (cw : CallW R s args own C index y bytes maxL ret ws rm mc ms n) (hF : gw_F E D cI cO cZ z0 s) (hG : gw_H E D M s H locs) (hc : classes[ci]? = some (C, T, N)) (he : M b = some (.inr (ci, fs)))
    (hn : As.length = n) (hsize : ls.size = nL) (hstack : st0 = As.reverse ++ .ref b :: rest) (hW : (rest.map fun v => v.category).sum ≤ 8) (hdg : decode cc pc = .ok (.invokevirtual index, 3)) (hf : cells + mc ≤ R.cells ∧ slots + ms ≤ R.slots) :
    va_Run p l e R s m args below meth c H locs cells slots mc ms (F0 m pc ls st0) rest (Qc (Value.ref b :: As).toArray) (gw_A E) :=
  va_runV S hM cw ⟨gw_blind, gw_recv hF hG hc he, gw_pre hF hG⟩ rfl hn hsize hstack (lv_room (rest := st0) hW) hdg hf
theorem gw_runS {y : MethodName} {bytes : ByteArray} {maxL nL mc ms n index : Nat} {ret : Option FieldType} {ws : List Cond} {rm : Room} {Qc : Array Value → State → Outcome → State → Prop} {Ts : List Cond} {own : String} {As rest st0 : List Value}
    (S : CallFix p m c cc nL s args Ts own) (hM : Met l y ws rm (gw_Pc E D cI cO cZ z0 M As) Qc mc ms (gw_A E)) (cw : CallB R s args own index y bytes maxL ret ws rm mc ms n ∧ (Cond.static y).before args s = true) (hF : gw_F E D cI cO cZ z0 s) (hG : gw_H E D M s H locs)
    (hn : As.length = n) (hsize : ls.size = nL) (hstack : st0 = As.reverse ++ rest) (hW : (rest.map fun v => v.category).sum ≤ 8) (hdg : decode cc pc = .ok (.invokestatic index, 3)) (hf : cells + mc ≤ R.cells ∧ slots + ms ≤ R.slots) :
    va_Run p l e R s m args below meth c H locs cells slots mc ms (F0 m pc ls st0) rest (Qc As.toArray) (gw_A E) :=
  va_runS S hM cw ⟨gw_blind, gw_pre hF hG⟩ rfl hn hsize hstack (lv_room (rest := st0) hW) hdg hf
theorem gw_runI {y : MethodName} {bytes : ByteArray} {maxL nL mc ms n index : Nat} {ws : List Cond} {rm : Room} {Qc : Array Value → State → Outcome → State → Prop} {Ts : List Cond} {own : String} {b : Nat} {As rest st0 : List Value}
    (S : CallFix p m c cc nL s args Ts own) (hM : Met l y ws rm (gw_Pc E D cI cO cZ z0 M (.ref b :: As)) Qc mc ms (gw_A E)) (cw : CallB R s args own index y bytes maxL none ws rm mc ms n ∧ y.name = "<init>" ∧ (Cond.instanceMethod y).before args s = true) (hF : gw_F E D cI cO cZ z0 s) (hG : gw_H E D M s H locs)
    (hn : As.length = n) (hsize : ls.size = nL) (hstack : st0 = As.reverse ++ .ref b :: rest) (hW : (rest.map fun v => v.category).sum ≤ 8) (hdg : decode cc pc = .ok (.invokespecial index, 3)) (hf : cells + mc ≤ R.cells ∧ slots + ms ≤ R.slots) :
    va_Run p l e R s m args below meth c H locs cells slots mc ms (F0 m pc ls st0) rest (Qc (Value.ref b :: As).toArray) (gw_A E) :=
  va_runI S hM cw ⟨gw_blind, gw_pre hF hG⟩ rfl hn hsize hstack (lv_room (rest := st0) hW) hdg hf
theorem gw_runIN {y : MethodName} {bytes : ByteArray} {maxL nL mc ms n index : Nat} {ws : List Cond} {rm : Room} {Qc : Array Value → State → Outcome → State → Prop} {Ts : List Cond} {own host : String} {b : Nat} {As rest st0 : List Value}
    (S : CallFix p m c cc nL s args Ts own) (hM : Met l y ws rm (gw_Pc E D cI cO cZ z0 M (.ref b :: As)) Qc mc ms (gw_A E)) (cw : va_CN R s args own index y host bytes maxL none ws rm mc ms n ∧ y.name = "<init>" ∧ (Cond.instanceMethod y).before args s = true) (hF : gw_F E D cI cO cZ z0 s) (hG : gw_H E D M s H locs)
    (hn : As.length = n) (hsize : ls.size = nL) (hstack : st0 = As.reverse ++ .ref b :: rest) (hW : (rest.map fun v => v.category).sum ≤ 8) (hdg : decode cc pc = .ok (.invokespecial index, 3)) (hf : cells + mc ≤ R.cells ∧ slots + ms ≤ R.slots) :
    va_Run p l e R s m args below meth c H locs cells slots mc ms (F0 m pc ls st0) rest (Qc (Value.ref b :: As).toArray) (gw_A E) :=
  va_runIN S hM cw ⟨gw_blind, gw_pre hF hG⟩ rfl hn hsize hstack (lv_room (rest := st0) hW) hdg hf
-- words of a call
theorem gw_cwV {own C : String} {index maxL mc ms : Nat} {y : MethodName} {bytes : ByteArray} {ret : Option FieldType} {Ts ws ws' : List Cond} {rm : Room} (n : Nat) (ht : ∀ w ∈ Ts, w.before args s = true) (hG : GoodIn Ts ws) (hw : ws = Cond.code y bytes maxL ret :: ws') (hrc : rm.cells = mc) (hrs : rm.slots = ms) (hini : (Cond.initialized y.cls).before args s = true) (hl : (Cond.methodLink own index y).before args s = true) (hin : (Cond.instanceMethod y).before args s = true) (hse : (Cond.selects C y y).before args s = true)
    (hd : y.cls ≠ "java/lang/invoke/MethodHandle" ∧ y.cls ≠ "java/lang/invoke/VarHandle" ∧ (parseMethodDescriptor y.desc).map (fun d => d.parameters.length) = some n) (hR : rm.frames + 1 ≤ R.frames ∧ 8 + (maxL + 11) + rm.locals ≤ R.locals) : CallW R s args own C index y bytes maxL ret ws rm mc ms n :=
  ⟨callB_of n ht hG hw hrc hrs hini hl hd hR, hin, hse⟩
theorem gw_cwS {own : String} {index maxL mc ms : Nat} {y : MethodName} {bytes : ByteArray} {ret : Option FieldType} {Ts ws ws' : List Cond} {rm : Room} (n : Nat) (ht : ∀ w ∈ Ts, w.before args s = true) (hG : GoodIn Ts ws) (hw : ws = Cond.code y bytes maxL ret :: ws') (hrc : rm.cells = mc) (hrs : rm.slots = ms) (hini : (Cond.initialized y.cls).before args s = true) (hl : (Cond.methodLink own index y).before args s = true) (hst : (Cond.static y).before args s = true)
    (hd : y.cls ≠ "java/lang/invoke/MethodHandle" ∧ y.cls ≠ "java/lang/invoke/VarHandle" ∧ (parseMethodDescriptor y.desc).map (fun d => d.parameters.length) = some n) (hR : rm.frames + 1 ≤ R.frames ∧ 8 + (maxL + 11) + rm.locals ≤ R.locals) : CallB R s args own index y bytes maxL ret ws rm mc ms n ∧ (Cond.static y).before args s = true :=
  ⟨callB_of n ht hG hw hrc hrs hini hl hd hR, hst⟩
-- a contract's proof from its walk; its ends
theorem gw_ofW {y : MethodName} {ws ws' : List Cond} {rm : Room} {av : List Value} {Qc : Array Value → State → Outcome → State → Prop} {mc ms : Nat} {cc : ByteArray} {maxL : Nat} {ret : Option FieldType} (hy : plainName y.cls = true) (hw : ws = Cond.code y cc maxL ret :: ws') (hlen : (lg_sl av).length ≤ maxL)
    (body : ∀ (p : Program) (e : Env) (s : State) (m : MethodId) (args : Array Value) (below : List Frame) (meth : Method) (c : Code), p.tables.exec = Jvm.exec → c.code = cc → meth.sig.returnType = ret → c.maxLocals = maxL → (∀ w ∈ ws, w.before args s = true) → s.vm.findClass y.cls = some m.cls → meth.locks = false → meth.name = y.name → gw_F E D cI cO cZ z0 s → gw_H E D M s s.heap [] → ∀ ls : Array Slot, lv_has ls maxL (lv_args 0 av) →
      W p l e rm s m args below meth c s.heap [] 0 0 (MQ below Qc args s mc ms (gw_A E)) (F0 m 0 ls [])) : Met l y ws rm (gw_Pc E D cI cO cZ z0 M av) Qc mc ms (gw_A E) := by
  refine Met.ofW (cc := cc) (maxL := maxL) (ret := ret) hy hw ?_
  intro p e s m args below meth c s₁ B hml hv
  obtain ⟨rfl, hF, hB⟩ := hv
  have hts := atoms_spec (ws := ws) B.pre
  have hown : s.vm.findClass y.cls = some m.cls := findClass_of_methodNamed B.named
  have hl := lv_entry av (n := maxL) hlen
  rw [lg_entry_eq]
  exact body p e s m _ below meth c B.exec B.bytes B.returns hml hts hown B.notSynchronized (name_of_methodNamed B.named B.method).1 hF ⟨hB.1, hB.2, va_S.rf⟩ _ hl
theorem gw_iret {post : Int32 → gM → Prop} {v : Int32} {mc ms : Nat} (hx : p.tables.exec = Jvm.exec) (hb : c.code = cc) (hr : meth.sig.returnType = some .int) (hlk : meth.locks = false) (hG : gw_H E D M s H locs) (hp : post v M) (hc : cells ≤ mc) (hs : slots ≤ ms) (hdg : decode cc pc = .ok (.ireturn, 1)) : W p l e R s m args below meth c H locs cells slots (MQ below (gw_Qi E D post) args s mc ms (gw_A E)) (F0 m pc ls [.int v]) :=
  W.widen hc hs (W.iret hx hb hr (fun t ht _ => ⟨⟨v, M, rfl, hp, ⟨by rw [ht]; exact hG.1, hG.2.1⟩⟩, hG.2.2.F ht⟩) hG.2.2.2.2 hdg hlk)
theorem gw_vret {post : gM → Prop} {mc ms : Nat} (hx : p.tables.exec = Jvm.exec) (hb : c.code = cc) (hr : meth.sig.returnType = none) (hlk : meth.locks = false) (hG : gw_H E D M s H locs) (hp : post M) (hc : cells ≤ mc) (hs : slots ≤ ms) (hdg : decode cc pc = .ok (.return_, 1)) : W p l e R s m args below meth c H locs cells slots (MQ below (gw_Qv E D post) args s mc ms (gw_A E)) (F0 m pc ls []) :=
  W.widen hc hs (W.vret hx hb hr (fun t ht _ => ⟨⟨M, rfl, hp, ⟨by rw [ht]; exact hG.1, hG.2.1⟩⟩, hG.2.2.F ht⟩) hG.2.2.2.2 hdg hlk)
theorem gw_aret {post : Option Nat → gM → Prop} {q : Nat} {mc ms : Nat} {rt : FieldType} (hx : p.tables.exec = Jvm.exec) (hb : c.code = cc) (hr : meth.sig.returnType = some rt) (hrt : (∃ n, rt = .object n) ∨ ∃ t, rt = .array t) (hlk : meth.locks = false) (hG : gw_H E D M s H locs) (hp : post (some q) M) (hc : cells ≤ mc) (hs : slots ≤ ms) (hdg : decode cc pc = .ok (.areturn, 1)) : W p l e R s m args below meth c H locs cells slots (MQ below (gw_Qq E D post) args s mc ms (gw_A E)) (F0 m pc ls [.ref q]) :=
  W.widen hc hs (W.aret hx hb hr hrt (Or.inr ⟨q, rfl⟩) (fun t ht _ => ⟨⟨some q, M, rfl, hp, ⟨by rw [ht]; exact hG.1, hG.2.1⟩⟩, hG.2.2.F ht⟩) hG.2.2.2.2 hdg hlk)
theorem gw_aretN {post : Option Nat → gM → Prop} {mc ms : Nat} {rt : FieldType} (hx : p.tables.exec = Jvm.exec) (hb : c.code = cc) (hr : meth.sig.returnType = some rt) (hrt : (∃ n, rt = .object n) ∨ ∃ t, rt = .array t) (hlk : meth.locks = false) (hG : gw_H E D M s H locs) (hp : post none M) (hc : cells ≤ mc) (hs : slots ≤ ms) (hdg : decode cc pc = .ok (.areturn, 1)) : W p l e R s m args below meth c H locs cells slots (MQ below (gw_Qq E D post) args s mc ms (gw_A E)) (F0 m pc ls [.null]) :=
  W.widen hc hs (W.aret hx hb hr hrt (Or.inl rfl) (fun t ht _ => ⟨⟨none, M, rfl, hp, ⟨by rw [ht]; exact hG.1, hG.2.1⟩⟩, hG.2.2.F ht⟩) hG.2.2.2.2 hdg hlk)
theorem gw_zret {post : Int32 → gM → Prop} {v : Int32} {mc ms : Nat} (hx : p.tables.exec = Jvm.exec) (hb : c.code = cc) (hr : meth.sig.returnType = some .boolean) (hlk : meth.locks = false) (hG : gw_H E D M s H locs) (hn : narrow .boolean (.int v) = .int v) (hp : post v M) (hc : cells ≤ mc) (hs : slots ≤ ms) (hdg : decode cc pc = .ok (.ireturn, 1)) : W p l e R s m args below meth c H locs cells slots (MQ below (gw_Qi E D post) args s mc ms (gw_A E)) (F0 m pc ls [.int v]) :=
  W.widen hc hs (W.zret hx hb hr hn (fun t ht _ => ⟨⟨v, M, rfl, hp, ⟨by rw [ht]; exact hG.1, hG.2.1⟩⟩, hG.2.2.F ht⟩) hG.2.2.2.2 hdg hlk)
theorem gw_dret {post : UInt64 → gM → Prop} {v : UInt64} {mc ms : Nat} (hx : p.tables.exec = Jvm.exec) (hb : c.code = cc) (hr : meth.sig.returnType = some .double) (hlk : meth.locks = false) (hG : gw_H E D M s H locs) (hp : post v M) (hc : cells ≤ mc) (hs : slots ≤ ms) (hdg : decode cc pc = .ok (.dreturn, 1)) : W p l e R s m args below meth c H locs cells slots (MQ below (gw_Qd E D post) args s mc ms (gw_A E)) (F0 m pc ls [.double v]) :=
  W.widen hc hs (W.dret hx hb hr (fun t ht _ => ⟨⟨v, M, rfl, hp, ⟨by rw [ht]; exact hG.1, hG.2.1⟩⟩, hG.2.2.F ht⟩) hG.2.2.2.2 hdg hlk)
theorem gw_objI (hx : p.tables.exec = Jvm.exec) (hb : c.code = cc) {own : String} (hown : s.vm.findClass own = some m.cls) {idx : Nat} (hml : c.maxLocals = ls.size) (hlink : (Cond.methodLink own idx Lib.objectInit).before args s = true) (hinst : (Cond.instanceMethod Lib.objectInit).before args s = true) (hcode : (Cond.code Lib.objectInit ⟨#[0xb1]⟩ 1 none).before args s = true) (hframes : 1 ≤ R.frames) (hlocals : (rest.map fun v => v.category).sum + 12 ≤ R.locals) (hdg : decode cc pc = .ok (.invokespecial idx, 3))
    (kk : W p l e R s m args below meth c H locs cells slots Q (F0 m (pc + 3) ls rest)) : W p l e R s m args below meth c H locs cells slots Q (F0 m pc ls (.ref a :: rest)) :=
  W.objInit hx hb hown hlink hinst hcode rfl hml.symm rfl hdg hframes (by simpa [JFrame.monitorRoom] using hlocals) kk
theorem gw_newQ (hx : p.tables.exec = Jvm.exec) (hb : c.code = cc) {own : String} {index : Nat} (hown : s.vm.findClass own = some m.cls) (hclink : (Cond.classLink own index "java/lang/Object").before args s = true) (hF : gw_F E D cI cO cZ z0 s) (hG : gw_H E D M s H locs) {n : Int32} {N : Nat} (hn : ¬ n < 0) (hN : n.toNatClampNeg = N) (hbytes : N * 4 ≤ 536870912) (hcells : cells + 1 ≤ R.cells) (hslots : slots + N ≤ R.slots) (hdg : decode cc pc = .ok (.anewarray index, 3))
    (kk : ∀ (q : Nat) (H1 : Heap), M q = none → gw_H E D (gw_up M q (.inl (cO, N, .inr (.inr (.inr (.inr (fun _ => none))))))) s H1 locs → W p l e R s m args below meth c H1 locs (cells + 1) (slots + N) Q (F0 m (pc + 3) ls (.ref q :: rest))) : W p l e R s m args below meth c H locs cells slots Q (F0 m pc ls (.int n :: rest)) := by
  obtain ⟨ws, hP, hD, hm⟩ := gw_list hG.1 hG.2.1
  refine va_newq (N' := N) hx hb hown hclink hF.2.2.2.2.2.2.2.1 hF.1 hP hD hG.2.2 (gw_AE hF.2.1) hn hN hbytes hcells hslots hdg (fun q cA H1 h0 h1 h2 h3 => ?_)
  obtain ⟨kA, comp, -, -, -, e1⟩ := (h0.2 3 (cA, .object "java/lang/Object") rfl).2
  obtain ⟨kA2, comp2, -, -, -, e2⟩ := (hF.1.2 1 (cO, .object "java/lang/Object") rfl).2
  cases e1.symm.trans e2
  obtain ⟨g1, g2, g3⟩ := gw_app hm h1 h2
  exact kk q H1 g3 ⟨g1, g2, h3⟩
theorem gw_two {M : gM} {H : Heap} {a b : Nat} {e f : va_E} (hP : gw_P D M H) (hE : gw_E E M) (ha : M a = some e) (hb : M b = some f) : ∃ (ws : va_W) (i j : Nat), va_P D classes ws H ∧ va_D (gw_A E) ws ∧ (∀ (a : Nat) (e : va_E), M a = some e ↔ ∃ i : Nat, ws[i]? = some (a, e)) ∧ ws[i]? = some (a, e) ∧ ws[j]? = some (b, f) := by
  obtain ⟨ws, h1, h2, h3⟩ := gw_list hP hE
  obtain ⟨i, hi⟩ := (h3 a e).mp ha
  obtain ⟨j, hj⟩ := (h3 b f).mp hb
  exact ⟨ws, i, j, h1, h2, h3, hi, hj⟩
/-- an object of ours into an array of Objects -/
theorem gw_astq (hx : p.tables.exec = Jvm.exec) (hb : c.code = cc) (hF : gw_F E D cI cO cZ z0 s) (hG : gw_H E D M s H locs) {n v ci : Nat} {r : vw_C} {vs : List Value} {f : Nat → Option Nat} (he : M a = some (.inl (cO, n, .inr (.inr (.inr (.inr f)))))) (hv : M v = some (.inr (ci, vs))) (hc : classes[ci]? = some r) (hca : va_Nw (.castable r.1 "java/lang/Object") s) {i : Int32} (hin : vp_in i n) (hdg : decode cc pc = .ok (.aastore, 1))
    (kk : ∀ (H1 : Heap) (locs1 : List Loc), gw_H E D (gw_up M a (.inl (cO, n, .inr (.inr (.inr (.inr (va_up f i.toNatClampNeg (some v)))))))) s H1 locs1 → W p l e R s m args below meth c H1 locs1 cells slots Q (F0 m (pc + 1) ls rest)) : W p l e R s m args below meth c H locs cells slots Q (F0 m pc ls (.ref v :: .int i :: .ref a :: rest)) := by
  obtain ⟨ws, i0, j0, hP, hD, hm, hi, hj⟩ := gw_two hG.1 hG.2.1 he hv
  exact va_astqO hx hb hF.1 hP hD hG.2.2 i0 1 j0 ci hi rfl hca hj hc hin hdg (fun H1 locs1 h1 _ h3 => kk H1 locs1 ⟨gw_set (E := E) (H := H) hm hi h1, gw_setE hG.2.1 he, h3⟩)
/-- System.arraycopy within one array of Objects, whose elements are of one class of ours -/
theorem gw_copyq (hx : p.tables.exec = Jvm.exec) (hb : c.code = cc) (hml : c.maxLocals = ls.size) {own : String} {index : Nat} (hown : s.vm.findClass own = some m.cls) (hlink : (Cond.methodLink own index arraycopyName).before args s = true) (hnat : (Cond.native arraycopyName).before args s = true) (hstat : (Cond.static arraycopyName).before args s = true) (hini : (Cond.initialized "java/lang/System").before args s = true)
    (hF : gw_F E D cI cO cZ z0 s) (hG : gw_H E D M s H locs) {n ci : Nat} {r : vw_C} {f : Nat → Option Nat} (he : M a = some (.inl (cO, n, .inr (.inr (.inr (.inr f)))))) (hc : classes[ci]? = some r) (hca : va_Nw (.castable r.1 "java/lang/Object") s)
    {sp dp k : Int32} (h1 : ¬ sp < 0) (h2 : ¬ dp < 0) (h3 : ¬ k < 0) (h4 : sp.toNatClampNeg + k.toNatClampNeg ≤ n) (h5 : dp.toNatClampNeg + k.toNatClampNeg ≤ n) (hel : ∀ i : Nat, i < k.toNatClampNeg → ∀ y : Nat, f (sp.toNatClampNeg + i) = some y → ∃ fs : List Value, M y = some (.inr (ci, fs)))
    (hframes : 1 ≤ R.frames) (hlocals : (rest.map fun v => v.category).sum + (nativeFrameWords "java/lang/System" "arraycopy" 5 + 11) ≤ R.locals) (hdg : decode cc pc = .ok (.invokestatic index, 3))
    (kk : ∀ (H1 : Heap) (locs1 : List Loc), gw_H E D (gw_up M a (.inl (cO, n, .inr (.inr (.inr (.inr (va_cpy f f sp.toNatClampNeg dp.toNatClampNeg k.toNatClampNeg))))))) s H1 locs1 → W p l e R s m args below meth c H1 locs1 cells slots Q (F0 m (pc + 3) ls rest)) : W p l e R s m args below meth c H locs cells slots Q (F0 m pc ls (.int k :: .int dp :: .ref a :: .int sp :: .ref a :: rest)) := by
  obtain ⟨ws, hP, hD, hm⟩ := gw_list hG.1 hG.2.1
  obtain ⟨i0, hi⟩ := (hm a _).mp he
  refine va_copyq (C := r.1) hx hb hml hown hlink hnat hstat hini hF.1 hP hD hG.2.2 i0 i0 1 1 hi hi rfl rfl h1 h2 h3 h4 h5 ?_ ?_ hframes hlocals hdg (fun H1 locs1 h1 _ h3 => kk H1 locs1 ⟨gw_set (E := E) (H := H) hm hi h1, gw_setE hG.2.1 he, h3⟩)
  · intro i hik y hy
    obtain ⟨fs, hfs⟩ := hel i hik y hy
    exact gw_recv hF hG hc hfs
  · intro comp c0 k1 k2
    obtain ⟨c1, t1, f1, f2, f3⟩ := Cond.castable_spec (va_Nw.use (A := #[]) rfl hca)
    cases f1.symm.trans k2
    cases f2.symm.trans k1
    exact f3
theorem gw_cast (hx : p.tables.exec = Jvm.exec) (hb : c.code = cc) {own : String} {index ci : Nat} {r : vw_C} {fs : List Value} (hown : s.vm.findClass own = some m.cls) (hlink : (Cond.classLink own index r.1).before args s = true) (hF : gw_F E D cI cO cZ z0 s) (hG : gw_H E D M s H locs) (hc : classes[ci]? = some r) (he : M a = some (.inr (ci, fs))) (hdg : decode cc pc = .ok (.checkcast index, 3))
    (kk : W p l e R s m args below meth c H locs cells slots Q (F0 m (pc + 3) ls (.ref a :: rest))) : W p l e R s m args below meth c H locs cells slots Q (F0 m pc ls (.ref a :: rest)) :=
  va_castS hx hb hown hlink (hF.1.1 ci r hc).2 (gw_recv hF hG hc he) hdg kk
end GC
