/-! One world for the whole heap above the law's entry: a map from addresses to cells. -/
abbrev gM : Type := Nat → Option va_E
def gw_up (M : gM) (a : Nat) (e : va_E) : gM := fun j => if j = a then some e else M j
theorem gw_hit {M : gM} {a : Nat} {e : va_E} : gw_up M a e a = some e := if_pos rfl
theorem gw_miss {M : gM} {a b : Nat} {e : va_E} (h : b ≠ a) : gw_up M a e b = M b := if_neg h
theorem gw_ne {M : gM} {a b : Nat} {e f : va_E} (h1 : M a = some e) (h2 : M b = some f) (h : e ≠ f) : a ≠ b := fun z => h (by rw [z, h2] at h1; exact (Option.some.inj h1).symm)
theorem gw_neO {M : gM} {a b i j : Nat} {x y : List Value} (h1 : M a = some (.inr (i, x))) (h2 : M b = some (.inr (j, y))) (h : i ≠ j) : a ≠ b := gw_ne h1 h2 (fun z => h (by injection z with z; injection z))
theorem gw_neA {M : gM} {a b j : Nat} {x : ClassId × vp_A} {y : List Value} (h1 : M a = some (.inl x)) (h2 : M b = some (.inr (j, y))) : a ≠ b := gw_ne h1 h2 (fun z => by injection z)
theorem gw_neF {M : gM} {a b : Nat} {e : va_E} (h1 : M a = none) (h2 : M b = some e) : b ≠ a := fun z => by rw [z, h1] at h2; cases h2
theorem gw_same {M : gM} {a : Nat} {e : va_E} (h : M a = some e) : gw_up M a e = M := by
  funext j
  by_cases hj : j = a
  · subst hj; rw [gw_hit, h]
  · rw [gw_miss hj]
theorem gw_twice {M : gM} {a : Nat} {e f : va_E} : gw_up (gw_up M a e) a f = gw_up M a f := by
  funext j
  by_cases hj : j = a
  · subst hj; rw [gw_hit, gw_hit]
  · rw [gw_miss hj, gw_miss hj, gw_miss hj]
def gw_P (D : va_G) (M : gM) (H : Heap) : Prop := ∀ (a : Nat) (e : va_E), M a = some e → va_at D classes (a, e) H
def gw_E (E : Nat) (M : gM) : Prop := ∀ (a : Nat) (e : va_E), M a = some e → E ≤ a
abbrev gw_A (E : Nat) : Nat → Prop := fun q => E ≤ q
abbrev gw_ty (cI cO cZ : ClassId) : List (ClassId × FieldType) := [(cI, .int), (cO, .object "java/lang/Object"), (cZ, .boolean)]
/-- the world over the heap, in a walk -/
def gw_H (E : Nat) (D : va_G) (M : gM) (s : State) (H : Heap) (locs : List Loc) : Prop := gw_P D M H ∧ gw_E E M ∧ va_S (gw_A E) s.heap H locs
def gw_B (E : Nat) (D : va_G) (M : gM) (t : State) : Prop := gw_P D M t.heap ∧ gw_E E M
theorem gw_nm {E : Nat} {D : va_G} {X Y : gM} {s : State} {H : Heap} {locs : List Loc} (h0 : X = Y) (h : gw_H E D Y s H locs) : gw_H E D X s H locs := by rw [h0]; exact h
theorem gw_list {E : Nat} {D : va_G} {M : gM} {H : Heap} (hP : gw_P D M H) (hE : gw_E E M) : ∃ ws : va_W, va_P D classes ws H ∧ va_D (gw_A E) ws ∧ ∀ (a : Nat) (e : va_E), M a = some e ↔ ∃ i : Nat, ws[i]? = some (a, e) := by
  have hmem : ∀ (a : Nat) (e : va_E), M a = some e ↔ (a, e) ∈ (List.range H.size).filterMap (fun a => (M a).map (fun e => (a, e))) := by
    intro a e
    rw [List.mem_filterMap]
    constructor
    · intro h
      exact ⟨a, List.mem_range.mpr (hP a e h).lt, by rw [h]; rfl⟩
    · rintro ⟨b, -, hb⟩
      cases hM : M b with
      | none => rw [hM] at hb; cases hb
      | some f => rw [hM] at hb; cases hb; exact hM
  have hpw : ((List.range H.size).filterMap (fun a => (M a).map (fun e => (a, e)))).Pairwise (fun p q => p.1 < q.1) := by
    rw [List.pairwise_filterMap]
    refine List.pairwise_lt_range.imp ?_
    intro a b hab p hp q hq
    cases hMa : M a with
    | none => rw [hMa] at hp; cases hp
    | some f =>
      cases hMb : M b with
      | none => rw [hMb] at hq; cases hq
      | some g => rw [hMa] at hp; rw [hMb] at hq; cases hp; cases hq; exact hab
  refine ⟨_, fun k q hk => ?_, ⟨fun i j p q hi hj hpq => ?_, fun k q hk => ?_⟩, fun a e => (hmem a e).trans List.mem_iff_getElem?⟩
  · obtain ⟨a, e⟩ := q
    exact hP a e ((hmem a e).mpr (List.mem_of_getElem? hk))
  · obtain ⟨li, ei⟩ := List.getElem?_eq_some_iff.mp hi
    obtain ⟨lj, ej⟩ := List.getElem?_eq_some_iff.mp hj
    rcases Nat.lt_trichotomy i j with h | h | h
    · have := List.pairwise_iff_getElem.mp hpw i j li lj h
      rw [ei, ej] at this
      omega
    · exact h
    · have := List.pairwise_iff_getElem.mp hpw j i lj li h
      rw [ei, ej] at this
      omega
  · obtain ⟨a, e⟩ := q
    exact hE a e ((hmem a e).mpr (List.mem_of_getElem? hk))
theorem gw_one {E : Nat} {D : va_G} {M : gM} {s : State} {H : Heap} {locs : List Loc} (h : gw_H E D M s H locs) {a : Nat} {e : va_E} (he : M a = some e) : va_P D classes [(a, e)] H := by
  intro k q hk
  cases k with
  | zero => cases hk; exact h.1 a e he
  | succ k => simp at hk
theorem gw_set {E : Nat} {D : va_G} {M : gM} {H H1 : Heap} {ws : va_W} {i a : Nat} {e e' : va_E} (hm : ∀ (a : Nat) (e : va_E), M a = some e ↔ ∃ i : Nat, ws[i]? = some (a, e)) (hi : ws[i]? = some (a, e)) (hP : va_P D classes (ws.set i (a, e')) H1) : gw_P D (gw_up M a e') H1 := by
  have hl := (List.getElem?_eq_some_iff.mp hi).1
  intro b f hb
  by_cases hba : b = a
  · subst hba
    rw [gw_hit] at hb
    cases hb
    exact hP i _ (List.getElem?_set_self hl)
  · rw [gw_miss hba] at hb
    obtain ⟨j, hj⟩ := (hm b f).mp hb
    refine hP j (b, f) ?_
    rw [List.getElem?_set_ne ?_]
    · exact hj
    · intro hij
      subst hij
      rw [hi] at hj
      cases hj
      exact hba rfl
theorem gw_setE {E : Nat} {M : gM} {a : Nat} {e e' : va_E} (hE : gw_E E M) (h : M a = some e) : gw_E E (gw_up M a e') := by
  intro b f hb
  by_cases hba : b = a
  · subst hba; exact hE b e h
  · rw [gw_miss hba] at hb; exact hE b f hb
theorem gw_app {E : Nat} {D : va_G} {M : gM} {H1 : Heap} {ws : va_W} {q : Nat} {e : va_E} (hm : ∀ (a : Nat) (e : va_E), M a = some e ↔ ∃ i : Nat, ws[i]? = some (a, e)) (hP : va_P D classes (ws ++ [(q, e)]) H1) (hD : va_D (gw_A E) (ws ++ [(q, e)])) : gw_P D (gw_up M q e) H1 ∧ gw_E E (gw_up M q e) ∧ M q = none := by
  have hlast : (ws ++ [(q, e)])[ws.length]? = some (q, e) := by simp
  have hold : ∀ (b : Nat) (f : va_E), M b = some f → ∃ j, j < ws.length ∧ (ws ++ [(q, e)])[j]? = some (b, f) := by
    intro b f hb
    obtain ⟨j, hj⟩ := (hm b f).mp hb
    have hl := (List.getElem?_eq_some_iff.mp hj).1
    exact ⟨j, hl, by rw [List.getElem?_append_left hl]; exact hj⟩
  refine ⟨fun b f hb => ?_, fun b f hb => ?_, ?_⟩
  · by_cases hba : b = q
    · subst hba; rw [gw_hit] at hb; cases hb; exact hP _ _ hlast
    · rw [gw_miss hba] at hb
      obtain ⟨j, -, hj⟩ := hold b f hb
      exact hP j _ hj
  · by_cases hba : b = q
    · subst hba; exact hD.2 _ _ hlast
    · rw [gw_miss hba] at hb
      obtain ⟨j, -, hj⟩ := hold b f hb
      exact hD.2 j _ hj
  · cases hq : M q with
    | none => rfl
    | some f =>
      obtain ⟨j, hl, hj⟩ := hold q f hq
      have := hD.1 j ws.length _ _ hj hlast rfl
      omega
section GW
variable {p : Program} {l : Launch} {e : Env} {R : Room} {s : State} {m : MethodId} {args : Array Value} {below : List Frame} {meth : Method} {c : Code} {H : Heap} {locs : List Loc} {cells slots : Nat} {Q : State → Prop}
variable {cc : ByteArray} {pc : Nat} {ls : Array Slot} {rest : List Value} {D : va_G} {a : Nat} {E : Nat} {M : gM} {cI cO cZ : ClassId}
theorem gw_get (hx : p.tables.exec = Jvm.exec) (hb : c.code = cc) {own ref C : String} {T : u_T} {N ci index : Nat} {Ts : List Cond} (hts : ∀ w ∈ Ts, w.before args s = true) (hin : ∀ w ∈ u_ws C T N, w ∈ Ts) (hown : s.vm.findClass own = some m.cls) (hK : va_K D classes (gw_ty cI cO cZ) s) (hG : gw_H E D M s H locs) {fs : List Value} (he : M a = some (.inr (ci, fs))) (hc : classes[ci]? = some (C, T, N)) (k : Nat) (hk : k < N) (hlink : (Cond.fieldLink own index ref (T k).2.1 (T k).2.2.1).before args s = true) (hsame : ∀ x, s.fieldFound? (T k).1 (T k).2.1 (T k).2.2.1 = some x → s.fieldFound? ref (T k).2.1 (T k).2.2.1 = some x) {v : Value} (hv : fs[k]? = some v) (hdg : decode cc pc = .ok (.getfield index, 3))
    (kk : W p l e R s m args below meth c H locs cells slots Q (F0 m (pc + 3) ls (v :: rest))) : W p l e R s m args below meth c H locs cells slots Q (F0 m pc ls (.ref a :: rest)) :=
  va_get hx hb hts hin hown hK (gw_one hG he) 0 rfl hc k hk hlink hsame hv hdg kk
theorem gw_put (hx : p.tables.exec = Jvm.exec) (hb : c.code = cc) {own ref C : String} {T : u_T} {N ci index : Nat} {Ts : List Cond} (hts : ∀ w ∈ Ts, w.before args s = true) (hin : ∀ w ∈ u_ws C T N, w ∈ Ts) (ty0 : Nat → FieldType) (hty : ∀ k, k < N → parseFieldDescriptor (T k).2.2.1 = some (ty0 k)) (hnm : ∀ a, a < N → ∀ b, b < N → a ≠ b → (T a).2.1 ≠ (T b).2.1) (hown : s.vm.findClass own = some m.cls) (hK : va_K D classes (gw_ty cI cO cZ) s) (hG : gw_H E D M s H locs) {fs : List Value} (he : M a = some (.inr (ci, fs))) (hc : classes[ci]? = some (C, T, N)) (k : Nat) (hk : k < N) (hlink : (Cond.fieldLink own index ref (T k).2.1 (T k).2.2.1).before args s = true) (hsame : ∀ x, s.fieldFound? (T k).1 (T k).2.1 (T k).2.2.1 = some x → s.fieldFound? ref (T k).2.1 (T k).2.2.1 = some x) (hfin : (T k).2.2.2 = false) {v : Value} (hn : narrow (ty0 k) v = v) (hfit : fits (ty0 k) v = true) (hl : k < fs.length) (hdg : decode cc pc = .ok (.putfield index, 3))
    (kk : ∀ (H1 : Heap) (locs1 : List Loc), gw_H E D (gw_up M a (.inr (ci, fs.set k v))) s H1 locs1 → W p l e R s m args below meth c H1 locs1 cells slots Q (F0 m (pc + 3) ls rest)) : W p l e R s m args below meth c H locs cells slots Q (F0 m pc ls (v :: .ref a :: rest)) := by
  obtain ⟨ws, hP, hD, hm⟩ := gw_list hG.1 hG.2.1
  obtain ⟨i, hi⟩ := (hm a _).mp he
  exact va_put hx hb hts hin ty0 hty hnm hown hK hP hD hG.2.2 i hi hc k hk hlink hsame hfin (hty k hk) hn hfit hl hdg (fun H1 locs1 h1 _ h3 => kk H1 locs1 ⟨gw_set (E := E) (H := H) hm hi h1, gw_setE hG.2.1 he, h3⟩)
theorem gw_putF (hx : p.tables.exec = Jvm.exec) (hb : c.code = cc) {own ref C : String} {T : u_T} {N ci index : Nat} {Ts : List Cond} (hts : ∀ w ∈ Ts, w.before args s = true) (hin : ∀ w ∈ u_ws C T N, w ∈ Ts) (ty0 : Nat → FieldType) (hty : ∀ k, k < N → parseFieldDescriptor (T k).2.2.1 = some (ty0 k)) (hnm : ∀ a, a < N → ∀ b, b < N → a ≠ b → (T a).2.1 ≠ (T b).2.1) (hown : s.vm.findClass own = some m.cls) (hK : va_K D classes (gw_ty cI cO cZ) s) (hG : gw_H E D M s H locs) {fs : List Value} (he : M a = some (.inr (ci, fs))) (hc : classes[ci]? = some (C, T, N)) (k : Nat) (hk : k < N) (hlink : (Cond.fieldLink own index ref (T k).2.1 (T k).2.2.1).before args s = true) (hsame : ∀ x, s.fieldFound? (T k).1 (T k).2.1 (T k).2.2.1 = some x → s.fieldFound? ref (T k).2.1 (T k).2.2.1 = some x) (hfin : (T k).2.2.2 = true) (hin2 : meth.name = "<init>") (hdecl : (T k).1 = own) {v : Value} (hn : narrow (ty0 k) v = v) (hfit : fits (ty0 k) v = true) (hl : k < fs.length) (hdg : decode cc pc = .ok (.putfield index, 3))
    (kk : ∀ (H1 : Heap) (locs1 : List Loc), gw_H E D (gw_up M a (.inr (ci, fs.set k v))) s H1 locs1 → W p l e R s m args below meth c H1 locs1 cells slots Q (F0 m (pc + 3) ls rest)) : W p l e R s m args below meth c H locs cells slots Q (F0 m pc ls (v :: .ref a :: rest)) := by
  obtain ⟨ws, hP, hD, hm⟩ := gw_list hG.1 hG.2.1
  obtain ⟨i, hi⟩ := (hm a _).mp he
  exact va_putF hx hb hts hin ty0 hty hnm hown hK hP hD hG.2.2 i hi hc k hk hlink hsame hfin hin2 hdecl (hty k hk) hn hfit hl hdg (fun H1 locs1 h1 _ h3 => kk H1 locs1 ⟨gw_set (E := E) (H := H) hm hi h1, gw_setE hG.2.1 he, h3⟩)
theorem gw_AE {E : Nat} {s : State} (hE : E ≤ s.heap.size) : ∀ q, s.heap.size ≤ q → gw_A E q := fun _ h => Nat.le_trans hE h
theorem gw_new (hx : p.tables.exec = Jvm.exec) (hb : c.code = cc) {own C : String} {T : u_T} {N ci index : Nat} {Ts : List Cond} (hts : ∀ w ∈ Ts, w.before args s = true) (hin : ∀ w ∈ u_ws C T N, w ∈ Ts) (ty : Nat → FieldType) (hty : ∀ k, k < N → parseFieldDescriptor (T k).2.2.1 = some (ty k)) (hown : s.vm.findClass own = some m.cls) (hcl : (Cond.classLink own index C).before args s = true) (hinst : (Cond.instantiable C N).before args s = true) (hini : (Cond.initialized C).before args s = true)
    (hK : va_K D classes (gw_ty cI cO cZ) s) (hE : E ≤ s.heap.size) (hG : gw_H E D M s H locs) (hc : classes[ci]? = some (C, T, N)) {fs : List Value} (hfs : ∀ j, j < N → defaultValue (ty j) = vp_V fs j) (hcells : cells + 1 ≤ R.cells) (hslots : slots + N ≤ R.slots) (hdg : decode cc pc = .ok (.new index, 3))
    (kk : ∀ (q : Nat) (H1 : Heap), M q = none → gw_H E D (gw_up M q (.inr (ci, fs))) s H1 locs → W p l e R s m args below meth c H1 locs (cells + 1) (slots + N) Q (F0 m (pc + 3) ls (.ref q :: rest))) : W p l e R s m args below meth c H locs cells slots Q (F0 m pc ls rest) := by
  obtain ⟨ws, hP, hD, hm⟩ := gw_list hG.1 hG.2.1
  refine va_new hx hb hts hin ty hty hown hcl hinst hini hK hP hD hG.2.2 (gw_AE hE) hc hfs hcells hslots hdg (fun q H1 h1 h2 h3 => ?_)
  obtain ⟨g1, g2, g3⟩ := gw_app hm h1 h2
  exact kk q H1 g3 ⟨g1, g2, h3⟩
theorem gw_newI (hx : p.tables.exec = Jvm.exec) (hb : c.code = cc) (harr : (Cond.arrayClass .int).before args s = true) (hK : va_K D classes (gw_ty cI cO cZ) s) (hE : E ≤ s.heap.size) (hG : gw_H E D M s H locs) {n : Int32} {N : Nat} (hn : ¬ n < 0) (hN : n.toNatClampNeg = N) (hbytes : N * 4 ≤ 536870912) (hcells : cells + 1 ≤ R.cells) (hslots : slots + N ≤ R.slots) (hdg : decode cc pc = .ok (.newarray .int, 2))
    (kk : ∀ (q : Nat) (H1 : Heap), M q = none → gw_H E D (gw_up M q (.inl (cI, N, .inl (fun _ => 0)))) s H1 locs → W p l e R s m args below meth c H1 locs (cells + 1) (slots + N) Q (F0 m (pc + 2) ls (.ref q :: rest))) : W p l e R s m args below meth c H locs cells slots Q (F0 m pc ls (.int n :: rest)) := by
  obtain ⟨ws, hP, hD, hm⟩ := gw_list hG.1 hG.2.1
  refine va_newa (atype := .int) (ty := .int) (a0 := (N, .inl (fun _ => 0))) (N' := N) hx hb harr rfl hK hP hD hG.2.2 (gw_AE hE) (fun _ => rfl) hn hN hbytes hcells hslots hdg (fun q cA H1 h0 h1 h2 h3 => ?_)
  have e1 : s.vm.findClass ("[" ++ FieldType.int.toString) = some cA := (h0.2 3 (cA, .int) rfl).2
  have e2 : s.vm.findClass ("[" ++ FieldType.int.toString) = some cI := (hK.2 0 (cI, .int) rfl).2
  cases e1.symm.trans e2
  obtain ⟨g1, g2, g3⟩ := gw_app hm h1 h2
  exact kk q H1 g3 ⟨g1, g2, h3⟩
theorem gw_newZ (hx : p.tables.exec = Jvm.exec) (hb : c.code = cc) (harr : (Cond.arrayClass .boolean).before args s = true) (hK : va_K D classes (gw_ty cI cO cZ) s) (hE : E ≤ s.heap.size) (hG : gw_H E D M s H locs) {n : Int32} {N : Nat} (hn : ¬ n < 0) (hN : n.toNatClampNeg = N) (hbytes : N * 1 ≤ 536870912) (hcells : cells + 1 ≤ R.cells) (hslots : slots + N ≤ R.slots) (hdg : decode cc pc = .ok (.newarray .boolean, 2))
    (kk : ∀ (q : Nat) (H1 : Heap), M q = none → gw_H E D (gw_up M q (.inl (cZ, N, .inl (fun _ => 0)))) s H1 locs → W p l e R s m args below meth c H1 locs (cells + 1) (slots + N) Q (F0 m (pc + 2) ls (.ref q :: rest))) : W p l e R s m args below meth c H locs cells slots Q (F0 m pc ls (.int n :: rest)) := by
  obtain ⟨ws, hP, hD, hm⟩ := gw_list hG.1 hG.2.1
  refine va_newa (atype := .boolean) (ty := .boolean) (a0 := (N, .inl (fun _ => 0))) (N' := N) hx hb harr rfl hK hP hD hG.2.2 (gw_AE hE) (fun _ => rfl) hn hN hbytes hcells hslots hdg (fun q cA H1 h0 h1 h2 h3 => ?_)
  have e1 : s.vm.findClass ("[" ++ FieldType.boolean.toString) = some cA := (h0.2 3 (cA, .boolean) rfl).2
  have e2 : s.vm.findClass ("[" ++ FieldType.boolean.toString) = some cZ := (hK.2 2 (cZ, .boolean) rfl).2
  cases e1.symm.trans e2
  obtain ⟨g1, g2, g3⟩ := gw_app hm h1 h2
  exact kk q H1 g3 ⟨g1, g2, h3⟩
theorem gw_iald (hx : p.tables.exec = Jvm.exec) (hb : c.code = cc) (hK : va_K D classes (gw_ty cI cO cZ) s) (hG : gw_H E D M s H locs) {n : Nat} {f : Nat → Int32} (he : M a = some (.inl (cI, n, .inl f))) {i : Int32} (hin : vp_in i n) (hdg : decode cc pc = .ok (.iaload, 1))
    (kk : W p l e R s m args below meth c H locs cells slots Q (F0 m (pc + 1) ls (.int (f i.toNatClampNeg) :: rest))) : W p l e R s m args below meth c H locs cells slots Q (F0 m pc ls (.int i :: .ref a :: rest)) :=
  va_iald hx hb hK (gw_one hG he) 0 0 rfl rfl hin hdg kk
theorem gw_iast (hx : p.tables.exec = Jvm.exec) (hb : c.code = cc) (hK : va_K D classes (gw_ty cI cO cZ) s) (hG : gw_H E D M s H locs) {n : Nat} {f : Nat → Int32} (he : M a = some (.inl (cI, n, .inl f))) {i x : Int32} (hin : vp_in i n) (hdg : decode cc pc = .ok (.iastore, 1))
    (kk : ∀ (H1 : Heap) (locs1 : List Loc), gw_H E D (gw_up M a (.inl (cI, n, .inl (upd f i.toNatClampNeg x)))) s H1 locs1 → W p l e R s m args below meth c H1 locs1 cells slots Q (F0 m (pc + 1) ls rest)) : W p l e R s m args below meth c H locs cells slots Q (F0 m pc ls (.int x :: .int i :: .ref a :: rest)) := by
  obtain ⟨ws, hP, hD, hm⟩ := gw_list hG.1 hG.2.1
  obtain ⟨i0, hi⟩ := (hm a _).mp he
  exact va_iast hx hb hK hP hD hG.2.2 i0 0 hi rfl hin hdg (fun H1 locs1 h1 _ h3 => kk H1 locs1 ⟨gw_set (E := E) (H := H) hm hi h1, gw_setE hG.2.1 he, h3⟩)
theorem gw_aldq (hx : p.tables.exec = Jvm.exec) (hb : c.code = cc) (hK : va_K D classes (gw_ty cI cO cZ) s) (hG : gw_H E D M s H locs) {n : Nat} {f : Nat → Option Nat} (he : M a = some (.inl (cO, n, .inr (.inr (.inr (.inr f)))))) {i : Int32} (hin : vp_in i n) (hdg : decode cc pc = .ok (.aaload, 1))
    (kk : W p l e R s m args below meth c H locs cells slots Q (F0 m (pc + 1) ls (va_rf (f i.toNatClampNeg) :: rest))) : W p l e R s m args below meth c H locs cells slots Q (F0 m pc ls (.int i :: .ref a :: rest)) :=
  va_aldq hx hb hK (gw_one hG he) 0 1 rfl rfl hin hdg kk
theorem gw_astqN (hx : p.tables.exec = Jvm.exec) (hb : c.code = cc) (hK : va_K D classes (gw_ty cI cO cZ) s) (hG : gw_H E D M s H locs) {n : Nat} {f : Nat → Option Nat} (he : M a = some (.inl (cO, n, .inr (.inr (.inr (.inr f)))))) {i : Int32} (hin : vp_in i n) (hdg : decode cc pc = .ok (.aastore, 1))
    (kk : ∀ (H1 : Heap) (locs1 : List Loc), gw_H E D (gw_up M a (.inl (cO, n, .inr (.inr (.inr (.inr (va_up f i.toNatClampNeg none))))))) s H1 locs1 → W p l e R s m args below meth c H1 locs1 cells slots Q (F0 m (pc + 1) ls rest)) : W p l e R s m args below meth c H locs cells slots Q (F0 m pc ls (.null :: .int i :: .ref a :: rest)) := by
  obtain ⟨ws, hP, hD, hm⟩ := gw_list hG.1 hG.2.1
  obtain ⟨i0, hi⟩ := (hm a _).mp he
  exact va_astqN hx hb hK hP hD hG.2.2 i0 1 hi rfl hin hdg (fun H1 locs1 h1 _ h3 => kk H1 locs1 ⟨gw_set (E := E) (H := H) hm hi h1, gw_setE hG.2.1 he, h3⟩)
theorem gw_alen (hx : p.tables.exec = Jvm.exec) (hb : c.code = cc) (hK : va_K D classes (gw_ty cI cO cZ) s) (hG : gw_H E D M s H locs) (t0 : Nat) {cA : ClassId} {x : vp_A} (he : M a = some (.inl (cA, x))) {ty : FieldType} (ht : (gw_ty cI cO cZ)[t0]? = some (cA, ty)) {v : Int32} (hv : Int32.ofNat x.1 = v) (hdg : decode cc pc = .ok (.arraylength, 1))
    (kk : W p l e R s m args below meth c H locs cells slots Q (F0 m (pc + 1) ls (.int v :: rest))) : W p l e R s m args below meth c H locs cells slots Q (F0 m pc ls (.ref a :: rest)) :=
  va_alen hx hb hK (gw_one hG he) 0 t0 rfl ht hv hdg kk
end GW
