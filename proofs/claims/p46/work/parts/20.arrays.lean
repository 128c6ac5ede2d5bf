/-! the law's six arrays: habits, errors, fatigues, hurts, losses, gang -/
def gw_a6 (cI : ClassId) (Y : gM) (A : Nat → Nat) (n : Nat) (fb fe ff fu fl fg : Nat → Int32) : Prop := Y (A 0) = some (.inl (cI, n, .inl fb)) ∧ Y (A 1) = some (.inl (cI, n, .inl fe)) ∧ Y (A 2) = some (.inl (cI, n, .inl ff)) ∧ Y (A 3) = some (.inl (cI, n, .inl fu)) ∧ Y (A 4) = some (.inl (cI, n, .inl fl)) ∧ Y (A 5) = some (.inl (cI, 8, .inl fg))
def gw_ap (A : Nat → Nat) : Prop := ∀ i j, i < 6 → j < 6 → A i = A j → i = j
theorem gw_ap.ne {A : Nat → Nat} (h : gw_ap A) {i j : Nat} (hi : i < 6) (hj : j < 6) (n : i ≠ j) : A i ≠ A j := fun z => n (h i j hi hj z)
theorem gw_a6.miss {cI : ClassId} {Y : gM} {A : Nat → Nat} {n : Nat} {fb fe ff fu fl fg : Nat → Int32} (h : gw_a6 cI Y A n fb fe ff fu fl fg) {a : Nat} {e : va_E} (ha : ∀ k, k < 6 → A k ≠ a) : gw_a6 cI (gw_up Y a e) A n fb fe ff fu fl fg :=
  ⟨(gw_miss (ha 0 (by decide))).trans h.1, (gw_miss (ha 1 (by decide))).trans h.2.1, (gw_miss (ha 2 (by decide))).trans h.2.2.1, (gw_miss (ha 3 (by decide))).trans h.2.2.2.1, (gw_miss (ha 4 (by decide))).trans h.2.2.2.2.1, (gw_miss (ha 5 (by decide))).trans h.2.2.2.2.2⟩
theorem gw_a6.apart {cI : ClassId} {Y : gM} {A : Nat → Nat} {n : Nat} {fb fe ff fu fl fg : Nat → Int32} (h : gw_a6 cI Y A n fb fe ff fu fl fg) {q : Nat} (hq : Y q = none) : ∀ k, k < 6 → A k ≠ q := by
  intro k hk
  rcases (show k = 0 ∨ k = 1 ∨ k = 2 ∨ k = 3 ∨ k = 4 ∨ k = 5 by omega) with rfl | rfl | rfl | rfl | rfl | rfl
  · exact gw_neF hq h.1
  · exact gw_neF hq h.2.1
  · exact gw_neF hq h.2.2.1
  · exact gw_neF hq h.2.2.2.1
  · exact gw_neF hq h.2.2.2.2.1
  · exact gw_neF hq h.2.2.2.2.2
theorem gw_a6.s1 {cI : ClassId} {Y : gM} {A : Nat → Nat} {n : Nat} {fb fe ff fu fl fg f' : Nat → Int32} (h : gw_a6 cI Y A n fb fe ff fu fl fg) (hA : gw_ap A) : gw_a6 cI (gw_up Y (A 1) (.inl (cI, n, .inl f'))) A n fb f' ff fu fl fg :=
  ⟨(gw_miss (hA.ne (by decide) (by decide) (by decide))).trans h.1, gw_hit, (gw_miss (hA.ne (by decide) (by decide) (by decide))).trans h.2.2.1, (gw_miss (hA.ne (by decide) (by decide) (by decide))).trans h.2.2.2.1, (gw_miss (hA.ne (by decide) (by decide) (by decide))).trans h.2.2.2.2.1, (gw_miss (hA.ne (by decide) (by decide) (by decide))).trans h.2.2.2.2.2⟩
theorem gw_a6.s2 {cI : ClassId} {Y : gM} {A : Nat → Nat} {n : Nat} {fb fe ff fu fl fg f' : Nat → Int32} (h : gw_a6 cI Y A n fb fe ff fu fl fg) (hA : gw_ap A) : gw_a6 cI (gw_up Y (A 2) (.inl (cI, n, .inl f'))) A n fb fe f' fu fl fg :=
  ⟨(gw_miss (hA.ne (by decide) (by decide) (by decide))).trans h.1, (gw_miss (hA.ne (by decide) (by decide) (by decide))).trans h.2.1, gw_hit, (gw_miss (hA.ne (by decide) (by decide) (by decide))).trans h.2.2.2.1, (gw_miss (hA.ne (by decide) (by decide) (by decide))).trans h.2.2.2.2.1, (gw_miss (hA.ne (by decide) (by decide) (by decide))).trans h.2.2.2.2.2⟩
theorem gw_a6.s3 {cI : ClassId} {Y : gM} {A : Nat → Nat} {n : Nat} {fb fe ff fu fl fg f' : Nat → Int32} (h : gw_a6 cI Y A n fb fe ff fu fl fg) (hA : gw_ap A) : gw_a6 cI (gw_up Y (A 3) (.inl (cI, n, .inl f'))) A n fb fe ff f' fl fg :=
  ⟨(gw_miss (hA.ne (by decide) (by decide) (by decide))).trans h.1, (gw_miss (hA.ne (by decide) (by decide) (by decide))).trans h.2.1, (gw_miss (hA.ne (by decide) (by decide) (by decide))).trans h.2.2.1, gw_hit, (gw_miss (hA.ne (by decide) (by decide) (by decide))).trans h.2.2.2.2.1, (gw_miss (hA.ne (by decide) (by decide) (by decide))).trans h.2.2.2.2.2⟩
theorem gw_a6.s4 {cI : ClassId} {Y : gM} {A : Nat → Nat} {n : Nat} {fb fe ff fu fl fg f' : Nat → Int32} (h : gw_a6 cI Y A n fb fe ff fu fl fg) (hA : gw_ap A) : gw_a6 cI (gw_up Y (A 4) (.inl (cI, n, .inl f'))) A n fb fe ff fu f' fg :=
  ⟨(gw_miss (hA.ne (by decide) (by decide) (by decide))).trans h.1, (gw_miss (hA.ne (by decide) (by decide) (by decide))).trans h.2.1, (gw_miss (hA.ne (by decide) (by decide) (by decide))).trans h.2.2.1, (gw_miss (hA.ne (by decide) (by decide) (by decide))).trans h.2.2.2.1, gw_hit, (gw_miss (hA.ne (by decide) (by decide) (by decide))).trans h.2.2.2.2.2⟩
theorem gw_a6.s5 {cI : ClassId} {Y : gM} {A : Nat → Nat} {n : Nat} {fb fe ff fu fl fg f' : Nat → Int32} (h : gw_a6 cI Y A n fb fe ff fu fl fg) (hA : gw_ap A) : gw_a6 cI (gw_up Y (A 5) (.inl (cI, 8, .inl f'))) A n fb fe ff fu fl f' :=
  ⟨(gw_miss (hA.ne (by decide) (by decide) (by decide))).trans h.1, (gw_miss (hA.ne (by decide) (by decide) (by decide))).trans h.2.1, (gw_miss (hA.ne (by decide) (by decide) (by decide))).trans h.2.2.1, (gw_miss (hA.ne (by decide) (by decide) (by decide))).trans h.2.2.2.1, (gw_miss (hA.ne (by decide) (by decide) (by decide))).trans h.2.2.2.2.1, gw_hit⟩
def gw_fr (M Y : gM) : Prop := ∀ b e, M b = some e → ¬ gw_isI e → Y b = M b
theorem gw_fr.rf {M : gM} : gw_fr M M := fun _ _ _ _ => rfl
theorem gw_fr.trans {M M1 M2 : gM} (h1 : gw_fr M M1) (h2 : gw_fr M1 M2) : gw_fr M M2 := fun b e hb he => (h2 b e ((h1 b e hb he).trans hb) he).trans (h1 b e hb he)
theorem gw_fr.new {M Y : gM} (h : gw_fr M Y) {q : Nat} {e : va_E} (hq : Y q = none) : gw_fr M (gw_up Y q e) := fun b f hb hf => (gw_miss (gw_neF hq ((h b f hb hf).trans hb))).trans (h b f hb hf)
theorem gw_fr.up {M Y : gM} (h : gw_fr M Y) {a : Nat} {e0 e : va_E} (ha : Y a = some e0) (he : gw_isI e0) : gw_fr M (gw_up Y a e) := fun b f hb hf => (gw_miss (fun z => hf (by rw [← z] at ha; rw [(h b f hb hf).trans hb] at ha; cases ha; exact he))).trans (h b f hb hf)
theorem gw_isI.mk {c : ClassId} {n : Nat} {f : Nat → Int32} : gw_isI (.inl (c, n, .inl f)) := ⟨c, n, f, rfl⟩
/-- the arrays tell the state -/
def gw_rp (n : Nat) (S : gS) (fb fe ff fu fl fg : Nat → Int32) : Prop := (∀ i, i < n → fb i = (S.2.2 i).2.1) ∧ (∀ i, i < n → fe i = (S.2.2 i).2.2.2.2.2) ∧ (∀ i, i < n → ff i = (S.2.2 i).2.2.1) ∧ (∀ i, i < n → fu i = (S.2.2 i).2.2.2.1) ∧ (∀ i, i < n → fl i = (S.2.2 i).2.2.2.2.1) ∧ fg 0 = nI S.1 ∧ ∀ p, p < S.1 → fg (p + 1) = nI (S.2.1 p)
def gw_ar (cI : ClassId) (M : gM) (A : Nat → Nat) (n : Nat) (S : gS) : Prop := gw_ap A ∧ ∃ fb fe ff fu fl fg, gw_a6 cI M A n fb fe ff fu fl fg ∧ gw_rp n S fb fe ff fu fl fg
theorem gw_rp.fin {n m m' : Nat} {ord ord' : Nat → Nat} {v u : Nat → gH} {fb fe ff fu fl fg fe' ff' fu' fl' fg' : Nat → Int32} (rp : gw_rp n (m, ord, v) fb fe ff fu fl fg) (hoi : ∀ p q, p < m → q < m → ord p = ord q → p = q)
    (h1 : ∀ p, p < m → (u p).2.1 = (v (ord p)).2.1 ∧ fe' (ord p) = (u p).2.2.2.2.2 ∧ ff' (ord p) = (u p).2.2.1 ∧ fu' (ord p) = (u p).2.2.2.1 ∧ fl' (ord p) = (u p).2.2.2.2.1)
    (h2 : ∀ i, i < n → (∀ p, p < m → ord p ≠ i) → fe' i = fe i ∧ ff' i = ff i ∧ fu' i = fu i ∧ fl' i = fl i) (h3 : fg' 0 = nI m') (h4 : ∀ p, p < m' → fg' (p + 1) = nI (ord' p)) : gw_rp n (m', ord', p_put m ord u v) fb fe' ff' fu' fl' fg' := by
  obtain ⟨r0, r1, r2, r3, r4, -, -⟩ := rp
  have key : ∀ i, i < n → fb i = (p_put m ord u v i).2.1 ∧ fe' i = (p_put m ord u v i).2.2.2.2.2 ∧ ff' i = (p_put m ord u v i).2.2.1 ∧ fu' i = (p_put m ord u v i).2.2.2.1 ∧ fl' i = (p_put m ord u v i).2.2.2.2.1 := by
    intro i hi
    by_cases hx : ∃ p, p < m ∧ ord p = i
    · obtain ⟨p, hp, rfl⟩ := hx
      rw [p_put_at hoi p hp]
      obtain ⟨a, b⟩ := h1 p hp
      exact ⟨(r0 _ hi).trans a.symm, b⟩
    · have hno : ∀ p, p < m → ord p ≠ i := fun p hp z => hx ⟨p, hp, z⟩
      rw [p_put_no hno]
      obtain ⟨a, b, c, d⟩ := h2 i hi hno
      exact ⟨r0 i hi, a.trans (r1 i hi), b.trans (r2 i hi), c.trans (r3 i hi), d.trans (r4 i hi)⟩
  exact ⟨fun i hi => (key i hi).1, fun i hi => (key i hi).2.1, fun i hi => (key i hi).2.2.1, fun i hi => (key i hi).2.2.2.1, fun i hi => (key i hi).2.2.2.2, h3, h4⟩
theorem u_at {f : Nat → Int32} {k : Nat} {x : Int32} : upd f k x k = x := if_pos rfl
theorem u_no {f : Nat → Int32} {k j : Nat} {x : Int32} (h : j ≠ k) : upd f k x j = f j := if_neg h
/-- one more place of a walk over the gang is done -/
theorem u_step {ord : Nat → Nat} {f0 f : Nat → Int32} {val : Nat → Int32} {m i : Nat} {x : Int32} (hoi : ∀ p q, p < m → q < m → ord p = ord q → p = q) (hi : i < m) (h1 : ∀ p, p < i → f (ord p) = val p) (h2 : ∀ j, (∀ p, p < i → ord p ≠ j) → f j = f0 j) (hx : x = val i) : (∀ p, p < i + 1 → upd f (ord i) x (ord p) = val p) ∧ ∀ j, (∀ p, p < i + 1 → ord p ≠ j) → upd f (ord i) x j = f0 j := by
  refine ⟨fun p hp => ?_, fun j hj => ?_⟩
  · by_cases hpi : p = i
    · subst hpi; rw [u_at]; exact hx
    · rw [u_no (fun z => hpi (hoi p i (by omega) hi z))]; exact h1 p (by omega)
  · rw [u_no (fun z => hj i (by omega) z.symm)]
    exact h2 j (fun p hp => hj p (by omega))
theorem u_old {ord : Nat → Nat} {f0 f : Nat → Int32} {m i : Nat} (hoi : ∀ p q, p < m → q < m → ord p = ord q → p = q) (hi : i < m) (h2 : ∀ j, (∀ p, p < i → ord p ≠ j) → f j = f0 j) : f (ord i) = f0 (ord i) := h2 _ (fun p hp z => by have := hoi p i (by omega) hi z; omega)
theorem p_tick0 {n : Nat} {v : Nat → gH} (h0 : 0 < n) (hn : n ≤ 10) : p_tick n v 0 = (v 0).2.2.2.2.2 := by
  unfold p_tick
  rw [i_tick (Nat.zero_le 10) h0 hn, Nat.mul_zero, Nat.zero_div]
  exact Int32.zero_add _
theorem p_tick_b {n B p : Nat} {v : Nat → gH} (h0 : 0 < n) (hn : n ≤ 10) (hp : p < n) (hB : B ≤ 1000000) (h1 : -(B : Int) ≤ (v p).2.2.2.2.2.toInt) (h2 : (v p).2.2.2.2.2.toInt ≤ B) : -(B : Int) ≤ (p_tick n v p).toInt ∧ (p_tick n v p).toInt ≤ B + 60 := by
  unfold p_tick
  have hq : 60 * p / n ≤ 60 := by
    apply Nat.div_le_of_le_mul
    rw [Nat.mul_comm n 60]
    exact Nat.mul_le_mul_left 60 (by omega)
  rw [i_tick (by omega) h0 hn]
  generalize 60 * p / n = q at hq ⊢
  rw [i_add (by rw [nI_toInt (by omega)]; omega) (by rw [nI_toInt (by omega)]; omega), nI_toInt (by omega)]
  omega
theorem p_lean_e (m : Nat) (w : Nat → gH) (p : Nat) (h : 0 < (w p).2.1) : ((w p).2.2.2.2.2 + (w (pv m p)).2.2.2.2.2) / 2 + (w p).2.1 + (w p).2.2.1 / 20 = (p_lean m w p).2.2.2.2.2 := by
  show _ = ((w p).2.2.2.2.2 + (w (pv m p)).2.2.2.2.2) / 2 + p_drift (w p)
  have h1 : ¬ (w p).2.1 = 0 := fun z => by rw [z] at h; exact absurd h (by decide)
  have h2 : ¬ (w p).2.1 ≤ 0 := Int32.not_le.mpr h
  unfold p_drift
  rw [if_neg h1, if_neg h2, Int32.add_assoc]
theorem p_lean_z (m : Nat) (w : Nat → gH) (p : Nat) (h1 : (w p).2.1 ≤ 0) (h2 : 0 ≤ (w p).2.1) : ((w p).2.2.2.2.2 + (w (pv m p)).2.2.2.2.2) / 2 + (w p).2.1 + 0 = (p_lean m w p).2.2.2.2.2 := by
  show _ = ((w p).2.2.2.2.2 + (w (pv m p)).2.2.2.2.2) / 2 + p_drift (w p)
  have h3 : (w p).2.1 = 0 := Int32.le_antisymm h1 h2
  unfold p_drift
  rw [if_pos h3, h3, Int32.add_zero]
theorem p_lean_n (m : Nat) (w : Nat → gH) (p : Nat) (h1 : (w p).2.1 ≤ 0) (h2 : ¬ 0 ≤ (w p).2.1) : ((w p).2.2.2.2.2 + (w (pv m p)).2.2.2.2.2) / 2 + (w p).2.1 + -((w p).2.2.1 / 20) = (p_lean m w p).2.2.2.2.2 := by
  show _ = ((w p).2.2.2.2.2 + (w (pv m p)).2.2.2.2.2) / 2 + p_drift (w p)
  have h3 : ¬ (w p).2.1 = 0 := fun z => by rw [z] at h2; exact absurd (by decide) h2
  unfold p_drift
  rw [if_neg h3, if_pos h1, Int32.add_assoc, Int32.sub_eq_add_neg]
def gw_gp (cI : ClassId) (M : gM) (A : Nat → Nat) (n : Nat) (S : gS) (r : Int32) (M' : gM) : Prop := r = (p_rnd S).1 ∧ gw_ar cI M' A n (p_rnd S).2 ∧ gw_fr M M'
section GQ
variable {p : Program} {l : Launch} {e : Env} {R : Room} {s : State} {m : MethodId} {args : Array Value} {below : List Frame} {meth : Method} {c : Code} {H : Heap} {locs : List Loc} {cells slots : Nat} {Q : State → Prop}
variable {cc : ByteArray} {pc : Nat} {ls : Array Slot} {rest : List Value} {D : va_G} {a : Nat} {E : Nat} {M : gM} {cI cO cZ : ClassId} {z0 : Nat}
theorem gw_clone (hx : p.tables.exec = Jvm.exec) (hb : c.code = cc) (hml : c.maxLocals = ls.size) {own : String} {index : Nat} (hown : s.vm.findClass own = some m.cls) (hlink : (Cond.methodLink own index ⟨"[I", "clone", "()Ljava/lang/Object;"⟩).before args s = true) (hsame : (Cond.sameMethod "[I" "java/lang/Object" "clone" "()Ljava/lang/Object;").before args s = true)
    (hnat : (Cond.native ⟨"java/lang/Object", "clone", "()Ljava/lang/Object;"⟩).before args s = true) (hinst : (Cond.instanceMethod ⟨"java/lang/Object", "clone", "()Ljava/lang/Object;"⟩).before args s = true)
    (hsel : (Cond.selects "[I" ⟨"[I", "clone", "()Ljava/lang/Object;"⟩ ⟨"java/lang/Object", "clone", "()Ljava/lang/Object;"⟩).before args s = true) (hcl : va_Nw (.castable "[I" "java/lang/Cloneable") s)
    (hF : gw_F E D cI cO cZ z0 s) (hG : gw_H E D M s H locs) {n : Nat} {f : Nat → Int32} (he : M a = some (.inl (cI, n, .inl f)))
    (hframes : 1 ≤ R.frames) (hlocals : (rest.map fun v => v.category).sum + 14 ≤ R.locals) (hcells : cells + 1 ≤ R.cells) (hslots : slots + n ≤ R.slots) (hdg : decode cc pc = .ok (.invokevirtual index, 3))
    (kk : ∀ (q : Nat) (H1 : Heap), M q = none → gw_H E D (gw_up M q (.inl (cI, n, .inl f))) s H1 locs → W p l e R s m args below meth c H1 locs (cells + 1) (slots + n) Q (F0 m (pc + 3) ls (.ref q :: rest))) : W p l e R s m args below meth c H locs cells slots Q (F0 m pc ls (.ref a :: rest)) := by
  obtain ⟨ws, hP, hD, hm⟩ := gw_list hG.1 hG.2.1
  obtain ⟨i0, hi⟩ := (hm a _).mp he
  refine va_clone (x := (n, .inl f)) (ty := .int) hx hb hml hown hlink hsame hnat hinst hsel hcl hF.1 hP hD hG.2.2 (gw_AE hF.2.1) i0 0 hi rfl (hF.1.2 0 (cI, .int) rfl).2 (fun i v hv => ?_) hframes hlocals hcells hslots hdg (fun q H1 _ h1 h2 h3 => ?_)
  · have hv' : (Array.ofFn (n := n) fun j => Value.int (f j.val))[i]? = some v := hv
    rw [Array.getElem?_ofFn] at hv'
    split at hv'
    · cases hv'; rfl
    · cases hv'
  · obtain ⟨g1, g2, g3⟩ := gw_app hm h1 h2
    exact kk q H1 g3 ⟨g1, g2, h3⟩
theorem gw_castI (hx : p.tables.exec = Jvm.exec) (hb : c.code = cc) {own : String} {index : Nat} (hown : s.vm.findClass own = some m.cls) (hlink : (Cond.classLink own index "[I").before args s = true) (hF : gw_F E D cI cO cZ z0 s) (hG : gw_H E D M s H locs) {x : vp_A} (he : M a = some (.inl (cI, x))) (hdg : decode cc pc = .ok (.checkcast index, 3))
    (kk : W p l e R s m args below meth c H locs cells slots Q (F0 m (pc + 3) ls (.ref a :: rest))) : W p l e R s m args below meth c H locs cells slots Q (F0 m pc ls (.ref a :: rest)) :=
  va_castA hx hb hown hlink (gw_one hG he) 0 rfl (hF.1.2 0 (cI, .int) rfl).2 hdg kk
end GQ
