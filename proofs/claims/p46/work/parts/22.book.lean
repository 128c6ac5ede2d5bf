/-! the law's book-keeping, without the machine -/
theorem lb_J (f : Nat → Nat) (i : Nat) : ∀ m : Nat, ∃ J, J ≤ m ∧ (∀ p, p < J → f p ≠ i) ∧ (J < m → f J = i) := by
  intro m
  induction m with
  | zero => exact ⟨0, Nat.le_refl _, fun p hp => absurd hp (Nat.not_lt_zero p), fun h => absurd h (Nat.lt_irrefl 0)⟩
  | succ m ih =>
    obtain ⟨J, h1, h2, h3⟩ := ih
    by_cases hJ : J < m
    · exact ⟨J, by omega, h2, fun _ => h3 hJ⟩
    · have e : J = m := by omega
      by_cases hf : f m = i
      · exact ⟨m, by omega, fun p hp => h2 p (by omega), fun _ => hf⟩
      · refine ⟨m + 1, Nat.le_refl _, fun p hp => ?_, fun h => absurd h (Nat.lt_irrefl _)⟩
        by_cases hpm : p = m
        · rw [hpm]; exact hf
        · exact h2 p (by omega)
theorem lb_stand {n B i : Nat} {S : gS} (h : p_iv n B S) (hi : i < n) (hno : ∀ p, p < S.1 → S.2.1 p ≠ i) (hu : (S.2.2 i).2.2.2.1 = 0) (h5 : S.1 < 5) : p_iv n B (S.1 + 1, va_up S.2.1 S.1 i, fun j => if j = i then hEr (S.2.2 i) 0 else S.2.2 j) := by
  obtain ⟨a1, a2, a3, a4, a5⟩ := h
  have hup : ∀ p, p < S.1 → va_up S.2.1 S.1 i p = S.2.1 p := fun p hp => by unfold va_up; rw [if_neg (by omega)]
  have hun : va_up S.2.1 S.1 i S.1 = i := by unfold va_up; rw [if_pos rfl]
  refine ⟨h5, fun p hp => ?_, fun p q hp hq z => ?_, fun j hj => ?_, fun p hp => ?_⟩
  · have hp : p < S.1 + 1 := hp
    show va_up S.2.1 S.1 i p < n
    by_cases c : p = S.1
    · rw [c, hun]; exact hi
    · rw [hup p (by omega)]; exact a2 p (by omega)
  · have hp : p < S.1 + 1 := hp
    have hq : q < S.1 + 1 := hq
    have z : va_up S.2.1 S.1 i p = va_up S.2.1 S.1 i q := z
    by_cases c : p = S.1
    · by_cases d : q = S.1
      · omega
      · rw [c, hun, hup q (by omega)] at z; exact absurd z.symm (hno q (by omega))
    · by_cases d : q = S.1
      · rw [d, hun, hup p (by omega)] at z; exact absurd z (hno p (by omega))
      · rw [hup p (by omega), hup q (by omega)] at z; exact a3 p q (by omega) (by omega) z
  · show p_ok B (if j = i then hEr (S.2.2 i) 0 else S.2.2 j)
    by_cases c : j = i
    · rw [if_pos c]; exact p_er0_ok (a4 i hi)
    · rw [if_neg c]; exact a4 j hj
  · have hp : p < S.1 + 1 := hp
    show (if va_up S.2.1 S.1 i p = i then hEr (S.2.2 i) 0 else S.2.2 (va_up S.2.1 S.1 i p)).2.2.2.1 = 0
    by_cases c : p = S.1
    · rw [c, hun, if_pos rfl]; exact hu
    · rw [hup p (by omega), if_neg (hno p (by omega))]; exact a5 p (by omega)
theorem lb_leave {n B J : Nat} {S : gS} (h : p_iv n B S) (hJ : J < S.1) : p_iv n B (S.1 - 1, skp J S.2.1, S.2.2) := by
  obtain ⟨m1, ord, v⟩ := S
  obtain ⟨m, rfl⟩ : ∃ m, m1 = m + 1 := ⟨m1 - 1, by have : J < m1 := hJ; omega⟩
  obtain ⟨a1, a2, a3, a4, a5⟩ := h
  refine ⟨by have : m + 1 ≤ 5 := a1; show m ≤ 5; omega, skp_lt a2, skp_inj a3, a4, fun p hp => ?_⟩
  have hp : p < m := hp
  show (v (skp J ord p)).2.2.2.1 = 0
  unfold skp
  split
  · exact a5 p (show p < m + 1 by omega)
  · exact a5 (p + 1) (show p + 1 < m + 1 by omega)
theorem lb_hand {n B : Nat} {S : gS} (h : p_iv n B S) {x y : Int32} (hy : -3 ≤ y.toInt ∧ y.toInt ≤ 3) : p_iv (n + 1) B (S.1, S.2.1, fun i => if i = n then (x, y, 0, 0, 0, 0) else S.2.2 i) := by
  obtain ⟨a1, a2, a3, a4, a5⟩ := h
  refine ⟨a1, fun p hp => Nat.lt_succ_of_lt (a2 p hp), a3, fun i hi => ?_, fun p hp => ?_⟩
  · show p_ok B (if i = n then (x, y, 0, 0, 0, 0) else S.2.2 i)
    by_cases c : i = n
    · rw [if_pos c]
      exact ⟨hy, ⟨0, by omega, rfl⟩, ⟨0, by omega, rfl⟩, by show _ ≤ (0 : Int32).toInt; rw [show (0 : Int32).toInt = 0 by decide]; omega, by show (0 : Int32).toInt ≤ _; rw [show (0 : Int32).toInt = 0 by decide]; omega⟩
    · rw [if_neg c]; exact a4 i (by omega)
  · show (if S.2.1 p = n then ((x, y, 0, 0, 0, 0) : gH) else S.2.2 (S.2.1 p)).2.2.2.1 = 0
    rw [if_neg (by have := a2 p hp; omega)]
    exact a5 p hp
theorem gw_ar.ints {cI : ClassId} {M M' : gM} {A : Nat → Nat} {n : Nat} {S : gS} (h : gw_ar cI M A n S) (hi : gw_ints M M') : gw_ar cI M' A n S := by
  obtain ⟨hA, fb, fe, ff, fu, fl, fg, ⟨h0, h1, h2, h3, h4, h5⟩, hr⟩ := h
  exact ⟨hA, fb, fe, ff, fu, fl, fg, ⟨(hi _ _ h0 gw_isI.mk).trans h0, (hi _ _ h1 gw_isI.mk).trans h1, (hi _ _ h2 gw_isI.mk).trans h2, (hi _ _ h3 gw_isI.mk).trans h3, (hi _ _ h4 gw_isI.mk).trans h4, (hi _ _ h5 gw_isI.mk).trans h5⟩, hr⟩
theorem lb_rp_stand {n i : Nat} {S : gS} {fb fe ff fu fl fg : Nat → Int32} (rp : gw_rp n S fb fe ff fu fl fg) (hi : i < n) : gw_rp n (S.1 + 1, va_up S.2.1 S.1 i, fun j => if j = i then hEr (S.2.2 i) 0 else S.2.2 j) fb (upd fe i 0) ff fu fl (upd (upd fg 0 (nI (S.1 + 1))) (S.1 + 1) (nI i)) := by
  obtain ⟨r0, r1, r2, r3, r4, r5, r6⟩ := rp
  refine ⟨fun j hj => ?_, fun j hj => ?_, fun j hj => ?_, fun j hj => ?_, fun j hj => ?_, ?_, fun p hp => ?_⟩
  · show fb j = (if j = i then hEr (S.2.2 i) 0 else S.2.2 j).2.1
    by_cases c : j = i
    · rw [if_pos c, c]; exact r0 i hi
    · rw [if_neg c]; exact r0 j hj
  · show upd fe i 0 j = (if j = i then hEr (S.2.2 i) 0 else S.2.2 j).2.2.2.2.2
    by_cases c : j = i
    · rw [if_pos c, c, u_at]
    · rw [if_neg c, u_no c]; exact r1 j hj
  · show ff j = (if j = i then hEr (S.2.2 i) 0 else S.2.2 j).2.2.1
    by_cases c : j = i
    · rw [if_pos c, c]; exact r2 i hi
    · rw [if_neg c]; exact r2 j hj
  · show fu j = (if j = i then hEr (S.2.2 i) 0 else S.2.2 j).2.2.2.1
    by_cases c : j = i
    · rw [if_pos c, c]; exact r3 i hi
    · rw [if_neg c]; exact r3 j hj
  · show fl j = (if j = i then hEr (S.2.2 i) 0 else S.2.2 j).2.2.2.2.1
    by_cases c : j = i
    · rw [if_pos c, c]; exact r4 i hi
    · rw [if_neg c]; exact r4 j hj
  · rw [u_no (by omega), u_at]
  · have hp : p < S.1 + 1 := hp
    show _ = nI (va_up S.2.1 S.1 i p)
    unfold va_up
    by_cases c : p = S.1
    · rw [c, if_pos rfl, u_at]
    · rw [if_neg c, u_no (by omega), u_no (by omega)]; exact r6 p (by omega)
theorem lb_rp_pass {n B d : Nat} {S : gS} {fb fe ff fu fl fg ff' fu' : Nat → Int32} (rp : gw_rp n S fb fe ff fu fl fg) (hiv : p_iv n B S) (h2 : ∀ i, i < n → ff' i = (p_rests d (S.2.2 i)).2.2.1) (h3 : ∀ i, i < n → fu' i = (p_rests d (S.2.2 i)).2.2.2.1) : gw_rp n (S.1, S.2.1, fun j => p_rests d (S.2.2 j)) fb fe ff' fu' fl fg := by
  obtain ⟨r0, r1, r2, r3, r4, r5, r6⟩ := rp
  have key : ∀ i, i < n → (p_rests d (S.2.2 i)).2.1 = (S.2.2 i).2.1 ∧ (p_rests d (S.2.2 i)).2.2.2.2 = (S.2.2 i).2.2.2.2 := fun i hi => by
    obtain ⟨-, ⟨f, hf, ef⟩, ⟨q, hq, eq⟩, -⟩ := hiv.2.2.2.1 i hi
    obtain ⟨-, -, -, b4, b5⟩ := p_rests_v (B := B) hf hq ef eq d
    exact ⟨b4, b5⟩
  refine ⟨fun i hi => (r0 i hi).trans (key i hi).1.symm, fun i hi => ?_, h2, h3, fun i hi => ?_, r5, r6⟩
  · show fe i = (p_rests d (S.2.2 i)).2.2.2.2.2
    rw [(key i hi).2]; exact r1 i hi
  · show fl i = (p_rests d (S.2.2 i)).2.2.2.2.1
    rw [(key i hi).2]; exact r4 i hi
theorem lb_sum {n B : Nat} {S : gS} (hiv : p_iv n B S) : ∀ k, k ≤ n → ∃ s, s ≤ 100 * k ∧ p_sum S.2.2 k = nI s := by
  intro k
  induction k with
  | zero => exact fun _ => ⟨0, by omega, rfl⟩
  | succ k ih =>
    intro hk
    obtain ⟨s, hs, es⟩ := ih (by omega)
    obtain ⟨-, ⟨f, hf, ef⟩, -⟩ := hiv.2.2.2.1 k (by omega)
    refine ⟨s + f, by omega, ?_⟩
    show p_sum S.2.2 k + (S.2.2 k).2.2.1 = _
    rw [es, ef]
    exact nI_add s f
def lb_D (s h : Nat) : Bool := decide (FP.ddiv (FP.i2d (nI s)) (FP.i2d (nI h)) &&& 0x7fffffffffffffff ≤ 0x7ff0000000000000) && decide (Op.cmpValue (FP.dcmp (FP.ddiv (FP.i2d (nI s)) (FP.i2d (nI h))) (FP.ddiv (FP.i2d (nI s)) (FP.i2d (nI h)))) .l = 0)
set_option maxRecDepth 100000 in
theorem lb_Dall : (List.range 4206).all (fun i => lb_D (i / 6) (i % 6 + 2)) = true := by decide +kernel
theorem lb_dbl {s h : Nat} (hs : s ≤ 700) (h2 : 2 ≤ h) (h7 : h ≤ 7) : vf_n64 (FP.ddiv (FP.i2d (nI s)) (FP.i2d (nI h))) ∧ Op.cmpValue (FP.dcmp (FP.ddiv (FP.i2d (nI s)) (FP.i2d (nI h))) (FP.ddiv (FP.i2d (nI s)) (FP.i2d (nI h)))) .l = 0 := by
  have e := List.all_eq_true.mp lb_Dall (6 * s + (h - 2)) (List.mem_range.mpr (by omega))
  have e1 : (6 * s + (h - 2)) / 6 = s := by omega
  have e2 : (6 * s + (h - 2)) % 6 + 2 = h := by omega
  rw [e1, e2] at e
  unfold lb_D at e
  obtain ⟨q1, q2⟩ := Bool.and_eq_true_iff.mp e
  exact ⟨show _ &&& _ ≤ _ from of_decide_eq_true q1, of_decide_eq_true q2⟩
theorem lb_skp {J m : Nat} {f : Nat → Nat} (h : ¬ J < m) : ∀ p, p < m → skp J f p = f p := fun p hp => by unfold skp; rw [if_pos (by omega)]
