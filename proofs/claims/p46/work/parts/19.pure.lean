/-! numbers that don't run over; what a round keeps -/
theorem i_add {a b : Int32} (h1 : -2147483648 ≤ a.toInt + b.toInt) (h2 : a.toInt + b.toInt < 2147483648) : (a + b).toInt = a.toInt + b.toInt := by
  rw [Int32.toInt_add]
  exact Int.bmod_eq_of_le (by omega) (by omega)
theorem i_sub {a b : Int32} (h1 : -2147483648 ≤ a.toInt - b.toInt) (h2 : a.toInt - b.toInt < 2147483648) : (a - b).toInt = a.toInt - b.toInt := by
  rw [Int32.toInt_sub]
  exact Int.bmod_eq_of_le (by omega) (by omega)
theorem i_half {a : Int32} {B : Nat} (hB : B ≤ 1000000000) (h1 : -(B : Int) ≤ a.toInt) (h2 : a.toInt ≤ B) : -((B / 2 : Nat) : Int) ≤ (a / 2).toInt ∧ (a / 2).toInt ≤ ((B / 2 : Nat) : Int) := by
  have e2 : (2 : Int32).toInt = 2 := by decide
  have hd : -((B / 2 : Nat) : Int) ≤ a.toInt.tdiv 2 ∧ a.toInt.tdiv 2 ≤ ((B / 2 : Nat) : Int) := by
    rcases Int.le_total 0 a.toInt with h | h
    · rw [Int.tdiv_eq_ediv_of_nonneg h]; omega
    · have e1 : a.toInt = -(-a.toInt) := by omega
      rw [e1, Int.neg_tdiv, Int.tdiv_eq_ediv_of_nonneg (by omega)]; omega
  have e3 : (a / 2).toInt = a.toInt.tdiv 2 := by
    rw [Int32.toInt_div, e2]
    exact Int.bmod_eq_of_le (by omega) (by omega)
  rw [e3]; exact hd
theorem i_20 {f : Nat} (h : f ≤ 100) : nI f / 20 = nI (f / 20) := pk_div (a := f) (d := 20) (by omega) (by decide) (by decide)
theorem i_tick {p n : Nat} (hp : p ≤ 10) (hn : 0 < n) (hn2 : n ≤ 10) : (60 : Int32) * nI p / nI n = nI (60 * p / n) := by
  have e1 : (60 : Int32) * nI p = nI (60 * p) := pk_mul 60 p
  rw [e1]
  exact pk_div (by omega) hn (by omega)
theorem i_gap {a b : Int32} (h1 : -1000000000 ≤ a.toInt ∧ a.toInt ≤ 1000000000) (h2 : -1000000000 ≤ b.toInt ∧ b.toInt ≤ 1000000000) : a + 4 ≤ b ↔ 4 ≤ b - a := by
  have e4 : (4 : Int32).toInt = 4 := by decide
  rw [Int32.le_iff_toInt_le, Int32.le_iff_toInt_le, i_add (by rw [e4]; omega) (by rw [e4]; omega), i_sub (by omega) (by omega), e4]
  omega
def p_ok (B : Nat) (v : gH) : Prop := (-3 ≤ v.2.1.toInt ∧ v.2.1.toInt ≤ 3) ∧ (∃ f, f ≤ 100 ∧ v.2.2.1 = nI f) ∧ (∃ h, h ≤ 7 ∧ v.2.2.2.1 = nI h) ∧ -(B : Int) ≤ v.2.2.2.2.2.toInt ∧ v.2.2.2.2.2.toInt ≤ B
theorem p_drift_b {B : Nat} {v : gH} (h : p_ok B v) : -8 ≤ (p_drift v).toInt ∧ (p_drift v).toInt ≤ 8 := by
  obtain ⟨⟨a1, a2⟩, ⟨f, hf, ef⟩, -, -⟩ := h
  have e20 : (v.2.2.1 / 20).toInt = ((f / 20 : Nat) : Int) := by rw [ef, i_20 hf, nI_toInt (by omega)]
  have hb : f / 20 ≤ 5 := by omega
  unfold p_drift
  split
  · rw [show (0 : Int32).toInt = 0 by decide]; omega
  · split
    · rw [i_sub (by rw [e20]; omega) (by rw [e20]; omega), e20]; omega
    · rw [i_add (by rw [e20]; omega) (by rw [e20]; omega), e20]; omega
theorem p_lean_b {B m : Nat} {w : Nat → gH} (hB : B ≤ 100000) (hw : ∀ p, p < m → p_ok B (w p)) {p : Nat} (hp : p < m) : -((B + 8 : Nat) : Int) ≤ (p_lean m w p).2.2.2.2.2.toInt ∧ (p_lean m w p).2.2.2.2.2.toInt ≤ ((B + 8 : Nat) : Int) := by
  have hv : pv m p < m := by unfold pv; split <;> omega
  have d := p_drift_b (hw p hp)
  obtain ⟨-, -, -, a1, a2⟩ := hw p hp
  obtain ⟨-, -, -, b1, b2⟩ := hw _ hv
  have e1 : ((w p).2.2.2.2.2 + (w (pv m p)).2.2.2.2.2).toInt = (w p).2.2.2.2.2.toInt + (w (pv m p)).2.2.2.2.2.toInt := i_add (by omega) (by omega)
  have h2 := i_half (a := (w p).2.2.2.2.2 + (w (pv m p)).2.2.2.2.2) (B := 2 * B) (by omega) (by rw [e1]; omega) (by rw [e1]; omega)
  show _ ≤ (((w p).2.2.2.2.2 + (w (pv m p)).2.2.2.2.2) / 2 + p_drift (w p)).toInt ∧ (((w p).2.2.2.2.2 + (w (pv m p)).2.2.2.2.2) / 2 + p_drift (w p)).toInt ≤ _
  rw [i_add (by omega) (by omega)]
  omega
theorem p_tire_v {f : Nat} (hf : f ≤ 100) : (if 100 < nI f + 2 then (100 : Int32) else nI f + 2) = nI (min (f + 2) 100) ∧ (97 < nI f → (100 : Int32) = nI (min (f + 2) 100)) ∧ (¬ 97 < nI f → nI f + 2 = nI (min (f + 2) 100)) := by
  have e2 : nI f + 2 = nI (f + 2) := nI_add f 2
  have h1 : (100 : Int32) < nI f + 2 ↔ 100 < f + 2 := by rw [e2]; exact nI_ltI (a := 100) (by decide) (by omega)
  have h2 : (97 : Int32) < nI f ↔ 97 < f := nI_ltI (a := 97) (by decide) (by omega)
  refine ⟨?_, fun h => ?_, fun h => ?_⟩
  · by_cases c : 100 < f + 2
    · rw [if_pos (h1.mpr c), Nat.min_eq_right (by omega)]; rfl
    · rw [if_neg (fun z => c (h1.mp z)), e2, Nat.min_eq_left (by omega)]
  · have := h2.mp h
    rw [Nat.min_eq_right (by omega)]; rfl
  · have : ¬ 97 < f := fun z => h (h2.mpr z)
    rw [e2, Nat.min_eq_left (by omega)]
theorem p_tire_f {B : Nat} {v : gH} (h : p_ok B v) : ∃ f, f ≤ 100 ∧ v.2.2.1 = nI f ∧ (p_tire v).2.2.1 = nI (min (f + 2) 100) := by
  obtain ⟨-, ⟨f, hf, ef⟩, -⟩ := h
  refine ⟨f, hf, ef, ?_⟩
  show (if 100 < v.2.2.1 + 2 then (100 : Int32) else v.2.2.1 + 2) = _
  rw [ef]
  exact (p_tire_v hf).1
/-- the state of a gang with its bounds -/
def p_iv (n B : Nat) (S : gS) : Prop := S.1 ≤ 5 ∧ (∀ p, p < S.1 → S.2.1 p < n) ∧ (∀ p q, p < S.1 → q < S.1 → S.2.1 p = S.2.1 q → p = q) ∧ (∀ i, i < n → p_ok B (S.2.2 i)) ∧ ∀ p, p < S.1 → (S.2.2 (S.2.1 p)).2.2.2.1 = 0
theorem p_ok.mono {B C : Nat} {v : gH} (h : p_ok B v) (hB : B ≤ C) : p_ok C v := ⟨h.1, h.2.1, h.2.2.1, by have := h.2.2.2.1; omega, by have := h.2.2.2.2; omega⟩
theorem p_iv.mono {n B C : Nat} {S : gS} (h : p_iv n B S) (hB : B ≤ C) : p_iv n C S := ⟨h.1, h.2.1, h.2.2.1, fun i hi => (h.2.2.2.1 i hi).mono hB, h.2.2.2.2⟩
theorem p_put_ok {n m : Nat} {ord : Nat → Nat} {u v : Nat → gH} {P : gH → Prop} (hoi : ∀ p q, p < m → q < m → ord p = ord q → p = q) (hu : ∀ p, p < m → P (u p)) (hv : ∀ i, i < n → P (v i)) : ∀ i, i < n → P (p_put m ord u v i) := by
  intro i hi
  by_cases hx : ∃ p, p < m ∧ ord p = i
  · obtain ⟨p, hp, rfl⟩ := hx
    rw [p_put_at hoi p hp]; exact hu p hp
  · rw [p_put_no (fun p hp z => hx ⟨p, hp, z⟩)]; exact hv i hi
theorem p_lean_ok {B m : Nat} {w : Nat → gH} (hB : B ≤ 100000) (hw : ∀ p, p < m → p_ok B (w p)) {p : Nat} (hp : p < m) : p_ok (B + 8) (p_lean m w p) := ⟨(hw p hp).1, (hw p hp).2.1, (hw p hp).2.2.1, (p_lean_b hB hw hp).1, (p_lean_b hB hw hp).2⟩
theorem p_tire_ok {B : Nat} {v : gH} (h : p_ok B v) : p_ok B (p_tire v) := by
  obtain ⟨f, hf, -, e⟩ := p_tire_f h
  exact ⟨h.1, ⟨_, by omega, e⟩, h.2.2.1, h.2.2.2⟩
theorem p_held_ok {B m : Nat} {w : Nat → gH} (hB : B ≤ 100000) (hw : ∀ p, p < m + 1 → p_ok B (w p)) {p : Nat} (hp : p < m + 1) : p_ok (B + 8) (p_held m w p) := p_tire_ok (p_lean_ok hB hw hp)
theorem p_er0_ok {B : Nat} {v : gH} (h : p_ok B v) : p_ok B (hEr v 0) := ⟨h.1, h.2.1, h.2.2.1, by show _ ≤ (0 : Int32).toInt; rw [show (0 : Int32).toInt = 0 by decide]; omega, by show (0 : Int32).toInt ≤ _; rw [show (0 : Int32).toInt = 0 by decide]; omega⟩
theorem p_lost_ok {B m j : Nat} {w : Nat → gH} (hB : B ≤ 100000) (hj : j < m + 1) (hw : ∀ p, p < m + 1 → p_ok B (w p)) {p : Nat} (hp : p < m + 1) : p_ok (B + 8) (p_lost m w j p) := by
  unfold p_lost
  split
  · exact p_er0_ok (v := hLo (p_held m w j) _) (p_held_ok hB hw hj)
  · exact p_er0_ok (p_held_ok hB hw hp)
theorem p_rn_iv {n B m : Nat} {ord : Nat → Nat} {v : Nat → gH} (hB : B ≤ 100000) (h : p_iv n B (m + 1, ord, v)) : p_iv n (B + 8) (p_rn m ord v).2 := by
  obtain ⟨h5, hord, hoi, hok, hmu⟩ := h
  have hw : ∀ p, p < m + 1 → p_ok B (v (ord p)) := fun p hp => hok _ (hord p hp)
  have hok8 : ∀ i, i < n → p_ok (B + 8) (v i) := fun i hi => (hok i hi).mono (by omega)
  unfold p_rn
  split
  · refine ⟨h5, hord, hoi, p_put_ok hoi (fun p hp => p_held_ok (w := fun p => v (ord p)) hB hw hp) hok8, fun p hp => ?_⟩
    show (p_put (m + 1) ord _ v (ord p)).2.2.2.1 = 0
    rw [p_put_at hoi p hp]
    exact hmu p hp
  · rename_i j hlo
    have hj : j < m + 1 := Nat.lt_succ_of_le (p_los_le m 0 (Nat.zero_add m) hlo)
    have hmu2 : ∀ p, p < m + 1 → (p_lost m (fun p => v (ord p)) j p).2.2.2.1 = 0 := fun p hp => by
      unfold p_lost
      split
      · exact hmu j hj
      · exact hmu p hp
    split
    · refine ⟨h5, hord, hoi, p_put_ok hoi (fun p hp => p_lost_ok (w := fun p => v (ord p)) hB hj hw hp) hok8, fun p hp => ?_⟩
      show (p_put (m + 1) ord _ v (ord p)).2.2.2.1 = 0
      rw [p_put_at hoi p hp]
      exact hmu2 p hp
    · refine ⟨by have : m + 1 ≤ 5 := h5; show m ≤ 5; omega, skp_lt hord, skp_inj hoi, p_put_ok hoi (fun p hp => ?_) hok8, fun p hp => ?_⟩
      · split
        · obtain ⟨a1, a2, a3, a4⟩ := p_lost_ok (w := fun p => v (ord p)) hB hj hw hj
          exact ⟨a1, a2, ⟨7, by omega, rfl⟩, a4⟩
        · exact p_lost_ok (w := fun p => v (ord p)) hB hj hw hp
      · have hp : p < m := hp
        have e1 : ∃ q, q < m + 1 ∧ q ≠ j ∧ skp j ord p = ord q := by
          unfold skp
          by_cases c : p < j
          · exact ⟨p, by omega, by omega, if_pos c⟩
          · exact ⟨p + 1, by omega, by omega, if_neg c⟩
        obtain ⟨q, q1, q2, q3⟩ := e1
        show (p_put (m + 1) ord _ v (skp j ord p)).2.2.2.1 = 0
        rw [q3, p_put_at hoi q q1, if_neg q2]
        exact hmu2 q q1
theorem p_rnd_iv {n B : Nat} {S : gS} (hB : B ≤ 100000) (h2 : 2 ≤ S.1) (h : p_iv n B S) : p_iv n (B + 8) (p_rnd S).2 := by
  obtain ⟨m1, ord, v⟩ := S
  obtain ⟨m, rfl⟩ : ∃ m, m1 = m + 1 := ⟨m1 - 1, by have : 2 ≤ m1 := h2; omega⟩
  exact p_rn_iv hB h
/-- days of rest, in one -/
theorem p_rests_v {B : Nat} {v : gH} {f h : Nat} (hf : f ≤ 100) (hh : h ≤ 7) (ef : v.2.2.1 = nI f) (eh : v.2.2.2.1 = nI h) : ∀ d, (p_rests d v).2.2.1 = nI (f - 30 * d) ∧ (p_rests d v).2.2.2.1 = nI (h - d) ∧ (p_rests d v).1 = v.1 ∧ (p_rests d v).2.1 = v.2.1 ∧ (p_rests d v).2.2.2.2 = v.2.2.2.2 := by
  have step : ∀ a b : Nat, a ≤ 100 → b ≤ 100 → (if nI a - nI b < 0 then (0 : Int32) else nI a - nI b) = nI (a - b) := by
    intro a b ha hb
    by_cases c : a < b
    · rw [if_pos (pk_sneg (by omega) c), show a - b = 0 by omega]; rfl
    · have e : nI a - nI b = nI (a - b) := pk_sub (by omega)
      rw [e, if_neg (nI_pos (by omega))]
  intro d
  induction d with
  | zero => exact ⟨ef, eh, rfl, rfl, rfl⟩
  | succ d ih =>
    obtain ⟨i1, i2, i3, i4, i5⟩ := ih
    refine ⟨?_, ?_, i3, i4, i5⟩
    · show (if (p_rests d v).2.2.1 - 30 < 0 then (0 : Int32) else (p_rests d v).2.2.1 - 30) = _
      rw [i1]
      have := step (f - 30 * d) 30 (by omega) (by omega)
      rw [show f - 30 * (d + 1) = f - 30 * d - 30 by omega]
      exact this
    · show (if (p_rests d v).2.2.2.1 - 1 < 0 then (0 : Int32) else (p_rests d v).2.2.2.1 - 1) = _
      rw [i2]
      have := step (h - d) 1 (by omega) (by omega)
      rw [show h - (d + 1) = h - d - 1 by omega]
      exact this
theorem p_rests_iv {n B d : Nat} {S : gS} (h : p_iv n B S) : p_iv n B (S.1, S.2.1, fun j => p_rests d (S.2.2 j)) := by
  obtain ⟨h5, hord, hoi, hok, hmu⟩ := h
  refine ⟨h5, hord, hoi, fun i hi => ?_, fun p hp => ?_⟩
  · obtain ⟨a1, ⟨f, hf, ef⟩, ⟨q, hq, eq⟩, a4⟩ := hok i hi
    obtain ⟨b1, b2, b3, b4, b5⟩ := p_rests_v (B := B) hf hq ef eq d
    refine ⟨by show _ ≤ (p_rests d (S.2.2 i)).2.1.toInt ∧ _; rw [b4]; exact a1, ⟨_, by omega, b1⟩, ⟨_, by omega, b2⟩, ?_⟩
    show _ ≤ (p_rests d (S.2.2 i)).2.2.2.2.2.toInt ∧ (p_rests d (S.2.2 i)).2.2.2.2.2.toInt ≤ _
    rw [b5]; exact a4
  · obtain ⟨-, ⟨f, hf, ef⟩, -, -⟩ := hok _ (hord p hp)
    have e0 : (S.2.2 (S.2.1 p)).2.2.2.1 = nI 0 := hmu p hp
    have := (p_rests_v (B := B) hf (Nat.zero_le 7) ef e0 d).2.1
    rw [Nat.zero_sub] at this
    exact this
