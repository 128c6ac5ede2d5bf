/-! The farm: addresses Z (0 hands' list, 1 its array, 2 lots' list, 3 bins' list, 4 its array, 5 gang, 6 its list, 7 its array, 8 drum, 9 ledger, 10 bushels, 11 customs), hands at ad, bins at bn; the state: how many stand in the gang, who stands where, the hands' values. -/
abbrev gS : Type := Nat × (Nat → Nat) × (Nat → gH)
abbrev gw_ro (Z : Nat → Nat) (day : Int32) : va_E := .inr (0, [.ref (Z 0), .ref (Z 2), .ref (Z 3), .ref (Z 5), .ref (Z 8), .ref (Z 9), .ref (Z 10), .ref (Z 11), .int day, .int 1, .int 0, .int 0, .int 0, .int 0])
def gw_fa (z0 : Nat) (cO : ClassId) (M : gM) (o n : Nat) (day : Int32) (S : gS) (Z ad bn : Nat → Nat) : Prop :=
  M o = some (gw_ro Z day) ∧ gw_L z0 cO M (Z 0) (Z 1) n ad ∧ gw_L z0 cO M (Z 2) z0 0 ad ∧ gw_L z0 cO M (Z 3) (Z 4) 6 bn ∧ (∀ p, p < 6 → M (bn p) = some (.inr (5, [.int (-1), .int 0, .int 0, .int 0]))) ∧
  M (Z 5) = some (.inr (2, [.ref (Z 6)])) ∧ gw_L z0 cO M (Z 6) (Z 7) S.1 (fun p => ad (S.2.1 p)) ∧ M (Z 8) = some (.inr (3, [.int 0, .int (-1), .int 0, .int (-1)])) ∧ M (Z 9) = some (.inr (4, [.int 0, .int 0, .int 0, .int 0, .int 0, .int 0, .int 0, .int 0, .int 0])) ∧
  (∀ i, i < n → M (ad i) = some (gw_hd (S.2.2 i))) ∧ (∀ i j, i < n → j < n → ad i = ad j → i = j) ∧ (∀ p, p < S.1 → S.2.1 p < n) ∧ (∀ p q, p < S.1 → q < S.1 → S.2.1 p = S.2.1 q → p = q) ∧
  (Z 0 ≠ Z 2 ∧ Z 0 ≠ Z 3 ∧ Z 0 ≠ Z 6 ∧ Z 2 ≠ Z 3 ∧ Z 2 ≠ Z 6 ∧ Z 3 ≠ Z 6) ∧ ((Z 1 = Z 4 → Z 1 = z0) ∧ (Z 1 = Z 7 → Z 1 = z0) ∧ (Z 4 = Z 7 → Z 4 = z0))
def gw_isI (e : va_E) : Prop := ∃ (c : ClassId) (n : Nat) (f : Nat → Int32), e = .inl (c, n, .inl f)
theorem gw_nI_o {i : Nat} {fs : List Value} : ¬ gw_isI (.inr (i, fs)) := by rintro ⟨c, n, f, h⟩; cases h
theorem gw_nI_q {c : ClassId} {n : Nat} {f : Nat → Option Nat} : ¬ gw_isI (.inl (c, n, .inr (.inr (.inr (.inr f))))) := by rintro ⟨c, n, f, h⟩; cases h
theorem gw_L.keptI {z0 : Nat} {cO : ClassId} {M M' : gM} {a t n : Nat} {g : Nat → Nat} (h : gw_L z0 cO M a t n g) (hM : ∀ b e, M b = some e → ¬ gw_isI e → M' b = M b) : gw_L z0 cO M' a t n g := by
  have h2 := h
  obtain ⟨k, ha, -⟩ := h2
  exact h.kept (hM a _ ha gw_nI_o) (fun f hf => hM t _ hf gw_nI_q)
theorem gw_fa.kept {z0 : Nat} {cO : ClassId} {M M' : gM} {o n : Nat} {day : Int32} {S : gS} {Z ad bn : Nat → Nat} (h : gw_fa z0 cO M o n day S Z ad bn) (hM : ∀ b e, M b = some e → ¬ gw_isI e → M' b = M b) : gw_fa z0 cO M' o n day S Z ad bn := by
  obtain ⟨h1, h2, h3, h4, h5, h6, h7, h8, h9, h10, h11⟩ := h
  exact ⟨(hM _ _ h1 gw_nI_o).trans h1, h2.keptI hM, h3.keptI hM, h4.keptI hM, fun p hp => (hM _ _ (h5 p hp) gw_nI_o).trans (h5 p hp), (hM _ _ h6 gw_nI_o).trans h6, h7.keptI hM, (hM _ _ h8 gw_nI_o).trans h8, (hM _ _ h9 gw_nI_o).trans h9, fun i hi => (hM _ _ (h10 i hi) gw_nI_o).trans (h10 i hi), h11⟩
theorem gw_fa.gg {z0 : Nat} {cO : ClassId} {M : gM} {o n : Nat} {day : Int32} {S : gS} {Z ad bn : Nat → Nat} (h : gw_fa z0 cO M o n day S Z ad bn) : gw_Gg z0 cO M (Z 5) (Z 6) (Z 7) S.1 (fun p => ad (S.2.1 p)) (fun p => S.2.2 (S.2.1 p)) := by
  obtain ⟨h1, h2, h3, h4, h5, h6, h7, h8, h9, h10, h11, h12, h13, -⟩ := h
  exact ⟨h6, h7, fun p hp => h10 _ (h12 p hp), fun p q hp hq z => h13 p q hp hq (h11 _ _ (h12 p hp) (h12 q hq) z)⟩
/-- a list beside what has changed -/
theorem gw_L.beside {z0 : Nat} {cO : ClassId} {M M' : gM} {a t n a2 t2 : Nat} {g : Nat → Nat} (h : gw_L z0 cO M a t n g) (hfr : ∀ b e, M b = some e → b ≠ a2 → b ≠ t2 → (∀ x, e ≠ .inr (6, x)) → M' b = M b) (h1 : a ≠ a2) (h2 : a ≠ t2) (h3 : ∀ f, M t = some (.inl (cO, 10, .inr (.inr (.inr (.inr f))))) → t ≠ a2 ∧ t ≠ t2) : gw_L z0 cO M' a t n g := by
  have h0 := h
  obtain ⟨k, ha, -⟩ := h0
  exact h.kept (hfr a _ ha h1 h2 (fun x z => by injection z with z; injection z with z z2; cases z)) (fun f hf => hfr t _ hf (h3 f hf).1 (h3 f hf).2 (fun x z => by injection z))
/-- the gang's list and the hands' values have changed -/
theorem gw_fa.gang {z0 : Nat} {cO : ClassId} {M M' : gM} {o n : Nat} {day : Int32} {S : gS} {Z ad bn : Nat → Nat} (h : gw_fa z0 cO M o n day S Z ad bn) (hz : M z0 = none) {t' m' : Nat} {ord' : Nat → Nat} {v' : Nat → gH} (hL' : gw_L z0 cO M' (Z 6) t' m' (fun p => ad (ord' p))) (hv' : ∀ i, i < n → M' (ad i) = some (gw_hd (v' i))) (hfr : ∀ b e, M b = some e → b ≠ Z 6 → b ≠ t' → (∀ x, e ≠ .inr (6, x)) → M' b = M b) (ht' : t' = Z 7 ∨ M t' = none) (ho1 : ∀ p, p < m' → ord' p < n) (ho2 : ∀ p q, p < m' → q < m' → ord' p = ord' q → p = q) :
    gw_fa z0 cO M' o n day (m', ord', v') (fun k => if k = 7 then t' else Z k) ad bn := by
  obtain ⟨h1, h2, h3, h4, h5, h6, h7, h8, h9, h10, h11, h12, h13, ⟨n1, n2, n3, n4, n5, n6⟩, a1, a2, a3⟩ := h
  have h7' := h7
  obtain ⟨k7, hgl, -, h7f⟩ := h7'
  -- what is an object isn't t'
  have ot : ∀ b i fs, M b = some (.inr (i, fs)) → b ≠ t' := by
    intro b i fs hb
    rcases ht' with rfl | ht'
    · rcases h7f with ⟨-, h7z⟩ | ⟨f, h7a, -⟩
      · rw [h7z]; exact gw_neF hz hb
      · exact (gw_neA h7a hb).symm
    · exact gw_neF ht' hb
  have at' : ∀ t f, (t = Z 7 → t = z0) → M t = some (.inl (cO, 10, .inr (.inr (.inr (.inr f))))) → t ≠ t' := by
    intro t f hq hb z
    rcases ht' with ht' | ht'
    · rw [hq (z.trans ht')] at hb; rw [hz] at hb; cases hb
    · rw [z, ht'] at hb; cases hb
  have ob : ∀ b i fs, M b = some (.inr (i, fs)) → i ≠ 1 → i ≠ 6 → M' b = M b := fun b i fs hb hi hi6 => hfr b _ hb (gw_neO hb hgl hi) (ot b i fs hb) (fun x z => hi6 (by injection z with z; injection z))
  have zt : ∀ t, (t = Z 7 → t = z0) → (t = z0 ∨ ∃ f, M t = some (.inl (cO, 10, .inr (.inr (.inr (.inr f)))))) → t = t' → t = z0 := by
    intro t hq hb z
    rcases hb with hb | ⟨f, hb⟩
    · exact hb
    · exact absurd z (at' t f hq hb)
  have l1 : Z 1 = z0 ∨ ∃ f, M (Z 1) = some (.inl (cO, 10, .inr (.inr (.inr (.inr f))))) := by
    obtain ⟨k, -, -, q⟩ := h2
    rcases q with ⟨-, q⟩ | ⟨f, q, -⟩
    · exact Or.inl q
    · exact Or.inr ⟨f, q⟩
  have l4 : Z 4 = z0 ∨ ∃ f, M (Z 4) = some (.inl (cO, 10, .inr (.inr (.inr (.inr f))))) := by
    obtain ⟨k, -, -, q⟩ := h4
    rcases q with ⟨-, q⟩ | ⟨f, q, -⟩
    · exact Or.inl q
    · exact Or.inr ⟨f, q⟩
  have h2' := h2
  have h3' := h3
  have h4' := h4
  obtain ⟨k2, e2, -⟩ := h2'
  obtain ⟨k3, e3, -⟩ := h3'
  obtain ⟨k4, e4, -⟩ := h4'
  refine ⟨(ob o _ _ h1 (by decide) (by decide)).trans h1, h2.beside hfr n3 (ot _ _ _ e2) (fun f hf => ⟨gw_neA hf hgl, at' _ f a2 hf⟩), h3.beside hfr n5 (ot _ _ _ e3) (fun f hf => by rw [hz] at hf; cases hf), h4.beside hfr n6 (ot _ _ _ e4) (fun f hf => ⟨gw_neA hf hgl, at' _ f a3 hf⟩), fun p hp => (ob _ _ _ (h5 p hp) (by decide) (by decide)).trans (h5 p hp), (ob _ _ _ h6 (by decide) (by decide)).trans h6, hL', (ob _ _ _ h8 (by decide) (by decide)).trans h8, (ob _ _ _ h9 (by decide) (by decide)).trans h9, hv', h11, ho1, ho2, ⟨n1, n2, n3, n4, n5, n6⟩, a1, fun z => zt (Z 1) a2 l1 z, fun z => zt (Z 4) a3 l4 z⟩
/-- the hands' values alone have changed -/
theorem gw_fa.vals {z0 : Nat} {cO : ClassId} {M M' : gM} {o n : Nat} {day : Int32} {S : gS} {Z ad bn : Nat → Nat} (h : gw_fa z0 cO M o n day S Z ad bn) {v' : Nat → gH} (hv' : ∀ i, i < n → M' (ad i) = some (gw_hd (v' i))) (hfr : ∀ b e, M b = some e → (∀ x, e ≠ .inr (6, x)) → M' b = M b) : gw_fa z0 cO M' o n day (S.1, S.2.1, v') Z ad bn := by
  obtain ⟨h1, h2, h3, h4, h5, h6, h7, h8, h9, h10, h11⟩ := h
  have ob : ∀ b i fs, M b = some (.inr (i, fs)) → i ≠ 6 → M' b = M b := fun b i fs hb hi6 => hfr b _ hb (fun x z => hi6 (by injection z with z; injection z))
  have ar : ∀ b x, M b = some (.inl x) → M' b = M b := fun b x hb => hfr b _ hb (fun x z => by injection z)
  have ol : ∀ {a t k : Nat} {g : Nat → Nat}, gw_L z0 cO M a t k g → gw_L z0 cO M' a t k g := by
    intro a t k g hL
    have hL2 := hL
    obtain ⟨q, ha, -⟩ := hL2
    exact hL.kept (ob a _ _ ha (by decide)) (fun f hf => ar t _ hf)
  exact ⟨(ob o _ _ h1 (by decide)).trans h1, ol h2, ol h3, ol h4, fun p hp => (ob _ _ _ (h5 p hp) (by decide)).trans (h5 p hp), (ob _ _ _ h6 (by decide)).trans h6, ol h7, (ob _ _ _ h8 (by decide)).trans h8, (ob _ _ _ h9 (by decide)).trans h9, hv', h11⟩
/-- the farm's own object alone has changed: its day -/
theorem gw_fa.day {z0 : Nat} {cO : ClassId} {M : gM} {o n : Nat} {day d2 : Int32} {S : gS} {Z ad bn : Nat → Nat} (h : gw_fa z0 cO M o n day S Z ad bn) : gw_fa z0 cO (gw_up M o (gw_ro Z d2)) o n d2 S Z ad bn := by
  obtain ⟨h1, h2, h3, h4, h5, h6, h7, h8, h9, h10, h11⟩ := h
  have ob : ∀ b i fs, M b = some (.inr (i, fs)) → i ≠ 0 → gw_up M o (gw_ro Z d2) b = M b := fun b i fs hb hi => gw_miss (gw_neO hb h1 hi)
  have ol : ∀ {a t k : Nat} {g : Nat → Nat}, gw_L z0 cO M a t k g → gw_L z0 cO (gw_up M o (gw_ro Z d2)) a t k g := by
    intro a t k g hL
    have hL2 := hL
    obtain ⟨q, ha, -⟩ := hL2
    exact hL.kept (ob a _ _ ha (by decide)) (fun f hf => gw_miss (gw_neA hf h1))
  exact ⟨gw_hit, ol h2, ol h3, ol h4, fun p hp => (ob _ _ _ (h5 p hp) (by decide)).trans (h5 p hp), (ob _ _ _ h6 (by decide)).trans h6, ol h7, (ob _ _ _ h8 (by decide)).trans h8, (ob _ _ _ h9 (by decide)).trans h9, fun i hi => (ob _ _ _ (h10 i hi) (by decide)).trans (h10 i hi), h11⟩
/-- a hand comes -/
theorem gw_fa.hand {z0 : Nat} {cO : ClassId} {M M' : gM} {o n : Nat} {day : Int32} {S : gS} {Z ad bn : Nat → Nat} (h : gw_fa z0 cO M o n day S Z ad bn) (hz : M z0 = none) {t' q : Nat} {u : gH} (hL' : gw_L z0 cO M' (Z 0) t' (n + 1) (va_up ad n q)) (hq0 : M q = none) (hq : M' q = some (gw_hd u)) (hfr : ∀ b e, M b = some e → b ≠ Z 0 → b ≠ t' → M' b = M b) (ht' : t' = Z 1 ∨ M t' = none) :
    gw_fa z0 cO M' o (n + 1) day (S.1, S.2.1, fun i => if i = n then u else S.2.2 i) (fun k => if k = 1 then t' else Z k) (va_up ad n q) bn := by
  obtain ⟨h1, h2, h3, h4, h5, h6, h7, h8, h9, h10, h11, h12, h13, ⟨n1, n2, n3, n4, n5, n6⟩, a1, a2, a3⟩ := h
  have h2' := h2
  obtain ⟨k2, hhl, -, h2f⟩ := h2'
  have ot : ∀ b i fs, M b = some (.inr (i, fs)) → b ≠ t' := by
    intro b i fs hb
    rcases ht' with rfl | ht'
    · rcases h2f with ⟨-, h7z⟩ | ⟨f, h7a, -⟩
      · rw [h7z]; exact gw_neF hz hb
      · exact (gw_neA h7a hb).symm
    · exact gw_neF ht' hb
  have at' : ∀ t f, (Z 1 = t → Z 1 = z0) → M t = some (.inl (cO, 10, .inr (.inr (.inr (.inr f))))) → t ≠ t' := by
    intro t f hqq hb z
    rcases ht' with ht' | ht'
    · have e1 := hqq (ht'.symm.trans z.symm)
      rw [z, ht', e1, hz] at hb; cases hb
    · rw [z, ht'] at hb; cases hb
  have ob : ∀ b i fs, M b = some (.inr (i, fs)) → i ≠ 1 → M' b = M b := fun b i fs hb hi => hfr b _ hb (gw_neO hb hhl hi) (ot b i fs hb)
  have l4 : Z 4 = z0 ∨ ∃ f, M (Z 4) = some (.inl (cO, 10, .inr (.inr (.inr (.inr f))))) := by
    obtain ⟨k, -, -, q⟩ := h4
    rcases q with ⟨-, q⟩ | ⟨f, q, -⟩
    · exact Or.inl q
    · exact Or.inr ⟨f, q⟩
  have l7 : Z 7 = z0 ∨ ∃ f, M (Z 7) = some (.inl (cO, 10, .inr (.inr (.inr (.inr f))))) := by
    obtain ⟨k, -, -, q⟩ := h7
    rcases q with ⟨-, q⟩ | ⟨f, q, -⟩
    · exact Or.inl q
    · exact Or.inr ⟨f, q⟩
  have hup : ∀ i, i < n → va_up ad n q i = ad i := fun i hi => by unfold va_up; rw [if_neg (by omega)]
  have hupn : va_up ad n q n = q := by unfold va_up; rw [if_pos rfl]
  have zt : ∀ t, (Z 1 = t → Z 1 = z0) → (t = z0 ∨ ∃ f, M t = some (.inl (cO, 10, .inr (.inr (.inr (.inr f)))))) → t' = t → t' = z0 := by
    intro t hqq hb z
    rcases hb with hb | ⟨f, hb⟩
    · exact z.trans hb
    · exact absurd z.symm (at' t f hqq hb)
  have ol : ∀ {a t k : Nat} {g : Nat → Nat}, gw_L z0 cO M a t k g → a ≠ Z 0 → (Z 1 = t → Z 1 = z0) → gw_L z0 cO M' a t k g := by
    intro a t k g hL hn hqq
    have hL2 := hL
    obtain ⟨q, ha, -⟩ := hL2
    exact hL.kept (hfr a _ ha hn (ot _ _ _ ha)) (fun f hf => hfr t _ hf (gw_neA hf hhl) (at' t f hqq hf))
  have hvals : ∀ i, i < n + 1 → M' (va_up ad n q i) = some (gw_hd (if i = n then u else S.2.2 i)) := by
    intro i hi
    by_cases hin : i = n
    · subst hin; rw [hupn, if_pos rfl]; exact hq
    · rw [hup i (by omega), if_neg hin]
      exact (ob _ _ _ (h10 i (by omega)) (by decide)).trans (h10 i (by omega))
  have hinj : ∀ i j, i < n + 1 → j < n + 1 → va_up ad n q i = va_up ad n q j → i = j := by
    intro i j hi hj z
    by_cases hin : i = n
    · by_cases hjn : j = n
      · omega
      · rw [hin, hupn, hup j (by omega)] at z
        have e1 := h10 j (by omega)
        rw [← z, hq0] at e1; cases e1
    · by_cases hjn : j = n
      · rw [hjn, hupn, hup i (by omega)] at z
        have e1 := h10 i (by omega)
        rw [z, hq0] at e1; cases e1
      · rw [hup i (by omega), hup j (by omega)] at z
        exact h11 i j (by omega) (by omega) z
  have h7n : gw_L z0 cO M' (Z 6) (Z 7) S.1 (fun p => va_up ad n q (S.2.1 p)) := by
    obtain ⟨k, q1, q2, q3⟩ := ol h7 n3.symm a2
    refine ⟨k, q1, q2, ?_⟩
    rcases q3 with q3 | ⟨f, q3, q4⟩
    · exact Or.inl q3
    · exact Or.inr ⟨f, q3, fun p hp => (q4 p hp).trans (congrArg some (hup _ (h12 p hp)).symm)⟩
  have h3n : gw_L z0 cO M' (Z 2) z0 0 (va_up ad n q) := by
    obtain ⟨k, q1, q2, q3⟩ := ol h3 n1.symm (fun z => z)
    exact ⟨k, q1, q2, Or.inl ⟨rfl, rfl⟩⟩
  exact ⟨(ob o _ _ h1 (by decide)).trans h1, hL', h3n, ol h4 n2.symm a1, fun p hp => (ob _ _ _ (h5 p hp) (by decide)).trans (h5 p hp), (ob _ _ _ h6 (by decide)).trans h6, h7n, (ob _ _ _ h8 (by decide)).trans h8, (ob _ _ _ h9 (by decide)).trans h9, hvals, hinj, fun p hp => Nat.lt_succ_of_lt (h12 p hp), h13, ⟨n1, n2, n3, n4, n5, n6⟩, fun z => zt _ a1 l4 z, fun z => zt _ a2 l7 z, a3⟩
/-- the int arrays are as they were -/
def gw_ints (M M' : gM) : Prop := ∀ b e, M b = some e → gw_isI e → M' b = M b
theorem gw_ints.of {z0 : Nat} {cO : ClassId} {M M' : gM} {a t t' n : Nat} {g : Nat → Nat} (hL : gw_L z0 cO M a t n g) (hz : M z0 = none) (hfr : ∀ b e, M b = some e → b ≠ a → b ≠ t' → (∀ x, e ≠ .inr (6, x)) → M' b = M b) (ht' : t' = t ∨ M t' = none) : gw_ints M M' := by
  obtain ⟨k, ha, -, hf⟩ := hL
  rintro b e hb ⟨c, n, f, rfl⟩
  refine hfr b _ hb (gw_neA hb ha) ?_ (fun x z => by injection z)
  rcases ht' with rfl | ht'
  · rcases hf with ⟨-, h7z⟩ | ⟨f, h7a, -⟩
    · rw [h7z]; exact gw_neF hz hb
    · exact gw_ne hb h7a (fun z => by injection z with z; injection z with z1 z; injection z with z2 z; cases z)
  · exact gw_neF ht' hb
theorem gw_ints.trans {M M1 M2 : gM} (h1 : gw_ints M M1) (h2 : gw_ints M1 M2) : gw_ints M M2 := fun b e hb he => (h2 b e ((h1 b e hb he).trans hb) he).trans (h1 b e hb he)
theorem gw_ints.rf {M : gM} : gw_ints M M := fun _ _ _ _ => rfl
theorem gw_ints.vals {M M' : gM} (hfr : ∀ b e, M b = some e → (∀ x, e ≠ .inr (6, x)) → M' b = M b) : gw_ints M M' := by
  rintro b e hb ⟨c, n, f, rfl⟩
  exact hfr b _ hb (fun x z => by injection z)
theorem gw_z0 {E : Nat} {D : va_G} {cI cO cZ : ClassId} {z0 : Nat} {s : State} {M : gM} {H : Heap} {locs : List Loc} (hF : gw_F E D cI cO cZ z0 s) (hG : gw_H E D M s H locs) : M z0 = none := by
  obtain ⟨cell, -, -, -, -, -, -, h⟩ := hF.2.2.2.1
  cases hM : M z0 with
  | none => rfl
  | some e => exact absurd (hG.2.1 z0 e hM) h
def skp (J : Nat) (f : Nat → Nat) (p : Nat) : Nat := if p < J then f p else f (p + 1)
theorem skp_lt {J m n : Nat} {f : Nat → Nat} (h : ∀ p, p < m + 1 → f p < n) : ∀ p, p < m → skp J f p < n := by
  intro p hp
  unfold skp
  split
  · exact h p (by omega)
  · exact h (p + 1) (by omega)
theorem skp_inj {J m : Nat} {f : Nat → Nat} (h : ∀ p q, p < m + 1 → q < m + 1 → f p = f q → p = q) : ∀ p q, p < m → q < m → skp J f p = skp J f q → p = q := by
  intro p q hp hq z
  unfold skp at z
  split at z
  · split at z
    · exact h p q (by omega) (by omega) z
    · have := h p (q + 1) (by omega) (by omega) z; omega
  · split at z
    · have := h (p + 1) q (by omega) (by omega) z; omega
    · have := h (p + 1) (q + 1) (by omega) (by omega) z; omega
