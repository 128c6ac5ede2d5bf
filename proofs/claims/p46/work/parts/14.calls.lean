theorem d_Row_practise_0 : decode b_Row_practise 0 = .ok (.iload_n 1, 1) := by decide +kernel
theorem d_Row_practise_1 : decode b_Row_practise 1 = .ok (.iconst 1, 1) := by decide +kernel
theorem d_Row_practise_2 : decode b_Row_practise 2 = .ok (.bipush 99, 2) := by decide +kernel
theorem wm_425 : Cond.code ⟨"ThresholdRow", "checkRange", "(III)V"⟩ prog_1_method_45_code 3 none ∈ gT := gT_m (List.mem_of_getElem? (i := 425) (by decide +kernel)) (by decide +kernel)
theorem wm_423 : Cond.methodLink "ThresholdRow" 77 ⟨"ThresholdRow", "checkRange", "(III)V"⟩ ∈ gT := gT_m (List.mem_of_getElem? (i := 423) (by decide +kernel)) (by decide +kernel)
theorem d_Row_practise_4 : decode b_Row_practise 4 = .ok (.invokestatic 77, 3) := by decide +kernel
theorem wm_424 : Cond.static ⟨"ThresholdRow", "checkRange", "(III)V"⟩ ∈ gT := gT_m (List.mem_of_getElem? (i := 424) (by decide +kernel)) (by decide +kernel)
theorem d_Row_practise_7 : decode b_Row_practise 7 = .ok (.aload_n 0, 1) := by decide +kernel
theorem wm_682 : Cond.code ⟨"ThresholdRow", "checkGang", "()V"⟩ prog_1_method_46_code 1 none ∈ gT := gT_m (List.mem_of_getElem? (i := 682) (by decide +kernel)) (by decide +kernel)
theorem wm_679 : Cond.methodLink "ThresholdRow" 143 ⟨"ThresholdRow", "checkGang", "()V"⟩ ∈ gT := gT_m (List.mem_of_getElem? (i := 679) (by decide +kernel)) (by decide +kernel)
theorem d_Row_practise_8 : decode b_Row_practise 8 = .ok (.invokevirtual 143, 3) := by decide +kernel
theorem wm_681 : Cond.instanceMethod ⟨"ThresholdRow", "checkGang", "()V"⟩ ∈ gT := gT_m (List.mem_of_getElem? (i := 681) (by decide +kernel)) (by decide +kernel)
theorem wm_13 : Cond.selects "ThresholdRow" ⟨"ThresholdRow", "checkGang", "()V"⟩ ⟨"ThresholdRow", "checkGang", "()V"⟩ ∈ gT := gT_m (List.mem_of_getElem? (i := 13) (by decide +kernel)) (by decide +kernel)
theorem d_Row_practise_11 : decode b_Row_practise 11 = .ok (.iconst 0, 1) := by decide +kernel
theorem d_Row_practise_12 : decode b_Row_practise 12 = .ok (.istore_n 2, 1) := by decide +kernel
theorem d_Row_practise_13 : decode b_Row_practise 13 = .ok (.iconst 0, 1) := by decide +kernel
theorem d_Row_practise_14 : decode b_Row_practise 14 = .ok (.istore_n 3, 1) := by decide +kernel
theorem d_Row_practise_15 : decode b_Row_practise 15 = .ok (.iload_n 3, 1) := by decide +kernel
theorem d_Row_practise_16 : decode b_Row_practise 16 = .ok (.iload_n 1, 1) := by decide +kernel
theorem d_Row_practise_17 : decode b_Row_practise 17 = .ok (.if_icmp .ge 33, 3) := by decide +kernel
theorem d_Row_practise_50 : decode b_Row_practise 50 = .ok (.iload_n 2, 1) := by decide +kernel
theorem d_Row_practise_51 : decode b_Row_practise 51 = .ok (.ireturn, 1) := by decide +kernel
theorem d_Row_practise_20 : decode b_Row_practise 20 = .ok (.aload_n 0, 1) := by decide +kernel
theorem d_Row_practise_21 : decode b_Row_practise 21 = .ok (.getfield 25, 3) := by decide +kernel
theorem d_Row_practise_24 : decode b_Row_practise 24 = .ok (.invokevirtual 113, 3) := by decide +kernel
theorem d_Row_practise_27 : decode b_Row_practise 27 = .ok (.iconst 2, 1) := by decide +kernel
theorem d_Row_practise_28 : decode b_Row_practise 28 = .ok (.if_icmp .lt 22, 3) := by decide +kernel
theorem d_Row_practise_31 : decode b_Row_practise 31 = .ok (.aload_n 0, 1) := by decide +kernel
theorem d_Row_practise_32 : decode b_Row_practise 32 = .ok (.getfield 25, 3) := by decide +kernel
theorem wm_687 : Cond.code ⟨"ThresholdRow$Gang", "beatRound", "()Z"⟩ prog_4_method_7_code 3 (some .boolean) ∈ gT := gT_m (List.mem_of_getElem? (i := 687) (by decide +kernel)) (by decide +kernel)
theorem wm_684 : Cond.methodLink "ThresholdRow" 146 ⟨"ThresholdRow$Gang", "beatRound", "()Z"⟩ ∈ gT := gT_m (List.mem_of_getElem? (i := 684) (by decide +kernel)) (by decide +kernel)
theorem d_Row_practise_35 : decode b_Row_practise 35 = .ok (.invokevirtual 146, 3) := by decide +kernel
theorem wm_685 : Cond.instanceMethod ⟨"ThresholdRow$Gang", "beatRound", "()Z"⟩ ∈ gT := gT_m (List.mem_of_getElem? (i := 685) (by decide +kernel)) (by decide +kernel)
theorem wm_686 : Cond.selects "ThresholdRow$Gang" ⟨"ThresholdRow$Gang", "beatRound", "()Z"⟩ ⟨"ThresholdRow$Gang", "beatRound", "()Z"⟩ ∈ gT := gT_m (List.mem_of_getElem? (i := 686) (by decide +kernel)) (by decide +kernel)
theorem d_Row_practise_38 : decode b_Row_practise 38 = .ok (.ifCond .eq 6, 3) := by decide +kernel
theorem d_Row_practise_44 : decode b_Row_practise 44 = .ok (.iinc 3 1, 3) := by decide +kernel
theorem d_Row_practise_47 : decode b_Row_practise 47 = .ok (.goto (-32), 3) := by decide +kernel
theorem d_Row_practise_41 : decode b_Row_practise 41 = .ok (.iinc 2 1, 3) := by decide +kernel
theorem d_Row_restHands_0 : decode b_Row_restHands 0 = .ok (.iconst 0, 1) := by decide +kernel
theorem d_Row_restHands_1 : decode b_Row_restHands 1 = .ok (.istore_n 1, 1) := by decide +kernel
theorem d_Row_restHands_2 : decode b_Row_restHands 2 = .ok (.iload_n 1, 1) := by decide +kernel
theorem d_Row_restHands_3 : decode b_Row_restHands 3 = .ok (.aload_n 0, 1) := by decide +kernel
theorem d_Row_restHands_4 : decode b_Row_restHands 4 = .ok (.getfield 10, 3) := by decide +kernel
theorem d_Row_restHands_7 : decode b_Row_restHands 7 = .ok (.invokevirtual 81, 3) := by decide +kernel
theorem d_Row_restHands_10 : decode b_Row_restHands 10 = .ok (.if_icmp .ge 23, 3) := by decide +kernel
theorem d_Row_restHands_33 : decode b_Row_restHands 33 = .ok (.return_, 1) := by decide +kernel
theorem d_Row_restHands_13 : decode b_Row_restHands 13 = .ok (.aload_n 0, 1) := by decide +kernel
theorem d_Row_restHands_14 : decode b_Row_restHands 14 = .ok (.getfield 10, 3) := by decide +kernel
theorem d_Row_restHands_17 : decode b_Row_restHands 17 = .ok (.iload_n 1, 1) := by decide +kernel
theorem d_Row_restHands_18 : decode b_Row_restHands 18 = .ok (.invokevirtual 354, 3) := by decide +kernel
theorem d_Row_restHands_21 : decode b_Row_restHands 21 = .ok (.checkcast 92, 3) := by decide +kernel
theorem wm_736 : Cond.code ⟨"ThresholdRow$Hand", "rest", "()V"⟩ prog_5_method_4_code 1 none ∈ gT := gT_m (List.mem_of_getElem? (i := 736) (by decide +kernel)) (by decide +kernel)
theorem wm_733 : Cond.methodLink "ThresholdRow" 417 ⟨"ThresholdRow$Hand", "rest", "()V"⟩ ∈ gT := gT_m (List.mem_of_getElem? (i := 733) (by decide +kernel)) (by decide +kernel)
theorem d_Row_restHands_24 : decode b_Row_restHands 24 = .ok (.invokevirtual 417, 3) := by decide +kernel
theorem wm_734 : Cond.instanceMethod ⟨"ThresholdRow$Hand", "rest", "()V"⟩ ∈ gT := gT_m (List.mem_of_getElem? (i := 734) (by decide +kernel)) (by decide +kernel)
theorem wm_735 : Cond.selects "ThresholdRow$Hand" ⟨"ThresholdRow$Hand", "rest", "()V"⟩ ⟨"ThresholdRow$Hand", "rest", "()V"⟩ ∈ gT := gT_m (List.mem_of_getElem? (i := 735) (by decide +kernel)) (by decide +kernel)
theorem d_Row_restHands_27 : decode b_Row_restHands 27 = .ok (.iinc 1 1, 3) := by decide +kernel
theorem d_Row_restHands_30 : decode b_Row_restHands 30 = .ok (.goto (-28), 3) := by decide +kernel
theorem d_Row_pass_0 : decode b_Row_pass 0 = .ok (.iload_n 1, 1) := by decide +kernel
theorem d_Row_pass_1 : decode b_Row_pass 1 = .ok (.iconst 1, 1) := by decide +kernel
theorem d_Row_pass_2 : decode b_Row_pass 2 = .ok (.bipush 99, 2) := by decide +kernel
theorem d_Row_pass_4 : decode b_Row_pass 4 = .ok (.invokestatic 77, 3) := by decide +kernel
theorem d_Row_pass_7 : decode b_Row_pass 7 = .ok (.aload_n 0, 1) := by decide +kernel
theorem wm_244 : Cond.fieldLink "ThresholdRow" 51 "ThresholdRow" "day" "I" ∈ gT := gT_m (List.mem_of_getElem? (i := 244) (by decide +kernel)) (by decide +kernel)
theorem d_Row_pass_8 : decode b_Row_pass 8 = .ok (.getfield 51, 3) := by decide +kernel
theorem d_Row_pass_11 : decode b_Row_pass 11 = .ok (.iload_n 1, 1) := by decide +kernel
theorem d_Row_pass_12 : decode b_Row_pass 12 = .ok (.iadd, 1) := by decide +kernel
theorem d_Row_pass_13 : decode b_Row_pass 13 = .ok (.sipush 9999, 3) := by decide +kernel
theorem d_Row_pass_16 : decode b_Row_pass 16 = .ok (.if_icmp .le 14, 3) := by decide +kernel
theorem d_Row_pass_30 : decode b_Row_pass 30 = .ok (.iconst 0, 1) := by decide +kernel
theorem d_Row_pass_31 : decode b_Row_pass 31 = .ok (.istore_n 2, 1) := by decide +kernel
theorem d_Row_pass_32 : decode b_Row_pass 32 = .ok (.iload_n 2, 1) := by decide +kernel
theorem d_Row_pass_33 : decode b_Row_pass 33 = .ok (.iload_n 1, 1) := by decide +kernel
theorem d_Row_pass_34 : decode b_Row_pass 34 = .ok (.if_icmp .ge 34, 3) := by decide +kernel
theorem d_Row_pass_68 : decode b_Row_pass 68 = .ok (.aload_n 0, 1) := by decide +kernel
theorem d_Row_pass_69 : decode b_Row_pass 69 = .ok (.getfield 51, 3) := by decide +kernel
theorem d_Row_pass_72 : decode b_Row_pass 72 = .ok (.ireturn, 1) := by decide +kernel
theorem d_Row_pass_37 : decode b_Row_pass 37 = .ok (.aload_n 0, 1) := by decide +kernel
theorem d_Row_pass_38 : decode b_Row_pass 38 = .ok (.dup, 1) := by decide +kernel
theorem d_Row_pass_39 : decode b_Row_pass 39 = .ok (.getfield 51, 3) := by decide +kernel
theorem d_Row_pass_42 : decode b_Row_pass 42 = .ok (.iconst 1, 1) := by decide +kernel
theorem d_Row_pass_43 : decode b_Row_pass 43 = .ok (.iadd, 1) := by decide +kernel
theorem d_Row_pass_44 : decode b_Row_pass 44 = .ok (.putfield 51, 3) := by decide +kernel
theorem d_Row_pass_47 : decode b_Row_pass 47 = .ok (.aload_n 0, 1) := by decide +kernel
theorem wm_732 : Cond.code ⟨"ThresholdRow", "restHands", "()V"⟩ prog_1_method_56_code 2 none ∈ gT := gT_m (List.mem_of_getElem? (i := 732) (by decide +kernel)) (by decide +kernel)
theorem wm_729 : Cond.methodLink "ThresholdRow" 305 ⟨"ThresholdRow", "restHands", "()V"⟩ ∈ gT := gT_m (List.mem_of_getElem? (i := 729) (by decide +kernel)) (by decide +kernel)
theorem d_Row_pass_48 : decode b_Row_pass 48 = .ok (.invokevirtual 305, 3) := by decide +kernel
theorem wm_731 : Cond.instanceMethod ⟨"ThresholdRow", "restHands", "()V"⟩ ∈ gT := gT_m (List.mem_of_getElem? (i := 731) (by decide +kernel)) (by decide +kernel)
theorem wm_18 : Cond.selects "ThresholdRow" ⟨"ThresholdRow", "restHands", "()V"⟩ ⟨"ThresholdRow", "restHands", "()V"⟩ ∈ gT := gT_m (List.mem_of_getElem? (i := 18) (by decide +kernel)) (by decide +kernel)
theorem d_Row_pass_51 : decode b_Row_pass 51 = .ok (.aload_n 0, 1) := by decide +kernel
theorem wm_246 : Cond.fieldLink "ThresholdRow" 58 "ThresholdRow" "rats" "I" ∈ gT := gT_m (List.mem_of_getElem? (i := 246) (by decide +kernel)) (by decide +kernel)
theorem d_Row_pass_52 : decode b_Row_pass 52 = .ok (.getfield 58, 3) := by decide +kernel
theorem d_Row_pass_55 : decode b_Row_pass 55 = .ok (.ifCond .le 7, 3) := by decide +kernel
theorem d_Row_pass_62 : decode b_Row_pass 62 = .ok (.iinc 2 1, 3) := by decide +kernel
theorem d_Row_pass_65 : decode b_Row_pass 65 = .ok (.goto (-33), 3) := by decide +kernel
/-- the hands at their places have new values -/
def p_put : Nat → (Nat → Nat) → (Nat → gH) → (Nat → gH) → Nat → gH
  | 0, _, _, v => v
  | m + 1, ord, w, v => fun i => if ord m = i then w m else p_put m ord w v i
theorem p_put_at {ord : Nat → Nat} {w v : Nat → gH} : ∀ {m : Nat}, (∀ p q, p < m → q < m → ord p = ord q → p = q) → ∀ p, p < m → p_put m ord w v (ord p) = w p := by
  intro m
  induction m with
  | zero => intro _ p hp; omega
  | succ m ih =>
    intro hi p hp
    show (if ord m = ord p then w m else p_put m ord w v (ord p)) = w p
    by_cases h : ord m = ord p
    · rw [if_pos h, hi m p (by omega) hp h]
    · rw [if_neg h]
      refine ih (fun a b ha hb => hi a b (by omega) (by omega)) p ?_
      rcases Nat.lt_or_eq_of_le (Nat.le_of_lt_succ hp) with h1 | h1
      · exact h1
      · exact absurd (by rw [h1]) h
theorem p_put_no {ord : Nat → Nat} {w v : Nat → gH} {i : Nat} : ∀ {m : Nat}, (∀ p, p < m → ord p ≠ i) → p_put m ord w v i = v i := by
  intro m
  induction m with
  | zero => intro _; rfl
  | succ m ih =>
    intro h
    show (if ord m = i then w m else p_put m ord w v i) = v i
    rw [if_neg (h m (by omega))]
    exact ih (fun p hp => h p (by omega))
theorem gw_fa.puts {z0 : Nat} {cO : ClassId} {M M' : gM} {o n : Nat} {day : Int32} {S : gS} {Z ad bn : Nat → Nat} (h : gw_fa z0 cO M o n day S Z ad bn) {w : Nat → gH} (h1 : ∀ p, p < S.1 → M' (ad (S.2.1 p)) = some (gw_hd (w p))) (h2 : ∀ i, i < n → (∀ p, p < S.1 → S.2.1 p ≠ i) → M' (ad i) = M (ad i)) : ∀ i, i < n → M' (ad i) = some (gw_hd (p_put S.1 S.2.1 w S.2.2 i)) := by
  obtain ⟨-, -, -, -, -, -, -, -, -, hhd, had, hord, hoi, -⟩ := h
  intro i hi
  by_cases hx : ∃ p, p < S.1 ∧ S.2.1 p = i
  · obtain ⟨p, hp, rfl⟩ := hx
    rw [p_put_at hoi p hp]
    exact h1 p hp
  · have hno : ∀ p, p < S.1 → S.2.1 p ≠ i := fun p hp z => hx ⟨p, hp, z⟩
    rw [p_put_no hno]
    exact (h2 i hi hno).trans (hhd i hi)
theorem gw_fa.ch {z0 : Nat} {cO : ClassId} {M M' : gM} {o n : Nat} {day : Int32} {S : gS} {Z ad bn : Nat → Nat} (h : gw_fa z0 cO M o n day S Z ad bn) {w : Nat → gH} (hc : gw_ch M M' S.1 (fun p => ad (S.2.1 p)) w) : gw_fa z0 cO M' o n day (S.1, S.2.1, p_put S.1 S.2.1 w S.2.2) Z ad bn ∧ gw_ints M M' := by
  have h0 := h
  obtain ⟨-, -, -, -, -, -, -, -, -, hhd, had, hord, hoi, -⟩ := h0
  have hfr : ∀ b e, M b = some e → (∀ x, e ≠ .inr (6, x)) → M' b = M b := fun b e hb he => hc.1 b (fun p hp z => he _ (by rw [z] at hb; exact Option.some.inj (hb.symm.trans (hhd _ (hord p hp)))))
  exact ⟨h.vals (h.puts hc.2 (fun i hi hno => hc.1 _ (fun p hp z => hno p hp (had _ _ (hord p hp) hi z.symm)))) hfr, gw_ints.vals hfr⟩
/-- a round, of m + 1 who stand so -/
def p_rn (m : Nat) (ord : Nat → Nat) (v : Nat → gH) : Int32 × gS :=
  match p_los m (p_lean (m + 1) (fun p => v (ord p))) m 0 with
  | none => (1, m + 1, ord, p_put (m + 1) ord (p_held m (fun p => v (ord p))) v)
  | some j => if (v (ord j)).2.2.1 < 50 then (0, m + 1, ord, p_put (m + 1) ord (p_lost m (fun p => v (ord p)) j) v)
    else (0, m, skp j ord, p_put (m + 1) ord (fun p => if p = j then hHu (p_lost m (fun p => v (ord p)) j j) 7 else p_lost m (fun p => v (ord p)) j p) v)
def p_rnd (S : gS) : Int32 × gS := p_rn (S.1 - 1) S.2.1 S.2.2
theorem p_rnd_01 (S : gS) : (p_rnd S).1 = 0 ∨ (p_rnd S).1 = 1 := by
  unfold p_rnd p_rn
  split
  · exact Or.inr rfl
  · split
    · exact Or.inl rfl
    · exact Or.inl rfl
/-- rounds, until fewer than two stand -/
def p_prac : Nat → gS → Int32 → Int32 × gS
  | 0, S, c => (c, S)
  | k + 1, S, c => if S.1 < 2 then (c, S) else p_prac k (p_rnd S).2 (c + (p_rnd S).1)
def p_rests : Nat → gH → gH
  | 0, v => v
  | k + 1, v => p_rest (p_rests k v)
def p_sum (v : Nat → gH) : Nat → Int32
  | 0 => 0
  | k + 1 => p_sum v k + (v k).2.2.1
theorem c_beat (l : Launch) (E : Nat) (D : va_G) (cI cO cZ : ClassId) (z0 : Nat) (M : gM) {o n : Nat} {day : Int32} {S : gS} {Z ad bn : Nat → Nat} (hf : gw_fa z0 cO M o n day S Z ad bn) (hz : M z0 = none) (h2 : 2 ≤ S.1) : Met l y_Gang_beatRound (Cond.code y_Gang_beatRound b_Gang_beatRound 3 (some .boolean) :: gT) ({ frames := 6, cells := 0, slots := 0, locals := 130 }) (gw_Pc E D cI cO cZ z0 M [.ref (Z 5)]) (gw_Qi E D (fun r M' => r = (p_rnd S).1 ∧ ∃ Z' : Nat → Nat, gw_fa z0 cO M' o n day (p_rnd S).2 Z' ad bn ∧ gw_ints M M')) 0 0 (gw_A E) := by
  obtain ⟨m1, ord, v⟩ := S
  obtain ⟨m, rfl⟩ : ∃ m, m1 = m + 1 := ⟨m1 - 1, by have : 2 ≤ m1 := h2; omega⟩
  have hg := hf.gg
  have hR : p_rnd (m + 1, ord, v) = p_rn m ord v := rfl
  rw [hR]
  cases hlo : p_los m (p_lean (m + 1) (fun p => v (ord p))) m 0 with
  | none =>
    refine gw_weakI (c_Gang_beatRound_none l E D cI cO cZ z0 M hg hlo) (fun r M' h => ?_)
    have e1 : p_rn m ord v = (1, m + 1, ord, p_put (m + 1) ord (p_held m (fun p => v (ord p))) v) := by unfold p_rn; rw [hlo]
    rw [e1]
    obtain ⟨q1, q2⟩ := hf.ch h.2
    exact ⟨h.1, Z, q1, q2⟩
  | some j =>
    by_cases hw : (v (ord j)).2.2.1 < 50
    · refine gw_weakI (c_Gang_beatRound_stay l E D cI cO cZ z0 M hg hlo hw) (fun r M' h => ?_)
      have e1 : p_rn m ord v = (0, m + 1, ord, p_put (m + 1) ord (p_lost m (fun p => v (ord p)) j) v) := by unfold p_rn; rw [hlo]; exact if_pos hw
      rw [e1]
      obtain ⟨q1, q2⟩ := hf.ch h.2
      exact ⟨h.1, Z, q1, q2⟩
    · refine gw_weakI (c_Gang_beatRound_leave l E D cI cO cZ z0 M hg hlo hw) (fun r M' h => ?_)
      have e1 : p_rn m ord v = (0, m, skp j ord, p_put (m + 1) ord (fun p => if p = j then hHu (p_lost m (fun p => v (ord p)) j j) 7 else p_lost m (fun p => v (ord p)) j p) v) := by unfold p_rn; rw [hlo]; exact if_neg hw
      rw [e1]
      obtain ⟨h1, h2, h3, h4⟩ := h
      have h0 := hf
      obtain ⟨hro, hLh, hLl, hLb, hbn, hgg, hLg, hdr, hlg, hhd, had, hord, hoi, hne, har⟩ := h0
      obtain ⟨kg, hgl, -, hgf⟩ := id hLg
      have hta : ∀ i, i < n → ad i ≠ Z 7 := fun i hi => by
        rcases hgf with ⟨-, hgz⟩ | ⟨f, hgz, -⟩
        · rw [hgz]; exact gw_neF hz (hhd i hi)
        · exact (gw_neA hgz (hhd i hi)).symm
      have hfr : ∀ b e, M b = some e → b ≠ Z 6 → b ≠ Z 7 → (∀ x, e ≠ .inr (6, x)) → M' b = M b := fun b e hb q1 q2 he => h4 b (fun p hp z => he _ (by rw [z] at hb; exact Option.some.inj (hb.symm.trans (hhd _ (hord p hp))))) q1 q2
      refine ⟨h1, _, hf.gang (m' := m) (ord' := skp j ord) hz ?_ (hf.puts h2 (fun i hi hno => h4 _ (fun p hp z => hno p hp (had _ _ (hord p hp) hi z.symm)) (gw_neO (hhd i hi) hgl (by decide)) (hta i hi))) hfr (Or.inl rfl) (skp_lt (fun p hp => hord p hp)) (skp_inj (fun p q hp hq z => hoi p q hp hq z)), gw_ints.of hLg hz hfr (Or.inl rfl)⟩
      have e2 : (fun p => ad (skp j ord p)) = (fun p => if p < j then (fun p => ad (ord p)) p else (fun p => ad (ord p)) (p + 1)) := by funext p; unfold skp; split <;> rfl
      rw [e2]; exact h3
set_option maxHeartbeats 4000000 in
set_option maxRecDepth 100000 in
theorem c_Row_practise (l : Launch) (E : Nat) (D : va_G) (cI cO cZ : ClassId) (z0 : Nat) (M : gM) {o n : Nat} {day : Int32} {S : gS} {Z ad bn : Nat → Nat} (hf : gw_fa z0 cO M o n day S Z ad bn) {R : Nat} (hR1 : 1 ≤ R) (hR2 : R ≤ 99) (h2 : 2 ≤ S.1) : Met l y_Row_practise (Cond.code y_Row_practise b_Row_practise 4 (some .int) :: gT) ({ frames := 7, cells := 0, slots := 0, locals := 152 }) (gw_Pc E D cI cO cZ z0 M [.ref o, .int (nI R)]) (gw_Qi E D (fun r M' => r = (p_prac R S 0).1 ∧ ∃ Z' : Nat → Nat, gw_fa z0 cO M' o n day (p_prac R S 0).2 Z' ad bn ∧ gw_ints M M')) 0 0 (gw_A E) := by
  refine gw_ofW (cc := b_Row_practise) (maxL := 4) (ret := (some .int)) (by decide) rfl (Nat.le_of_ble_eq_true rfl) ?_
  intro p e s m args below meth c hx hb hr hml hts hown hlk hnm hF hG ls hl
  have hT : ∀ w ∈ gT, w.before args s = true := fun w h => hts w (List.mem_cons_of_mem _ h)
  have hK := hF.1
  have hl : lv_has ls 4 [(0, .ref o), (1, .int (nI R))] := hl
  obtain ⟨hro, hLh, hLl, hLb, hbn, hgg, hLg, hdr, hlg, hhd, had, hord, hoi, hne, har⟩ := id hf
  obtain ⟨kh, hhl, h10, -⟩ := id hLh
  have hz0 := gw_z0 hF hG
  refine lv_iload_n hx hb d_Row_practise_0 rfl (lv_at hl 1 rfl) ?_
  refine lv_iconst (v := 1) hx hb d_Row_practise_1 (by decide) ?_
  refine lv_bipush (v := 99) hx hb d_Row_practise_2 (by decide) ?_
  refine gw_callv (gw_runS (As := [.int (nI R), .int 1, .int 99]) (rest := []) ⟨hx, hb, hml, hown, hts⟩ (c_Row_checkRange l E D cI cO cZ z0 M (x := nI R) (y := 1) (z := 99) (show ¬ nI R < nI 1 from nI_nlt hR1 (by omega)) (show nI R ≤ nI 99 from nI_le hR2 (by decide))) (gw_cwS 3 hts (gT_gi wm_425) rfl rfl rfl (hT _ wm_23) (hT _ wm_423) (hT _ wm_424) (by decide +kernel) ⟨Nat.le_of_ble_eq_true rfl, Nat.le_of_ble_eq_true rfl⟩) hF hG rfl hl.1 rfl (Nat.le_of_ble_eq_true rfl) d_Row_practise_4 ⟨Nat.le_of_ble_eq_true rfl, Nat.le_of_ble_eq_true rfl⟩) hG (fun M1 H locs hp hG => ?_)
  replace hG := gw_nm hp.symm hG
  refine lv_aload_n hx hb d_Row_practise_7 rfl (lv_at hl 0 rfl) ?_
  refine gw_callv (gw_runV (As := []) (rest := []) ⟨hx, hb, hml, hown, hts⟩ (c_Row_checkGang l E D cI cO cZ z0 M hf h2) (gw_cwV 0 hts (gT_gi wm_682) rfl rfl rfl (hT _ wm_23) (hT _ wm_679) (hT _ wm_681) (hT _ wm_13) (by decide +kernel) ⟨Nat.le_of_ble_eq_true rfl, Nat.le_of_ble_eq_true rfl⟩) hF hG rfl hro rfl hl.1 rfl (Nat.le_of_ble_eq_true rfl) d_Row_practise_8 ⟨Nat.le_of_ble_eq_true rfl, Nat.le_of_ble_eq_true rfl⟩) hG (fun M2 H locs hp hG => ?_)
  replace hG := gw_nm hp.symm hG
  refine lv_iconst (v := 0) hx hb d_Row_practise_11 (by decide) ?_
  refine lv_istore_n (lv' := [(2, .int 0), (0, .ref o), (1, .int (nI R))]) hx hb d_Row_practise_12 rfl hl (by decide) rfl (fun ls hl => ?_)
  refine lv_iconst (v := 0) hx hb d_Row_practise_13 (by decide) ?_
  refine lv_istore_n (lv' := [(3, .int 0), (2, .int 0), (0, .ref o), (1, .int (nI R))]) hx hb d_Row_practise_14 rfl hl (by decide) rfl (fun ls hl => ?_)
  have loop : ∀ (d i : Nat), i + d = R → ∀ (X : gM) (H : Heap) (locs : List Loc) (ls : Array Slot) (S' : gS) (c' : Int32) (Z' : Nat → Nat), (p_prac R S 0 = p_prac d S' c' ∧ gw_fa z0 cO X o n day S' Z' ad bn ∧ gw_ints M X) → gw_H E D X s H locs → lv_has ls 4 [(1, .int (nI R)), (2, .int c'), (3, .int (nI i)), (0, .ref o)] → W p l e ({ frames := 7, cells := 0, slots := 0, locals := 152 } : Room) s m args below meth c H locs 0 0 (MQ below (gw_Qi E D (fun r M' => r = (p_prac R S 0).1 ∧ ∃ Z' : Nat → Nat, gw_fa z0 cO M' o n day (p_prac R S 0).2 Z' ad bn ∧ gw_ints M M')) args s 0 0 (gw_A E)) (F0 m 15 ls []) := by
    intro d
    induction d with
    | zero =>
      intro i hi X H locs ls S' c' Z' hI hG hl
      obtain ⟨hP, hfX, hIX⟩ := hI
      obtain ⟨hro, -, -, -, -, hgg, hLg, -⟩ := id hfX
      have hS10 := hLg.choose_spec.2.1
      have hzX := gw_z0 hF hG
      refine lv_iload_n hx hb d_Row_practise_15 rfl (lv_at hl 2 rfl) ?_
      refine lv_iload_n hx hb d_Row_practise_16 rfl (lv_at hl 0 rfl) ?_
      refine lv_icmp_ge (tgt := 50) hx hb d_Row_practise_17 (by decide) (fun c_17 => ?_) (fun z_ => absurd (nI_le (by omega) (by omega)) z_)
      refine lv_iload_n hx hb d_Row_practise_50 rfl (lv_at hl 1 rfl) ?_
      exact gw_iret (v := (c')) hx hb hr hlk hG (⟨by rw [hP]; rfl, Z', by rw [hP]; exact hfX, hIX⟩) (Nat.le_of_ble_eq_true rfl) (Nat.le_of_ble_eq_true rfl) d_Row_practise_51
    | succ d ih =>
      intro i hi X H locs ls S' c' Z' hI hG hl
      obtain ⟨hP, hfX, hIX⟩ := hI
      obtain ⟨hro, -, -, -, -, hgg, hLg, -⟩ := id hfX
      have hS10 := hLg.choose_spec.2.1
      have hzX := gw_z0 hF hG
      refine lv_iload_n hx hb d_Row_practise_15 rfl (lv_at hl 2 rfl) ?_
      refine lv_iload_n hx hb d_Row_practise_16 rfl (lv_at hl 0 rfl) ?_
      refine lv_icmp_ge (tgt := 50) hx hb d_Row_practise_17 (by decide) (fun z_ => absurd z_ (nI_ge (by omega) (by omega))) (fun c_17 => ?_)
      refine lv_aload_n hx hb d_Row_practise_20 rfl (lv_at hl 3 rfl) ?_
      refine gw_get hx hb hT i_Row hown hK hG hro rfl 3 (by decide) (hT _ wm_239) (fun _ h => h) rfl d_Row_practise_21 ?_
      refine gw_calli (gw_runV (As := []) (rest := []) ⟨hx, hb, hml, hown, hts⟩ (c_Gang_count l E D cI cO cZ z0 X hfX.gg) (gw_cwV 0 hts (gT_gi wm_576) rfl rfl rfl (hT _ wm_27) (hT _ wm_573) (hT _ wm_574) (hT _ wm_575) (by decide +kernel) ⟨Nat.le_of_ble_eq_true rfl, Nat.le_of_ble_eq_true rfl⟩) hF hG rfl hgg rfl hl.1 rfl (Nat.le_of_ble_eq_true rfl) d_Row_practise_24 ⟨Nat.le_of_ble_eq_true rfl, Nat.le_of_ble_eq_true rfl⟩) hG (fun r M3 H locs hp hG => ?_)
      rw [hp.1]
      replace hG := gw_nm hp.2.symm hG
      refine lv_iconst (v := 2) hx hb d_Row_practise_27 (by decide) ?_
      refine lv_icmp_lt (tgt := 50) hx hb d_Row_practise_28 (by decide) (fun c_28 => ?_) (fun c_28 => ?_)
      · skip
        have hS2 : S'.1 < 2 := by rcases Nat.lt_or_ge S'.1 2 with h | h; exact h; exact absurd c_28 (show ¬ nI S'.1 < nI 2 from nI_nlt h (by omega))
        have hP2 : p_prac R S 0 = (c', S') := hP.trans (if_pos hS2)
        refine lv_iload_n hx hb d_Row_practise_50 rfl (lv_at hl 1 rfl) ?_
        exact gw_iret (v := (c')) hx hb hr hlk hG (⟨by rw [hP2], Z', by rw [hP2]; exact hfX, hIX⟩) (Nat.le_of_ble_eq_true rfl) (Nat.le_of_ble_eq_true rfl) d_Row_practise_51
      · skip
        have hS2 : ¬ S'.1 < 2 := fun h => c_28 (show nI S'.1 < nI 2 from nI_lt h (by decide))
        have hP2 : p_prac R S 0 = p_prac d (p_rnd S').2 (c' + (p_rnd S').1) := hP.trans (if_neg hS2)
        refine lv_aload_n hx hb d_Row_practise_31 rfl (lv_at hl 3 rfl) ?_
        refine gw_get hx hb hT i_Row hown hK hG hro rfl 3 (by decide) (hT _ wm_239) (fun _ h => h) rfl d_Row_practise_32 ?_
        refine gw_calli (gw_runV (As := []) (rest := []) ⟨hx, hb, hml, hown, hts⟩ (c_beat l E D cI cO cZ z0 X hfX hzX (by omega)) (gw_cwV 0 hts (gT_gi wm_687) rfl rfl rfl (hT _ wm_27) (hT _ wm_684) (hT _ wm_685) (hT _ wm_686) (by decide +kernel) ⟨Nat.le_of_ble_eq_true rfl, Nat.le_of_ble_eq_true rfl⟩) hF hG rfl hgg rfl hl.1 rfl (Nat.le_of_ble_eq_true rfl) d_Row_practise_35 ⟨Nat.le_of_ble_eq_true rfl, Nat.le_of_ble_eq_true rfl⟩) hG (fun r M4 H locs hp hG => ?_)
        obtain ⟨rfl, Z2, hf2, hi2⟩ := hp
        refine lv_if_eq (tgt := 44) hx hb d_Row_practise_38 (by decide) (fun c_38 => ?_) (fun c_38 => ?_)
        · skip
          have ec : c' + (p_rnd S').1 = c' := by rw [c_38]; exact Int32.add_zero c'
          refine lv_iinc (v := nI (i + 1)) (lv' := [(3, .int (nI (i + 1))), (1, .int (nI R)), (2, .int c'), (0, .ref o)]) hx hb d_Row_practise_44 hl (k := 2) rfl (nI_succ i).symm (by decide) rfl (fun ls hl => ?_)
          refine lv_goto (tgt := 15) hx hb d_Row_practise_47 (by decide) ?_
          exact ih (i + 1) (by omega) M4 _ _ _ (p_rnd S').2 (c' + (p_rnd S').1) Z2 ⟨hP2, hf2, hIX.trans hi2⟩ hG (by rw [ec]; exact lv_sub hl [1, 2, 0, 3] rfl)
        · skip
          refine lv_iinc (v := c' + 1) (lv' := [(2, .int (c' + 1)), (1, .int (nI R)), (3, .int (nI i)), (0, .ref o)]) hx hb d_Row_practise_41 hl (k := 1) rfl rfl (by decide) rfl (fun ls hl => ?_)
          have ec : c' + (p_rnd S').1 = c' + 1 := by rw [(p_rnd_01 S').resolve_left c_38]
          refine lv_iinc (v := nI (i + 1)) (lv' := [(3, .int (nI (i + 1))), (2, .int (c' + 1)), (1, .int (nI R)), (0, .ref o)]) hx hb d_Row_practise_44 hl (k := 2) rfl (nI_succ i).symm (by decide) rfl (fun ls hl => ?_)
          refine lv_goto (tgt := 15) hx hb d_Row_practise_47 (by decide) ?_
          exact ih (i + 1) (by omega) M4 _ _ _ (p_rnd S').2 (c' + (p_rnd S').1) Z2 ⟨hP2, hf2, hIX.trans hi2⟩ hG (by rw [ec]; exact lv_sub hl [2, 1, 0, 3] rfl)
  exact loop _ _ (Nat.zero_add R) M _ _ _ S 0 Z ⟨rfl, hf, gw_ints.rf⟩ hG (lv_sub hl [3, 1, 0, 2] rfl)
set_option maxHeartbeats 4000000 in
set_option maxRecDepth 100000 in
theorem c_Row_practise_xr (l : Launch) (E : Nat) (D : va_G) (cI cO cZ : ClassId) (z0 : Nat) (M : gM) (hst : l.stackTraces = false) {o n : Nat} {day : Int32} {S : gS} {Z ad bn : Nat → Nat} (hf : gw_fa z0 cO M o n day S Z ad bn) {R : Nat} (hR1 : 99 < R) (hR2 : R < 2 ^ 31) : vx_Met l y_Row_practise (Cond.code y_Row_practise b_Row_practise 4 (some .int) :: gT) ({ frames := 7, cells := 1, slots := 6, locals := 104 }) (gw_Pc E D cI cO cZ z0 M [.ref o, .int (nI R)]) (gw_Qi E D (fun _ _ => False)) (gw_XC E D "java/lang/IllegalArgumentException" M) 1 6 (gw_A E) := by
  refine gw_ofX (cc := b_Row_practise) (maxL := 4) (ret := (some .int)) (by decide) rfl (Nat.le_of_ble_eq_true rfl) ?_
  intro p e s m args below meth c hx hb hr hml hts hown hlk hnt hF hG ls hl
  have hT : ∀ w ∈ gT, w.before args s = true := fun w h => hts w (List.mem_cons_of_mem _ h)
  have hK := hF.1
  have hl : lv_has ls 4 [(0, .ref o), (1, .int (nI R))] := hl
  obtain ⟨hro, hLh, hLl, hLb, hbn, hgg, hLg, hdr, hlg, hhd, had, hord, hoi, hne, har⟩ := id hf
  obtain ⟨kh, hhl, h10, -⟩ := id hLh
  have hz0 := gw_z0 hF hG
  refine lv_iload_n hx hb d_Row_practise_0 rfl (lv_at hl 1 rfl) ?_
  refine lv_iconst (v := 1) hx hb d_Row_practise_1 (by decide) ?_
  refine lv_bipush (v := 99) hx hb d_Row_practise_2 (by decide) ?_
  refine gw_xcallv (cls := "java/lang/IllegalArgumentException") (gw_xrunS (As := [.int (nI R), .int 1, .int 99]) (rest := []) ⟨hx, hb, hml, hown, hts⟩ (c_Row_checkRange_x l E D cI cO cZ z0 M hst (x := nI R) (y := 1) (z := 99) (Or.inr (show nI 99 < nI R from nI_lt hR1 hR2))) (gw_cwS 3 hts (gT_gi wm_425) rfl rfl rfl (hT _ wm_23) (hT _ wm_423) (hT _ wm_424) (by decide +kernel) ⟨Nat.le_of_ble_eq_true rfl, Nat.le_of_ble_eq_true rfl⟩) hF hG rfl hl.1 rfl (Nat.le_of_ble_eq_true rfl) d_Row_practise_4 ⟨Nat.le_of_ble_eq_true rfl, Nat.le_of_ble_eq_true rfl⟩) hG (fun ce q H locs hG hq1 hq2 hq3 => ?_)
  exact gw_xout hnt hlk hG hq1 hq2 hq3 (Nat.le_of_ble_eq_true rfl) (Nat.le_of_ble_eq_true rfl)
set_option maxHeartbeats 4000000 in
set_option maxRecDepth 100000 in
theorem c_Row_practise_xg (l : Launch) (E : Nat) (D : va_G) (cI cO cZ : ClassId) (z0 : Nat) (M : gM) (hst : l.stackTraces = false) {o n : Nat} {day : Int32} {S : gS} {Z ad bn : Nat → Nat} (hf : gw_fa z0 cO M o n day S Z ad bn) {R : Nat} (hR1 : 1 ≤ R) (hR2 : R ≤ 99) (h2 : S.1 < 2) : vx_Met l y_Row_practise (Cond.code y_Row_practise b_Row_practise 4 (some .int) :: gT) ({ frames := 7, cells := 1, slots := 6, locals := 102 }) (gw_Pc E D cI cO cZ z0 M [.ref o, .int (nI R)]) (gw_Qi E D (fun _ _ => False)) (gw_XC E D "java/lang/UnsupportedOperationException" M) 1 6 (gw_A E) := by
  refine gw_ofX (cc := b_Row_practise) (maxL := 4) (ret := (some .int)) (by decide) rfl (Nat.le_of_ble_eq_true rfl) ?_
  intro p e s m args below meth c hx hb hr hml hts hown hlk hnt hF hG ls hl
  have hT : ∀ w ∈ gT, w.before args s = true := fun w h => hts w (List.mem_cons_of_mem _ h)
  have hK := hF.1
  have hl : lv_has ls 4 [(0, .ref o), (1, .int (nI R))] := hl
  obtain ⟨hro, hLh, hLl, hLb, hbn, hgg, hLg, hdr, hlg, hhd, had, hord, hoi, hne, har⟩ := id hf
  obtain ⟨kh, hhl, h10, -⟩ := id hLh
  have hz0 := gw_z0 hF hG
  refine lv_iload_n hx hb d_Row_practise_0 rfl (lv_at hl 1 rfl) ?_
  refine lv_iconst (v := 1) hx hb d_Row_practise_1 (by decide) ?_
  refine lv_bipush (v := 99) hx hb d_Row_practise_2 (by decide) ?_
  refine gw_callv (gw_runS (As := [.int (nI R), .int 1, .int 99]) (rest := []) ⟨hx, hb, hml, hown, hts⟩ (c_Row_checkRange l E D cI cO cZ z0 M (x := nI R) (y := 1) (z := 99) (show ¬ nI R < nI 1 from nI_nlt hR1 (by omega)) (show nI R ≤ nI 99 from nI_le hR2 (by decide))) (gw_cwS 3 hts (gT_gi wm_425) rfl rfl rfl (hT _ wm_23) (hT _ wm_423) (hT _ wm_424) (by decide +kernel) ⟨Nat.le_of_ble_eq_true rfl, Nat.le_of_ble_eq_true rfl⟩) hF hG rfl hl.1 rfl (Nat.le_of_ble_eq_true rfl) d_Row_practise_4 ⟨Nat.le_of_ble_eq_true rfl, Nat.le_of_ble_eq_true rfl⟩) hG (fun M1 H locs hp hG => ?_)
  replace hG := gw_nm hp.symm hG
  refine lv_aload_n hx hb d_Row_practise_7 rfl (lv_at hl 0 rfl) ?_
  refine gw_xcallv (cls := "java/lang/UnsupportedOperationException") (gw_xrunV (As := []) (rest := []) ⟨hx, hb, hml, hown, hts⟩ (c_Row_checkGang_x l E D cI cO cZ z0 M hst hf h2) (gw_cwV 0 hts (gT_gi wm_682) rfl rfl rfl (hT _ wm_23) (hT _ wm_679) (hT _ wm_681) (hT _ wm_13) (by decide +kernel) ⟨Nat.le_of_ble_eq_true rfl, Nat.le_of_ble_eq_true rfl⟩) hF hG rfl hro rfl hl.1 rfl (Nat.le_of_ble_eq_true rfl) d_Row_practise_8 ⟨Nat.le_of_ble_eq_true rfl, Nat.le_of_ble_eq_true rfl⟩) hG (fun ce q H locs hG hq1 hq2 hq3 => ?_)
  exact gw_xout hnt hlk hG hq1 hq2 hq3 (Nat.le_of_ble_eq_true rfl) (Nat.le_of_ble_eq_true rfl)
set_option maxHeartbeats 4000000 in
set_option maxRecDepth 100000 in
theorem c_Row_restHands (l : Launch) (E : Nat) (D : va_G) (cI cO cZ : ClassId) (z0 : Nat) (M : gM) {o n : Nat} {day : Int32} {S : gS} {Z ad bn : Nat → Nat} (hf : gw_fa z0 cO M o n day S Z ad bn) : Met l y_Row_restHands (Cond.code y_Row_restHands b_Row_restHands 2 none :: gT) ({ frames := 3, cells := 0, slots := 0, locals := 64 }) (gw_Pc E D cI cO cZ z0 M [.ref o]) (gw_Qv E D (fun M' => gw_ch M M' n ad (fun i => p_rest (S.2.2 i)))) 0 0 (gw_A E) := by
  refine gw_ofW (cc := b_Row_restHands) (maxL := 2) (ret := none) (by decide) rfl (Nat.le_of_ble_eq_true rfl) ?_
  intro p e s m args below meth c hx hb hr hml hts hown hlk hnm hF hG ls hl
  have hT : ∀ w ∈ gT, w.before args s = true := fun w h => hts w (List.mem_cons_of_mem _ h)
  have hK := hF.1
  have hl : lv_has ls 2 [(0, .ref o)] := hl
  obtain ⟨hro, hLh, hLl, hLb, hbn, hgg, hLg, hdr, hlg, hhd, had, hord, hoi, hne, har⟩ := id hf
  obtain ⟨kh, hhl, h10, -⟩ := id hLh
  have hz0 := gw_z0 hF hG
  refine lv_iconst (v := 0) hx hb d_Row_restHands_0 (by decide) ?_
  refine lv_istore_n (lv' := [(1, .int 0), (0, .ref o)]) hx hb d_Row_restHands_1 rfl hl (by decide) rfl (fun ls hl => ?_)
  have loop : ∀ (d i : Nat), i + d = n → ∀ (X : gM) (H : Heap) (locs : List Loc) (ls : Array Slot), (gw_ch M X n ad (fun p => if p < i then p_rest (S.2.2 p) else S.2.2 p)) → gw_H E D X s H locs → lv_has ls 2 [(1, .int (nI i)), (0, .ref o)] → W p l e ({ frames := 3, cells := 0, slots := 0, locals := 64 } : Room) s m args below meth c H locs 0 0 (MQ below (gw_Qv E D (fun M' => gw_ch M M' n ad (fun i => p_rest (S.2.2 i)))) args s 0 0 (gw_A E)) (F0 m 2 ls []) := by
    intro d
    induction d with
    | zero =>
      intro i hi X H locs ls hI hG hl
      have hroX := (hI.obj hhd hro (by decide)).trans hro
      have hhlX := (hI.obj hhd hhl (by decide)).trans hhl
      have hLX := hI.L hhd hLh
      refine lv_iload_n hx hb d_Row_restHands_2 rfl (lv_at hl 0 rfl) ?_
      refine lv_aload_n hx hb d_Row_restHands_3 rfl (lv_at hl 1 rfl) ?_
      refine gw_get hx hb hT i_Row hown hK hG hroX rfl 0 (by decide) (hT _ wm_236) (fun _ h => h) rfl d_Row_restHands_4 ?_
      refine gw_calli (gw_runV (As := []) (rest := [.int (nI i)]) ⟨hx, hb, hml, hown, hts⟩ (c_L_size l E D cI cO cZ z0 X hLX) (gw_cwV 0 hts (gT_gi wm_286) rfl rfl rfl (hT _ wm_26) (hT _ wm_283) (hT _ wm_284) (hT _ wm_285) (by decide +kernel) ⟨Nat.le_of_ble_eq_true rfl, Nat.le_of_ble_eq_true rfl⟩) hF hG rfl hhlX rfl hl.1 rfl (Nat.le_of_ble_eq_true rfl) d_Row_restHands_7 ⟨Nat.le_of_ble_eq_true rfl, Nat.le_of_ble_eq_true rfl⟩) hG (fun r M1 H locs hp hG => ?_)
      rw [hp.1]
      replace hG := gw_nm hp.2.symm hG
      refine lv_icmp_ge (tgt := 33) hx hb d_Row_restHands_10 (by decide) (fun c_10 => ?_) (fun z_ => absurd (nI_le (by omega) (by omega)) z_)
      exact gw_vret hx hb hr hlk hG (hI.to (fun p hp => if_pos (by omega))) (Nat.le_of_ble_eq_true rfl) (Nat.le_of_ble_eq_true rfl) d_Row_restHands_33
    | succ d ih =>
      intro i hi X H locs ls hI hG hl
      have hroX := (hI.obj hhd hro (by decide)).trans hro
      have hhlX := (hI.obj hhd hhl (by decide)).trans hhl
      have hLX := hI.L hhd hLh
      refine lv_iload_n hx hb d_Row_restHands_2 rfl (lv_at hl 0 rfl) ?_
      refine lv_aload_n hx hb d_Row_restHands_3 rfl (lv_at hl 1 rfl) ?_
      refine gw_get hx hb hT i_Row hown hK hG hroX rfl 0 (by decide) (hT _ wm_236) (fun _ h => h) rfl d_Row_restHands_4 ?_
      refine gw_calli (gw_runV (As := []) (rest := [.int (nI i)]) ⟨hx, hb, hml, hown, hts⟩ (c_L_size l E D cI cO cZ z0 X hLX) (gw_cwV 0 hts (gT_gi wm_286) rfl rfl rfl (hT _ wm_26) (hT _ wm_283) (hT _ wm_284) (hT _ wm_285) (by decide +kernel) ⟨Nat.le_of_ble_eq_true rfl, Nat.le_of_ble_eq_true rfl⟩) hF hG rfl hhlX rfl hl.1 rfl (Nat.le_of_ble_eq_true rfl) d_Row_restHands_7 ⟨Nat.le_of_ble_eq_true rfl, Nat.le_of_ble_eq_true rfl⟩) hG (fun r M2 H locs hp hG => ?_)
      rw [hp.1]
      replace hG := gw_nm hp.2.symm hG
      refine lv_icmp_ge (tgt := 33) hx hb d_Row_restHands_10 (by decide) (fun z_ => absurd z_ (nI_ge (by omega) (by omega))) (fun c_10 => ?_)
      refine lv_aload_n hx hb d_Row_restHands_13 rfl (lv_at hl 1 rfl) ?_
      refine gw_get hx hb hT i_Row hown hK hG hroX rfl 0 (by decide) (hT _ wm_236) (fun _ h => h) rfl d_Row_restHands_14 ?_
      refine lv_iload_n hx hb d_Row_restHands_17 rfl (lv_at hl 0 rfl) ?_
      refine gw_callq (gw_runV (As := [.int (nI i)]) (rest := []) ⟨hx, hb, hml, hown, hts⟩ (c_L_get l E D cI cO cZ z0 X hLX (p := i) (by omega)) (gw_cwV 1 hts (gT_gi wm_362) rfl rfl rfl (hT _ wm_26) (hT _ wm_359) (hT _ wm_360) (hT _ wm_361) (by decide +kernel) ⟨Nat.le_of_ble_eq_true rfl, Nat.le_of_ble_eq_true rfl⟩) hF hG rfl hhlX rfl hl.1 rfl (Nat.le_of_ble_eq_true rfl) d_Row_restHands_18 ⟨Nat.le_of_ble_eq_true rfl, Nat.le_of_ble_eq_true rfl⟩) hG (fun r M3 H locs hp hG => ?_)
      rw [hp.1]
      replace hG := gw_nm hp.2.symm hG
      have hgi := hI.at (by omega : i < n)
      refine gw_cast (ci := 6) (r := (R_Hand, F_Hand, 10)) hx hb hown (hT _ wm_373) hF hG rfl hgi d_Row_restHands_21 ?_
      refine gw_callv (gw_runV (As := []) (rest := []) ⟨hx, hb, hml, hown, hts⟩ (c_Hand_rest l E D cI cO cZ z0 X hgi) (gw_cwV 0 hts (gT_gi wm_736) rfl rfl rfl (hT _ wm_40) (hT _ wm_733) (hT _ wm_734) (hT _ wm_735) (by decide +kernel) ⟨Nat.le_of_ble_eq_true rfl, Nat.le_of_ble_eq_true rfl⟩) hF hG rfl hgi rfl hl.1 rfl (Nat.le_of_ble_eq_true rfl) d_Row_restHands_24 ⟨Nat.le_of_ble_eq_true rfl, Nat.le_of_ble_eq_true rfl⟩) hG (fun M4 H locs hp hG => ?_)
      refine lv_iinc (v := nI (i + 1)) (lv' := [(1, .int (nI (i + 1))), (0, .ref o)]) hx hb d_Row_restHands_27 hl (k := 0) rfl (nI_succ i).symm (by decide) rfl (fun ls hl => ?_)
      refine lv_goto (tgt := 2) hx hb d_Row_restHands_30 (by decide) ?_
      exact ih (i + 1) (by omega) M4 _ _ _ (by rw [hp]; exact gw_ch.step (w := fun i => p_rest (S.2.2 i)) had (by omega) hI) hG (lv_sub hl [0, 1] rfl)
  exact loop _ _ (Nat.zero_add n) M _ _ _ (gw_ch.zero (w := fun i => p_rest (S.2.2 i)) hhd) hG (lv_sub hl [0, 1] rfl)
set_option maxHeartbeats 4000000 in
set_option maxRecDepth 100000 in
theorem c_Row_pass (l : Launch) (E : Nat) (D : va_G) (cI cO cZ : ClassId) (z0 : Nat) (M : gM) {o n : Nat} {day : Int32} {S : gS} {Z ad bn : Nat → Nat} (hf : gw_fa z0 cO M o n day S Z ad bn) {R : Nat} (hR1 : 1 ≤ R) (hR2 : R ≤ 99) (hday : day + nI R ≤ 9999) : Met l y_Row_pass (Cond.code y_Row_pass b_Row_pass 3 (some .int) :: gT) ({ frames := 4, cells := 0, slots := 0, locals := 85 }) (gw_Pc E D cI cO cZ z0 M [.ref o, .int (nI R)]) (gw_Qi E D (fun r M' => r = day + nI R ∧ gw_fa z0 cO M' o n (day + nI R) (S.1, S.2.1, fun j => p_rests R (S.2.2 j)) Z ad bn ∧ gw_ints M M')) 0 0 (gw_A E) := by
  refine gw_ofW (cc := b_Row_pass) (maxL := 3) (ret := (some .int)) (by decide) rfl (Nat.le_of_ble_eq_true rfl) ?_
  intro p e s m args below meth c hx hb hr hml hts hown hlk hnm hF hG ls hl
  have hT : ∀ w ∈ gT, w.before args s = true := fun w h => hts w (List.mem_cons_of_mem _ h)
  have hK := hF.1
  have hl : lv_has ls 3 [(0, .ref o), (1, .int (nI R))] := hl
  obtain ⟨hro, hLh, hLl, hLb, hbn, hgg, hLg, hdr, hlg, hhd, had, hord, hoi, hne, har⟩ := id hf
  obtain ⟨kh, hhl, h10, -⟩ := id hLh
  have hz0 := gw_z0 hF hG
  refine lv_iload_n hx hb d_Row_pass_0 rfl (lv_at hl 1 rfl) ?_
  refine lv_iconst (v := 1) hx hb d_Row_pass_1 (by decide) ?_
  refine lv_bipush (v := 99) hx hb d_Row_pass_2 (by decide) ?_
  refine gw_callv (gw_runS (As := [.int (nI R), .int 1, .int 99]) (rest := []) ⟨hx, hb, hml, hown, hts⟩ (c_Row_checkRange l E D cI cO cZ z0 M (x := nI R) (y := 1) (z := 99) (show ¬ nI R < nI 1 from nI_nlt hR1 (by omega)) (show nI R ≤ nI 99 from nI_le hR2 (by decide))) (gw_cwS 3 hts (gT_gi wm_425) rfl rfl rfl (hT _ wm_23) (hT _ wm_423) (hT _ wm_424) (by decide +kernel) ⟨Nat.le_of_ble_eq_true rfl, Nat.le_of_ble_eq_true rfl⟩) hF hG rfl hl.1 rfl (Nat.le_of_ble_eq_true rfl) d_Row_pass_4 ⟨Nat.le_of_ble_eq_true rfl, Nat.le_of_ble_eq_true rfl⟩) hG (fun M1 H locs hp hG => ?_)
  replace hG := gw_nm hp.symm hG
  refine lv_aload_n hx hb d_Row_pass_7 rfl (lv_at hl 0 rfl) ?_
  refine gw_get hx hb hT i_Row hown hK hG hro rfl 8 (by decide) (hT _ wm_244) (fun _ h => h) rfl d_Row_pass_8 ?_
  refine lv_iload_n hx hb d_Row_pass_11 rfl (lv_at hl 1 rfl) ?_
  refine lv_iadd hx hb d_Row_pass_12 ?_
  refine lv_sipush (v := 9999) hx hb d_Row_pass_13 (by decide) ?_
  refine lv_icmp_le (tgt := 30) hx hb d_Row_pass_16 (by decide) (fun c_16 => ?_) (fun z_ => absurd (hday) z_)
  refine lv_iconst (v := 0) hx hb d_Row_pass_30 (by decide) ?_
  refine lv_istore_n (lv' := [(2, .int 0), (0, .ref o), (1, .int (nI R))]) hx hb d_Row_pass_31 rfl hl (by decide) rfl (fun ls hl => ?_)
  have loop : ∀ (d i : Nat), i + d = R → ∀ (X : gM) (H : Heap) (locs : List Loc) (ls : Array Slot), (gw_fa z0 cO X o n (day + nI i) (S.1, S.2.1, fun j => p_rests i (S.2.2 j)) Z ad bn ∧ gw_ints M X) → gw_H E D X s H locs → lv_has ls 3 [(1, .int (nI R)), (2, .int (nI i)), (0, .ref o)] → W p l e ({ frames := 4, cells := 0, slots := 0, locals := 85 } : Room) s m args below meth c H locs 0 0 (MQ below (gw_Qi E D (fun r M' => r = day + nI R ∧ gw_fa z0 cO M' o n (day + nI R) (S.1, S.2.1, fun j => p_rests R (S.2.2 j)) Z ad bn ∧ gw_ints M M')) args s 0 0 (gw_A E)) (F0 m 32 ls []) := by
    intro d
    induction d with
    | zero =>
      intro i hi X H locs ls hI hG hl
      obtain ⟨hfX, hIX⟩ := hI
      obtain ⟨hroX, -⟩ := id hfX
      refine lv_iload_n hx hb d_Row_pass_32 rfl (lv_at hl 1 rfl) ?_
      refine lv_iload_n hx hb d_Row_pass_33 rfl (lv_at hl 0 rfl) ?_
      refine lv_icmp_ge (tgt := 68) hx hb d_Row_pass_34 (by decide) (fun c_34 => ?_) (fun z_ => absurd (nI_le (by omega) (by omega)) z_)
      refine lv_aload_n hx hb d_Row_pass_68 rfl (lv_at hl 2 rfl) ?_
      refine gw_get hx hb hT i_Row hown hK hG hroX rfl 8 (by decide) (hT _ wm_244) (fun _ h => h) rfl d_Row_pass_69 ?_
      have hiR : i = R := by omega
      rw [hiR] at hfX ⊢
      exact gw_iret (v := (day + nI R)) hx hb hr hlk hG (⟨rfl, hfX, hIX⟩) (Nat.le_of_ble_eq_true rfl) (Nat.le_of_ble_eq_true rfl) d_Row_pass_72
    | succ d ih =>
      intro i hi X H locs ls hI hG hl
      obtain ⟨hfX, hIX⟩ := hI
      obtain ⟨hroX, -⟩ := id hfX
      refine lv_iload_n hx hb d_Row_pass_32 rfl (lv_at hl 1 rfl) ?_
      refine lv_iload_n hx hb d_Row_pass_33 rfl (lv_at hl 0 rfl) ?_
      refine lv_icmp_ge (tgt := 68) hx hb d_Row_pass_34 (by decide) (fun z_ => absurd z_ (nI_ge (by omega) (by omega))) (fun c_34 => ?_)
      refine lv_aload_n hx hb d_Row_pass_37 rfl (lv_at hl 2 rfl) ?_
      refine lv_dup hx hb d_Row_pass_38 rfl ?_
      refine gw_get hx hb hT i_Row hown hK hG hroX rfl 8 (by decide) (hT _ wm_244) (fun _ h => h) rfl d_Row_pass_39 ?_
      refine lv_iconst (v := 1) hx hb d_Row_pass_42 (by decide) ?_
      refine lv_iadd hx hb d_Row_pass_43 ?_
      rw [show day + nI i + 1 = (day + nI (i + 1)) from by rw [nI_succ, Int32.add_assoc]]
      refine gw_put (v := .int (day + nI (i + 1))) hx hb hT i_Row t_Row t_Row_ok n_Row hown hK hG hroX rfl 8 (by decide) (hT _ wm_244) (fun _ h => h) rfl rfl rfl (Nat.le_of_ble_eq_true rfl) d_Row_pass_44 (fun H locs hG => ?_)
      obtain ⟨M2, e_M2⟩ : ∃ Y_ : gM, Y_ = gw_up X o (.inr (0, [.ref (Z 0), .ref (Z 2), .ref (Z 3), .ref (Z 5), .ref (Z 8), .ref (Z 9), .ref (Z 10), .ref (Z 11), .int (day + nI (i + 1)), .int 1, .int 0, .int 0, .int 0, .int 0])) := ⟨_, rfl⟩
      replace hG := gw_nm e_M2 hG
      have hM2_o := (congrFun e_M2 o).trans gw_hit
      have hf2 := hfX.day (d2 := day + nI (i + 1))
      have hf3 : gw_fa z0 cO M2 o n (day + nI (i + 1)) (S.1, S.2.1, fun j => p_rests i (S.2.2 j)) Z ad bn := by rw [e_M2]; exact hf2
      refine lv_aload_n hx hb d_Row_pass_47 rfl (lv_at hl 2 rfl) ?_
      refine gw_callv (gw_runV (As := []) (rest := []) ⟨hx, hb, hml, hown, hts⟩ (c_Row_restHands l E D cI cO cZ z0 M2 hf3) (gw_cwV 0 hts (gT_gi wm_732) rfl rfl rfl (hT _ wm_23) (hT _ wm_729) (hT _ wm_731) (hT _ wm_18) (by decide +kernel) ⟨Nat.le_of_ble_eq_true rfl, Nat.le_of_ble_eq_true rfl⟩) hF hG rfl hM2_o rfl hl.1 rfl (Nat.le_of_ble_eq_true rfl) d_Row_pass_48 ⟨Nat.le_of_ble_eq_true rfl, Nat.le_of_ble_eq_true rfl⟩) hG (fun M3 H locs hp hG => ?_)
      obtain ⟨hro3, -, -, -, -, -, -, -, -, hhd3, -⟩ := id hf3
      have hfr : ∀ b e, M2 b = some e → (∀ x, e ≠ .inr (6, x)) → M3 b = M2 b := fun b e hb he => hp.1 b (fun p hp2 z => he _ (by rw [z] at hb; exact Option.some.inj (hb.symm.trans (hhd3 p hp2))))
      have hf4 : gw_fa z0 cO M3 o n (day + nI (i + 1)) (S.1, S.2.1, fun j => p_rests (i + 1) (S.2.2 j)) Z ad bn := hf3.vals hp.2 hfr
      have hi4 : gw_ints M M3 := (hIX.trans (fun b e hb he => by obtain ⟨q1, q2, q3, rfl⟩ := he; rw [e_M2]; exact gw_miss (gw_neA hb hroX))).trans (gw_ints.vals hfr)
      obtain ⟨hro4, -⟩ := id hf4
      refine lv_aload_n hx hb d_Row_pass_51 rfl (lv_at hl 2 rfl) ?_
      refine gw_get hx hb hT i_Row hown hK hG hro4 rfl 10 (by decide) (hT _ wm_246) (fun _ h => h) rfl d_Row_pass_52 ?_
      refine lv_if_le (tgt := 62) hx hb d_Row_pass_55 (by decide) (fun c_55 => ?_) (fun z_ => absurd (by decide) z_)
      refine lv_iinc (v := nI (i + 1)) (lv' := [(2, .int (nI (i + 1))), (1, .int (nI R)), (0, .ref o)]) hx hb d_Row_pass_62 hl (k := 1) rfl (nI_succ i).symm (by decide) rfl (fun ls hl => ?_)
      refine lv_goto (tgt := 32) hx hb d_Row_pass_65 (by decide) ?_
      exact ih (i + 1) (by omega) M3 _ _ _ ⟨hf4, hi4⟩ hG (lv_sub hl [1, 0, 2] rfl)
  exact loop _ _ (Nat.zero_add R) M _ _ _ ⟨by rw [show day + nI 0 = day from Int32.add_zero day]; exact hf, gw_ints.rf⟩ hG (lv_sub hl [2, 0, 1] rfl)
set_option maxHeartbeats 4000000 in
set_option maxRecDepth 100000 in
theorem c_Row_pass_x (l : Launch) (E : Nat) (D : va_G) (cI cO cZ : ClassId) (z0 : Nat) (M : gM) (hst : l.stackTraces = false) {o n : Nat} {day : Int32} {S : gS} {Z ad bn : Nat → Nat} (hf : gw_fa z0 cO M o n day S Z ad bn) {R : Nat} (hR1 : 99 < R) (hR2 : R < 2 ^ 31) : vx_Met l y_Row_pass (Cond.code y_Row_pass b_Row_pass 3 (some .int) :: gT) ({ frames := 7, cells := 1, slots := 6, locals := 104 }) (gw_Pc E D cI cO cZ z0 M [.ref o, .int (nI R)]) (gw_Qi E D (fun _ _ => False)) (gw_XC E D "java/lang/IllegalArgumentException" M) 1 6 (gw_A E) := by
  refine gw_ofX (cc := b_Row_pass) (maxL := 3) (ret := (some .int)) (by decide) rfl (Nat.le_of_ble_eq_true rfl) ?_
  intro p e s m args below meth c hx hb hr hml hts hown hlk hnt hF hG ls hl
  have hT : ∀ w ∈ gT, w.before args s = true := fun w h => hts w (List.mem_cons_of_mem _ h)
  have hK := hF.1
  have hl : lv_has ls 3 [(0, .ref o), (1, .int (nI R))] := hl
  obtain ⟨hro, hLh, hLl, hLb, hbn, hgg, hLg, hdr, hlg, hhd, had, hord, hoi, hne, har⟩ := id hf
  obtain ⟨kh, hhl, h10, -⟩ := id hLh
  have hz0 := gw_z0 hF hG
  refine lv_iload_n hx hb d_Row_pass_0 rfl (lv_at hl 1 rfl) ?_
  refine lv_iconst (v := 1) hx hb d_Row_pass_1 (by decide) ?_
  refine lv_bipush (v := 99) hx hb d_Row_pass_2 (by decide) ?_
  refine gw_xcallv (cls := "java/lang/IllegalArgumentException") (gw_xrunS (As := [.int (nI R), .int 1, .int 99]) (rest := []) ⟨hx, hb, hml, hown, hts⟩ (c_Row_checkRange_x l E D cI cO cZ z0 M hst (x := nI R) (y := 1) (z := 99) (Or.inr (show nI 99 < nI R from nI_lt hR1 hR2))) (gw_cwS 3 hts (gT_gi wm_425) rfl rfl rfl (hT _ wm_23) (hT _ wm_423) (hT _ wm_424) (by decide +kernel) ⟨Nat.le_of_ble_eq_true rfl, Nat.le_of_ble_eq_true rfl⟩) hF hG rfl hl.1 rfl (Nat.le_of_ble_eq_true rfl) d_Row_pass_4 ⟨Nat.le_of_ble_eq_true rfl, Nat.le_of_ble_eq_true rfl⟩) hG (fun ce q H locs hG hq1 hq2 hq3 => ?_)
  exact gw_xout hnt hlk hG hq1 hq2 hq3 (Nat.le_of_ble_eq_true rfl) (Nat.le_of_ble_eq_true rfl)
