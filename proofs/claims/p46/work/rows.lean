section
-- ===== PART A: goes FIRST, ahead of the names: the tables' words, and 'selects' of the private methods out of them =====
/-- a private method of a class that the tables say can be made, by its rows of tables_1 -/
def lw_okq (q : MethodName × Nat) : Prop := (q.1.cls ≠ "java/lang/invoke/MethodHandle" ∧ q.1.cls ≠ "java/lang/invoke/VarHandle") ∧ Cond.instantiable q.1.cls q.2 ∈ tables_1 ∧ Cond.privateMethod q.1 ∈ tables_1 ∧ Cond.instanceMethod q.1 ∈ tables_1
theorem lw_p0 : lw_okq (⟨"java/util/ArrayList", "add", "(Ljava/lang/Object;[Ljava/lang/Object;I)V"⟩, 3) := ⟨⟨by decide +kernel, by decide +kernel⟩, List.mem_of_getElem? (i := 36) (by decide +kernel), List.mem_of_getElem? (i := 158) (by decide +kernel), List.mem_of_getElem? (i := 159) (by decide +kernel)⟩
theorem lw_p1 : lw_okq (⟨"java/util/ArrayList", "grow", "()[Ljava/lang/Object;"⟩, 3) := ⟨⟨by decide +kernel, by decide +kernel⟩, List.mem_of_getElem? (i := 36) (by decide +kernel), List.mem_of_getElem? (i := 162) (by decide +kernel), List.mem_of_getElem? (i := 163) (by decide +kernel)⟩
theorem lw_p2 : lw_okq (⟨"java/util/ArrayList", "grow", "(I)[Ljava/lang/Object;"⟩, 3) := ⟨⟨by decide +kernel, by decide +kernel⟩, List.mem_of_getElem? (i := 36) (by decide +kernel), List.mem_of_getElem? (i := 166) (by decide +kernel), List.mem_of_getElem? (i := 167) (by decide +kernel)⟩
theorem lw_p3 : lw_okq (⟨"java/lang/Throwable", "fillInStackTrace", "(I)Ljava/lang/Throwable;"⟩, 6) := ⟨⟨by decide +kernel, by decide +kernel⟩, List.mem_of_getElem? (i := 308) (by decide +kernel), List.mem_of_getElem? (i := 306) (by decide +kernel), List.mem_of_getElem? (i := 307) (by decide +kernel)⟩
theorem lw_p4 : lw_okq (⟨"ThresholdRow", "sumEars", "()I"⟩, 14) := ⟨⟨by decide +kernel, by decide +kernel⟩, List.mem_of_getElem? (i := 28) (by decide +kernel), List.mem_of_getElem? (i := 357) (by decide +kernel), List.mem_of_getElem? (i := 358) (by decide +kernel)⟩
theorem lw_p5 : lw_okq (⟨"ThresholdRow", "sumHeaps", "()I"⟩, 14) := ⟨⟨by decide +kernel, by decide +kernel⟩, List.mem_of_getElem? (i := 28) (by decide +kernel), List.mem_of_getElem? (i := 362) (by decide +kernel), List.mem_of_getElem? (i := 363) (by decide +kernel)⟩
theorem lw_p6 : lw_okq (⟨"ThresholdRow", "sumBins", "()I"⟩, 14) := ⟨⟨by decide +kernel, by decide +kernel⟩, List.mem_of_getElem? (i := 28) (by decide +kernel), List.mem_of_getElem? (i := 366) (by decide +kernel), List.mem_of_getElem? (i := 367) (by decide +kernel)⟩
theorem lw_p7 : lw_okq (⟨"ThresholdRow", "sumCame", "()I"⟩, 14) := ⟨⟨by decide +kernel, by decide +kernel⟩, List.mem_of_getElem? (i := 28) (by decide +kernel), List.mem_of_getElem? (i := 374) (by decide +kernel), List.mem_of_getElem? (i := 375) (by decide +kernel)⟩
theorem lw_p8 : lw_okq (⟨"ThresholdRow", "heapsSound", "()Z"⟩, 14) := ⟨⟨by decide +kernel, by decide +kernel⟩, List.mem_of_getElem? (i := 28) (by decide +kernel), List.mem_of_getElem? (i := 378) (by decide +kernel), List.mem_of_getElem? (i := 379) (by decide +kernel)⟩
theorem lw_p9 : lw_okq (⟨"ThresholdRow", "binsSound", "()Z"⟩, 14) := ⟨⟨by decide +kernel, by decide +kernel⟩, List.mem_of_getElem? (i := 28) (by decide +kernel), List.mem_of_getElem? (i := 382) (by decide +kernel), List.mem_of_getElem? (i := 383) (by decide +kernel)⟩
theorem lw_p10 : lw_okq (⟨"ThresholdRow", "handAt", "(I)LThresholdRow$Hand;"⟩, 14) := ⟨⟨by decide +kernel, by decide +kernel⟩, List.mem_of_getElem? (i := 28) (by decide +kernel), List.mem_of_getElem? (i := 515) (by decide +kernel), List.mem_of_getElem? (i := 516) (by decide +kernel)⟩
theorem lw_p11 : lw_okq (⟨"java/util/ArrayList", "fastRemove", "([Ljava/lang/Object;I)V"⟩, 3) := ⟨⟨by decide +kernel, by decide +kernel⟩, List.mem_of_getElem? (i := 36) (by decide +kernel), List.mem_of_getElem? (i := 580) (by decide +kernel), List.mem_of_getElem? (i := 581) (by decide +kernel)⟩
theorem lw_p12 : lw_okq (⟨"ThresholdRow", "placeNeeded", "(LThresholdRow$Hand;)I"⟩, 14) := ⟨⟨by decide +kernel, by decide +kernel⟩, List.mem_of_getElem? (i := 28) (by decide +kernel), List.mem_of_getElem? (i := 600) (by decide +kernel), List.mem_of_getElem? (i := 601) (by decide +kernel)⟩
theorem lw_p13 : lw_okq (⟨"ThresholdRow", "checkGang", "()V"⟩, 14) := ⟨⟨by decide +kernel, by decide +kernel⟩, List.mem_of_getElem? (i := 28) (by decide +kernel), List.mem_of_getElem? (i := 658) (by decide +kernel), List.mem_of_getElem? (i := 659) (by decide +kernel)⟩
theorem lw_p14 : lw_okq (⟨"ThresholdRow$Gang", "leanOnOneAnother", "()V"⟩, 1) := ⟨⟨by decide +kernel, by decide +kernel⟩, List.mem_of_getElem? (i := 62) (by decide +kernel), List.mem_of_getElem? (i := 667) (by decide +kernel), List.mem_of_getElem? (i := 668) (by decide +kernel)⟩
theorem lw_p15 : lw_okq (⟨"ThresholdRow$Gang", "findLoser", "()LThresholdRow$Hand;"⟩, 1) := ⟨⟨by decide +kernel, by decide +kernel⟩, List.mem_of_getElem? (i := 62) (by decide +kernel), List.mem_of_getElem? (i := 675) (by decide +kernel), List.mem_of_getElem? (i := 676) (by decide +kernel)⟩
def lw_privs_1 : List (MethodName × Nat) := [(⟨"java/util/ArrayList", "add", "(Ljava/lang/Object;[Ljava/lang/Object;I)V"⟩, 3), (⟨"java/util/ArrayList", "grow", "()[Ljava/lang/Object;"⟩, 3), (⟨"java/util/ArrayList", "grow", "(I)[Ljava/lang/Object;"⟩, 3), (⟨"java/lang/Throwable", "fillInStackTrace", "(I)Ljava/lang/Throwable;"⟩, 6), (⟨"ThresholdRow", "sumEars", "()I"⟩, 14), (⟨"ThresholdRow", "sumHeaps", "()I"⟩, 14), (⟨"ThresholdRow", "sumBins", "()I"⟩, 14), (⟨"ThresholdRow", "sumCame", "()I"⟩, 14), (⟨"ThresholdRow", "heapsSound", "()Z"⟩, 14), (⟨"ThresholdRow", "binsSound", "()Z"⟩, 14), (⟨"ThresholdRow", "handAt", "(I)LThresholdRow$Hand;"⟩, 14), (⟨"java/util/ArrayList", "fastRemove", "([Ljava/lang/Object;I)V"⟩, 3), (⟨"ThresholdRow", "placeNeeded", "(LThresholdRow$Hand;)I"⟩, 14), (⟨"ThresholdRow", "checkGang", "()V"⟩, 14), (⟨"ThresholdRow$Gang", "leanOnOneAnother", "()V"⟩, 1), (⟨"ThresholdRow$Gang", "findLoser", "()LThresholdRow$Hand;"⟩, 1)]
theorem lw_r1 : ∀ q ∈ lw_privs_1, lw_okq q := List.forall_mem_cons.mpr ⟨lw_p0, List.forall_mem_cons.mpr ⟨lw_p1, List.forall_mem_cons.mpr ⟨lw_p2, List.forall_mem_cons.mpr ⟨lw_p3, List.forall_mem_cons.mpr ⟨lw_p4, List.forall_mem_cons.mpr ⟨lw_p5, List.forall_mem_cons.mpr ⟨lw_p6, List.forall_mem_cons.mpr ⟨lw_p7, List.forall_mem_cons.mpr ⟨lw_p8, List.forall_mem_cons.mpr ⟨lw_p9, List.forall_mem_cons.mpr ⟨lw_p10, List.forall_mem_cons.mpr ⟨lw_p11, List.forall_mem_cons.mpr ⟨lw_p12, List.forall_mem_cons.mpr ⟨lw_p13, List.forall_mem_cons.mpr ⟨lw_p14, List.forall_mem_cons.mpr ⟨lw_p15, fun _ h => absurd h List.not_mem_nil⟩⟩⟩⟩⟩⟩⟩⟩⟩⟩⟩⟩⟩⟩⟩⟩
theorem lw_p16 : lw_okq (⟨"ThresholdRow$Gang", "tireAll", "()V"⟩, 1) := ⟨⟨by decide +kernel, by decide +kernel⟩, List.mem_of_getElem? (i := 62) (by decide +kernel), List.mem_of_getElem? (i := 686) (by decide +kernel), List.mem_of_getElem? (i := 687) (by decide +kernel)⟩
theorem lw_p17 : lw_okq (⟨"ThresholdRow$Gang", "forgetErrors", "()V"⟩, 1) := ⟨⟨by decide +kernel, by decide +kernel⟩, List.mem_of_getElem? (i := 62) (by decide +kernel), List.mem_of_getElem? (i := 695) (by decide +kernel), List.mem_of_getElem? (i := 696) (by decide +kernel)⟩
theorem lw_p18 : lw_okq (⟨"ThresholdRow", "restHands", "()V"⟩, 14) := ⟨⟨by decide +kernel, by decide +kernel⟩, List.mem_of_getElem? (i := 28) (by decide +kernel), List.mem_of_getElem? (i := 708) (by decide +kernel), List.mem_of_getElem? (i := 709) (by decide +kernel)⟩
theorem lw_p19 : lw_okq (⟨"ThresholdRow", "feedRats", "()V"⟩, 14) := ⟨⟨by decide +kernel, by decide +kernel⟩, List.mem_of_getElem? (i := 28) (by decide +kernel), List.mem_of_getElem? (i := 717) (by decide +kernel), List.mem_of_getElem? (i := 718) (by decide +kernel)⟩
theorem lw_p20 : lw_okq (⟨"ThresholdRow", "fullestBin", "()LThresholdRow$Bin;"⟩, 14) := ⟨⟨by decide +kernel, by decide +kernel⟩, List.mem_of_getElem? (i := 28) (by decide +kernel), List.mem_of_getElem? (i := 721) (by decide +kernel), List.mem_of_getElem? (i := 722) (by decide +kernel)⟩
theorem lw_p21 : lw_okq (⟨"ThresholdRow", "binAt", "(I)LThresholdRow$Bin;"⟩, 14) := ⟨⟨by decide +kernel, by decide +kernel⟩, List.mem_of_getElem? (i := 28) (by decide +kernel), List.mem_of_getElem? (i := 725) (by decide +kernel), List.mem_of_getElem? (i := 726) (by decide +kernel)⟩
def lw_privs_2 : List (MethodName × Nat) := [(⟨"ThresholdRow$Gang", "tireAll", "()V"⟩, 1), (⟨"ThresholdRow$Gang", "forgetErrors", "()V"⟩, 1), (⟨"ThresholdRow", "restHands", "()V"⟩, 14), (⟨"ThresholdRow", "feedRats", "()V"⟩, 14), (⟨"ThresholdRow", "fullestBin", "()LThresholdRow$Bin;"⟩, 14), (⟨"ThresholdRow", "binAt", "(I)LThresholdRow$Bin;"⟩, 14)]
theorem lw_r2 : ∀ q ∈ lw_privs_2, lw_okq q := List.forall_mem_cons.mpr ⟨lw_p16, List.forall_mem_cons.mpr ⟨lw_p17, List.forall_mem_cons.mpr ⟨lw_p18, List.forall_mem_cons.mpr ⟨lw_p19, List.forall_mem_cons.mpr ⟨lw_p20, List.forall_mem_cons.mpr ⟨lw_p21, fun _ h => absurd h List.not_mem_nil⟩⟩⟩⟩⟩⟩
def lw_privs : List (MethodName × Nat) := lw_privs_1 ++ (lw_privs_2)
def lw_tbl : List Cond := k2_sels lw_privs ++ tables_1
theorem lw_privs_ok : ∀ q ∈ lw_privs, lw_okq q := by
  show ∀ q ∈ lw_privs_1 ++ (lw_privs_2), lw_okq q
  exact List.forall_mem_append.mpr ⟨lw_r1, lw_r2⟩
/-- the streams that the claim lets the run draw from -/
abbrev lw_cs : List Choice := [Jvm.Choice.named "NaN.bits"]
theorem lw_bits : nanBits ∈ lw_cs := by first | decide | exact List.mem_cons_self | simp [lw_cs, nanBits]
/-- the tables' words that a call carries on -/
def gT : List Cond := lw_tbl.filter goodWord
theorem gT_m {w : Cond} (h : w ∈ lw_tbl) (hg : goodWord w = true) : w ∈ gT := List.mem_filter.mpr ⟨h, hg⟩
theorem gT_all {ws : List Cond} (h : ∀ w ∈ ws, w ∈ lw_tbl) (hg : ws.all goodWord = true) : ∀ w ∈ ws, w ∈ gT := fun w k => gT_m (h w k) (List.all_eq_true.mp hg w k)
theorem gT_hts {args : Array Value} {s : State} (h : ∀ w ∈ lw_tbl, w.before args s = true) : ∀ w ∈ gT, w.before args s = true := fun w k => h w (List.mem_filter.mp k).1
theorem gT_gi {c0 c : Cond} (h : c ∈ gT) : GoodIn (c0 :: gT) (c :: gT) := by
  intro w hw
  have hm : w ∈ gT := by
    rcases List.mem_cons.mp hw with rfl | h1
    · exact h
    · exact h1
  exact ⟨List.mem_cons_of_mem _ hm, good_of_word (List.mem_filter.mp hm).2⟩
theorem gT_gi0 {c : Cond} (h : c ∈ gT) : GoodIn lw_tbl (c :: gT) := by
  intro w hw
  have hm : w ∈ gT := by
    rcases List.mem_cons.mp hw with rfl | h1
    · exact h
    · exact h1
  exact ⟨(List.mem_filter.mp hm).1, good_of_word (List.mem_filter.mp hm).2⟩
def R_Row : String := "ThresholdRow"
def F_Row : u_T := fun k => match k with
  | 0 => ("ThresholdRow", "hands", "Ljava/util/ArrayList;", true)
  | 1 => ("ThresholdRow", "lots", "Ljava/util/ArrayList;", true)
  | 2 => ("ThresholdRow", "bins", "Ljava/util/ArrayList;", true)
  | 3 => ("ThresholdRow", "gang", "LThresholdRow$Gang;", true)
  | 4 => ("ThresholdRow", "drum", "LThresholdRow$Drum;", true)
  | 5 => ("ThresholdRow", "ledger", "LThresholdRow$Ledger;", true)
  | 6 => ("ThresholdRow", "bushelPints", "[I", true)
  | 7 => ("ThresholdRow", "customs", "[Z", true)
  | 8 => ("ThresholdRow", "day", "I", false)
  | 9 => ("ThresholdRow", "z", "I", false)
  | 10 => ("ThresholdRow", "rats", "I", false)
  | 11 => ("ThresholdRow", "owls", "I", false)
  | 12 => ("ThresholdRow", "flour", "I", false)
  | _ => ("ThresholdRow", "money", "I", false)
def t_Row : Nat → FieldType := fun k => match k with
  | 0 => .object "java/util/ArrayList"
  | 1 => .object "java/util/ArrayList"
  | 2 => .object "java/util/ArrayList"
  | 3 => .object "ThresholdRow$Gang"
  | 4 => .object "ThresholdRow$Drum"
  | 5 => .object "ThresholdRow$Ledger"
  | 6 => .array .int
  | 7 => .array .boolean
  | 8 => .int
  | 9 => .int
  | 10 => .int
  | 11 => .int
  | 12 => .int
  | _ => .int
abbrev w_Row : List Cond := u_ws R_Row F_Row 14
def R_List : String := "java/util/ArrayList"
def F_List : u_T := fun k => match k with
  | 0 => ("java/util/AbstractList", "modCount", "I", false)
  | 1 => ("java/util/ArrayList", "elementData", "[Ljava/lang/Object;", false)
  | _ => ("java/util/ArrayList", "size", "I", false)
def t_List : Nat → FieldType := fun k => match k with
  | 0 => .int
  | 1 => .array (.object "java/lang/Object")
  | _ => .int
abbrev w_List : List Cond := u_ws R_List F_List 3
def R_Gang : String := "ThresholdRow$Gang"
def F_Gang : u_T := fun k => match k with
  | _ => ("ThresholdRow$Gang", "order", "Ljava/util/ArrayList;", true)
def t_Gang : Nat → FieldType := fun k => match k with
  | _ => .object "java/util/ArrayList"
abbrev w_Gang : List Cond := u_ws R_Gang F_Gang 1
def R_Drum : String := "ThresholdRow$Drum"
def F_Drum : u_T := fun k => match k with
  | 0 => ("ThresholdRow$Drum", "hiredTill", "I", false)
  | 1 => ("ThresholdRow$Drum", "testedOn", "I", false)
  | 2 => ("ThresholdRow$Drum", "carries", "I", false)
  | _ => ("ThresholdRow$Drum", "carriedCrop", "I", false)
def t_Drum : Nat → FieldType := fun k => match k with
  | 0 => .int
  | 1 => .int
  | 2 => .int
  | _ => .int
abbrev w_Drum : List Cond := u_ws R_Drum F_Drum 4
def R_Ledger : String := "ThresholdRow$Ledger"
def F_Ledger : u_T := fun k => match k with
  | 0 => ("ThresholdRow$Ledger", "tithe", "I", false)
  | 1 => ("ThresholdRow$Ledger", "gleaned", "I", false)
  | 2 => ("ThresholdRow$Ledger", "straw", "I", false)
  | 3 => ("ThresholdRow$Ledger", "blown", "I", false)
  | 4 => ("ThresholdRow$Ledger", "burnt", "I", false)
  | 5 => ("ThresholdRow$Ledger", "cleaned", "I", false)
  | 6 => ("ThresholdRow$Ledger", "eaten", "I", false)
  | 7 => ("ThresholdRow$Ledger", "ground", "I", false)
  | _ => ("ThresholdRow$Ledger", "sold", "I", false)
def t_Ledger : Nat → FieldType := fun k => match k with
  | 0 => .int
  | 1 => .int
  | 2 => .int
  | 3 => .int
  | 4 => .int
  | 5 => .int
  | 6 => .int
  | 7 => .int
  | _ => .int
abbrev w_Ledger : List Cond := u_ws R_Ledger F_Ledger 9
def R_Bin : String := "ThresholdRow$Bin"
def F_Bin : u_T := fun k => match k with
  | 0 => ("ThresholdRow$Bin", "crop", "I", false)
  | 1 => ("ThresholdRow$Bin", "grain", "I", false)
  | 2 => ("ThresholdRow$Bin", "bruised", "I", false)
  | _ => ("ThresholdRow$Bin", "foreign", "I", false)
def t_Bin : Nat → FieldType := fun k => match k with
  | 0 => .int
  | 1 => .int
  | 2 => .int
  | _ => .int
abbrev w_Bin : List Cond := u_ws R_Bin F_Bin 4
def R_Hand : String := "ThresholdRow$Hand"
def F_Hand : u_T := fun k => match k with
  | 0 => ("ThresholdRow$Hand", "strength", "I", true)
  | 1 => ("ThresholdRow$Hand", "habit", "I", true)
  | 2 => ("ThresholdRow$Hand", "fatigue", "I", false)
  | 3 => ("ThresholdRow$Hand", "hurt", "I", false)
  | 4 => ("ThresholdRow$Hand", "lost", "I", false)
  | 5 => ("ThresholdRow$Hand", "error", "I", false)
  | 6 => ("ThresholdRow$Hand", "way", "C", false)
  | 7 => ("ThresholdRow$Hand", "rate", "I", false)
  | 8 => ("ThresholdRow$Hand", "owed", "I", false)
  | _ => ("ThresholdRow$Hand", "workedOn", "I", false)
def t_Hand : Nat → FieldType := fun k => match k with
  | 0 => .int
  | 1 => .int
  | 2 => .int
  | 3 => .int
  | 4 => .int
  | 5 => .int
  | 6 => .char
  | 7 => .int
  | 8 => .int
  | _ => .int
abbrev w_Hand : List Cond := u_ws R_Hand F_Hand 10
abbrev classes : List vw_C := [(R_Row, F_Row, 14), (R_List, F_List, 3), (R_Gang, F_Gang, 1), (R_Drum, F_Drum, 4), (R_Ledger, F_Ledger, 9), (R_Bin, F_Bin, 4), (R_Hand, F_Hand, 10)]
theorem n_Row : ∀ a, a < 14 → ∀ b, b < 14 → a ≠ b → (F_Row a).2.1 ≠ (F_Row b).2.1 := by decide +kernel
theorem t_Row_ok : ∀ k, k < 14 → parseFieldDescriptor (F_Row k).2.2.1 = some (t_Row k) := by decide +kernel
theorem j_Row : ∀ w ∈ w_Row, w ∈ lw_tbl := by decide +kernel
theorem i_Row : ∀ w ∈ w_Row, w ∈ gT := gT_all j_Row (by decide +kernel)
theorem n_List : ∀ a, a < 3 → ∀ b, b < 3 → a ≠ b → (F_List a).2.1 ≠ (F_List b).2.1 := by decide +kernel
theorem t_List_ok : ∀ k, k < 3 → parseFieldDescriptor (F_List k).2.2.1 = some (t_List k) := by decide +kernel
theorem j_List : ∀ w ∈ w_List, w ∈ lw_tbl := by decide +kernel
theorem i_List : ∀ w ∈ w_List, w ∈ gT := gT_all j_List (by decide +kernel)
theorem n_Gang : ∀ a, a < 1 → ∀ b, b < 1 → a ≠ b → (F_Gang a).2.1 ≠ (F_Gang b).2.1 := by decide +kernel
theorem t_Gang_ok : ∀ k, k < 1 → parseFieldDescriptor (F_Gang k).2.2.1 = some (t_Gang k) := by decide +kernel
theorem j_Gang : ∀ w ∈ w_Gang, w ∈ lw_tbl := by decide +kernel
theorem i_Gang : ∀ w ∈ w_Gang, w ∈ gT := gT_all j_Gang (by decide +kernel)
theorem n_Drum : ∀ a, a < 4 → ∀ b, b < 4 → a ≠ b → (F_Drum a).2.1 ≠ (F_Drum b).2.1 := by decide +kernel
theorem t_Drum_ok : ∀ k, k < 4 → parseFieldDescriptor (F_Drum k).2.2.1 = some (t_Drum k) := by decide +kernel
theorem j_Drum : ∀ w ∈ w_Drum, w ∈ lw_tbl := by decide +kernel
theorem i_Drum : ∀ w ∈ w_Drum, w ∈ gT := gT_all j_Drum (by decide +kernel)
theorem n_Ledger : ∀ a, a < 9 → ∀ b, b < 9 → a ≠ b → (F_Ledger a).2.1 ≠ (F_Ledger b).2.1 := by decide +kernel
theorem t_Ledger_ok : ∀ k, k < 9 → parseFieldDescriptor (F_Ledger k).2.2.1 = some (t_Ledger k) := by decide +kernel
theorem j_Ledger : ∀ w ∈ w_Ledger, w ∈ lw_tbl := by decide +kernel
theorem i_Ledger : ∀ w ∈ w_Ledger, w ∈ gT := gT_all j_Ledger (by decide +kernel)
theorem n_Bin : ∀ a, a < 4 → ∀ b, b < 4 → a ≠ b → (F_Bin a).2.1 ≠ (F_Bin b).2.1 := by decide +kernel
theorem t_Bin_ok : ∀ k, k < 4 → parseFieldDescriptor (F_Bin k).2.2.1 = some (t_Bin k) := by decide +kernel
theorem j_Bin : ∀ w ∈ w_Bin, w ∈ lw_tbl := by decide +kernel
theorem i_Bin : ∀ w ∈ w_Bin, w ∈ gT := gT_all j_Bin (by decide +kernel)
theorem n_Hand : ∀ a, a < 10 → ∀ b, b < 10 → a ≠ b → (F_Hand a).2.1 ≠ (F_Hand b).2.1 := by decide +kernel
theorem t_Hand_ok : ∀ k, k < 10 → parseFieldDescriptor (F_Hand k).2.2.1 = some (t_Hand k) := by decide +kernel
theorem j_Hand : ∀ w ∈ w_Hand, w ∈ lw_tbl := by decide +kernel
theorem i_Hand : ∀ w ∈ w_Hand, w ∈ gT := gT_all j_Hand (by decide +kernel)
abbrev b_Row_init : ByteArray := prog_1_method_1_code
def y_Row_init : MethodName := ⟨"ThresholdRow", "<init>", "()V"⟩
abbrev b_Object_init : ByteArray := object_method_1_code
def y_Object_init : MethodName := ⟨"java/lang/Object", "<init>", "()V"⟩
abbrev b_AL_init : ByteArray := prog_30_method_2_code
def y_AL_init : MethodName := ⟨"java/util/ArrayList", "<init>", "()V"⟩
abbrev b_AbstractList_init : ByteArray := prog_29_method_1_code
def y_AbstractList_init : MethodName := ⟨"java/util/AbstractList", "<init>", "()V"⟩
abbrev b_AbstractCollection_init : ByteArray := prog_28_method_1_code
def y_AbstractCollection_init : MethodName := ⟨"java/util/AbstractCollection", "<init>", "()V"⟩
abbrev b_Gang_init : ByteArray := prog_4_method_1_code
def y_Gang_init : MethodName := ⟨"ThresholdRow$Gang", "<init>", "()V"⟩
abbrev b_Drum_init : ByteArray := prog_3_method_1_code
def y_Drum_init : MethodName := ⟨"ThresholdRow$Drum", "<init>", "()V"⟩
abbrev b_Ledger_init : ByteArray := prog_6_method_1_code
def y_Ledger_init : MethodName := ⟨"ThresholdRow$Ledger", "<init>", "()V"⟩
abbrev b_Bin_init : ByteArray := prog_2_method_1_code
def y_Bin_init : MethodName := ⟨"ThresholdRow$Bin", "<init>", "()V"⟩
abbrev b_AL_add : ByteArray := prog_30_method_25_code
def y_AL_add : MethodName := ⟨"java/util/ArrayList", "add", "(Ljava/lang/Object;)Z"⟩
abbrev b_AL_add_2 : ByteArray := prog_30_method_24_code
def y_AL_add_2 : MethodName := ⟨"java/util/ArrayList", "add", "(Ljava/lang/Object;[Ljava/lang/Object;I)V"⟩
abbrev b_AL_grow : ByteArray := prog_30_method_7_code
def y_AL_grow : MethodName := ⟨"java/util/ArrayList", "grow", "()[Ljava/lang/Object;"⟩
abbrev b_AL_grow_2 : ByteArray := prog_30_method_6_code
def y_AL_grow_2 : MethodName := ⟨"java/util/ArrayList", "grow", "(I)[Ljava/lang/Object;"⟩
abbrev b_ArraysSupport_newLength : ByteArray := prog_38_method_27_code
def y_ArraysSupport_newLength : MethodName := ⟨"jdk/internal/util/ArraysSupport", "newLength", "(III)I"⟩
abbrev b_Math_max : ByteArray := prog_22_method_65_code
def y_Math_max : MethodName := ⟨"java/lang/Math", "max", "(II)I"⟩
abbrev b_ArraysSupport_hugeLength : ByteArray := prog_38_method_28_code
def y_ArraysSupport_hugeLength : MethodName := ⟨"jdk/internal/util/ArraysSupport", "hugeLength", "(II)I"⟩
abbrev b_Arrays_copyOf : ByteArray := prog_31_method_119_code
def y_Arrays_copyOf : MethodName := ⟨"java/util/Arrays", "copyOf", "([Ljava/lang/Object;I)[Ljava/lang/Object;"⟩
abbrev b_Arrays_copyOf_2 : ByteArray := prog_31_method_120_code
def y_Arrays_copyOf_2 : MethodName := ⟨"java/util/Arrays", "copyOf", "([Ljava/lang/Object;ILjava/lang/Class;)[Ljava/lang/Object;"⟩
abbrev b_Math_min : ByteArray := prog_22_method_69_code
def y_Math_min : MethodName := ⟨"java/lang/Math", "min", "(II)I"⟩
abbrev b_Row_meanFatigue : ByteArray := prog_1_method_43_code
def y_Row_meanFatigue : MethodName := ⟨"ThresholdRow", "meanFatigue", "()D"⟩
abbrev b_AL_size : ByteArray := prog_30_method_8_code
def y_AL_size : MethodName := ⟨"java/util/ArrayList", "size", "()I"⟩
abbrev b_Throwable_init : ByteArray := prog_26_method_1_code
def y_Throwable_init : MethodName := ⟨"java/lang/Throwable", "<init>", "()V"⟩
abbrev b_Throwable_fillInStackTrace : ByteArray := prog_26_method_18_code
def y_Throwable_fillInStackTrace : MethodName := ⟨"java/lang/Throwable", "fillInStackTrace", "()Ljava/lang/Throwable;"⟩
abbrev b_ArithmeticException_init : ByteArray := prog_14_method_2_code
def y_ArithmeticException_init : MethodName := ⟨"java/lang/ArithmeticException", "<init>", "(Ljava/lang/String;)V"⟩
abbrev b_RuntimeException_init : ByteArray := prog_23_method_2_code
def y_RuntimeException_init : MethodName := ⟨"java/lang/RuntimeException", "<init>", "(Ljava/lang/String;)V"⟩
abbrev b_Exception_init : ByteArray := prog_17_method_2_code
def y_Exception_init : MethodName := ⟨"java/lang/Exception", "<init>", "(Ljava/lang/String;)V"⟩
abbrev b_Throwable_init_2 : ByteArray := prog_26_method_2_code
def y_Throwable_init_2 : MethodName := ⟨"java/lang/Throwable", "<init>", "(Ljava/lang/String;)V"⟩
abbrev b_AL_get : ByteArray := prog_30_method_20_code
def y_AL_get : MethodName := ⟨"java/util/ArrayList", "get", "(I)Ljava/lang/Object;"⟩
abbrev b_Objects_checkIndex : ByteArray := prog_35_method_17_code
def y_Objects_checkIndex : MethodName := ⟨"java/util/Objects", "checkIndex", "(II)I"⟩
abbrev b_Preconditions_checkIndex : ByteArray := prog_39_method_11_code
def y_Preconditions_checkIndex : MethodName := ⟨"jdk/internal/util/Preconditions", "checkIndex", "(IILjava/util/function/BiFunction;)I"⟩
abbrev b_AL_elementData : ByteArray := prog_30_method_18_code
def y_AL_elementData : MethodName := ⟨"java/util/ArrayList", "elementData", "(I)Ljava/lang/Object;"⟩
abbrev b_Row_isSound : ByteArray := prog_1_method_44_code
def y_Row_isSound : MethodName := ⟨"ThresholdRow", "isSound", "()Z"⟩
abbrev b_Row_sumEars : ByteArray := prog_1_method_60_code
def y_Row_sumEars : MethodName := ⟨"ThresholdRow", "sumEars", "()I"⟩
abbrev b_Row_sumHeaps : ByteArray := prog_1_method_61_code
def y_Row_sumHeaps : MethodName := ⟨"ThresholdRow", "sumHeaps", "()I"⟩
abbrev b_Row_sumBins : ByteArray := prog_1_method_62_code
def y_Row_sumBins : MethodName := ⟨"ThresholdRow", "sumBins", "()I"⟩
abbrev b_Ledger_sumGone : ByteArray := prog_6_method_3_code
def y_Ledger_sumGone : MethodName := ⟨"ThresholdRow$Ledger", "sumGone", "()I"⟩
abbrev b_Row_sumCame : ByteArray := prog_1_method_59_code
def y_Row_sumCame : MethodName := ⟨"ThresholdRow", "sumCame", "()I"⟩
abbrev b_Row_heapsSound : ByteArray := prog_1_method_63_code
def y_Row_heapsSound : MethodName := ⟨"ThresholdRow", "heapsSound", "()Z"⟩
abbrev b_Row_binsSound : ByteArray := prog_1_method_64_code
def y_Row_binsSound : MethodName := ⟨"ThresholdRow", "binsSound", "()Z"⟩
abbrev b_Gang_hasHurt : ByteArray := prog_4_method_16_code
def y_Gang_hasHurt : MethodName := ⟨"ThresholdRow$Gang", "hasHurt", "()Z"⟩
abbrev b_Law_addHand : ByteArray := method_3_code
def y_Law_addHand : MethodName := ⟨"ThresholdRowLaw", "addHand", "(LThresholdRow;II)I"⟩
abbrev b_Row_addHand : ByteArray := prog_1_method_2_code
def y_Row_addHand : MethodName := ⟨"ThresholdRow", "addHand", "(II)I"⟩
abbrev b_Row_checkRange : ByteArray := prog_1_method_45_code
def y_Row_checkRange : MethodName := ⟨"ThresholdRow", "checkRange", "(III)V"⟩
abbrev b_IllegalArgumentException_init : ByteArray := prog_18_method_2_code
def y_IllegalArgumentException_init : MethodName := ⟨"java/lang/IllegalArgumentException", "<init>", "(Ljava/lang/String;)V"⟩
abbrev b_IllegalStateException_init : ByteArray := prog_19_method_2_code
def y_IllegalStateException_init : MethodName := ⟨"java/lang/IllegalStateException", "<init>", "(Ljava/lang/String;)V"⟩
abbrev b_Hand_init : ByteArray := prog_5_method_1_code
def y_Hand_init : MethodName := ⟨"ThresholdRow$Hand", "<init>", "(II)V"⟩
abbrev b_Law_stand : ByteArray := method_4_code
def y_Law_stand : MethodName := ⟨"ThresholdRowLaw", "stand", "(LThresholdRow;I)I"⟩
abbrev b_ArrayIndexOutOfBoundsException_init : ByteArray := prog_15_method_2_code
def y_ArrayIndexOutOfBoundsException_init : MethodName := ⟨"java/lang/ArrayIndexOutOfBoundsException", "<init>", "(Ljava/lang/String;)V"⟩
abbrev b_IndexOutOfBoundsException_init : ByteArray := prog_20_method_2_code
def y_IndexOutOfBoundsException_init : MethodName := ⟨"java/lang/IndexOutOfBoundsException", "<init>", "(Ljava/lang/String;)V"⟩
abbrev b_Row_stand : ByteArray := prog_1_method_3_code
def y_Row_stand : MethodName := ⟨"ThresholdRow", "stand", "(I)I"⟩
abbrev b_Row_handAt : ByteArray := prog_1_method_47_code
def y_Row_handAt : MethodName := ⟨"ThresholdRow", "handAt", "(I)LThresholdRow$Hand;"⟩
abbrev b_Gang_placeFor : ByteArray := prog_4_method_3_code
def y_Gang_placeFor : MethodName := ⟨"ThresholdRow$Gang", "placeFor", "(LThresholdRow$Hand;)I"⟩
abbrev b_UnsupportedOperationException_init : ByteArray := prog_27_method_2_code
def y_UnsupportedOperationException_init : MethodName := ⟨"java/lang/UnsupportedOperationException", "<init>", "(Ljava/lang/String;)V"⟩
abbrev b_Gang_count : ByteArray := prog_4_method_2_code
def y_Gang_count : MethodName := ⟨"ThresholdRow$Gang", "count", "()I"⟩
abbrev b_Gang_takeIn : ByteArray := prog_4_method_4_code
def y_Gang_takeIn : MethodName := ⟨"ThresholdRow$Gang", "takeIn", "(LThresholdRow$Hand;)V"⟩
abbrev b_Law_leave : ByteArray := method_5_code
def y_Law_leave : MethodName := ⟨"ThresholdRowLaw", "leave", "(LThresholdRow;I)I"⟩
abbrev b_Row_leave : ByteArray := prog_1_method_4_code
def y_Row_leave : MethodName := ⟨"ThresholdRow", "leave", "(I)I"⟩
abbrev b_Gang_letGo : ByteArray := prog_4_method_5_code
def y_Gang_letGo : MethodName := ⟨"ThresholdRow$Gang", "letGo", "(LThresholdRow$Hand;)V"⟩
abbrev b_AL_remove : ByteArray := prog_30_method_29_code
def y_AL_remove : MethodName := ⟨"java/util/ArrayList", "remove", "(I)Ljava/lang/Object;"⟩
abbrev b_AL_fastRemove : ByteArray := prog_30_method_39_code
def y_AL_fastRemove : MethodName := ⟨"java/util/ArrayList", "fastRemove", "([Ljava/lang/Object;I)V"⟩
abbrev b_Law_placeOf : ByteArray := method_6_code
def y_Law_placeOf : MethodName := ⟨"ThresholdRowLaw", "placeOf", "(LThresholdRow;I)I"⟩
abbrev b_Row_placeOf : ByteArray := prog_1_method_5_code
def y_Row_placeOf : MethodName := ⟨"ThresholdRow", "placeOf", "(I)I"⟩
abbrev b_Law_errorOf : ByteArray := method_7_code
def y_Law_errorOf : MethodName := ⟨"ThresholdRowLaw", "errorOf", "(LThresholdRow;I)I"⟩
abbrev b_Row_errorOf : ByteArray := prog_1_method_6_code
def y_Row_errorOf : MethodName := ⟨"ThresholdRow", "errorOf", "(I)I"⟩
abbrev b_Row_placeNeeded : ByteArray := prog_1_method_51_code
def y_Row_placeNeeded : MethodName := ⟨"ThresholdRow", "placeNeeded", "(LThresholdRow$Hand;)I"⟩
abbrev b_NoSuchElementException_init : ByteArray := prog_34_method_4_code
def y_NoSuchElementException_init : MethodName := ⟨"java/util/NoSuchElementException", "<init>", "(Ljava/lang/String;)V"⟩
abbrev b_Law_strokeOf : ByteArray := method_8_code
def y_Law_strokeOf : MethodName := ⟨"ThresholdRowLaw", "strokeOf", "(LThresholdRow;I)I"⟩
abbrev b_Row_strokeOf : ByteArray := prog_1_method_7_code
def y_Row_strokeOf : MethodName := ⟨"ThresholdRow", "strokeOf", "(I)I"⟩
abbrev b_Gang_tickAt : ByteArray := prog_4_method_6_code
def y_Gang_tickAt : MethodName := ⟨"ThresholdRow$Gang", "tickAt", "(I)I"⟩
abbrev b_Law_fatigue : ByteArray := method_9_code
def y_Law_fatigue : MethodName := ⟨"ThresholdRowLaw", "fatigue", "(LThresholdRow;I)I"⟩
abbrev b_Row_fatigue : ByteArray := prog_1_method_8_code
def y_Row_fatigue : MethodName := ⟨"ThresholdRow", "fatigue", "(I)I"⟩
abbrev b_Law_hurt : ByteArray := method_10_code
def y_Law_hurt : MethodName := ⟨"ThresholdRowLaw", "hurt", "(LThresholdRow;I)I"⟩
abbrev b_Row_hurt : ByteArray := prog_1_method_9_code
def y_Row_hurt : MethodName := ⟨"ThresholdRow", "hurt", "(I)I"⟩
abbrev b_Law_lost : ByteArray := method_11_code
def y_Law_lost : MethodName := ⟨"ThresholdRowLaw", "lost", "(LThresholdRow;I)I"⟩
abbrev b_Row_lost : ByteArray := prog_1_method_10_code
def y_Row_lost : MethodName := ⟨"ThresholdRow", "lost", "(I)I"⟩
abbrev b_Law_practise : ByteArray := method_12_code
def y_Law_practise : MethodName := ⟨"ThresholdRowLaw", "practise", "(LThresholdRow;I)I"⟩
abbrev b_Row_practise : ByteArray := prog_1_method_11_code
def y_Row_practise : MethodName := ⟨"ThresholdRow", "practise", "(I)I"⟩
abbrev b_Row_checkGang : ByteArray := prog_1_method_46_code
def y_Row_checkGang : MethodName := ⟨"ThresholdRow", "checkGang", "()V"⟩
abbrev b_Gang_beatRound : ByteArray := prog_4_method_7_code
def y_Gang_beatRound : MethodName := ⟨"ThresholdRow$Gang", "beatRound", "()Z"⟩
abbrev b_Gang_leanOnOneAnother : ByteArray := prog_4_method_8_code
def y_Gang_leanOnOneAnother : MethodName := ⟨"ThresholdRow$Gang", "leanOnOneAnother", "()V"⟩
abbrev b_Hand_drift : ByteArray := prog_5_method_2_code
def y_Hand_drift : MethodName := ⟨"ThresholdRow$Hand", "drift", "()I"⟩
abbrev b_Gang_findLoser : ByteArray := prog_4_method_9_code
def y_Gang_findLoser : MethodName := ⟨"ThresholdRow$Gang", "findLoser", "()LThresholdRow$Hand;"⟩
abbrev b_Gang_worseOf : ByteArray := prog_4_method_10_code
def y_Gang_worseOf : MethodName := ⟨"ThresholdRow$Gang", "worseOf", "(LThresholdRow$Hand;LThresholdRow$Hand;)LThresholdRow$Hand;"⟩
abbrev b_Math_abs : ByteArray := prog_22_method_59_code
def y_Math_abs : MethodName := ⟨"java/lang/Math", "abs", "(I)I"⟩
abbrev b_Gang_tireAll : ByteArray := prog_4_method_11_code
def y_Gang_tireAll : MethodName := ⟨"ThresholdRow$Gang", "tireAll", "()V"⟩
abbrev b_Hand_tire : ByteArray := prog_5_method_3_code
def y_Hand_tire : MethodName := ⟨"ThresholdRow$Hand", "tire", "()V"⟩
abbrev b_Gang_forgetErrors : ByteArray := prog_4_method_12_code
def y_Gang_forgetErrors : MethodName := ⟨"ThresholdRow$Gang", "forgetErrors", "()V"⟩
abbrev b_Law_pass : ByteArray := method_13_code
def y_Law_pass : MethodName := ⟨"ThresholdRowLaw", "pass", "(LThresholdRow;I)I"⟩
abbrev b_Row_pass : ByteArray := prog_1_method_34_code
def y_Row_pass : MethodName := ⟨"ThresholdRow", "pass", "(I)I"⟩
abbrev b_Row_restHands : ByteArray := prog_1_method_56_code
def y_Row_restHands : MethodName := ⟨"ThresholdRow", "restHands", "()V"⟩
abbrev b_Hand_rest : ByteArray := prog_5_method_4_code
def y_Hand_rest : MethodName := ⟨"ThresholdRow$Hand", "rest", "()V"⟩
abbrev b_Row_feedRats : ByteArray := prog_1_method_57_code
def y_Row_feedRats : MethodName := ⟨"ThresholdRow", "feedRats", "()V"⟩
abbrev b_Row_fullestBin : ByteArray := prog_1_method_58_code
def y_Row_fullestBin : MethodName := ⟨"ThresholdRow", "fullestBin", "()LThresholdRow$Bin;"⟩
abbrev b_Row_binAt : ByteArray := prog_1_method_49_code
def y_Row_binAt : MethodName := ⟨"ThresholdRow", "binAt", "(I)LThresholdRow$Bin;"⟩
abbrev b_Bin_takeOut : ByteArray := prog_2_method_4_code
def y_Bin_takeOut : MethodName := ⟨"ThresholdRow$Bin", "takeOut", "(I)V"⟩
abbrev b_Law_in : ByteArray := method_14_code
def y_Law_in : MethodName := ⟨"ThresholdRowLaw", "in", "([III)I"⟩
abbrev b_Law_cell : ByteArray := method_2_code
def y_Law_cell : MethodName := ⟨"ThresholdRowLaw", "cell", "([II)I"⟩
abbrev b_Law_goes : ByteArray := method_16_code
def y_Law_goes : MethodName := ⟨"ThresholdRowLaw", "goes", "([I[I[I[I[I[I)Z"⟩
abbrev b_Law_amount : ByteArray := method_15_code
def y_Law_amount : MethodName := ⟨"ThresholdRowLaw", "amount", "(I)I"⟩
abbrev b_Law_leaves : ByteArray := method_17_code
def y_Law_leaves : MethodName := ⟨"ThresholdRowLaw", "leaves", "([II)V"⟩
abbrev b_Law_placeIn : ByteArray := method_18_code
def y_Law_placeIn : MethodName := ⟨"ThresholdRowLaw", "placeIn", "([II)I"⟩
end
section
/-! ===== BEGIN words of one list among another's, by their places ===== -/
theorem goodIn_r {big : List Cond} (ws : List Cond) (ps : List Nat) (hp : ws = ps.filterMap (fun i => big[i]?)) (h : ws.all goodWord = true) : GoodIn big ws := by
  intro w hw
  have h1 := List.all_eq_true.mp h w hw
  rw [hp] at hw
  obtain ⟨i, -, hi⟩ := List.mem_filterMap.mp hw
  have hm : w ∈ big := by first | exact List.mem_of_getElem? hi | exact List.getElem?_mem hi
  exact ⟨hm, good_of_word h1⟩
theorem goodIn_app {big a b : List Cond} (ha : GoodIn big a) (hb : GoodIn big b) : GoodIn big (a ++ b) := fun w h => (List.mem_append.mp h).elim (ha w) (hb w)
theorem goodIn_ca {big a b : List Cond} {c : Cond} (ha : GoodIn big (c :: a)) (hb : GoodIn big b) : GoodIn big (c :: (a ++ b)) := fun w h => (List.mem_cons.mp h).elim (fun e => ha w (List.mem_cons.mpr (Or.inl e))) (fun h => (List.mem_append.mp h).elim (fun h => ha w (List.mem_cons.mpr (Or.inr h))) (hb w))
theorem goodIn_sub {big ws : List Cond} (hm : ∀ w ∈ ws, w ∈ big) (h : ws.all goodWord = true) : GoodIn big ws := fun w hw => ⟨hm w hw, good_of_word (List.all_eq_true.mp h w hw)⟩
/-! ===== END ===== -/
/-! ===== BEGIN exceptions that leave a method, and their catching by the caller (launches without stack traces) ===== -/
section VXA
/-! The laws vx_back, vx_callV, vx_callS, vx_callSW, vx_throw0, vx_throwS follow proofs of the library, with one case more: JvmDerived/Free/Laws.lean (Back.of_free), Shelf42/LK1.lean (callV, callS), Shelf/KitTraced.lean (throwNew0V, throwNewS). -/
/-- where a method has thrown q: the class by its name, the cell, what was written, the world -/
def vx_T (XC : String → State → State → Prop) (st : State) (q : Addr) (t : State) (mc ms : Nat) (free : Addr → Prop) : Prop :=
  ∃ (E : String) (ce : Cell) (L : List Loc), XC E st t ∧ t.heap[q]? = some ce ∧ ce.vm = .none ∧ st.vm.findClass E = some ce.cls ∧ st.WarmedH t.vm ∧ st.sameButNew ({ t with vm := st.vm } : State) L mc ms ∧ ∀ z ∈ L, free z.base
def vx_Q (Qc : Array Value → State → Outcome → State → Prop) (XC : String → State → State → Prop) (mc ms : Nat) (free : Addr → Prop) : Array Value → State → Outcome → State → Prop := fun a st o t =>
  (Qc a st o t ∧ ∃ L, FrameEnd st o t L mc ms ∧ ∀ q ∈ L, free q.base) ∨ ∃ q, o = .threw q ∧ vx_T XC st q t mc ms free
/-- a callee that returns or throws -/
def vx_Met (l : Launch) (y : MethodName) (ws : List Cond) (rm : Room) (Pc : Array Value → State → Prop) (Qc : Array Value → State → Outcome → State → Prop) (XC : String → State → State → Prop) (mc ms : Nat) (free : Addr → Prop) : Prop :=
  MetFree l y (headSpec ws rm) Pc (fun _ _ _ _ _ => True) (vx_Q Qc XC mc ms free)
def vx_Post (XC : String → State → State → Prop) (mc ms : Nat) (free : Addr → Prop) : Pt → Array Value → Addr → Pt → Prop := fun A a q B =>
  ∃ (g : JFrame) (mk : MethodId) (t : State) (L : List Loc) (E : String) (ce : Cell), B.U.heap = t.heap ∧ B.U.vm = t.vm ∧ XC E (A.U.calling g mk a) t ∧ t.heap[q]? = some ce ∧ ce.vm = .none ∧ A.U.vm.findClass E = some ce.cls ∧ B.locs = A.locs ++ L ∧ (∀ z ∈ L, free z.base) ∧ B.cells = A.cells + mc ∧ B.slots = A.slots + ms
def vx_Back (l : Launch) (R : Room) (p : Program) (e : Env) (below : List Frame) (s : State) (sargs : Array Value) (y : MethodName) (len W9 : Nat)
    (Pre : Pt → Array Value → Prop) (Post : Pt → Array Value → Option Value → Pt → Prop) (PostX : Pt → Array Value → Addr → Pt → Prop) : Prop :=
  ∀ (m : MethodId) (meth : Method) (c : Code) (A : Pt) (g : JFrame) (ig : Instr) (mk : MethodId) (a : Array Value),
    Stand p l e R s m sargs below meth c A.U A.locs A.cells A.slots → g.method = m → g.locals.size = c.maxLocals → decode c.code g.pc = .ok (ig, len) →
    2 * g.monitorRoom + (g.stack.map fun v => v.category).sum ≤ W9 → A.U.methodNamed? y = some mk → Pre A a →
    (∃ (v : Option Value) (B : Pt), Stand p l e R s m sargs below meth c B.U B.locs B.cells B.slots ∧ Post A a v B ∧
      Steps p.tables e below (doInvoke e (A.U.setTop g) [] mk a).1 (B.U.setTop { g with pc := g.pc + len, stack := v.toList ++ g.stack })) ∨
    (∃ (q : Addr) (B : Pt), Stand p l e R s m sargs below meth c B.U B.locs B.cells B.slots ∧ PostX A a q B ∧
      Steps p.tables e below (doInvoke e (A.U.setTop g) [] mk a).1 ((B.U.setTop g).pushFrame (.throwing q)))
section Payer
variable {l : Launch} {R : Room} {p : Program} {e : Env} {below : List Frame} {s : State} {sargs : Array Value} {y : MethodName} {len W9 : Nat}
theorem vx_back {ws : List Cond} {rm : Room} {Pc : Array Value → State → Prop} {Qc : Array Value → State → Outcome → State → Prop} {XC : String → State → State → Prop} {mc ms : Nat} {free : Addr → Prop} {bytes : ByteArray} {maxL : Nat} {ret : Option FieldType}
    (hM : vx_Met l y ws rm Pc Qc XC mc ms free) (hblind : FrameBlind Pc) (hrc : rm.cells = mc) (hrs : rm.slots = ms)
    (hframes : rm.frames + 1 ≤ R.frames) (hlocals : W9 + (maxL + 11) + rm.locals ≤ R.locals)
    (hws : ∀ w ∈ ws, ∀ a' U, s.WarmedH U.vm → w.before a' U = true) (hcode : Cond.code y bytes maxL ret ∈ ws) (hinit : ∀ a' U, s.WarmedH U.vm → (Cond.initialized y.cls).before a' U = true) :
    vx_Back l R p e below s sargs y len W9 (PreOf R mc ms Pc) (PostOf Qc mc ms free) (vx_Post XC mc ms free) := by
  intro m meth c A g ig mk a X hg hsize hdg hW hn hp
  have h1 : (headSpec ws rm).pre.before a A.U = true := atoms_intro fun w hw => hws w hw _ _ X.warmed
  have h2 : (Cond.code y bytes maxL ret).before a A.U = true := hws _ hcode _ _ X.warmed
  have h3 : (Cond.initialized y.cls).before a A.U = true := hinit _ _ X.warmed
  have h4 : A.cells + (headSpec ws rm).room.cells ≤ R.cells := by rw [show (headSpec ws rm).room.cells = mc from hrc]; exact hp.1
  have h5 : A.slots + (headSpec ws rm).room.slots ≤ R.slots := by rw [show (headSpec ws rm).room.slots = ms from hrs]; exact hp.2.1
  have hPc : Pc a (A.U.calling g mk a) := hblind _ _ _ _ hp.2.2
  obtain ⟨U, Ls, c0, s0⟩ := A
  dsimp only [Pt.U, Pt.locs, Pt.cells, Pt.slots] at h1 h2 h3 h4 h5 X hn hPc ⊢
  obtain ⟨methY, cY, hmY, hcY, -, hlY, -, -, -, -⟩ := Cond.code_spec hn h2
  obtain ⟨kY, hkY, -⟩ := className_of_methodNamed hn
  have hinitY : kY.init = .initialized := Cond.initialized_spec (findClass_of_methodNamed hn) hkY h3
  have h : At U g.method c below := by rw [hg]; exact X.here
  have hlocals9 : W9 + (maxL + 11) + (headSpec ws rm).room.locals ≤ R.locals := hlocals
  have happ : (headSpec ws rm).appliesLoose y e.platform (U.calling g mk a) = true :=
    Spec.appliesLoose_calling (g := g) h hdg hn hkY hinitY
      (X.room_calling (g := g) (R' := (headSpec ws rm).room) hsize hmY hcY hframes (by rw [hlY]; omega) h4 h5) h1
  obtain ⟨mid, hmid⟩ := h.above
  have hfr : (U.setTop g).frames = (.java g :: mid) ++ below := by rw [State.frames_setTop' g h.top, hmid]; rfl
  obtain ⟨o, s₂, hsteps, -, hend, hq⟩ := Steps.callFree hM p X.admits X.cas X.clock (acts := []) hfr happ hPc trivial
  have hq' : vx_Q Qc XC mc ms free a (U.calling g mk a) o s₂ := hq
  rw [State.frames_setTop' g h.top] at hend
  obtain ⟨g₀, hg0⟩ := Option.isSome_iff_exists.mp h.top
  obtain ⟨r, hr⟩ := State.topJava?_eq_some.mp hg0
  have hr' : (({ U with heap := s₂.heap, slotsUsed := s₂.slotsUsed } : State).setVm s₂.vm).frames = .java g₀ :: r := hr
  rcases hq' with ⟨hqc, L, hfe, hL⟩ | ⟨q, rfl, E, ce, L, hx, hce, hcv, hcl, hW₂, hsm, hL⟩
  · obtain ⟨⟨v, rfl⟩, hW₂, e2, q2, q3, q4, q5, q6⟩ := id hfe
    have e3 : s₂ = ({ (U.calling g mk a).setFrames s₂.frames with heap := s₂.heap, slotsUsed := s₂.slotsUsed } : State).setVm s₂.vm := by
      have : s₂ = ({ s₂ with vm := (U.calling g mk a).vm } : State).setVm s₂.vm := rfl
      rw [e2] at this
      exact this
    obtain ⟨c₂, i₂, len₂, hc₂, hd₂, hf₂⟩ := hend
    have hW' : U.WarmedH s₂.vm := hW₂
    have hcc : c₂ = c := by
      have h1 : s₂.code? g.method = U.code? g.method := by
        rw [State.code?_eq, State.code?_eq, hW'.alike.method?]
      exact Option.some.inj (hc₂.symm.trans (h1.trans h.code))
    subst hcc
    have hlen : len₂ = len := by rw [hdg] at hd₂; cases hd₂; rfl
    subst hlen
    have hs₂ : s₂ = (({ U with heap := s₂.heap, slotsUsed := s₂.slotsUsed } : State).setVm s₂.vm).setTop { g with pc := g.pc + len₂, stack := v.toList ++ g.stack } := by
      refine e3.trans ?_
      rw [hf₂, State.calling_eq h.top, State.setFrames_setFrames, State.setTop_of_frames _ hr', hr]
      rfl
    have hsame : U.sameButNew ({ U with heap := s₂.heap, slotsUsed := s₂.slotsUsed } : State) L mc ms := by
      refine ⟨?_, q2, q3, q4, q5, q6⟩
      obtain ⟨t, ht, -⟩ := State.frames_cons hr
      show ({ U with heap := s₂.heap, slotsUsed := s₂.slotsUsed } : State) = { U.setFrames U.frames with heap := s₂.heap, slotsUsed := s₂.slotsUsed }
      rw [State.setFrames_self ht]
    subst hg
    refine Or.inl ⟨v, ⟨(({ U with heap := s₂.heap, slotsUsed := s₂.slotsUsed } : State).setVm s₂.vm), Ls ++ L, c0 + mc, s0 + ms⟩,
      ⟨X.admits, X.cas, X.clock, X.frames, X.room, X.hears, X.method, X.code, (X.here.setHeapUsed s₂.heap s₂.slotsUsed).setVm hW'.alike, X.tail, State.WarmedH.trans X.warmed hW', X.limits, X.bytes, X.same.trans (hsame.setVm s.vm)⟩,
      ⟨g, mk, s₂, L, rfl, rfl, hqc, rfl, hL, rfl, rfl⟩, ?_⟩
    show Steps p.tables e below _ ((({ U with heap := s₂.heap, slotsUsed := s₂.slotsUsed } : State).setVm s₂.vm).setTop { g with pc := g.pc + len₂, stack := v.toList ++ g.stack })
    rw [← hs₂]
    exact hsteps
  · obtain ⟨e2, q2, q3, q4, q5, q6⟩ := id hsm
    have e3 : s₂ = ({ (U.calling g mk a).setFrames s₂.frames with heap := s₂.heap, slotsUsed := s₂.slotsUsed } : State).setVm s₂.vm := by
      have : s₂ = ({ s₂ with vm := (U.calling g mk a).vm } : State).setVm s₂.vm := rfl
      rw [e2] at this
      exact this
    have hf₂ : s₂.frames = .throwing q :: .java g :: U.frames.tail := hend
    have hW' : U.WarmedH s₂.vm := hW₂
    have hs₂ : s₂ = ((({ U with heap := s₂.heap, slotsUsed := s₂.slotsUsed } : State).setVm s₂.vm).setTop g).pushFrame (.throwing q) := by
      refine e3.trans ?_
      rw [hf₂, State.calling_eq h.top, State.setFrames_setFrames, State.pushFrame, State.frames_setTop _ hr', State.setTop_of_frames _ hr', State.setFrames_setFrames, hr]
      rfl
    have hsame : U.sameButNew ({ U with heap := s₂.heap, slotsUsed := s₂.slotsUsed } : State) L mc ms := by
      refine ⟨?_, q2, q3, q4, q5, q6⟩
      obtain ⟨t, ht, -⟩ := State.frames_cons hr
      show ({ U with heap := s₂.heap, slotsUsed := s₂.slotsUsed } : State) = { U.setFrames U.frames with heap := s₂.heap, slotsUsed := s₂.slotsUsed }
      rw [State.setFrames_self ht]
    subst hg
    refine Or.inr ⟨q, ⟨(({ U with heap := s₂.heap, slotsUsed := s₂.slotsUsed } : State).setVm s₂.vm), Ls ++ L, c0 + mc, s0 + ms⟩,
      ⟨X.admits, X.cas, X.clock, X.frames, X.room, X.hears, X.method, X.code, (X.here.setHeapUsed s₂.heap s₂.slotsUsed).setVm hW'.alike, X.tail, State.WarmedH.trans X.warmed hW', X.limits, X.bytes, X.same.trans (hsame.setVm s.vm)⟩,
      ⟨g, mk, s₂, L, E, ce, rfl, rfl, hx, hce, hcv, hcl, rfl, hL, rfl, rfl⟩, ?_⟩
    show Steps p.tables e below _ (((({ U with heap := s₂.heap, slotsUsed := s₂.slotsUsed } : State).setVm s₂.vm).setTop g).pushFrame (.throwing q))
    rw [← hs₂]
    exact hsteps
end Payer
section Calls
variable {p : Program} {l : Launch} {e : Env} {R : Room} {s : State} {m : MethodId} {args : Array Value} {below : List Frame} {meth : Method} {c : Code} {T : State} {locs : List Loc} {cells slots : Nat}
theorem vx_callV (X : Stand p l e R s m args below meth c T locs cells slots) (hexec : p.tables.exec = Jvm.exec) {own C : String} {index : Nat} {y : MethodName} {bytes : ByteArray} {maxL : Nat} {ret : Option FieldType}
    (hown : s.vm.findClass own = some m.cls) (hlink : (Cond.methodLink own index y).before args s = true) (hinst : (Cond.instanceMethod y).before args s = true) (hsel : (Cond.selects C y y).before args s = true)
    (hcode : (Cond.code y bytes maxL ret).before args s = true) (hy : y.cls ≠ "java/lang/invoke/MethodHandle" ∧ y.cls ≠ "java/lang/invoke/VarHandle")
    {W9 : Nat} {Pre : Pt → Array Value → Prop} {Post : Pt → Array Value → Option Value → Pt → Prop} {PostX : Pt → Array Value → Addr → Pt → Prop} (hK : vx_Back l R p e below s args y 3 W9 Pre Post PostX)
    {b : Addr} {cellB : Cell} (hcell : T.heap[b]? = some cellB) (hobj : cellB.vm.isStatics = false) (hcls : s.vm.findClass C = some cellB.cls)
    {g : JFrame} (hg : g.method = m) (hsize : g.locals.size = c.maxLocals) {argsL rest : List Value} (hlen : ∀ sig, parseMethodDescriptor y.desc = some sig → argsL.length = sig.parameters.length)
    (hstack : g.stack = argsL.reverse ++ .ref b :: rest) (hW : 2 * g.monitorRoom + (rest.map fun v => v.category).sum ≤ W9) (hdg : decode c.code g.pc = .ok (.invokevirtual index, 3))
    (hpre : ∀ vm₁, s.WarmedH vm₁ → Pre ⟨T.setVm vm₁, locs, cells, slots⟩ (Value.ref b :: argsL).toArray) :
    (∃ (v : Option Value) (vm₁ : Vm) (B : Pt), s.WarmedH vm₁ ∧ Stand p l e R s m args below meth c B.U B.locs B.cells B.slots ∧ Post ⟨T.setVm vm₁, locs, cells, slots⟩ (Value.ref b :: argsL).toArray v B ∧
      ∀ target, Steps p.tables e below (B.U.setTop { g with pc := g.pc + 3, stack := v.toList ++ rest }) target → Steps p.tables e below (T.setTop g) target) ∨
    (∃ (q : Addr) (vm₁ : Vm) (B : Pt), s.WarmedH vm₁ ∧ Stand p l e R s m args below meth c B.U B.locs B.cells B.slots ∧ PostX ⟨T.setVm vm₁, locs, cells, slots⟩ (Value.ref b :: argsL).toArray q B ∧
      Steps p.tables e below (T.setTop g) ((B.U.setTop { g with stack := rest }).pushFrame (.throwing q))) := by
  obtain ⟨mk, methM, hnamed, hmethM, hstM, habM⟩ := Cond.instanceMethod_spec hinst
  obtain ⟨methM', cM, hmethM', -, -, -, -, -, -, hsigM⟩ := Cond.code_spec hnamed hcode
  cases hmethM.symm.trans hmethM'
  obtain ⟨c2, r2, m2, q1, q2, q3, q4, kP, hkP, hkPi⟩ := Cond.selects_spec hsel
  cases hcls.symm.trans q1
  cases (State.methodFound?_of_named hnamed hy).symm.trans q2
  cases hnamed.symm.trans q3
  have hselP : selectMethod e.platform s.vm cellB.cls mk = .method mk := by rw [Launch.admits_selectMethod X.admits]; exact q4
  obtain ⟨vm₁, X₁, hstep₁⟩ := X.invokevirtual hexec hown hlink hnamed hmethM hstM hkP hkPi hy (a := b) (cell := cellB) hcell
    (fun z h => by rw [h] at hobj; cases hobj) hselP hmethM habM hkP hkPi (g := g) hg (argsL := argsL) (rest := rest) (hlen _ hsigM) hstack hdg
  rcases hK m meth c ⟨T.setVm vm₁, locs, cells, slots⟩ { g with stack := rest } (.invokevirtual index) mk (Value.ref b :: argsL).toArray X₁ hg hsize hdg hW (X₁.named hnamed) (hpre vm₁ X₁.warmed) with ⟨v, B, X', hpost, hsteps⟩ | ⟨q, B, X', hpost, hsteps⟩
  · exact Or.inl ⟨v, vm₁, B, X₁.warmed, X', hpost, fun target h => hstep₁ _ fun acts => by rw [doInvoke_state]; exact hsteps.trans h⟩
  · exact Or.inr ⟨q, vm₁, B, X₁.warmed, X', hpost, hstep₁ _ fun acts => by rw [doInvoke_state]; exact hsteps⟩
theorem vx_callS (X : Stand p l e R s m args below meth c T locs cells slots) (hexec : p.tables.exec = Jvm.exec) {own : String} {index : Nat} {y : MethodName} {bytes : ByteArray} {maxL : Nat} {ret : Option FieldType}
    (hown : s.vm.findClass own = some m.cls) (hlink : (Cond.methodLink own index y).before args s = true) (hstat : (Cond.static y).before args s = true) (hinit : (Cond.initialized y.cls).before args s = true)
    (hcode : (Cond.code y bytes maxL ret).before args s = true) (hy : y.cls ≠ "java/lang/invoke/MethodHandle" ∧ y.cls ≠ "java/lang/invoke/VarHandle")
    {W9 : Nat} {Pre : Pt → Array Value → Prop} {Post : Pt → Array Value → Option Value → Pt → Prop} {PostX : Pt → Array Value → Addr → Pt → Prop} (hK : vx_Back l R p e below s args y 3 W9 Pre Post PostX)
    {g : JFrame} (hg : g.method = m) (hsize : g.locals.size = c.maxLocals) {argsL rest : List Value} (hlen : ∀ sig, parseMethodDescriptor y.desc = some sig → argsL.length = sig.parameters.length)
    (hstack : g.stack = argsL.reverse ++ rest) (hW : 2 * g.monitorRoom + (rest.map fun v => v.category).sum ≤ W9) (hdg : decode c.code g.pc = .ok (.invokestatic index, 3))
    (hpre : ∀ vm₁, s.WarmedH vm₁ → Pre ⟨T.setVm vm₁, locs, cells, slots⟩ argsL.toArray) :
    (∃ (v : Option Value) (vm₁ : Vm) (B : Pt), s.WarmedH vm₁ ∧ Stand p l e R s m args below meth c B.U B.locs B.cells B.slots ∧ Post ⟨T.setVm vm₁, locs, cells, slots⟩ argsL.toArray v B ∧
      ∀ target, Steps p.tables e below (B.U.setTop { g with pc := g.pc + 3, stack := v.toList ++ rest }) target → Steps p.tables e below (T.setTop g) target) ∨
    (∃ (q : Addr) (vm₁ : Vm) (B : Pt), s.WarmedH vm₁ ∧ Stand p l e R s m args below meth c B.U B.locs B.cells B.slots ∧ PostX ⟨T.setVm vm₁, locs, cells, slots⟩ argsL.toArray q B ∧
      Steps p.tables e below (T.setTop g) ((B.U.setTop { g with stack := rest }).pushFrame (.throwing q))) := by
  obtain ⟨mk, hnamed⟩ := Cond.code_named hcode
  obtain ⟨methM, cM, hmethM, -, -, -, -, -, -, hsigM⟩ := Cond.code_spec hnamed hcode
  have hstatic : methM.isStatic = true := Cond.static_spec hnamed hmethM hstat
  obtain ⟨kP, hkP, -⟩ := className_of_methodNamed hnamed
  have hinitP : kP.init = .initialized := Cond.initialized_spec (findClass_of_methodNamed hnamed) hkP hinit
  obtain ⟨vm₁, X₁, hstep₁⟩ := X.invokestatic hexec hown hlink hnamed hmethM hstatic hkP hinitP hy (g := g) hg (argsL := argsL) (rest := rest) (hlen _ hsigM) hstack hdg
  rcases hK m meth c ⟨T.setVm vm₁, locs, cells, slots⟩ { g with stack := rest } (.invokestatic index) mk argsL.toArray X₁ hg hsize hdg hW (X₁.named hnamed) (hpre vm₁ X₁.warmed) with ⟨v, B, X', hpost, hsteps⟩ | ⟨q, B, X', hpost, hsteps⟩
  · exact Or.inl ⟨v, vm₁, B, X₁.warmed, X', hpost, fun target h => hstep₁ _ fun acts => by rw [doInvoke_state]; exact hsteps.trans h⟩
  · exact Or.inr ⟨q, vm₁, B, X₁.warmed, X', hpost, hstep₁ _ fun acts => by rw [doInvoke_state]; exact hsteps⟩
end Calls
theorem vx_cls {s : State} {T : State} {vm₁ : Vm} {E : String} {k : ClassId} (hW : s.WarmedH vm₁) (h : (T.setVm vm₁).vm.findClass E = some k) : s.vm.findClass E = some k := by
  have h1 : vm₁.findClass E = some k := h
  rw [hW.alike.findClass] at h1
  exact h1
/-- the method's frame g, with q thrown over it -/
def vx_W (p : Program) (l : Launch) (e : Env) (R : Room) (s : State) (m : MethodId) (args : Array Value) (below : List Frame) (meth : Method) (c : Code) (H : Heap) (locs : List Loc) (cells slots : Nat) (Q : State → Prop) (g : JFrame) (q : Addr) : Prop :=
  ∀ T : State, T.heap = H → Stand p l e R s m args below meth c T locs cells slots → ∃ t, Steps p.tables e below ((T.setTop g).pushFrame (.throwing q)) t ∧ Q t
def vx_Run (p : Program) (l : Launch) (e : Env) (R : Room) (s : State) (m : MethodId) (args : Array Value) (below : List Frame) (meth : Method) (c : Code) (H : Heap) (locs : List Loc) (cells slots mc ms : Nat) (g : JFrame) (rest : List Value) (Qa : State → Outcome → State → Prop) (XC : String → State → State → Prop) (free : Addr → Prop) : Prop :=
  ∀ T : State, T.heap = H → Stand p l e R s m args below meth c T locs cells slots →
    (∃ (v : Option Value) (st₀ t T' : State) (L : List Loc), st₀.heap = H ∧ Stand p l e R s m args below meth c T' (locs ++ L) (cells + mc) (slots + ms) ∧ (∀ q ∈ L, free q.base) ∧ T'.heap = t.heap ∧ T'.vm = t.vm ∧ Qa st₀ (.returned v) t ∧
      Goes p e below T g T' { g with pc := g.pc + 3, stack := v.toList ++ rest }) ∨
    (∃ (q : Addr) (st₀ t T' : State) (L : List Loc) (E : String) (ce : Cell), st₀.heap = H ∧ Stand p l e R s m args below meth c T' (locs ++ L) (cells + mc) (slots + ms) ∧ (∀ z ∈ L, free z.base) ∧ T'.heap = t.heap ∧ T'.vm = t.vm ∧ XC E st₀ t ∧ t.heap[q]? = some ce ∧ ce.vm = .none ∧ s.vm.findClass E = some ce.cls ∧
      Steps p.tables e below (T.setTop g) ((T'.setTop { g with stack := rest }).pushFrame (.throwing q)))
def vx_X {S : Type} (px : S → Prop) (B : String → S → State → Prop) (A : Nat → Prop) : String → State → State → Prop := fun E st t => ∃ u : S, px u ∧ B E u t ∧ va_F A st t
section Runs
variable {p : Program} {l : Launch} {e : Env} {R : Room} {s : State} {m : MethodId} {args : Array Value} {below : List Frame} {meth : Method} {c : Code} {H : Heap} {locs : List Loc} {cells slots : Nat}
variable {y : MethodName} {bytes cc : ByteArray} {maxL nL mc ms n index : Nat} {ret : Option FieldType} {ws : List Cond} {rm : Room} {Pc : Array Value → State → Prop} {Qc : Array Value → State → Outcome → State → Prop} {XC : String → State → State → Prop} {free : Addr → Prop} {Ts : List Cond} {own C : String} {b : Addr} {As rest : List Value} {g : JFrame}
theorem vx_callBack (cb : CallB R s args own index y bytes maxL ret ws rm mc ms n) (hM : vx_Met l y ws rm Pc Qc XC mc ms free) (hbl : FrameBlind Pc) : vx_Back l R p e below s args y 3 8 (PreOf R mc ms Pc) (PostOf Qc mc ms free) (vx_Post XC mc ms free) := by
  obtain ⟨hrc, hrs, hfr, hlo, hws, hcw, -, hini, -⟩ := cb
  exact vx_back (bytes := bytes) (maxL := maxL) (ret := ret) hM hbl hrc hrs hfr hlo hws hcw (fun a' U hW => word_at hW (Or.inl (by first | rfl | simp [Cond.onTables, Cond.keeps, Cond.steady])) hini)
theorem vx_runV (S : CallFix p m c cc nL s args Ts own) (hM : vx_Met l y ws rm Pc Qc XC mc ms free) (cw : CallW R s args own C index y bytes maxL ret ws rm mc ms n) (hp : PreV s H C b Pc As)
    (hg : g.method = m) (hn : As.length = n) (hsize : g.locals.size = nL) (hstack : g.stack = As.reverse ++ .ref b :: rest) (hW : 2 * g.monitorRoom + (rest.map fun v => v.category).sum ≤ 8) (hdg : decode cc g.pc = .ok (.invokevirtual index, 3)) (hf : cells + mc ≤ R.cells ∧ slots + ms ≤ R.slots) :
    vx_Run p l e R s m args below meth c H locs cells slots mc ms g rest (Qc (Value.ref b :: As).toArray) XC free := by
  have hK : vx_Back l R p e below s args y 3 8 (PreOf R mc ms Pc) (PostOf Qc mc ms free) (vx_Post XC mc ms free) := vx_callBack cw.1 hM hp.1
  obtain ⟨⟨-, -, -, -, -, -, hcode, -, hy, hlen, hl⟩, hin, hse⟩ := cw
  obtain ⟨hx, hb, hml, ho, -⟩ := S
  obtain ⟨-, ⟨cellB, hcB, hoB, hclB⟩, hPc⟩ := hp
  intro T hT X
  rcases vx_callV X hx (C := C) (bytes := bytes) (maxL := maxL) (ret := ret) ho hl hin hse hcode hy hK (by rw [hT]; exact hcB) hoB hclB hg (hsize.trans hml.symm) (argsL := As) (rest := rest) (fun sig h => hn.trans (hlen sig h)) hstack hW (by rw [hb]; exact hdg)
    (fun vm₁ hW₁ => ⟨hf.1, hf.2, hPc (T.setVm vm₁) hT hW₁⟩) with ⟨v, vm₁, ⟨U', l2, c2, s2⟩, hW₁, X', ⟨g', mk, t, L, e1, e2, hq, h1, hL, h2, h3⟩, st⟩ | ⟨q, vm₁, ⟨U', l2, c2, s2⟩, hW₁, X', ⟨g', mk, t, L, E, ce, e1, e2, hq, hce, hcv, hcl, h1, hL, h2, h3⟩, st⟩
  · dsimp only [Pt.U, Pt.locs, Pt.cells, Pt.slots] at X' e1 e2 h1 h2 h3 st
    subst h1; subst h2; subst h3
    exact Or.inl ⟨v, (T.setVm vm₁).calling g' mk (Value.ref b :: As).toArray, t, U', L, hT, X', hL, e1, e2, hq, st⟩
  · dsimp only [Pt.U, Pt.locs, Pt.cells, Pt.slots] at X' e1 e2 h1 h2 h3 st hcl
    subst h1; subst h2; subst h3
    exact Or.inr ⟨q, (T.setVm vm₁).calling g' mk (Value.ref b :: As).toArray, t, U', L, E, ce, hT, X', hL, e1, e2, hq, hce, hcv, vx_cls hW₁ hcl, st⟩
theorem vx_runS (S : CallFix p m c cc nL s args Ts own) (hM : vx_Met l y ws rm Pc Qc XC mc ms free) (cw : CallB R s args own index y bytes maxL ret ws rm mc ms n ∧ (Cond.static y).before args s = true) (hp : PreS s H Pc As)
    (hg : g.method = m) (hn : As.length = n) (hsize : g.locals.size = nL) (hstack : g.stack = As.reverse ++ rest) (hW : 2 * g.monitorRoom + (rest.map fun v => v.category).sum ≤ 8) (hdg : decode cc g.pc = .ok (.invokestatic index, 3)) (hf : cells + mc ≤ R.cells ∧ slots + ms ≤ R.slots) :
    vx_Run p l e R s m args below meth c H locs cells slots mc ms g rest (Qc As.toArray) XC free := by
  have hK : vx_Back l R p e below s args y 3 8 (PreOf R mc ms Pc) (PostOf Qc mc ms free) (vx_Post XC mc ms free) := vx_callBack cw.1 hM hp.1
  obtain ⟨⟨-, -, -, -, -, -, hcode, hini, hy, hlen, hl⟩, hstt⟩ := cw
  obtain ⟨hx, hb, hml, ho, -⟩ := S
  intro T hT X
  rcases vx_callS X hx (bytes := bytes) (maxL := maxL) (ret := ret) ho hl hstt hini hcode hy hK hg (hsize.trans hml.symm) (argsL := As) (rest := rest) (fun sig h => hn.trans (hlen sig h)) hstack hW (by rw [hb]; exact hdg)
    (fun vm₁ hW₁ => ⟨hf.1, hf.2, hp.2 (T.setVm vm₁) hT hW₁⟩) with ⟨v, vm₁, ⟨U', l2, c2, s2⟩, hW₁, X', ⟨g', mk, t, L, e1, e2, hq, h1, hL, h2, h3⟩, st⟩ | ⟨q, vm₁, ⟨U', l2, c2, s2⟩, hW₁, X', ⟨g', mk, t, L, E, ce, e1, e2, hq, hce, hcv, hcl, h1, hL, h2, h3⟩, st⟩
  · dsimp only [Pt.U, Pt.locs, Pt.cells, Pt.slots] at X' e1 e2 h1 h2 h3 st
    subst h1; subst h2; subst h3
    exact Or.inl ⟨v, (T.setVm vm₁).calling g' mk As.toArray, t, U', L, hT, X', hL, e1, e2, hq, st⟩
  · dsimp only [Pt.U, Pt.locs, Pt.cells, Pt.slots] at X' e1 e2 h1 h2 h3 st hcl
    subst h1; subst h2; subst h3
    exact Or.inr ⟨q, (T.setVm vm₁).calling g' mk As.toArray, t, U', L, E, ce, hT, X', hL, e1, e2, hq, hce, hcv, vx_cls hW₁ hcl, st⟩
end Runs
section Rows
variable {p : Program} {l : Launch} {e : Env} {R : Room} {s : State} {m : MethodId} {args : Array Value} {below : List Frame} {meth : Method} {c : Code} {H : Heap} {locs : List Loc} {cells slots : Nat} {Q : State → Prop}
variable {mc ms : Nat} {free : Addr → Prop} {A0 A1 : Nat → Prop} {H0 : Heap} {a : Array Value} {pc : Nat} {ls : Array Slot} {st0 rest : List Value}
theorem vx_keep {st₀ t T' : State} {L : List Loc} (h0 : st₀.heap = H) (e1 : T'.heap = t.heap) (hS : va_S A0 H0 H locs) (hA : ∀ q, q < H.size → A1 q → A0 q) (hf : ∀ q, free q → A0 q) (hL : ∀ q ∈ L, free q.base) (hF : va_F A1 st₀ t) :
    H.size ≤ T'.heap.size ∧ (∀ q : Nat, q < H.size → ¬ A1 q → T'.heap[q]? = H[q]?) ∧ va_S A0 H0 T'.heap (locs ++ L) := by
  obtain ⟨hz, hk⟩ := hF
  rw [h0] at hz hk
  exact ⟨by rw [e1]; exact hz, fun q h1 h2 => by rw [e1]; exact hk q h1 h2,
    ⟨Nat.le_trans hS.1 (by rw [e1]; exact hz), fun q h1 h2 => by rw [e1, hk q (Nat.lt_of_lt_of_le h1 hS.1) (fun z => h2 (hA q (Nat.lt_of_lt_of_le h1 hS.1) z))]; exact hS.2.1 q h1 h2, fun q hq => by
      rcases List.mem_append.mp hq with h | h
      · exact hS.2.2 q h
      · exact hf _ (hL q h)⟩⟩
theorem vx_calli {S SX : Type} {post : Int32 → S → Prop} {px : SX → Prop} {B : S → State → Prop} {BX : String → SX → State → Prop} {AX : Nat → Prop} (hr : vx_Run p l e R s m args below meth c H locs cells slots mc ms (F0 m pc ls st0) rest (va_Qi post B A1 a) (vx_X px BX AX) free) (hS : va_S A0 H0 H locs) (hA : ∀ q, q < H.size → A1 q → A0 q) (hf : ∀ q, free q → A0 q) (hAX : ∀ q, q < H.size → AX q → A0 q)
    (kx : ∀ (E : String) (ce : Cell) (q9 : Addr) (u : SX) (t : State) (H1 : Heap) (locs1 : List Loc), t.heap = H1 → s.vm.Alike t.vm → px u → BX E u t → H.size ≤ H1.size → (∀ q : Nat, q < H.size → ¬ AX q → H1[q]? = H[q]?) → va_S A0 H0 H1 locs1 → H1[q9]? = some ce → ce.vm = .none → s.vm.findClass E = some ce.cls → vx_W p l e R s m args below meth c H1 locs1 (cells + mc) (slots + ms) Q (F0 m pc ls rest) q9)
    (kk : ∀ (r : Int32) (u : S) (t : State) (H1 : Heap) (locs1 : List Loc), t.heap = H1 → s.vm.Alike t.vm → post r u → B u t → H.size ≤ H1.size → (∀ q : Nat, q < H.size → ¬ A1 q → H1[q]? = H[q]?) → va_S A0 H0 H1 locs1 → W p l e R s m args below meth c H1 locs1 (cells + mc) (slots + ms) Q (F0 m (pc + 3) ls (.int r :: rest))) : W p l e R s m args below meth c H locs cells slots Q (F0 m pc ls st0) := by
  intro T hT X
  rcases hr T hT X with ⟨v, st₀, t, T', L, h0, X', hL, e1, e2, ⟨⟨r, u, hv, hp, hb⟩, hF⟩, st⟩ | ⟨q, st₀, t, T', L, E, ce, h0, X', hL, e1, e2, ⟨u, hp, hb, hF⟩, hce, hcv, hcl, st⟩
  · cases hv
    obtain ⟨k1, k2, k3⟩ := vx_keep h0 e1 hS hA hf hL hF
    obtain ⟨t2, a1, b1⟩ := kk r u t T'.heap (locs ++ L) e1.symm (by rw [← e2]; exact X'.warmed.alike) hp hb k1 k2 k3 T' rfl X'
    exact ⟨t2, st t2 a1, b1⟩
  · obtain ⟨k1, k2, k3⟩ := vx_keep h0 e1 hS hAX hf hL hF
    obtain ⟨t2, a1, b1⟩ := kx E ce q u t T'.heap (locs ++ L) e1.symm (by rw [← e2]; exact X'.warmed.alike) hp hb k1 k2 k3 (by rw [e1]; exact hce) hcv hcl T' rfl X'
    exact ⟨t2, st.trans a1, b1⟩
theorem vx_calll {S SX : Type} {post : Int64 → S → Prop} {px : SX → Prop} {B : S → State → Prop} {BX : String → SX → State → Prop} {AX : Nat → Prop} (hr : vx_Run p l e R s m args below meth c H locs cells slots mc ms (F0 m pc ls st0) rest (va_Ql post B A1 a) (vx_X px BX AX) free) (hS : va_S A0 H0 H locs) (hA : ∀ q, q < H.size → A1 q → A0 q) (hf : ∀ q, free q → A0 q) (hAX : ∀ q, q < H.size → AX q → A0 q)
    (kx : ∀ (E : String) (ce : Cell) (q9 : Addr) (u : SX) (t : State) (H1 : Heap) (locs1 : List Loc), t.heap = H1 → s.vm.Alike t.vm → px u → BX E u t → H.size ≤ H1.size → (∀ q : Nat, q < H.size → ¬ AX q → H1[q]? = H[q]?) → va_S A0 H0 H1 locs1 → H1[q9]? = some ce → ce.vm = .none → s.vm.findClass E = some ce.cls → vx_W p l e R s m args below meth c H1 locs1 (cells + mc) (slots + ms) Q (F0 m pc ls rest) q9)
    (kk : ∀ (r : Int64) (u : S) (t : State) (H1 : Heap) (locs1 : List Loc), t.heap = H1 → s.vm.Alike t.vm → post r u → B u t → H.size ≤ H1.size → (∀ q : Nat, q < H.size → ¬ A1 q → H1[q]? = H[q]?) → va_S A0 H0 H1 locs1 → W p l e R s m args below meth c H1 locs1 (cells + mc) (slots + ms) Q (F0 m (pc + 3) ls (.long r :: rest))) : W p l e R s m args below meth c H locs cells slots Q (F0 m pc ls st0) := by
  intro T hT X
  rcases hr T hT X with ⟨v, st₀, t, T', L, h0, X', hL, e1, e2, ⟨⟨r, u, hv, hp, hb⟩, hF⟩, st⟩ | ⟨q, st₀, t, T', L, E, ce, h0, X', hL, e1, e2, ⟨u, hp, hb, hF⟩, hce, hcv, hcl, st⟩
  · cases hv
    obtain ⟨k1, k2, k3⟩ := vx_keep h0 e1 hS hA hf hL hF
    obtain ⟨t2, a1, b1⟩ := kk r u t T'.heap (locs ++ L) e1.symm (by rw [← e2]; exact X'.warmed.alike) hp hb k1 k2 k3 T' rfl X'
    exact ⟨t2, st t2 a1, b1⟩
  · obtain ⟨k1, k2, k3⟩ := vx_keep h0 e1 hS hAX hf hL hF
    obtain ⟨t2, a1, b1⟩ := kx E ce q u t T'.heap (locs ++ L) e1.symm (by rw [← e2]; exact X'.warmed.alike) hp hb k1 k2 k3 (by rw [e1]; exact hce) hcv hcl T' rfl X'
    exact ⟨t2, st.trans a1, b1⟩
theorem vx_callf {S SX : Type} {post : UInt32 → S → Prop} {px : SX → Prop} {B : S → State → Prop} {BX : String → SX → State → Prop} {AX : Nat → Prop} (hr : vx_Run p l e R s m args below meth c H locs cells slots mc ms (F0 m pc ls st0) rest (va_Qf post B A1 a) (vx_X px BX AX) free) (hS : va_S A0 H0 H locs) (hA : ∀ q, q < H.size → A1 q → A0 q) (hf : ∀ q, free q → A0 q) (hAX : ∀ q, q < H.size → AX q → A0 q)
    (kx : ∀ (E : String) (ce : Cell) (q9 : Addr) (u : SX) (t : State) (H1 : Heap) (locs1 : List Loc), t.heap = H1 → s.vm.Alike t.vm → px u → BX E u t → H.size ≤ H1.size → (∀ q : Nat, q < H.size → ¬ AX q → H1[q]? = H[q]?) → va_S A0 H0 H1 locs1 → H1[q9]? = some ce → ce.vm = .none → s.vm.findClass E = some ce.cls → vx_W p l e R s m args below meth c H1 locs1 (cells + mc) (slots + ms) Q (F0 m pc ls rest) q9)
    (kk : ∀ (r : UInt32) (u : S) (t : State) (H1 : Heap) (locs1 : List Loc), t.heap = H1 → s.vm.Alike t.vm → post r u → B u t → H.size ≤ H1.size → (∀ q : Nat, q < H.size → ¬ A1 q → H1[q]? = H[q]?) → va_S A0 H0 H1 locs1 → W p l e R s m args below meth c H1 locs1 (cells + mc) (slots + ms) Q (F0 m (pc + 3) ls (.float r :: rest))) : W p l e R s m args below meth c H locs cells slots Q (F0 m pc ls st0) := by
  intro T hT X
  rcases hr T hT X with ⟨v, st₀, t, T', L, h0, X', hL, e1, e2, ⟨⟨r, u, hv, hp, hb⟩, hF⟩, st⟩ | ⟨q, st₀, t, T', L, E, ce, h0, X', hL, e1, e2, ⟨u, hp, hb, hF⟩, hce, hcv, hcl, st⟩
  · cases hv
    obtain ⟨k1, k2, k3⟩ := vx_keep h0 e1 hS hA hf hL hF
    obtain ⟨t2, a1, b1⟩ := kk r u t T'.heap (locs ++ L) e1.symm (by rw [← e2]; exact X'.warmed.alike) hp hb k1 k2 k3 T' rfl X'
    exact ⟨t2, st t2 a1, b1⟩
  · obtain ⟨k1, k2, k3⟩ := vx_keep h0 e1 hS hAX hf hL hF
    obtain ⟨t2, a1, b1⟩ := kx E ce q u t T'.heap (locs ++ L) e1.symm (by rw [← e2]; exact X'.warmed.alike) hp hb k1 k2 k3 (by rw [e1]; exact hce) hcv hcl T' rfl X'
    exact ⟨t2, st.trans a1, b1⟩
theorem vx_calld {S SX : Type} {post : UInt64 → S → Prop} {px : SX → Prop} {B : S → State → Prop} {BX : String → SX → State → Prop} {AX : Nat → Prop} (hr : vx_Run p l e R s m args below meth c H locs cells slots mc ms (F0 m pc ls st0) rest (va_Qd post B A1 a) (vx_X px BX AX) free) (hS : va_S A0 H0 H locs) (hA : ∀ q, q < H.size → A1 q → A0 q) (hf : ∀ q, free q → A0 q) (hAX : ∀ q, q < H.size → AX q → A0 q)
    (kx : ∀ (E : String) (ce : Cell) (q9 : Addr) (u : SX) (t : State) (H1 : Heap) (locs1 : List Loc), t.heap = H1 → s.vm.Alike t.vm → px u → BX E u t → H.size ≤ H1.size → (∀ q : Nat, q < H.size → ¬ AX q → H1[q]? = H[q]?) → va_S A0 H0 H1 locs1 → H1[q9]? = some ce → ce.vm = .none → s.vm.findClass E = some ce.cls → vx_W p l e R s m args below meth c H1 locs1 (cells + mc) (slots + ms) Q (F0 m pc ls rest) q9)
    (kk : ∀ (r : UInt64) (u : S) (t : State) (H1 : Heap) (locs1 : List Loc), t.heap = H1 → s.vm.Alike t.vm → post r u → B u t → H.size ≤ H1.size → (∀ q : Nat, q < H.size → ¬ A1 q → H1[q]? = H[q]?) → va_S A0 H0 H1 locs1 → W p l e R s m args below meth c H1 locs1 (cells + mc) (slots + ms) Q (F0 m (pc + 3) ls (.double r :: rest))) : W p l e R s m args below meth c H locs cells slots Q (F0 m pc ls st0) := by
  intro T hT X
  rcases hr T hT X with ⟨v, st₀, t, T', L, h0, X', hL, e1, e2, ⟨⟨r, u, hv, hp, hb⟩, hF⟩, st⟩ | ⟨q, st₀, t, T', L, E, ce, h0, X', hL, e1, e2, ⟨u, hp, hb, hF⟩, hce, hcv, hcl, st⟩
  · cases hv
    obtain ⟨k1, k2, k3⟩ := vx_keep h0 e1 hS hA hf hL hF
    obtain ⟨t2, a1, b1⟩ := kk r u t T'.heap (locs ++ L) e1.symm (by rw [← e2]; exact X'.warmed.alike) hp hb k1 k2 k3 T' rfl X'
    exact ⟨t2, st t2 a1, b1⟩
  · obtain ⟨k1, k2, k3⟩ := vx_keep h0 e1 hS hAX hf hL hF
    obtain ⟨t2, a1, b1⟩ := kx E ce q u t T'.heap (locs ++ L) e1.symm (by rw [← e2]; exact X'.warmed.alike) hp hb k1 k2 k3 (by rw [e1]; exact hce) hcv hcl T' rfl X'
    exact ⟨t2, st.trans a1, b1⟩
theorem vx_callv {S SX : Type} {post : S → Prop} {px : SX → Prop} {B : S → State → Prop} {BX : String → SX → State → Prop} {AX : Nat → Prop} (hr : vx_Run p l e R s m args below meth c H locs cells slots mc ms (F0 m pc ls st0) rest (va_Qv post B A1 a) (vx_X px BX AX) free) (hS : va_S A0 H0 H locs) (hA : ∀ q, q < H.size → A1 q → A0 q) (hf : ∀ q, free q → A0 q) (hAX : ∀ q, q < H.size → AX q → A0 q)
    (kx : ∀ (E : String) (ce : Cell) (q9 : Addr) (u : SX) (t : State) (H1 : Heap) (locs1 : List Loc), t.heap = H1 → s.vm.Alike t.vm → px u → BX E u t → H.size ≤ H1.size → (∀ q : Nat, q < H.size → ¬ AX q → H1[q]? = H[q]?) → va_S A0 H0 H1 locs1 → H1[q9]? = some ce → ce.vm = .none → s.vm.findClass E = some ce.cls → vx_W p l e R s m args below meth c H1 locs1 (cells + mc) (slots + ms) Q (F0 m pc ls rest) q9)
    (kk : ∀ (u : S) (t : State) (H1 : Heap) (locs1 : List Loc), t.heap = H1 → s.vm.Alike t.vm → post u → B u t → H.size ≤ H1.size → (∀ q : Nat, q < H.size → ¬ A1 q → H1[q]? = H[q]?) → va_S A0 H0 H1 locs1 → W p l e R s m args below meth c H1 locs1 (cells + mc) (slots + ms) Q (F0 m (pc + 3) ls (rest))) : W p l e R s m args below meth c H locs cells slots Q (F0 m pc ls st0) := by
  intro T hT X
  rcases hr T hT X with ⟨v, st₀, t, T', L, h0, X', hL, e1, e2, ⟨⟨u, hv, hp, hb⟩, hF⟩, st⟩ | ⟨q, st₀, t, T', L, E, ce, h0, X', hL, e1, e2, ⟨u, hp, hb, hF⟩, hce, hcv, hcl, st⟩
  · cases hv
    obtain ⟨k1, k2, k3⟩ := vx_keep h0 e1 hS hA hf hL hF
    obtain ⟨t2, a1, b1⟩ := kk u t T'.heap (locs ++ L) e1.symm (by rw [← e2]; exact X'.warmed.alike) hp hb k1 k2 k3 T' rfl X'
    exact ⟨t2, st t2 a1, b1⟩
  · obtain ⟨k1, k2, k3⟩ := vx_keep h0 e1 hS hAX hf hL hF
    obtain ⟨t2, a1, b1⟩ := kx E ce q u t T'.heap (locs ++ L) e1.symm (by rw [← e2]; exact X'.warmed.alike) hp hb k1 k2 k3 (by rw [e1]; exact hce) hcv hcl T' rfl X'
    exact ⟨t2, st.trans a1, b1⟩
/-- caught by the row x of this method's table; the rows ahead don't take it -/
theorem vx_catch {own name : String} {E : String} {ce : Cell} {q : Addr} (hown : s.vm.findClass own = some m.cls) (pre : List ExceptionTableEntry) (x : ExceptionTableEntry) (suf : List ExceptionTableEntry) (hsplit : c.exceptionTable.toList = pre ++ x :: suf)
    (hpass : ∀ z ∈ pre, covers z pc = false ∨ (z.catchType ≠ 0 ∧ ∃ nm : String, (Cond.classLink own z.catchType nm).before args s = true ∧ va_Nc E nm s)) (hx : covers x pc = true) (h0 : x.catchType ≠ 0)
    (hlink : (Cond.classLink own x.catchType name).before args s = true) (hcast : (Cond.castable E name).before args s = true) (hcell : H[q]? = some ce) (hv : ce.vm = .none) (hcl : s.vm.findClass E = some ce.cls)
    (kk : W p l e R s m args below meth c H locs cells slots Q (F0 m x.handlerPc ls [.ref q])) : vx_W p l e R s m args below meth c H locs cells slots Q (F0 m pc ls rest) q := by
  intro T hT X
  have hpl : e.platform.magicAccessors = ({} : Platform).magicAccessors := by rw [X.admits.platform]
  obtain ⟨c3, c4, hc3, hc4, hasg⟩ := Cond.castable_spec hcast
  cases Option.some.inj (hc3.symm.trans hcl)
  obtain ⟨c5, hc5, hcl5⟩ := Cond.classLink_spec hown hlink e.platform hpl
  cases Option.some.inj (hc4.symm.trans hc5)
  obtain ⟨vm', X', st⟩ := X.thenCaughtThrough q (g := F0 m pc ls rest) rfl (Steps.refl _) (by rw [hT]; exact hcell) (by rw [hv]; rfl) (by obtain ⟨k9, h9, -⟩ := Vm.findClass_spec hcl; exact ⟨k9, h9⟩) pre x suf hsplit
    (fun z hz => by
      rcases hpass z hz with h | ⟨hz0, nm, hl1, hn1⟩
      · exact Or.inl h
      · obtain ⟨c6, hc6, hcl6⟩ := Cond.classLink_spec hown hl1 e.platform hpl
        obtain ⟨a8, b8, h1, h2, h3⟩ := hn1
        cases Option.some.inj (h1.symm.trans hcl)
        cases Option.some.inj (h2.symm.trans hc6)
        exact Or.inr ⟨hz0, _, hcl6, h3⟩) hx (Or.inr ⟨h0, c4, hcl5, hasg⟩)
  obtain ⟨t, a1, b1⟩ := kk (T.setVm vm') hT X'
  exact ⟨t, st.trans a1, b1⟩
end Rows
section Ends
variable {p : Program} {l : Launch} {e : Env} {R : Room} {s : State} {m : MethodId} {args : Array Value} {below : List Frame} {meth : Method} {c : Code} {H : Heap} {locs : List Loc} {cells slots : Nat} {Q : State → Prop}
variable {mc ms : Nat} {free : Addr → Prop} {A0 A1 : Nat → Prop} {H0 : Heap} {a : Array Value} {ls : Array Slot} {st0 rest : List Value}
variable {Qc : Array Value → State → Outcome → State → Prop} {XC : String → State → State → Prop}
/-- what a body that may throw owes at its end -/
def vx_MQ (below : List Frame) (Qc : Array Value → State → Outcome → State → Prop) (XC : String → State → State → Prop) (a : Array Value) (s : State) (mc ms : Nat) (free : Addr → Prop) : State → Prop := fun t =>
  ∃ o, t.status = .running ∧ Ended t below o ∧ vx_Q Qc XC mc ms free a s o t
theorem vx_ret {g : JFrame} {mc ms : Nat} (k : W p l e R s m args below meth c H locs cells slots (MQ below Qc args s mc ms free) g) : W p l e R s m args below meth c H locs cells slots (vx_MQ below Qc XC args s mc ms free) g := by
  intro T hT X
  obtain ⟨t, a1, o, b1, b2, b3, b4⟩ := k T hT X
  exact ⟨t, a1, o, b1, b2, Or.inl ⟨b3, b4⟩⟩
/-- not caught here: it goes on to the caller -/
theorem vx_widen {g : JFrame} {q : Addr} {k n : Nat} (h1 : cells ≤ k) (h2 : slots ≤ n) (kk : vx_W p l e R s m args below meth c H locs k n Q g q) : vx_W p l e R s m args below meth c H locs cells slots Q g q := fun T hT X => kk T hT (stand_widen X h1 h2)
theorem vx_out {pc : Nat} {E : String} {ce : Cell} {q : Addr} {mc ms : Nat} (hout : ∀ x ∈ c.exceptionTable.toList, covers x pc = false) (hlocks : meth.locks = false) (hcell : H[q]? = some ce) (hv : ce.vm = .none) (hcl : s.vm.findClass E = some ce.cls)
    (hx : ∀ t : State, t.heap = H → s.vm.Alike t.vm → XC E s t) (hf : ∀ z ∈ locs, free z.base) (hc : cells ≤ mc) (hs : slots ≤ ms) :
    vx_W p l e R s m args below meth c H locs cells slots (vx_MQ below Qc XC args s mc ms free) (F0 m pc ls rest) q := by
  intro T hT X
  obtain ⟨st1, hrun, hend, hW, hsm⟩ := X.leaveThrown q (g := F0 m pc ls rest) rfl rfl rfl hout hlocks
  have hcell9 : (T.setFrames (.throwing q :: below)).heap[q]? = some ce := by
    show T.heap[q]? = some ce
    rw [hT]; exact hcell
  exact ⟨_, st1, .threw q, hrun, hend, Or.inr ⟨q, rfl, E, ce, locs, hx _ hT hW.alike, hcell9, hv, hcl, hW, hsm.mono hc hs, hf⟩⟩
theorem vx_frame {U : State} {k n : Nat} (h : s.sameButNew ({ U with vm := s.vm } : State) locs k n) : s.heap.size ≤ U.heap.size ∧ ∀ q : Nat, q < s.heap.size → (∀ z ∈ locs, z.base ≠ q) → U.heap[q]? = s.heap[q]? := by
  obtain ⟨-, h2, -, -, -, h6⟩ := h
  refine ⟨h2, fun q hq hz => ?_⟩
  obtain ⟨c9, e1, e2, e3, e4⟩ := h6 q _ (Array.getElem?_eq_getElem hq)
  have hs : c9.slots = (s.heap[q]).slots := Array.ext_getElem? fun i => e4 i fun hm => hz _ hm rfl
  have h9 : c9 = s.heap[q] := by
    rw [hs] at e2
    exact e2
  have e5 : U.heap[q]? = some c9 := e1
  rw [e5, h9, Array.getElem?_eq_getElem hq]
/-- the words of a throw but the four that speak of the heap -/
def vx_no (w : Cond) : Bool := decide (w ≠ .isRef (.static Bundle.tN "UNASSIGNED_STACK" Bundle.steD)) && decide (w ≠ .isRef (.static Bundle.tN "SUPPRESSED_SENTINEL" Bundle.listD)) && decide (w ≠ .laysStatic Bundle.tN "UNASSIGNED_STACK" Bundle.steD) && decide (w ≠ .laysStatic Bundle.tN "SUPPRESSED_SENTINEL" Bundle.listD)
def vx_at0 (own : String) (ic : Nat) (X : String) (names : List String) : List Cond := (Bundle.ownAtoms0 own ic X names).filter vx_no
def vx_atS (own : String) (ic : Nat) (X : String) (names : List String) : List Cond := (Bundle.ownAtoms own ic X names).filter vx_no
/-- a word that the tables alone decide, or a good one -/
def vx_ot (w : Cond) : Bool := w.onTables || goodWord w
theorem vx_ot_at {args a' : Array Value} {s U : State} {w : Cond} (hW : s.WarmedH U.vm) (hvm : s.vm = U.vm) (hg : vx_ot w = true) (h : w.before args s = true) : w.before a' U = true := by
  simp only [vx_ot, Bool.or_eq_true] at hg
  rcases hg with hg | hg
  · exact va_tabs hg hvm h
  · exact word_at hW (good_of_word hg) h
/-- a list's words: the good ones out of the method's own list, the others by premises of their own -/
theorem vx_hat {args : Array Value} {s : State} {L B : List Cond} (h1 : ∀ w ∈ L.filter goodWord, w.before args s = true) (h2 : ∀ w ∈ L.filter (fun w => !goodWord w), w ∈ B) (h3 : ∀ w ∈ B, w.before args s = true) : ∀ w ∈ L, w.before args s = true := by
  intro w hw
  by_cases g : goodWord w = true
  · exact h1 w (List.mem_filter.mpr ⟨hw, g⟩)
  · refine h3 w (h2 w (List.mem_filter.mpr ⟨hw, ?_⟩))
    show (!goodWord w) = true
    cases hgw : goodWord w
    · rfl
    · exact absurd hgw g
theorem vx_c {args : Array Value} {s : State} {w : Cond} {B : List Cond} (h : w.before args s = true) (t : ∀ w ∈ B, w.before args s = true) : ∀ w' ∈ w :: B, w'.before args s = true := fun w' h' => (List.mem_cons.mp h').elim (fun e => by rw [e]; exact h) (t w')
theorem vx_n {args : Array Value} {s : State} : ∀ w ∈ ([] : List Cond), w.before args s = true := fun _ h => nomatch h
theorem vx_own {args : Array Value} {s : State} {L : List Cond} (h1 : ∀ w ∈ L.filter vx_no, w.before args s = true)
    (hU : (Cond.isRef (.static Bundle.tN "UNASSIGNED_STACK" Bundle.steD)).before args s = true) (hN : (Cond.isRef (.static Bundle.tN "SUPPRESSED_SENTINEL" Bundle.listD)).before args s = true)
    (lU : (Cond.laysStatic Bundle.tN "UNASSIGNED_STACK" Bundle.steD).before args s = true) (lN : (Cond.laysStatic Bundle.tN "SUPPRESSED_SENTINEL" Bundle.listD).before args s = true) : ∀ w ∈ L, w.before args s = true := by
  intro w hw
  by_cases e1 : w = .isRef (.static Bundle.tN "UNASSIGNED_STACK" Bundle.steD)
  · rw [e1]; exact hU
  · by_cases e2 : w = .isRef (.static Bundle.tN "SUPPRESSED_SENTINEL" Bundle.listD)
    · rw [e2]; exact hN
    · by_cases e3 : w = .laysStatic Bundle.tN "UNASSIGNED_STACK" Bundle.steD
      · rw [e3]; exact lU
      · by_cases e4 : w = .laysStatic Bundle.tN "SUPPRESSED_SENTINEL" Bundle.listD
        · rw [e4]; exact lN
        · exact h1 w (List.mem_filter.mpr ⟨hw, by unfold vx_no; rw [decide_eq_true e1, decide_eq_true e2, decide_eq_true e3, decide_eq_true e4]; rfl⟩)
/-- where a static field lies, its class's statics cell in H -/
def vx_L (C n d : String) (A : Nat → Prop) (U : State) (H : Heap) : Prop := ∃ (c : ClassId) (k : Class) (i : Nat) (f : Field) (a : Nat) (cell : Cell), U.vm.findClass C = some c ∧ U.fieldFound? C n d = some (c, k, i, f) ∧ f.isStatic = true ∧ k.statics = some a ∧ H[a]? = some cell ∧ cell.vm.isStatics = true ∧ cell.cls = c ∧ f.slot < cell.slots.size ∧ k.staticTypes[f.slot]? = some f.type ∧ ¬ A a
theorem vx_L.moved {C n d : String} {A : Nat → Prop} {u U : State} {H : Heap} (hvm : u.vm.Alike U.vm) (h : vx_L C n d A u H) : vx_L C n d A U H := by
  obtain ⟨c, k, i, f, a, cell, h1, h2, h3, h4, h5, h6, h7, h8, h9, h10⟩ := h
  obtain ⟨k', hi', he⟩ := State.fieldFound?_setVm hvm h2
  exact ⟨c, k', i, f, a, cell, by rw [hvm.findClass]; exact h1, hi', h3, by rw [he]; exact h4, h5, h6, h7, h8, by rw [he]; exact h9, h10⟩
theorem vx_L.kept {C n d : String} {A : Nat → Prop} {U : State} {H H1 : Heap} (h : vx_L C n d A U H) (hq : ∀ a : Nat, a < H.size → ¬ A a → H1[a]? = H[a]?) : vx_L C n d A U H1 := by
  obtain ⟨c, k, i, f, a, cell, h1, h2, h3, h4, h5, h6, h7, h8, h9, h10⟩ := h
  exact ⟨c, k, i, f, a, cell, h1, h2, h3, h4, by rw [hq a (Array.getElem?_eq_some_iff.mp h5).1 h10]; exact h5, h6, h7, h8, h9, h10⟩
theorem vx_L.narrow {C n d : String} {A B : Nat → Prop} {U : State} {H : Heap} (h : vx_L C n d A U H) (hAB : ∀ q, B q → A q) : vx_L C n d B U H := by
  obtain ⟨c, k, i, f, a, cell, h1, h2, h3, h4, h5, h6, h7, h8, h9, h10⟩ := h
  exact ⟨c, k, i, f, a, cell, h1, h2, h3, h4, h5, h6, h7, h8, h9, fun z => h10 (hAB _ z)⟩
theorem vx_L.word {C n d : String} {A : Nat → Prop} {s : State} {args : Array Value} (h : vx_L C n d A s s.heap) : (Cond.laysStatic C n d).before args s = true := by
  obtain ⟨c, k, i, f, a, cell, h1, h2, h3, h4, h5, h6, h7, h8, h9, -⟩ := h
  show (Cond.laysStatic C n d).holds args s none s [] = true
  exact Cond.laysStatic_of h1 h2 h3 h4 h5 h6 h7 h8 h9
/-- .. and what it holds: null or some reference -/
def vx_Zq (C n d : String) (A : Nat → Prop) (U : State) (H : Heap) : Prop := va_Zq C n d A U H ∧ vx_L C n d A U H
theorem vx_Zq.moved {C n d : String} {A : Nat → Prop} {u U : State} {H : Heap} (hvm : u.vm.Alike U.vm) (h : vx_Zq C n d A u H) : vx_Zq C n d A U H := ⟨va_Zq.moved hvm h.1, vx_L.moved hvm h.2⟩
theorem vx_Zq.kept {C n d : String} {A : Nat → Prop} {U : State} {H H1 : Heap} (h : vx_Zq C n d A U H) (hq : ∀ a : Nat, a < H.size → ¬ A a → H1[a]? = H[a]?) : vx_Zq C n d A U H1 := ⟨va_Zq.kept h.1 hq, vx_L.kept h.2 hq⟩
theorem vx_Zq.narrow {C n d : String} {A B : Nat → Prop} {U : State} {H : Heap} (h : vx_Zq C n d A U H) (hAB : ∀ q, B q → A q) : vx_Zq C n d B U H := ⟨va_Zq.narrow h.1 hAB, vx_L.narrow h.2 hAB⟩
theorem vx_Zqof {args : Array Value} {s : State} {C n d : String} {A : Nat → Prop} (hl : (Cond.laysStatic C n d).before args s = true) (hini : (Cond.initialized C).before args s = true) (h : (Cond.isRef (.static C n d)).before args s = true) (hA : ∀ a : Nat, a < s.heap.size → ¬ A a) : vx_Zq C n d A s s.heap := by
  refine ⟨va_Zqof hl hini h hA, ?_⟩
  obtain ⟨c, k, i, f, a, cell, h1, h2, h3, h4, h5, h6, h7, h8, h9⟩ := Cond.laysStatic_spec hl
  exact ⟨c, k, i, f, a, cell, h1, h2, h3, h4, h5, h6, h7, h8, h9, hA a (Array.getElem?_eq_some_iff.mp h5).1⟩
theorem vx_isRef {C n d : String} {v : Value} {A : Nat → Prop} {s : State} {args : Array Value} (h : va_Z C n d v A s s.heap) (hv : v.isRef = true) : (Cond.isRef (.static C n d)).before args s = true := by
  obtain ⟨cf, kf, fi, f, a, cell, h1, h2, h3, h4, h5, h6, h7, -⟩ := h
  have he : (Term.static C n d).eval args s none [] s = some v := by
    simp [Term.eval, State.fieldNamed?, h1, h2, h4, h5, h6, h7]
  simp only [Cond.before, Cond.holds, Cond.value, he]
  cases v <;> simp_all [Value.isRef]
theorem vx_isRefq {C n d : String} {A : Nat → Prop} {s : State} {args : Array Value} (h : va_Zq C n d A s s.heap) : (Cond.isRef (.static C n d)).before args s = true := by
  rcases h with h | ⟨t, h⟩
  · exact vx_isRef h rfl
  · exact vx_isRef h rfl
/-- the same frame, seen from here: as if the method were called anew in this heap -/
theorem vx_rebase {T : State} (X : Stand p l e R s m args below meth c T locs cells slots) {R' : Room} (hf : R'.frames ≤ R.frames) (hl : R'.locals ≤ R.locals) (hc : cells + R'.cells ≤ R.cells) (hs : slots + R'.slots ≤ R.slots) :
    Stand p l e R' ((T.setVm s.vm).setFrames (.invoking m args :: below)) m args below meth c T [] 0 0 := by
  have htop : (T.setVm s.vm).topJava?.isSome := X.here.top
  have hF : ((T.setVm s.vm).setFrames (.invoking m args :: below)).frames = .invoking m args :: below := State.frames_setFrames _ (State.cur_lt_of_top htop)
  obtain ⟨g₀, hg0⟩ := Option.isSome_iff_exists.mp htop
  obtain ⟨r, hr⟩ := State.topJava?_eq_some.mp hg0
  have hl9 : e.platform.stackLimits (T.setVm s.vm).me = e.platform.stackLimits s.me := X.limits
  have hb9 : (T.setVm s.vm).me.stackBytes = s.me.stackBytes := X.bytes
  refine ⟨X.admits, X.cas, X.clock, hF, ?_, X.hears, X.method, X.code, X.here, X.tail, X.warmed, ?_, ?_, ?_⟩
  · have h := X.room
    have hU : ((T.setVm s.vm).setFrames (.invoking m args :: below)).localsInUse = s.localsInUse := by
      rw [State.localsInUse_invoking hF (meth := meth) (c := c) X.method X.code, State.localsInUse_invoking X.frames X.method X.code]
    simp only [State.hasRoom, Bool.and_eq_true, decide_eq_true_eq] at h ⊢
    obtain ⟨⟨⟨⟨h1, h2, h3, h4, h5, h6⟩, h7⟩, h8⟩, h9⟩ := h
    rw [X.frames, List.length_cons] at h2 h3
    have q1 := X.heapSize
    have q2 := X.used
    simp only [hF, hU, List.length_cons, State.stackLimits_setFrames, State.stackBytes_setFrames, hl9, hb9]
    refine ⟨⟨⟨⟨by omega, by omega, by omega, by omega, by omega, h6⟩, ?_⟩, ?_⟩, X.book⟩
    · show T.heap.size + R'.cells ≤ e.platform.maxCells
      omega
    · show T.slotsUsed + R'.slots ≤ e.platform.maxSlots
      omega
  · rw [State.stackLimits_setFrames]; rfl
  · rw [State.stackBytes_setFrames]; rfl
  · refine ⟨?_, Nat.le_refl _, Nat.le_refl _, ?_, ?_, fun a c9 h9 => ⟨c9, h9, rfl, rfl, fun _ _ => rfl⟩⟩
    · obtain ⟨t, ht, -⟩ := State.frames_cons hr
      show T.setVm s.vm = { ((T.setVm s.vm).setFrames (.invoking m args :: below)).setFrames (T.setVm s.vm).frames with heap := T.heap, slotsUsed := T.slotsUsed }
      rw [State.setFrames_setFrames, State.setFrames_self ht]
      rfl
    · show T.slotsUsed = T.slotsUsed + ((T.heap.toList.drop T.heap.size).map (·.slots.size)).sum
      rw [List.drop_eq_nil_of_le (Nat.le_of_eq Array.length_toList)]
      rfl
    · show ((T.heap.toList.drop T.heap.size).map (·.slots.size)).sum ≤ 0
      rw [List.drop_eq_nil_of_le (Nat.le_of_eq Array.length_toList)]
      exact Nat.le_refl _
/-- 'throw new E()': new; dup; invokespecial; athrow -/
theorem vx_throw0 {cc : ByteArray} {pc : Nat} (hexec : p.tables.exec = Jvm.exec) (hb : c.code = cc) (hl : l.stackTraces = false) {own cls : String} {names : List String} {ik ic mc ms : Nat} {A : Nat → Prop}
    (hown : s.vm.findClass own = some m.cls) (hcls : Bundle.fit cls = true) (hnames : ∀ n ∈ names, Bundle.fit n = true)
    (hk : (Cond.classLink own ik cls).before args s = true) (hini : (Cond.initialized cls).before args s = true) (hat : ∀ w ∈ vx_at0 own ic cls names, w.before args s = true)
    (hgood : ∀ w ∈ Cond.classLink own ik cls :: Cond.initialized cls :: vx_at0 own ic cls names, vx_ot w = true)
    (hU : vx_Zq Bundle.tN "UNASSIGNED_STACK" Bundle.steD A s s.heap) (hN : vx_Zq Bundle.tN "SUPPRESSED_SENTINEL" Bundle.listD A s s.heap) (hS : va_S A s.heap H locs) (hsize : ls.size = c.maxLocals)
    (d0 : decode cc pc = .ok (.new ik, 3)) (d3 : decode cc (pc + 3) = .ok (.dup, 1)) (d4 : decode cc (pc + 4) = .ok (.invokespecial ic, 3)) (d7 : decode cc (pc + 7) = .ok (.athrow, 1))
    (hout : ∀ x ∈ c.exceptionTable.toList, covers x (pc + 7) = false)
    (hRframes : names.length + 3 < R.frames) (hRlocals : (rest.map fun v => v.category).sum + (13 * (names.length + 1) + 42) ≤ R.locals) (hRcells : cells + 1 ≤ R.cells) (hRslots : slots + 6 ≤ R.slots) (hlocks : meth.locks = false)
    (hx : ∀ t : State, s.vm.Alike t.vm → H.size ≤ t.heap.size → (∀ q : Nat, q < H.size → t.heap[q]? = H[q]?) → XC cls s t)
    (hf : ∀ z ∈ locs, free z.base) (hc : cells + 1 ≤ mc) (hs : slots + 6 ≤ ms) :
    W p l e R s m args below meth c H locs cells slots (vx_MQ below Qc XC args s mc ms free) (F0 m pc ls rest) := by
  intro T hT X
  have htr : e.platform.stackTraces = false := (show e.platform.stackTraces = l.stackTraces by rw [X.admits.platform]).trans hl
  have Y := vx_rebase X (R' := { frames := R.frames, locals := R.locals, cells := 1, slots := 6 }) (Nat.le_refl _) (Nat.le_refl _) hRcells hRslots
  obtain ⟨s', hA⟩ : ∃ z, z = (T.setVm s.vm).setFrames (.invoking m args :: below) := ⟨_, rfl⟩
  rw [← hA] at Y
  have hvm : s'.vm = s.vm := by rw [hA]; rfl
  have hhp : s'.heap = H := by rw [hA]; exact hT
  have hW0 : s.WarmedH s'.vm := by rw [hvm]; exact State.WarmedH.refl s
  have hat' : ∀ w ∈ vx_at0 own ic cls names, w.before args s' = true := fun w hw => vx_ot_at hW0 hvm.symm (hgood w (List.mem_cons_of_mem _ (List.mem_cons_of_mem _ hw))) (hat w hw)
  have hk' : (Cond.classLink own ik cls).before args s' = true := vx_ot_at hW0 hvm.symm (hgood _ List.mem_cons_self) hk
  have hini' : (Cond.initialized cls).before args s' = true := vx_ot_at hW0 hvm.symm (hgood _ (List.mem_cons_of_mem _ List.mem_cons_self)) hini
  have hU' : vx_Zq Bundle.tN "UNASSIGNED_STACK" Bundle.steD A s' s'.heap := by rw [hhp]; exact vx_Zq.moved hW0.alike (hU.kept hS.2.1)
  have hN' : vx_Zq Bundle.tN "SUPPRESSED_SENTINEL" Bundle.listD A s' s'.heap := by rw [hhp]; exact vx_Zq.moved hW0.alike (hN.kept hS.2.1)
  have h : ∀ w ∈ Bundle.ownAtoms0 own ic cls names, w.before args s' = true := vx_own hat' (vx_isRefq hU'.1) (vx_isRefq hN'.1) hU'.2.word hN'.2.word
  have hown' : s'.vm.findClass own = some m.cls := by rw [hvm]; exact hown
  have hins : (Cond.instantiable cls 6).before args s' = true := h _ (by simp [Bundle.ownAtoms0])
  obtain ⟨vm₁, cX, kX, hfX, hkX, -, -, X₁, st1⟩ := Y.newCold hexec (own := own) (C := cls) (index := ik) (n := 6) hown' hk' hins hini'
    (g := F0 m pc ls rest) rfl (by rw [hb]; exact d0) (Nat.le_refl _) (Nat.le_refl _)
  generalize hT1 : (T.setVm vm₁).pushCell { cls := cX, slots := kX.instanceTypes.map defaultValue, vm := .none } = T1 at X₁ st1
  have hcat : (Value.ref T.heap.size).category = 1 := rfl
  have hcellA : T1.heap[T.heap.size]? = some (freshCell cX kX) := by rw [← hT1]; exact State.heap_pushCell_size _ _
  have d3' : decode c.code (pc + 3) = .ok (.dup, 1) := by rw [hb]; exact d3
  obtain ⟨U, hsteps, hrun, hend, hW, hsame, ce, hce, hO⟩ := X₁.ctorThrow0 hexec htr (own := own) (cls := cls) (names := names) (ic := ic) hown' hcls hnames h (fun x hx => nomatch hx) hfX hkX hcellA (by rw [hhp, hT]; exact Nat.le_refl _)
    (g := { method := m, pc := pc + 4, locals := ls, stack := .ref T.heap.size :: .ref T.heap.size :: rest, locked := none }) rfl hsize rfl rfl (rest := rest) rfl
    (by rw [hb]; exact d4) (by rw [hb]; exact d7) hout hRframes (by simp only [List.map_cons, List.sum_cons, hcat]; omega) hlocks
  obtain ⟨f1, f2⟩ := vx_frame hsame
  rw [hhp] at f1 f2
  have hWs : s.WarmedH U.vm := State.WarmedH.trans hW0 hW
  have hcl : s.vm.findClass cls = some ce.cls := by
    have h9 := hO.cls
    rw [hvm] at h9
    exact h9
  have hall : s.sameButNew ({ U with vm := s.vm } : State) locs mc ms := by
    subst hA
    obtain ⟨e1, e2⟩ := hsame
    rw [State.setFrames_setFrames] at e1
    have h2 : (T.setVm s.vm).sameButNew ({ U with vm := s.vm } : State) [] (0 + 1) (0 + 6) := ⟨e1, e2⟩
    have h3 := X.same.trans h2
    rw [List.append_nil] at h3
    exact h3.mono hc hs
  refine ⟨U, ?_, .threw T.heap.size, hrun, hend, Or.inr ⟨T.heap.size, rfl, cls, ce, locs, hx U hWs.alike f1 (fun q hq => f2 q hq (fun z hz => nomatch hz)), hce, hO.vm, hcl, hWs, hall, hf⟩⟩
  refine st1 _ ?_
  show Steps p.tables e below (T1.setTop { method := m, pc := pc + 3, locals := ls, stack := .ref T.heap.size :: rest, locked := none }) _
  jvm_step X₁.here [X₁.here.top, hexec, d3', Value.category]
  exact hsteps
/-- 'throw new E("text")': new; dup; ldc; invokespecial; athrow -/
theorem vx_throwS {cc : ByteArray} {pc : Nat} (hexec : p.tables.exec = Jvm.exec) (hb : c.code = cc) (hl : l.stackTraces = false) {own cls text : String} {names : List String} {ik is ic mc ms sa : Nat} {A : Nat → Prop}
    (hown : s.vm.findClass own = some m.cls) (hcls : Bundle.fit cls = true) (hnames : ∀ n ∈ names, Bundle.fit n = true)
    (hk : (Cond.classLink own ik cls).before args s = true) (hini : (Cond.initialized cls).before args s = true) (hstr : vk_R own is text sa s) (hat : ∀ w ∈ vx_atS own ic cls names, w.before args s = true)
    (hgood : ∀ w ∈ Cond.classLink own ik cls :: Cond.initialized cls :: vx_atS own ic cls names, vx_ot w = true)
    (hU : vx_Zq Bundle.tN "UNASSIGNED_STACK" Bundle.steD A s s.heap) (hN : vx_Zq Bundle.tN "SUPPRESSED_SENTINEL" Bundle.listD A s s.heap) (hS : va_S A s.heap H locs) (hsize : ls.size = c.maxLocals)
    (d0 : decode cc pc = .ok (.new ik, 3)) (d3 : decode cc (pc + 3) = .ok (.dup, 1)) (d4 : decode cc (pc + 4) = .ok (.ldc is, 2)) (d6 : decode cc (pc + 6) = .ok (.invokespecial ic, 3)) (d9 : decode cc (pc + 9) = .ok (.athrow, 1))
    (hout : ∀ x ∈ c.exceptionTable.toList, covers x (pc + 9) = false)
    (hRframes : names.length + 3 < R.frames) (hRlocals : (rest.map fun v => v.category).sum + (13 * (names.length + 1) + 43) ≤ R.locals) (hRcells : cells + 1 ≤ R.cells) (hRslots : slots + 6 ≤ R.slots) (hlocks : meth.locks = false)
    (hx : ∀ t : State, s.vm.Alike t.vm → H.size ≤ t.heap.size → (∀ q : Nat, q < H.size → t.heap[q]? = H[q]?) → XC cls s t)
    (hf : ∀ z ∈ locs, free z.base) (hc : cells + 1 ≤ mc) (hs : slots + 6 ≤ ms) :
    W p l e R s m args below meth c H locs cells slots (vx_MQ below Qc XC args s mc ms free) (F0 m pc ls rest) := by
  intro T hT X
  have htr : e.platform.stackTraces = false := (show e.platform.stackTraces = l.stackTraces by rw [X.admits.platform]).trans hl
  have Y := vx_rebase X (R' := { frames := R.frames, locals := R.locals, cells := 1, slots := 6 }) (Nat.le_refl _) (Nat.le_refl _) hRcells hRslots
  obtain ⟨s', hA⟩ : ∃ z, z = (T.setVm s.vm).setFrames (.invoking m args :: below) := ⟨_, rfl⟩
  rw [← hA] at Y
  have hvm : s'.vm = s.vm := by rw [hA]; rfl
  have hhp : s'.heap = H := by rw [hA]; exact hT
  have hW0 : s.WarmedH s'.vm := by rw [hvm]; exact State.WarmedH.refl s
  have hat' : ∀ w ∈ vx_atS own ic cls names, w.before args s' = true := fun w hw => vx_ot_at hW0 hvm.symm (hgood w (List.mem_cons_of_mem _ (List.mem_cons_of_mem _ hw))) (hat w hw)
  have hk' : (Cond.classLink own ik cls).before args s' = true := vx_ot_at hW0 hvm.symm (hgood _ List.mem_cons_self) hk
  have hini' : (Cond.initialized cls).before args s' = true := vx_ot_at hW0 hvm.symm (hgood _ (List.mem_cons_of_mem _ List.mem_cons_self)) hini
  have hU' : vx_Zq Bundle.tN "UNASSIGNED_STACK" Bundle.steD A s' s'.heap := by rw [hhp]; exact vx_Zq.moved hW0.alike (hU.kept hS.2.1)
  have hN' : vx_Zq Bundle.tN "SUPPRESSED_SENTINEL" Bundle.listD A s' s'.heap := by rw [hhp]; exact vx_Zq.moved hW0.alike (hN.kept hS.2.1)
  have h : ∀ w ∈ Bundle.ownAtoms own ic cls names, w.before args s' = true := vx_own hat' (vx_isRefq hU'.1) (vx_isRefq hN'.1) hU'.2.word hN'.2.word
  have hown' : s'.vm.findClass own = some m.cls := by rw [hvm]; exact hown
  have hins : (Cond.instantiable cls 6).before args s' = true := h _ (by simp [Bundle.ownAtoms])
  obtain ⟨vm₁, cX, kX, hfX, hkX, -, -, X₁, st1⟩ := Y.newCold hexec (own := own) (C := cls) (index := ik) (n := 6) hown' hk' hins hini'
    (g := F0 m pc ls rest) rfl (by rw [hb]; exact d0) (Nat.le_refl _) (Nat.le_refl _)
  generalize hT1 : (T.setVm vm₁).pushCell { cls := cX, slots := kX.instanceTypes.map defaultValue, vm := .none } = T1 at X₁ st1
  have hcat : (Value.ref T.heap.size).category = 1 := rfl
  have hcellA : T1.heap[T.heap.size]? = some (freshCell cX kX) := by rw [← hT1]; exact State.heap_pushCell_size _ _
  have d3' : decode c.code (pc + 3) = .ok (.dup, 1) := by rw [hb]; exact d3
  have d4' : decode c.code (pc + 4) = .ok (.ldc is, 2) := by rw [hb]; exact d4
  have hstr' : vk_R own is text sa s' := vk_R.warm hW0 hstr
  obtain ⟨U, hsteps, hrun, hend, hW, hsame, ce, hce, hO⟩ := X₁.ctorThrowS hexec htr (own := own) (cls := cls) (names := names) (ic := ic) hown' hcls hnames h (fun x hx => nomatch hx) hfX hkX hcellA (by rw [hhp, hT]; exact Nat.le_refl _) (msg := .ref sa) rfl
    (g := { method := m, pc := pc + 6, locals := ls, stack := .ref sa :: .ref T.heap.size :: .ref T.heap.size :: rest, locked := none }) rfl hsize rfl rfl (rest := rest) rfl
    (by rw [hb]; exact d6) (by rw [hb]; exact d9) hout hRframes (by simp only [List.map_cons, List.sum_cons, hcat]; omega) hlocks
  obtain ⟨f1, f2⟩ := vx_frame hsame
  rw [hhp] at f1 f2
  have hWs : s.WarmedH U.vm := State.WarmedH.trans hW0 hW
  have hcl : s.vm.findClass cls = some ce.cls := by
    have h9 := hO.cls
    rw [hvm] at h9
    exact h9
  have hall : s.sameButNew ({ U with vm := s.vm } : State) locs mc ms := by
    subst hA
    obtain ⟨e1, e2⟩ := hsame
    rw [State.setFrames_setFrames] at e1
    have h2 : (T.setVm s.vm).sameButNew ({ U with vm := s.vm } : State) [] (0 + 1) (0 + 6) := ⟨e1, e2⟩
    have h3 := X.same.trans h2
    rw [List.append_nil] at h3
    exact h3.mono hc hs
  refine ⟨U, ?_, .threw T.heap.size, hrun, hend, Or.inr ⟨T.heap.size, rfl, cls, ce, locs, hx U hWs.alike f1 (fun q hq => f2 q hq (fun z hz => nomatch hz)), hce, hO.vm, hcl, hWs, hall, hf⟩⟩
  refine st1 _ ?_
  show Steps p.tables e below (T1.setTop { method := m, pc := pc + 3, locals := ls, stack := .ref T.heap.size :: rest, locked := none }) _
  jvm_step X₁.here [X₁.here.top, hexec, d3', Value.category]
  exact X₁.ldcString hexec (own := own) (text := text) (index := is) (a := sa) hown' hstr'.1 hstr'.2
    (g := { method := m, pc := pc + 4, locals := ls, stack := .ref T.heap.size :: .ref T.heap.size :: rest, locked := none }) rfl d4' _ hsteps
/-- 'throw new E("text")', the text by a wide index -/
theorem vx_throwSW {cc : ByteArray} {pc : Nat} (hexec : p.tables.exec = Jvm.exec) (hb : c.code = cc) (hl : l.stackTraces = false) {own cls text : String} {names : List String} {ik is ic mc ms sa : Nat} {A : Nat → Prop}
    (hown : s.vm.findClass own = some m.cls) (hcls : Bundle.fit cls = true) (hnames : ∀ n ∈ names, Bundle.fit n = true)
    (hk : (Cond.classLink own ik cls).before args s = true) (hini : (Cond.initialized cls).before args s = true) (hstr : vk_R own is text sa s) (hat : ∀ w ∈ vx_atS own ic cls names, w.before args s = true)
    (hgood : ∀ w ∈ Cond.classLink own ik cls :: Cond.initialized cls :: vx_atS own ic cls names, vx_ot w = true)
    (hU : vx_Zq Bundle.tN "UNASSIGNED_STACK" Bundle.steD A s s.heap) (hN : vx_Zq Bundle.tN "SUPPRESSED_SENTINEL" Bundle.listD A s s.heap) (hS : va_S A s.heap H locs) (hsize : ls.size = c.maxLocals)
    (d0 : decode cc pc = .ok (.new ik, 3)) (d3 : decode cc (pc + 3) = .ok (.dup, 1)) (d4 : decode cc (pc + 4) = .ok (.ldc_w is, 3)) (d7 : decode cc (pc + 7) = .ok (.invokespecial ic, 3)) (d10 : decode cc (pc + 10) = .ok (.athrow, 1))
    (hout : ∀ x ∈ c.exceptionTable.toList, covers x (pc + 10) = false)
    (hRframes : names.length + 3 < R.frames) (hRlocals : (rest.map fun v => v.category).sum + (13 * (names.length + 1) + 43) ≤ R.locals) (hRcells : cells + 1 ≤ R.cells) (hRslots : slots + 6 ≤ R.slots) (hlocks : meth.locks = false)
    (hx : ∀ t : State, s.vm.Alike t.vm → H.size ≤ t.heap.size → (∀ q : Nat, q < H.size → t.heap[q]? = H[q]?) → XC cls s t)
    (hf : ∀ z ∈ locs, free z.base) (hc : cells + 1 ≤ mc) (hs : slots + 6 ≤ ms) :
    W p l e R s m args below meth c H locs cells slots (vx_MQ below Qc XC args s mc ms free) (F0 m pc ls rest) := by
  intro T hT X
  have htr : e.platform.stackTraces = false := (show e.platform.stackTraces = l.stackTraces by rw [X.admits.platform]).trans hl
  have Y := vx_rebase X (R' := { frames := R.frames, locals := R.locals, cells := 1, slots := 6 }) (Nat.le_refl _) (Nat.le_refl _) hRcells hRslots
  obtain ⟨s', hA⟩ : ∃ z, z = (T.setVm s.vm).setFrames (.invoking m args :: below) := ⟨_, rfl⟩
  rw [← hA] at Y
  have hvm : s'.vm = s.vm := by rw [hA]; rfl
  have hhp : s'.heap = H := by rw [hA]; exact hT
  have hW0 : s.WarmedH s'.vm := by rw [hvm]; exact State.WarmedH.refl s
  have hat' : ∀ w ∈ vx_atS own ic cls names, w.before args s' = true := fun w hw => vx_ot_at hW0 hvm.symm (hgood w (List.mem_cons_of_mem _ (List.mem_cons_of_mem _ hw))) (hat w hw)
  have hk' : (Cond.classLink own ik cls).before args s' = true := vx_ot_at hW0 hvm.symm (hgood _ List.mem_cons_self) hk
  have hini' : (Cond.initialized cls).before args s' = true := vx_ot_at hW0 hvm.symm (hgood _ (List.mem_cons_of_mem _ List.mem_cons_self)) hini
  have hU' : vx_Zq Bundle.tN "UNASSIGNED_STACK" Bundle.steD A s' s'.heap := by rw [hhp]; exact vx_Zq.moved hW0.alike (hU.kept hS.2.1)
  have hN' : vx_Zq Bundle.tN "SUPPRESSED_SENTINEL" Bundle.listD A s' s'.heap := by rw [hhp]; exact vx_Zq.moved hW0.alike (hN.kept hS.2.1)
  have h : ∀ w ∈ Bundle.ownAtoms own ic cls names, w.before args s' = true := vx_own hat' (vx_isRefq hU'.1) (vx_isRefq hN'.1) hU'.2.word hN'.2.word
  have hown' : s'.vm.findClass own = some m.cls := by rw [hvm]; exact hown
  have hins : (Cond.instantiable cls 6).before args s' = true := h _ (by simp [Bundle.ownAtoms])
  obtain ⟨vm₁, cX, kX, hfX, hkX, -, -, X₁, st1⟩ := Y.newCold hexec (own := own) (C := cls) (index := ik) (n := 6) hown' hk' hins hini'
    (g := F0 m pc ls rest) rfl (by rw [hb]; exact d0) (Nat.le_refl _) (Nat.le_refl _)
  generalize hT1 : (T.setVm vm₁).pushCell { cls := cX, slots := kX.instanceTypes.map defaultValue, vm := .none } = T1 at X₁ st1
  have hcat : (Value.ref T.heap.size).category = 1 := rfl
  have hcellA : T1.heap[T.heap.size]? = some (freshCell cX kX) := by rw [← hT1]; exact State.heap_pushCell_size _ _
  have d3' : decode c.code (pc + 3) = .ok (.dup, 1) := by rw [hb]; exact d3
  have d4' : decode c.code (pc + 4) = .ok (.ldc_w is, 3) := by rw [hb]; exact d4
  have hstr' : vk_R own is text sa s' := vk_R.warm hW0 hstr
  obtain ⟨U, hsteps, hrun, hend, hW, hsame, ce, hce, hO⟩ := X₁.ctorThrowS hexec htr (own := own) (cls := cls) (names := names) (ic := ic) hown' hcls hnames h (fun x hx => nomatch hx) hfX hkX hcellA (by rw [hhp, hT]; exact Nat.le_refl _) (msg := .ref sa) rfl
    (g := { method := m, pc := pc + 7, locals := ls, stack := .ref sa :: .ref T.heap.size :: .ref T.heap.size :: rest, locked := none }) rfl hsize rfl rfl (rest := rest) rfl
    (by rw [hb]; exact d7) (by rw [hb]; exact d10) hout hRframes (by simp only [List.map_cons, List.sum_cons, hcat]; omega) hlocks
  obtain ⟨f1, f2⟩ := vx_frame hsame
  rw [hhp] at f1 f2
  have hWs : s.WarmedH U.vm := State.WarmedH.trans hW0 hW
  have hcl : s.vm.findClass cls = some ce.cls := by
    have h9 := hO.cls
    rw [hvm] at h9
    exact h9
  have hall : s.sameButNew ({ U with vm := s.vm } : State) locs mc ms := by
    subst hA
    obtain ⟨e1, e2⟩ := hsame
    rw [State.setFrames_setFrames] at e1
    have h2 : (T.setVm s.vm).sameButNew ({ U with vm := s.vm } : State) [] (0 + 1) (0 + 6) := ⟨e1, e2⟩
    have h3 := X.same.trans h2
    rw [List.append_nil] at h3
    exact h3.mono hc hs
  refine ⟨U, ?_, .threw T.heap.size, hrun, hend, Or.inr ⟨T.heap.size, rfl, cls, ce, locs, hx U hWs.alike f1 (fun q hq => f2 q hq (fun z hz => nomatch hz)), hce, hO.vm, hcl, hWs, hall, hf⟩⟩
  refine st1 _ ?_
  show Steps p.tables e below (T1.setTop { method := m, pc := pc + 3, locals := ls, stack := .ref T.heap.size :: rest, locked := none }) _
  jvm_step X₁.here [X₁.here.top, hexec, d3', Value.category]
  exact X₁.ldcStringW hexec (own := own) (text := text) (index := is) (a := sa) hown' hstr'.1 hstr'.2
    (g := { method := m, pc := pc + 4, locals := ls, stack := .ref T.heap.size :: .ref T.heap.size :: rest, locked := none }) rfl d4' _ hsteps
end Ends
section Bodies
variable {l : Launch}
theorem vx_ofW {y : MethodName} {ws ws' : List Cond} {rm : Room} {Pc : Array Value → State → Prop} {Qc : Array Value → State → Outcome → State → Prop} {XC : String → State → State → Prop} {mc ms : Nat} {free : Addr → Prop} {cc : ByteArray} {maxL : Nat} {ret : Option FieldType}
    (hy : plainName y.cls = true) (hw : ws = Cond.code y cc maxL ret :: ws')
    (body : ∀ p e s m args below meth c s₁, BodyLoose p l y (headSpec ws rm) cc maxL ret e s m args below meth c s₁ → c.maxLocals = maxL → (∀ x ∈ c.exceptionTable.toList, False) → Pc args s →
      W p l e (headSpec ws rm).room s m args below meth c s.heap [] 0 0 (vx_MQ below Qc XC args s mc ms free) (entryFrame m args maxL)) : vx_Met l y ws rm Pc Qc XC mc ms free := by
  refine MetFree.of_bodyS (code := cc) (maxLocals := maxL) (ret := ret) hy ?_ ?_
  · intro args s m h hn
    obtain ⟨meth, c, h1, h2, h3, h4, h5, h6, -, -⟩ := Cond.code_spec hn (atoms_spec (ws := ws) h _ (by rw [hw]; exact List.mem_cons_self))
    exact ⟨meth, c, h1, h2, h3, h4, h5, h6⟩
  · intro p e s m args below meth c s₁ B hml hP _
    have hh0 : s₁.heap = s.heap := by rw [B.state]; rfl
    have ht : ∀ x ∈ c.exceptionTable.toList, False := by
      obtain ⟨meth9, c9, h1, h2, -, -, -, -, h7, -⟩ := Cond.code_spec B.named (atoms_spec (ws := ws) B.pre _ (by rw [hw]; exact List.mem_cons_self))
      cases Option.some.inj (h1.symm.trans B.method)
      cases Option.some.inj (h2.symm.trans (Stand.of_body B).code)
      intro x hx
      rw [Array.isEmpty_iff.mp h7] at hx
      cases hx
    obtain ⟨t, a1, o, b1, b2, b3⟩ := body p e s m args below meth c s₁ B hml ht hP s₁ hh0 (Stand.of_body B)
    exact ⟨t, o, a1, b1, b2, b3⟩
/-- the table of a body with handlers -/
theorem vx_table {p : Program} {x y : MethodName} {S : Spec} {cc bytes : ByteArray} {maxL maxL' : Nat} {ret ret' : Option FieldType} {e : Env} {s s₁ : State} {m : MethodId} {args : Array Value} {below : List Frame} {meth : Method} {c : Code} {hh : List (Nat × Nat × Nat × Nat)}
    (B : BodyLoose p l y S cc maxL ret e s m args below meth c s₁) (h : (Cond.codeWith y bytes maxL' ret' hh).before args s = true) : c.exceptionTable.toList = tableOf hh := by
  obtain ⟨m9, meth9, c9, hn9, h1, h2, -, -, h6, -⟩ := Cond.codeWith_spec h
  cases Option.some.inj (hn9.symm.trans B.named)
  cases Option.some.inj (h1.symm.trans B.method)
  cases Option.some.inj (h2.symm.trans (Stand.of_body B).code)
  rw [← h6, table_eq]
end Bodies
end VXA
/-! ===== END ===== -/
/-! ===== BEGIN a static call of a method with an exception table ===== -/
section VXS
variable {p : Program} {l : Launch} {e : Env} {R : Room} {s : State} {m : MethodId} {args : Array Value} {below : List Frame} {meth : Method} {c : Code} {T : State} {H : Heap} {locs : List Loc} {cells slots : Nat}
abbrev vx_CSW (R : Room) (s : State) (args : Array Value) (own : String) (index : Nat) (y : MethodName) (bytes : ByteArray) (maxL : Nat) (ret : Option FieldType) (hh : List (Nat × Nat × Nat × Nat)) (ws : List Cond) (rm : Room) (mc ms n : Nat) : Prop :=
  (rm.cells = mc ∧ rm.slots = ms ∧ rm.frames + 1 ≤ R.frames ∧ 8 + (maxL + 11) + rm.locals ≤ R.locals ∧ (∀ w ∈ ws, ∀ (a' : Array Value) (U : State), s.WarmedH U.vm → w.before a' U = true) ∧ Cond.codeWith y bytes maxL ret hh ∈ ws) ∧
  (Cond.codeWith y bytes maxL ret hh).before args s = true ∧ (Cond.initialized y.cls).before args s = true ∧ (y.cls ≠ "java/lang/invoke/MethodHandle" ∧ y.cls ≠ "java/lang/invoke/VarHandle") ∧
  (∀ sig, parseMethodDescriptor y.desc = some sig → n = sig.parameters.length) ∧ (Cond.methodLink own index y).before args s = true ∧ (Cond.static y).before args s = true
theorem vx_cwSW {own : String} {index maxL mc ms : Nat} {y : MethodName} {bytes : ByteArray} {ret : Option FieldType} {hh : List (Nat × Nat × Nat × Nat)} {Ts ws ws' : List Cond} {rm : Room} (n : Nat) (ht : ∀ w ∈ Ts, w.before args s = true) (hT : GoodIn Ts (va_wsS own index y ws)) (hw : ws = Cond.codeWith y bytes maxL ret hh :: ws') (hrc : rm.cells = mc) (hrs : rm.slots = ms)
    (hd : y.cls ≠ "java/lang/invoke/MethodHandle" ∧ y.cls ≠ "java/lang/invoke/VarHandle" ∧ (parseMethodDescriptor y.desc).map (fun d => d.parameters.length) = some n) (hR : rm.frames + 1 ≤ R.frames ∧ 8 + (maxL + 11) + rm.locals ≤ R.locals) :
    vx_CSW R s args own index y bytes maxL ret hh ws rm mc ms n := by
  have ok : ∀ w ∈ va_wsS own index y ws, w.before args s = true := fun w h => ht w (hT w h).1
  have hG : GoodIn Ts ws := fun w h => hT w (by unfold va_wsS; exact List.mem_append_right _ h)
  have hc : Cond.codeWith y bytes maxL ret hh ∈ ws := by rw [hw]; exact List.mem_cons_self
  refine ⟨⟨hrc, hrs, hR.1, hR.2, pay_in ht hG, hc⟩, ht _ (hG _ hc).1, ok _ (by simp [va_wsS]), ⟨hd.1, hd.2.1⟩, fun sig h => ?_, ok _ (by simp [va_wsS]), ok _ (by simp [va_wsS])⟩
  have h2 := hd.2.2
  rw [h] at h2
  exact (Option.some.inj h2).symm
theorem vx_callSW (X : Stand p l e R s m args below meth c T locs cells slots) (hexec : p.tables.exec = Jvm.exec) {own : String} {index : Nat} {y : MethodName} {bytes : ByteArray} {maxL : Nat} {ret : Option FieldType} {hh : List (Nat × Nat × Nat × Nat)}
    (hown : s.vm.findClass own = some m.cls) (hlink : (Cond.methodLink own index y).before args s = true) (hstat : (Cond.static y).before args s = true) (hinit : (Cond.initialized y.cls).before args s = true)
    (hcode : (Cond.codeWith y bytes maxL ret hh).before args s = true) (hy : y.cls ≠ "java/lang/invoke/MethodHandle" ∧ y.cls ≠ "java/lang/invoke/VarHandle")
    {W9 : Nat} {Pre : Pt → Array Value → Prop} {Post : Pt → Array Value → Option Value → Pt → Prop} (hK : Back l R p e below s args y 3 W9 Pre Post)
    {g : JFrame} (hg : g.method = m) (hsize : g.locals.size = c.maxLocals) {argsL rest : List Value} (hlen : ∀ sig, parseMethodDescriptor y.desc = some sig → argsL.length = sig.parameters.length)
    (hstack : g.stack = argsL.reverse ++ rest) (hW : 2 * g.monitorRoom + (rest.map fun v => v.category).sum ≤ W9) (hdg : decode c.code g.pc = .ok (.invokestatic index, 3))
    (hpre : ∀ vm₁, s.WarmedH vm₁ → Pre ⟨T.setVm vm₁, locs, cells, slots⟩ argsL.toArray) :
    ∃ (v : Option Value) (vm₁ : Vm) (B : Pt), s.WarmedH vm₁ ∧ Stand p l e R s m args below meth c B.U B.locs B.cells B.slots ∧ Post ⟨T.setVm vm₁, locs, cells, slots⟩ argsL.toArray v B ∧
      ∀ target, Steps p.tables e below (B.U.setTop { g with pc := g.pc + 3, stack := v.toList ++ rest }) target → Steps p.tables e below (T.setTop g) target := by
  obtain ⟨mk, methM, cM, hnamed, hmethM, -, -, -, -, -, -, hsigM⟩ := Cond.codeWith_spec hcode
  have hstatic : methM.isStatic = true := Cond.static_spec hnamed hmethM hstat
  obtain ⟨kP, hkP, -⟩ := className_of_methodNamed hnamed
  have hinitP : kP.init = .initialized := Cond.initialized_spec (findClass_of_methodNamed hnamed) hkP hinit
  obtain ⟨vm₁, X₁, hstep₁⟩ := X.invokestatic hexec hown hlink hnamed hmethM hstatic hkP hinitP hy (g := g) hg (argsL := argsL) (rest := rest) (hlen _ hsigM) hstack hdg
  obtain ⟨v, B, X', hpost, hsteps⟩ := hK m meth c ⟨T.setVm vm₁, locs, cells, slots⟩ { g with stack := rest } (.invokestatic index) mk argsL.toArray X₁ hg hsize hdg hW (X₁.named hnamed) (hpre vm₁ X₁.warmed)
  exact ⟨v, vm₁, B, X₁.warmed, X', hpost, fun target h => hstep₁ _ fun acts => by rw [doInvoke_state]; exact hsteps.trans h⟩
theorem vx_runSW {y : MethodName} {bytes cc : ByteArray} {maxL nL mc ms n index : Nat} {ret : Option FieldType} {hh : List (Nat × Nat × Nat × Nat)} {ws : List Cond} {rm : Room} {Pc : Array Value → State → Prop} {Qc : Array Value → State → Outcome → State → Prop} {free : Addr → Prop} {Ts : List Cond} {own : String} {As rest : List Value} {g : JFrame}
    (S : CallFix p m c cc nL s args Ts own) (hM : Met l y ws rm Pc Qc mc ms free) (cw : vx_CSW R s args own index y bytes maxL ret hh ws rm mc ms n) (hp : PreS s H Pc As)
    (hg : g.method = m) (hn : As.length = n) (hsize : g.locals.size = nL) (hstack : g.stack = As.reverse ++ rest) (hW : 2 * g.monitorRoom + (rest.map fun v => v.category).sum ≤ 8) (hdg : decode cc g.pc = .ok (.invokestatic index, 3)) (hf : cells + mc ≤ R.cells ∧ slots + ms ≤ R.slots) :
    va_Run p l e R s m args below meth c H locs cells slots mc ms g rest (Qc As.toArray) (free) := by
  obtain ⟨⟨hrc, hrs, hfr, hlo, hws, hcw⟩, hcode, hini, hy, hlen, hl, hstt⟩ := cw
  have hK : Back l R p e below s args y 3 8 (PreOf R mc ms Pc) (PostOf Qc mc ms free) := va_backW (hh := hh) (bytes := bytes) (maxL := maxL) (ret := ret) hM hp.1 hrc hrs hfr hlo hws hcw (fun a' U hW => word_at hW (Or.inl (by first | rfl | simp [Cond.onTables, Cond.keeps, Cond.steady])) hini)
  obtain ⟨hx, hb, hml, ho, -⟩ := S
  intro T hT X
  obtain ⟨v, vm₁, ⟨U', l2, c2, s2⟩, hW₁, X', ⟨g', mk, t, L, e1, e2, hq, h1, hL, h2, h3⟩, st⟩ := vx_callSW X hx (hh := hh) (bytes := bytes) (maxL := maxL) (ret := ret) ho hl hstt hini hcode hy hK hg (hsize.trans hml.symm) (argsL := As) (rest := rest) (fun sig h => hn.trans (hlen sig h)) hstack hW (by rw [hb]; exact hdg)
    (fun vm₁ hW₁ => ⟨hf.1, hf.2, hp.2 (T.setVm vm₁) hT hW₁⟩)
  dsimp only [Pt.U, Pt.locs, Pt.cells, Pt.slots] at X' e1 e2 h1 h2 h3 st
  subst h1; subst h2; subst h3
  exact ⟨v, (T.setVm vm₁).calling g' mk As.toArray, t, U', L, hT, X', hL, e1, e2, hq, st⟩
/-- not caught here, past rows that name other classes: it goes on to the caller -/
theorem vx_outP {p : Program} {l : Launch} {e : Env} {R : Room} {s : State} {m : MethodId} {args : Array Value} {below : List Frame} {meth : Method} {c : Code} {H : Heap} {locs : List Loc} {cells slots : Nat} {free : Addr → Prop} {ls : Array Slot} {rest : List Value} {Qc : Array Value → State → Outcome → State → Prop} {XC : String → State → State → Prop}
    {pc : Nat} {own E : String} {ce : Cell} {q : Addr} {mc ms : Nat} (hown : s.vm.findClass own = some m.cls) (hlocks : meth.locks = false)
    (hpass : ∀ z ∈ c.exceptionTable.toList, covers z pc = false ∨ (z.catchType ≠ 0 ∧ ∃ nm : String, (Cond.classLink own z.catchType nm).before args s = true ∧ va_Nc E nm s)) (hcell : H[q]? = some ce) (hv : ce.vm = .none) (hcl : s.vm.findClass E = some ce.cls)
    (hx : ∀ t : State, t.heap = H → s.vm.Alike t.vm → XC E s t) (hf : ∀ z ∈ locs, free z.base) (hc : cells ≤ mc) (hs : slots ≤ ms) :
    vx_W p l e R s m args below meth c H locs cells slots (vx_MQ below Qc XC args s mc ms free) (F0 m pc ls rest) q := by
  intro T hT X
  have hpl : e.platform.magicAccessors = ({} : Platform).magicAccessors := by rw [X.admits.platform]
  obtain ⟨vm', hW', X', st⟩ := X.outThrough hlocks q (g := F0 m pc ls rest) rfl rfl rfl (cell := ce) (by rw [hT]; exact hcell) (by rw [hv]; rfl)
    (by obtain ⟨k9, h9, -⟩ := Vm.findClass_spec hcl; exact ⟨k9, h9⟩) (fun z hz => by
      rcases hpass z hz with h | ⟨hz0, nm, hl1, hn1⟩
      · exact Or.inl h
      · obtain ⟨c6, hc6, hcl6⟩ := Cond.classLink_spec hown hl1 e.platform hpl
        obtain ⟨a8, b8, h1, h2, h3⟩ := hn1
        cases Option.some.inj (h1.symm.trans hcl)
        cases Option.some.inj (h2.symm.trans hc6)
        exact Or.inr ⟨hz0, _, hcl6, h3⟩)
  obtain ⟨g₀, hfr⟩ := X'.frames_eq
  have hcell9 : ((T.setVm vm').setFrames (.throwing q :: below)).heap[q]? = some ce := by
    show T.heap[q]? = some ce
    rw [hT]; exact hcell
  have hend : Ended ((T.setVm vm').setFrames (.throwing q :: below)) below (.threw q) := State.frames_setFrames _ (State.cur_lt_of_frames hfr)
  refine ⟨(T.setVm vm').setFrames (.throwing q :: below), ?_, .threw q, X'.here.running, hend, Or.inr ⟨q, rfl, E, ce, locs, hx _ hT (X'.ends _).1.alike, hcell9, hv, hcl, (X'.ends _).1, (X'.ends _).2.mono hc hs, hf⟩⟩
  rw [X.pushThrowing_eq]
  exact st
/-- a thing of a world lies in the heap -/
theorem vx_lt {D : va_G} {cl : List vw_C} {ws : va_W} {H1 : Heap} (h : va_P D cl ws H1) {k : Nat} {q : Nat × va_E} (hk : ws[k]? = some q) : q.1 < H1.size := (h k q hk).lt
end VXS
/-! ===== END ===== -/
/-! ===== BEGIN methods with a table of their own: called by a name, returning or throwing ===== -/
section VXH
/-! vx_backW, vx_callVX, vx_callSX, vx_callVW, vx_runVW, vx_runVX, vx_runSX, vx_ofWH follow the same proofs as their sisters above (Free/Laws.lean, Shelf42/LK1.lean); vx_outP calls Shelf42/NT130.lean (outThrough). -/
section
variable {l : Launch} {R : Room} {p : Program} {e : Env} {below : List Frame} {s : State} {sargs : Array Value} {y : MethodName} {len W9 : Nat}
theorem vx_backW {ws : List Cond} {rm : Room} {Pc : Array Value → State → Prop} {Qc : Array Value → State → Outcome → State → Prop} {XC : String → State → State → Prop} {mc ms : Nat} {free : Addr → Prop} {bytes : ByteArray} {maxL : Nat} {ret : Option FieldType} {hh : List (Nat × Nat × Nat × Nat)}
    (hM : vx_Met l y ws rm Pc Qc XC mc ms free) (hblind : FrameBlind Pc) (hrc : rm.cells = mc) (hrs : rm.slots = ms)
    (hframes : rm.frames + 1 ≤ R.frames) (hlocals : W9 + (maxL + 11) + rm.locals ≤ R.locals)
    (hws : ∀ w ∈ ws, ∀ a' U, s.WarmedH U.vm → w.before a' U = true) (hcode : Cond.codeWith y bytes maxL ret hh ∈ ws) (hinit : ∀ a' U, s.WarmedH U.vm → (Cond.initialized y.cls).before a' U = true) :
    vx_Back l R p e below s sargs y len W9 (PreOf R mc ms Pc) (PostOf Qc mc ms free) (vx_Post XC mc ms free) := by
  intro m meth c A g ig mk a X hg hsize hdg hW hn hp
  have h1 : (headSpec ws rm).pre.before a A.U = true := atoms_intro fun w hw => hws w hw _ _ X.warmed
  have h2 : (Cond.codeWith y bytes maxL ret hh).before a A.U = true := hws _ hcode _ _ X.warmed
  have h3 : (Cond.initialized y.cls).before a A.U = true := hinit _ _ X.warmed
  have h4 : A.cells + (headSpec ws rm).room.cells ≤ R.cells := by rw [show (headSpec ws rm).room.cells = mc from hrc]; exact hp.1
  have h5 : A.slots + (headSpec ws rm).room.slots ≤ R.slots := by rw [show (headSpec ws rm).room.slots = ms from hrs]; exact hp.2.1
  have hPc : Pc a (A.U.calling g mk a) := hblind _ _ _ _ hp.2.2
  obtain ⟨U, Ls, c0, s0⟩ := A
  dsimp only [Pt.U, Pt.locs, Pt.cells, Pt.slots] at h1 h2 h3 h4 h5 X hn hPc ⊢
  obtain ⟨m9, methY, cY, hn9, hmY, hcY, -, hlY, -⟩ := Cond.codeWith_spec h2
  cases Option.some.inj (hn9.symm.trans hn)
  obtain ⟨kY, hkY, -⟩ := className_of_methodNamed hn
  have hinitY : kY.init = .initialized := Cond.initialized_spec (findClass_of_methodNamed hn) hkY h3
  have h : At U g.method c below := by rw [hg]; exact X.here
  have hlocals9 : W9 + (maxL + 11) + (headSpec ws rm).room.locals ≤ R.locals := hlocals
  have happ : (headSpec ws rm).appliesLoose y e.platform (U.calling g mk a) = true :=
    Spec.appliesLoose_calling (g := g) h hdg hn hkY hinitY
      (X.room_calling (g := g) (R' := (headSpec ws rm).room) hsize hmY hcY hframes (by rw [hlY]; omega) h4 h5) h1
  obtain ⟨mid, hmid⟩ := h.above
  have hfr : (U.setTop g).frames = (.java g :: mid) ++ below := by rw [State.frames_setTop' g h.top, hmid]; rfl
  obtain ⟨o, s₂, hsteps, -, hend, hq⟩ := Steps.callFree hM p X.admits X.cas X.clock (acts := []) hfr happ hPc trivial
  have hq' : vx_Q Qc XC mc ms free a (U.calling g mk a) o s₂ := hq
  rw [State.frames_setTop' g h.top] at hend
  obtain ⟨g₀, hg0⟩ := Option.isSome_iff_exists.mp h.top
  obtain ⟨r, hr⟩ := State.topJava?_eq_some.mp hg0
  have hr' : (({ U with heap := s₂.heap, slotsUsed := s₂.slotsUsed } : State).setVm s₂.vm).frames = .java g₀ :: r := hr
  rcases hq' with ⟨hqc, L, hfe, hL⟩ | ⟨q, rfl, E, ce, L, hx, hce, hcv, hcl, hW₂, hsm, hL⟩
  · obtain ⟨⟨v, rfl⟩, hW₂, e2, q2, q3, q4, q5, q6⟩ := id hfe
    have e3 : s₂ = ({ (U.calling g mk a).setFrames s₂.frames with heap := s₂.heap, slotsUsed := s₂.slotsUsed } : State).setVm s₂.vm := by
      have : s₂ = ({ s₂ with vm := (U.calling g mk a).vm } : State).setVm s₂.vm := rfl
      rw [e2] at this
      exact this
    obtain ⟨c₂, i₂, len₂, hc₂, hd₂, hf₂⟩ := hend
    have hW' : U.WarmedH s₂.vm := hW₂
    have hcc : c₂ = c := by
      have h1 : s₂.code? g.method = U.code? g.method := by
        rw [State.code?_eq, State.code?_eq, hW'.alike.method?]
      exact Option.some.inj (hc₂.symm.trans (h1.trans h.code))
    subst hcc
    have hlen : len₂ = len := by rw [hdg] at hd₂; cases hd₂; rfl
    subst hlen
    have hs₂ : s₂ = (({ U with heap := s₂.heap, slotsUsed := s₂.slotsUsed } : State).setVm s₂.vm).setTop { g with pc := g.pc + len₂, stack := v.toList ++ g.stack } := by
      refine e3.trans ?_
      rw [hf₂, State.calling_eq h.top, State.setFrames_setFrames, State.setTop_of_frames _ hr', hr]
      rfl
    have hsame : U.sameButNew ({ U with heap := s₂.heap, slotsUsed := s₂.slotsUsed } : State) L mc ms := by
      refine ⟨?_, q2, q3, q4, q5, q6⟩
      obtain ⟨t, ht, -⟩ := State.frames_cons hr
      show ({ U with heap := s₂.heap, slotsUsed := s₂.slotsUsed } : State) = { U.setFrames U.frames with heap := s₂.heap, slotsUsed := s₂.slotsUsed }
      rw [State.setFrames_self ht]
    subst hg
    refine Or.inl ⟨v, ⟨(({ U with heap := s₂.heap, slotsUsed := s₂.slotsUsed } : State).setVm s₂.vm), Ls ++ L, c0 + mc, s0 + ms⟩,
      ⟨X.admits, X.cas, X.clock, X.frames, X.room, X.hears, X.method, X.code, (X.here.setHeapUsed s₂.heap s₂.slotsUsed).setVm hW'.alike, X.tail, State.WarmedH.trans X.warmed hW', X.limits, X.bytes, X.same.trans (hsame.setVm s.vm)⟩,
      ⟨g, mk, s₂, L, rfl, rfl, hqc, rfl, hL, rfl, rfl⟩, ?_⟩
    show Steps p.tables e below _ ((({ U with heap := s₂.heap, slotsUsed := s₂.slotsUsed } : State).setVm s₂.vm).setTop { g with pc := g.pc + len₂, stack := v.toList ++ g.stack })
    rw [← hs₂]
    exact hsteps
  · obtain ⟨e2, q2, q3, q4, q5, q6⟩ := id hsm
    have e3 : s₂ = ({ (U.calling g mk a).setFrames s₂.frames with heap := s₂.heap, slotsUsed := s₂.slotsUsed } : State).setVm s₂.vm := by
      have : s₂ = ({ s₂ with vm := (U.calling g mk a).vm } : State).setVm s₂.vm := rfl
      rw [e2] at this
      exact this
    have hf₂ : s₂.frames = .throwing q :: .java g :: U.frames.tail := hend
    have hW' : U.WarmedH s₂.vm := hW₂
    have hs₂ : s₂ = ((({ U with heap := s₂.heap, slotsUsed := s₂.slotsUsed } : State).setVm s₂.vm).setTop g).pushFrame (.throwing q) := by
      refine e3.trans ?_
      rw [hf₂, State.calling_eq h.top, State.setFrames_setFrames, State.pushFrame, State.frames_setTop _ hr', State.setTop_of_frames _ hr', State.setFrames_setFrames, hr]
      rfl
    have hsame : U.sameButNew ({ U with heap := s₂.heap, slotsUsed := s₂.slotsUsed } : State) L mc ms := by
      refine ⟨?_, q2, q3, q4, q5, q6⟩
      obtain ⟨t, ht, -⟩ := State.frames_cons hr
      show ({ U with heap := s₂.heap, slotsUsed := s₂.slotsUsed } : State) = { U.setFrames U.frames with heap := s₂.heap, slotsUsed := s₂.slotsUsed }
      rw [State.setFrames_self ht]
    subst hg
    refine Or.inr ⟨q, ⟨(({ U with heap := s₂.heap, slotsUsed := s₂.slotsUsed } : State).setVm s₂.vm), Ls ++ L, c0 + mc, s0 + ms⟩,
      ⟨X.admits, X.cas, X.clock, X.frames, X.room, X.hears, X.method, X.code, (X.here.setHeapUsed s₂.heap s₂.slotsUsed).setVm hW'.alike, X.tail, State.WarmedH.trans X.warmed hW', X.limits, X.bytes, X.same.trans (hsame.setVm s.vm)⟩,
      ⟨g, mk, s₂, L, E, ce, rfl, rfl, hx, hce, hcv, hcl, rfl, hL, rfl, rfl⟩, ?_⟩
    show Steps p.tables e below _ (((({ U with heap := s₂.heap, slotsUsed := s₂.slotsUsed } : State).setVm s₂.vm).setTop g).pushFrame (.throwing q))
    rw [← hs₂]
    exact hsteps
end
variable {p : Program} {l : Launch} {e : Env} {R : Room} {s : State} {m : MethodId} {args : Array Value} {below : List Frame} {meth : Method} {c : Code} {T : State} {H : Heap} {locs : List Loc} {cells slots : Nat}
theorem vx_callVX (X : Stand p l e R s m args below meth c T locs cells slots) (hexec : p.tables.exec = Jvm.exec) {own C : String} {index : Nat} {y : MethodName} {bytes : ByteArray} {maxL : Nat} {ret : Option FieldType} {hh : List (Nat × Nat × Nat × Nat)}
    (hown : s.vm.findClass own = some m.cls) (hlink : (Cond.methodLink own index y).before args s = true) (hinst : (Cond.instanceMethod y).before args s = true) (hsel : (Cond.selects C y y).before args s = true)
    (hcode : (Cond.codeWith y bytes maxL ret hh).before args s = true) (hy : y.cls ≠ "java/lang/invoke/MethodHandle" ∧ y.cls ≠ "java/lang/invoke/VarHandle")
    {W9 : Nat} {Pre : Pt → Array Value → Prop} {Post : Pt → Array Value → Option Value → Pt → Prop} {PostX : Pt → Array Value → Addr → Pt → Prop} (hK : vx_Back l R p e below s args y 3 W9 Pre Post PostX)
    {b : Addr} {cellB : Cell} (hcell : T.heap[b]? = some cellB) (hobj : cellB.vm.isStatics = false) (hcls : s.vm.findClass C = some cellB.cls)
    {g : JFrame} (hg : g.method = m) (hsize : g.locals.size = c.maxLocals) {argsL rest : List Value} (hlen : ∀ sig, parseMethodDescriptor y.desc = some sig → argsL.length = sig.parameters.length)
    (hstack : g.stack = argsL.reverse ++ .ref b :: rest) (hW : 2 * g.monitorRoom + (rest.map fun v => v.category).sum ≤ W9) (hdg : decode c.code g.pc = .ok (.invokevirtual index, 3))
    (hpre : ∀ vm₁, s.WarmedH vm₁ → Pre ⟨T.setVm vm₁, locs, cells, slots⟩ (Value.ref b :: argsL).toArray) :
    (∃ (v : Option Value) (vm₁ : Vm) (B : Pt), s.WarmedH vm₁ ∧ Stand p l e R s m args below meth c B.U B.locs B.cells B.slots ∧ Post ⟨T.setVm vm₁, locs, cells, slots⟩ (Value.ref b :: argsL).toArray v B ∧
      ∀ target, Steps p.tables e below (B.U.setTop { g with pc := g.pc + 3, stack := v.toList ++ rest }) target → Steps p.tables e below (T.setTop g) target) ∨
    (∃ (q : Addr) (vm₁ : Vm) (B : Pt), s.WarmedH vm₁ ∧ Stand p l e R s m args below meth c B.U B.locs B.cells B.slots ∧ PostX ⟨T.setVm vm₁, locs, cells, slots⟩ (Value.ref b :: argsL).toArray q B ∧
      Steps p.tables e below (T.setTop g) ((B.U.setTop { g with stack := rest }).pushFrame (.throwing q))) := by
  obtain ⟨mk, methM, hnamed, hmethM, hstM, habM⟩ := Cond.instanceMethod_spec hinst
  obtain ⟨m8, methM', cM, hn8, hmethM', -, -, -, -, -, -, hsigM⟩ := Cond.codeWith_spec hcode
  cases Option.some.inj (hn8.symm.trans hnamed)
  cases hmethM.symm.trans hmethM'
  obtain ⟨c2, r2, m2, q1, q2, q3, q4, kP, hkP, hkPi⟩ := Cond.selects_spec hsel
  cases hcls.symm.trans q1
  cases (State.methodFound?_of_named hnamed hy).symm.trans q2
  cases hnamed.symm.trans q3
  have hselP : selectMethod e.platform s.vm cellB.cls mk = .method mk := by rw [Launch.admits_selectMethod X.admits]; exact q4
  obtain ⟨vm₁, X₁, hstep₁⟩ := X.invokevirtual hexec hown hlink hnamed hmethM hstM hkP hkPi hy (a := b) (cell := cellB) hcell
    (fun z h => by rw [h] at hobj; cases hobj) hselP hmethM habM hkP hkPi (g := g) hg (argsL := argsL) (rest := rest) (hlen _ hsigM) hstack hdg
  rcases hK m meth c ⟨T.setVm vm₁, locs, cells, slots⟩ { g with stack := rest } (.invokevirtual index) mk (Value.ref b :: argsL).toArray X₁ hg hsize hdg hW (X₁.named hnamed) (hpre vm₁ X₁.warmed) with ⟨v, B, X', hpost, hsteps⟩ | ⟨q, B, X', hpost, hsteps⟩
  · exact Or.inl ⟨v, vm₁, B, X₁.warmed, X', hpost, fun target h => hstep₁ _ fun acts => by rw [doInvoke_state]; exact hsteps.trans h⟩
  · exact Or.inr ⟨q, vm₁, B, X₁.warmed, X', hpost, hstep₁ _ fun acts => by rw [doInvoke_state]; exact hsteps⟩
theorem vx_callSX (X : Stand p l e R s m args below meth c T locs cells slots) (hexec : p.tables.exec = Jvm.exec) {own : String} {index : Nat} {y : MethodName} {bytes : ByteArray} {maxL : Nat} {ret : Option FieldType} {hh : List (Nat × Nat × Nat × Nat)}
    (hown : s.vm.findClass own = some m.cls) (hlink : (Cond.methodLink own index y).before args s = true) (hstat : (Cond.static y).before args s = true) (hinit : (Cond.initialized y.cls).before args s = true)
    (hcode : (Cond.codeWith y bytes maxL ret hh).before args s = true) (hy : y.cls ≠ "java/lang/invoke/MethodHandle" ∧ y.cls ≠ "java/lang/invoke/VarHandle")
    {W9 : Nat} {Pre : Pt → Array Value → Prop} {Post : Pt → Array Value → Option Value → Pt → Prop} {PostX : Pt → Array Value → Addr → Pt → Prop} (hK : vx_Back l R p e below s args y 3 W9 Pre Post PostX)
    {g : JFrame} (hg : g.method = m) (hsize : g.locals.size = c.maxLocals) {argsL rest : List Value} (hlen : ∀ sig, parseMethodDescriptor y.desc = some sig → argsL.length = sig.parameters.length)
    (hstack : g.stack = argsL.reverse ++ rest) (hW : 2 * g.monitorRoom + (rest.map fun v => v.category).sum ≤ W9) (hdg : decode c.code g.pc = .ok (.invokestatic index, 3))
    (hpre : ∀ vm₁, s.WarmedH vm₁ → Pre ⟨T.setVm vm₁, locs, cells, slots⟩ argsL.toArray) :
    (∃ (v : Option Value) (vm₁ : Vm) (B : Pt), s.WarmedH vm₁ ∧ Stand p l e R s m args below meth c B.U B.locs B.cells B.slots ∧ Post ⟨T.setVm vm₁, locs, cells, slots⟩ argsL.toArray v B ∧
      ∀ target, Steps p.tables e below (B.U.setTop { g with pc := g.pc + 3, stack := v.toList ++ rest }) target → Steps p.tables e below (T.setTop g) target) ∨
    (∃ (q : Addr) (vm₁ : Vm) (B : Pt), s.WarmedH vm₁ ∧ Stand p l e R s m args below meth c B.U B.locs B.cells B.slots ∧ PostX ⟨T.setVm vm₁, locs, cells, slots⟩ argsL.toArray q B ∧
      Steps p.tables e below (T.setTop g) ((B.U.setTop { g with stack := rest }).pushFrame (.throwing q))) := by
  obtain ⟨mk, methM, cM, hnamed, hmethM, -, -, -, -, -, -, hsigM⟩ := Cond.codeWith_spec hcode
  have hstatic : methM.isStatic = true := Cond.static_spec hnamed hmethM hstat
  obtain ⟨kP, hkP, -⟩ := className_of_methodNamed hnamed
  have hinitP : kP.init = .initialized := Cond.initialized_spec (findClass_of_methodNamed hnamed) hkP hinit
  obtain ⟨vm₁, X₁, hstep₁⟩ := X.invokestatic hexec hown hlink hnamed hmethM hstatic hkP hinitP hy (g := g) hg (argsL := argsL) (rest := rest) (hlen _ hsigM) hstack hdg
  rcases hK m meth c ⟨T.setVm vm₁, locs, cells, slots⟩ { g with stack := rest } (.invokestatic index) mk argsL.toArray X₁ hg hsize hdg hW (X₁.named hnamed) (hpre vm₁ X₁.warmed) with ⟨v, B, X', hpost, hsteps⟩ | ⟨q, B, X', hpost, hsteps⟩
  · exact Or.inl ⟨v, vm₁, B, X₁.warmed, X', hpost, fun target h => hstep₁ _ fun acts => by rw [doInvoke_state]; exact hsteps.trans h⟩
  · exact Or.inr ⟨q, vm₁, B, X₁.warmed, X', hpost, hstep₁ _ fun acts => by rw [doInvoke_state]; exact hsteps⟩
theorem vx_callVW (X : Stand p l e R s m args below meth c T locs cells slots) (hexec : p.tables.exec = Jvm.exec) {own C : String} {index : Nat} {y : MethodName} {bytes : ByteArray} {maxL : Nat} {ret : Option FieldType} {hh : List (Nat × Nat × Nat × Nat)}
    (hown : s.vm.findClass own = some m.cls) (hlink : (Cond.methodLink own index y).before args s = true) (hinst : (Cond.instanceMethod y).before args s = true) (hsel : (Cond.selects C y y).before args s = true)
    (hcode : (Cond.codeWith y bytes maxL ret hh).before args s = true) (hy : y.cls ≠ "java/lang/invoke/MethodHandle" ∧ y.cls ≠ "java/lang/invoke/VarHandle")
    {W9 : Nat} {Pre : Pt → Array Value → Prop} {Post : Pt → Array Value → Option Value → Pt → Prop} (hK : Back l R p e below s args y 3 W9 Pre Post)
    {b : Addr} {cellB : Cell} (hcell : T.heap[b]? = some cellB) (hobj : cellB.vm.isStatics = false) (hcls : s.vm.findClass C = some cellB.cls)
    {g : JFrame} (hg : g.method = m) (hsize : g.locals.size = c.maxLocals) {argsL rest : List Value} (hlen : ∀ sig, parseMethodDescriptor y.desc = some sig → argsL.length = sig.parameters.length)
    (hstack : g.stack = argsL.reverse ++ .ref b :: rest) (hW : 2 * g.monitorRoom + (rest.map fun v => v.category).sum ≤ W9) (hdg : decode c.code g.pc = .ok (.invokevirtual index, 3))
    (hpre : ∀ vm₁, s.WarmedH vm₁ → Pre ⟨T.setVm vm₁, locs, cells, slots⟩ (Value.ref b :: argsL).toArray) :
    ∃ (v : Option Value) (vm₁ : Vm) (B : Pt), s.WarmedH vm₁ ∧ Stand p l e R s m args below meth c B.U B.locs B.cells B.slots ∧ Post ⟨T.setVm vm₁, locs, cells, slots⟩ (Value.ref b :: argsL).toArray v B ∧
      ∀ target, Steps p.tables e below (B.U.setTop { g with pc := g.pc + 3, stack := v.toList ++ rest }) target → Steps p.tables e below (T.setTop g) target := by
  obtain ⟨mk, methM, hnamed, hmethM, hstM, habM⟩ := Cond.instanceMethod_spec hinst
  obtain ⟨m8, methM', cM, hn8, hmethM', -, -, -, -, -, -, hsigM⟩ := Cond.codeWith_spec hcode
  cases Option.some.inj (hn8.symm.trans hnamed)
  cases hmethM.symm.trans hmethM'
  obtain ⟨c2, r2, m2, q1, q2, q3, q4, kP, hkP, hkPi⟩ := Cond.selects_spec hsel
  cases hcls.symm.trans q1
  cases (State.methodFound?_of_named hnamed hy).symm.trans q2
  cases hnamed.symm.trans q3
  have hselP : selectMethod e.platform s.vm cellB.cls mk = .method mk := by rw [Launch.admits_selectMethod X.admits]; exact q4
  obtain ⟨vm₁, X₁, hstep₁⟩ := X.invokevirtual hexec hown hlink hnamed hmethM hstM hkP hkPi hy (a := b) (cell := cellB) hcell
    (fun z h => by rw [h] at hobj; cases hobj) hselP hmethM habM hkP hkPi (g := g) hg (argsL := argsL) (rest := rest) (hlen _ hsigM) hstack hdg
  obtain ⟨v, B, X', hpost, hsteps⟩ := hK m meth c ⟨T.setVm vm₁, locs, cells, slots⟩ { g with stack := rest } (.invokevirtual index) mk (Value.ref b :: argsL).toArray X₁ hg hsize hdg hW (X₁.named hnamed) (hpre vm₁ X₁.warmed)
  exact ⟨v, vm₁, B, X₁.warmed, X', hpost, fun target h => hstep₁ _ fun acts => by rw [doInvoke_state]; exact hsteps.trans h⟩
abbrev vx_CVW (R : Room) (s : State) (args : Array Value) (own C : String) (index : Nat) (y : MethodName) (bytes : ByteArray) (maxL : Nat) (ret : Option FieldType) (hh : List (Nat × Nat × Nat × Nat)) (ws : List Cond) (rm : Room) (mc ms n : Nat) : Prop :=
  (rm.cells = mc ∧ rm.slots = ms ∧ rm.frames + 1 ≤ R.frames ∧ 8 + (maxL + 11) + rm.locals ≤ R.locals ∧ (∀ w ∈ ws, ∀ (a' : Array Value) (U : State), s.WarmedH U.vm → w.before a' U = true) ∧ Cond.codeWith y bytes maxL ret hh ∈ ws) ∧
  (Cond.codeWith y bytes maxL ret hh).before args s = true ∧ (Cond.initialized y.cls).before args s = true ∧ (y.cls ≠ "java/lang/invoke/MethodHandle" ∧ y.cls ≠ "java/lang/invoke/VarHandle") ∧
  (∀ sig, parseMethodDescriptor y.desc = some sig → n = sig.parameters.length) ∧ (Cond.methodLink own index y).before args s = true ∧ (Cond.instanceMethod y).before args s = true ∧ (Cond.selects C y y).before args s = true
theorem vx_cwVW {own C : String} {index maxL mc ms : Nat} {y : MethodName} {bytes : ByteArray} {ret : Option FieldType} {hh : List (Nat × Nat × Nat × Nat)} {Ts ws ws' : List Cond} {rm : Room} (n : Nat) (ht : ∀ w ∈ Ts, w.before args s = true) (hT : GoodIn Ts (wsV own index C y ws)) (hw : ws = Cond.codeWith y bytes maxL ret hh :: ws') (hrc : rm.cells = mc) (hrs : rm.slots = ms)
    (hd : y.cls = C ∧ y.cls ≠ "java/lang/invoke/MethodHandle" ∧ y.cls ≠ "java/lang/invoke/VarHandle" ∧ (parseMethodDescriptor y.desc).map (fun d => d.parameters.length) = some n) (hR : rm.frames + 1 ≤ R.frames ∧ 8 + (maxL + 11) + rm.locals ≤ R.locals) :
    vx_CVW R s args own C index y bytes maxL ret hh ws rm mc ms n := by
  obtain ⟨hC, hd⟩ := hd
  subst hC
  have ok : ∀ w ∈ wsV own index y.cls y ws, w.before args s = true := fun w h => ht w (hT w h).1
  have hG : GoodIn Ts ws := fun w h => hT w (by unfold wsV; exact List.mem_append_right _ h)
  have hc : Cond.codeWith y bytes maxL ret hh ∈ ws := by rw [hw]; exact List.mem_cons_self
  refine ⟨⟨hrc, hrs, hR.1, hR.2, pay_in ht hG, hc⟩, ht _ (hG _ hc).1, ok _ (by simp [wsV]), ⟨hd.1, hd.2.1⟩, fun sig h => ?_, ok _ (by simp [wsV]), ok _ (by simp [wsV]), ok _ (by simp [wsV])⟩
  have h2 := hd.2.2
  rw [h] at h2
  exact (Option.some.inj h2).symm
theorem vx_runVW {y : MethodName} {bytes cc : ByteArray} {maxL nL mc ms n index : Nat} {ret : Option FieldType} {hh : List (Nat × Nat × Nat × Nat)} {ws : List Cond} {rm : Room} {Pc : Array Value → State → Prop} {Qc : Array Value → State → Outcome → State → Prop} {free : Addr → Prop} {Ts : List Cond} {own C : String} {b : Addr} {As rest : List Value} {g : JFrame}
    (S : CallFix p m c cc nL s args Ts own) (hM : Met l y ws rm Pc Qc mc ms free) (cw : vx_CVW R s args own C index y bytes maxL ret hh ws rm mc ms n) (hp : PreV s H C b Pc As)
    (hg : g.method = m) (hn : As.length = n) (hsize : g.locals.size = nL) (hstack : g.stack = As.reverse ++ .ref b :: rest) (hW : 2 * g.monitorRoom + (rest.map fun v => v.category).sum ≤ 8) (hdg : decode cc g.pc = .ok (.invokevirtual index, 3)) (hf : cells + mc ≤ R.cells ∧ slots + ms ≤ R.slots) :
    va_Run p l e R s m args below meth c H locs cells slots mc ms g rest (Qc (Value.ref b :: As).toArray) free := by
  obtain ⟨⟨hrc, hrs, hfr, hlo, hws, hcw⟩, hcode, hini, hy, hlen, hl, hin, hse⟩ := cw
  have hK : Back l R p e below s args y 3 8 (PreOf R mc ms Pc) (PostOf Qc mc ms free) := va_backW (hh := hh) (bytes := bytes) (maxL := maxL) (ret := ret) hM hp.1 hrc hrs hfr hlo hws hcw (fun a' U hW => word_at hW (Or.inl (by first | rfl | simp [Cond.onTables, Cond.keeps, Cond.steady])) hini)
  obtain ⟨hx, hb, hml, ho, -⟩ := S
  obtain ⟨-, ⟨cellB, hcB, hoB, hclB⟩, hPc⟩ := hp
  intro T hT X
  obtain ⟨v, vm₁, ⟨U', l2, c2, s2⟩, hW₁, X', ⟨g', mk, t, L, e1, e2, hq, h1, hL, h2, h3⟩, st⟩ := vx_callVW X hx (C := C) (hh := hh) (bytes := bytes) (maxL := maxL) (ret := ret) ho hl hin hse hcode hy hK (by rw [hT]; exact hcB) hoB hclB hg (hsize.trans hml.symm) (argsL := As) (rest := rest) (fun sig h => hn.trans (hlen sig h)) hstack hW (by rw [hb]; exact hdg)
    (fun vm₁ hW₁ => ⟨hf.1, hf.2, hPc (T.setVm vm₁) hT hW₁⟩)
  dsimp only [Pt.U, Pt.locs, Pt.cells, Pt.slots] at X' e1 e2 h1 h2 h3 st
  subst h1; subst h2; subst h3
  exact ⟨v, (T.setVm vm₁).calling g' mk (Value.ref b :: As).toArray, t, U', L, hT, X', hL, e1, e2, hq, st⟩
section
variable {y : MethodName} {bytes cc : ByteArray} {maxL nL mc ms n index : Nat} {ret : Option FieldType} {ws : List Cond} {rm : Room} {Pc : Array Value → State → Prop} {Qc : Array Value → State → Outcome → State → Prop} {XC : String → State → State → Prop} {free : Addr → Prop} {Ts : List Cond} {own C : String} {b : Addr} {As rest : List Value} {g : JFrame}
theorem vx_runVX {hh : List (Nat × Nat × Nat × Nat)} (S : CallFix p m c cc nL s args Ts own) (hM : vx_Met l y ws rm Pc Qc XC mc ms free) (cw : vx_CVW R s args own C index y bytes maxL ret hh ws rm mc ms n) (hp : PreV s H C b Pc As)
    (hg : g.method = m) (hn : As.length = n) (hsize : g.locals.size = nL) (hstack : g.stack = As.reverse ++ .ref b :: rest) (hW : 2 * g.monitorRoom + (rest.map fun v => v.category).sum ≤ 8) (hdg : decode cc g.pc = .ok (.invokevirtual index, 3)) (hf : cells + mc ≤ R.cells ∧ slots + ms ≤ R.slots) :
    vx_Run p l e R s m args below meth c H locs cells slots mc ms g rest (Qc (Value.ref b :: As).toArray) XC free := by
  obtain ⟨⟨hrc, hrs, hfr, hlo, hws, hcw⟩, hcode, hini, hy, hlen, hl, hin, hse⟩ := cw
  have hK : vx_Back l R p e below s args y 3 8 (PreOf R mc ms Pc) (PostOf Qc mc ms free) (vx_Post XC mc ms free) := vx_backW (hh := hh) (bytes := bytes) (maxL := maxL) (ret := ret) hM hp.1 hrc hrs hfr hlo hws hcw (fun a' U hW => word_at hW (Or.inl (by first | rfl | simp [Cond.onTables, Cond.keeps, Cond.steady])) hini)
  obtain ⟨hx, hb, hml, ho, -⟩ := S
  obtain ⟨-, ⟨cellB, hcB, hoB, hclB⟩, hPc⟩ := hp
  intro T hT X
  rcases vx_callVX X hx (C := C) (hh := hh) (bytes := bytes) (maxL := maxL) (ret := ret) ho hl hin hse hcode hy hK (by rw [hT]; exact hcB) hoB hclB hg (hsize.trans hml.symm) (argsL := As) (rest := rest) (fun sig h => hn.trans (hlen sig h)) hstack hW (by rw [hb]; exact hdg)
    (fun vm₁ hW₁ => ⟨hf.1, hf.2, hPc (T.setVm vm₁) hT hW₁⟩) with ⟨v, vm₁, ⟨U', l2, c2, s2⟩, hW₁, X', ⟨g', mk, t, L, e1, e2, hq, h1, hL, h2, h3⟩, st⟩ | ⟨q, vm₁, ⟨U', l2, c2, s2⟩, hW₁, X', ⟨g', mk, t, L, E, ce, e1, e2, hq, hce, hcv, hcl, h1, hL, h2, h3⟩, st⟩
  · dsimp only [Pt.U, Pt.locs, Pt.cells, Pt.slots] at X' e1 e2 h1 h2 h3 st
    subst h1; subst h2; subst h3
    exact Or.inl ⟨v, (T.setVm vm₁).calling g' mk (Value.ref b :: As).toArray, t, U', L, hT, X', hL, e1, e2, hq, st⟩
  · dsimp only [Pt.U, Pt.locs, Pt.cells, Pt.slots] at X' e1 e2 h1 h2 h3 st hcl
    subst h1; subst h2; subst h3
    exact Or.inr ⟨q, (T.setVm vm₁).calling g' mk (Value.ref b :: As).toArray, t, U', L, E, ce, hT, X', hL, e1, e2, hq, hce, hcv, vx_cls hW₁ hcl, st⟩
theorem vx_runSX {hh : List (Nat × Nat × Nat × Nat)} (S : CallFix p m c cc nL s args Ts own) (hM : vx_Met l y ws rm Pc Qc XC mc ms free) (cw : vx_CSW R s args own index y bytes maxL ret hh ws rm mc ms n) (hp : PreS s H Pc As)
    (hg : g.method = m) (hn : As.length = n) (hsize : g.locals.size = nL) (hstack : g.stack = As.reverse ++ rest) (hW : 2 * g.monitorRoom + (rest.map fun v => v.category).sum ≤ 8) (hdg : decode cc g.pc = .ok (.invokestatic index, 3)) (hf : cells + mc ≤ R.cells ∧ slots + ms ≤ R.slots) :
    vx_Run p l e R s m args below meth c H locs cells slots mc ms g rest (Qc As.toArray) XC free := by
  obtain ⟨⟨hrc, hrs, hfr, hlo, hws, hcw⟩, hcode, hini, hy, hlen, hl, hstt⟩ := cw
  have hK : vx_Back l R p e below s args y 3 8 (PreOf R mc ms Pc) (PostOf Qc mc ms free) (vx_Post XC mc ms free) := vx_backW (hh := hh) (bytes := bytes) (maxL := maxL) (ret := ret) hM hp.1 hrc hrs hfr hlo hws hcw (fun a' U hW => word_at hW (Or.inl (by first | rfl | simp [Cond.onTables, Cond.keeps, Cond.steady])) hini)
  obtain ⟨hx, hb, hml, ho, -⟩ := S
  intro T hT X
  rcases vx_callSX X hx (hh := hh) (bytes := bytes) (maxL := maxL) (ret := ret) ho hl hstt hini hcode hy hK hg (hsize.trans hml.symm) (argsL := As) (rest := rest) (fun sig h => hn.trans (hlen sig h)) hstack hW (by rw [hb]; exact hdg)
    (fun vm₁ hW₁ => ⟨hf.1, hf.2, hp.2 (T.setVm vm₁) hT hW₁⟩) with ⟨v, vm₁, ⟨U', l2, c2, s2⟩, hW₁, X', ⟨g', mk, t, L, e1, e2, hq, h1, hL, h2, h3⟩, st⟩ | ⟨q, vm₁, ⟨U', l2, c2, s2⟩, hW₁, X', ⟨g', mk, t, L, E, ce, e1, e2, hq, hce, hcv, hcl, h1, hL, h2, h3⟩, st⟩
  · dsimp only [Pt.U, Pt.locs, Pt.cells, Pt.slots] at X' e1 e2 h1 h2 h3 st
    subst h1; subst h2; subst h3
    exact Or.inl ⟨v, (T.setVm vm₁).calling g' mk As.toArray, t, U', L, hT, X', hL, e1, e2, hq, st⟩
  · dsimp only [Pt.U, Pt.locs, Pt.cells, Pt.slots] at X' e1 e2 h1 h2 h3 st hcl
    subst h1; subst h2; subst h3
    exact Or.inr ⟨q, (T.setVm vm₁).calling g' mk As.toArray, t, U', L, E, ce, hT, X', hL, e1, e2, hq, hce, hcv, vx_cls hW₁ hcl, st⟩
end
end VXH
theorem vx_ofWH {l : Launch} {y : MethodName} {ws ws' : List Cond} {rm : Room} {Pc : Array Value → State → Prop} {Qc : Array Value → State → Outcome → State → Prop} {XC : String → State → State → Prop} {mc ms : Nat} {free : Addr → Prop} {cc : ByteArray} {maxL : Nat} {ret : Option FieldType} {hh : List (Nat × Nat × Nat × Nat)}
    (hy : plainName y.cls = true) (hw : ws = Cond.codeWith y cc maxL ret hh :: ws')
    (body : ∀ p e s m args below meth c s₁, BodyLoose p l y (headSpec ws rm) cc maxL ret e s m args below meth c s₁ → c.maxLocals = maxL → Pc args s →
      W p l e (headSpec ws rm).room s m args below meth c s.heap [] 0 0 (vx_MQ below Qc XC args s mc ms free) (entryFrame m args maxL)) : vx_Met l y ws rm Pc Qc XC mc ms free := by
  refine MetFree.of_bodyS (code := cc) (maxLocals := maxL) (ret := ret) hy ?_ ?_
  · intro args s m h hn
    obtain ⟨m9, meth, c, hn9, h1, h2, h3, h4, -, h5, h6, -⟩ := Cond.codeWith_spec (atoms_spec (ws := ws) h _ (by rw [hw]; exact List.mem_cons_self))
    cases hn.symm.trans hn9
    exact ⟨meth, c, h1, h2, h3, h4, h5, h6⟩
  · intro p e s m args below meth c s₁ B hml hP _
    have hh0 : s₁.heap = s.heap := by rw [B.state]; rfl
    obtain ⟨t, a1, o, b1, b2, b3⟩ := body p e s m args below meth c s₁ B hml hP s₁ hh0 (Stand.of_body B)
    exact ⟨t, o, a1, b1, b2, b3⟩
/-! ===== END ===== -/
/-! ===== BEGIN what the machine throws by itself, no traces kept ===== -/
section VXM
set_option maxHeartbeats 1000000 in
/-- the machine throws cls with the message text, no traces kept: from its note over the frame g to 'throwing' over the same frame (follows the proofs of Stand.vmThrowsMessage, Shelf/KitTracedVmS.lean, and Stand.throwsMessageColdBareV, StandMessageColdV.lean, without the step out of the frame) -/
theorem vx_vmAt {p : Program} {l : Launch} {e : Env} {R : Room} {s : State} {m₀ : MethodId} {args : Array Value} {below : List Frame} {meth : Method} {c : Code} {W : State} {locs : List Loc} {cells slots : Nat}
    (X : Stand p l e R s m₀ args below meth c W locs cells slots) (hexec : p.tables.exec = Jvm.exec) (htr : e.platform.stackTraces = false) {cls : String} {names : List String} {text : String}
    (hcls : Bundle.fit cls = true) (hnames : ∀ n ∈ names, Bundle.fit n = true) (hsoe : (cls == "java/lang/StackOverflowError") = false) (hoom : (cls == "java/lang/OutOfMemoryError") = false)
    (h : ∀ a ∈ Bundle.messageArmAtoms cls names, a.before args s = true)
    (hlocs : ∀ x ∈ locs, ∀ cell, s.heap[x.base]? = some cell → cell.vm.isStatics = false)
    (htext : (text == notModelled) = false) (hlimit : ¬ (stringBytes (stringToUtf16 text)).size > e.platform.arrayLengthLimit) (hheap : ¬ (stringBytes (stringToUtf16 text)).size * componentBytes .byte > e.platform.maxHeapBytes)
    {g : JFrame} (hg : g.method = m₀) (hsize : g.locals.size = c.maxLocals)
    (hRframes : names.length + 4 < R.frames) (hRlocals : 2 * g.monitorRoom + (g.stack.map fun v => v.category).sum + 10240 ≤ R.locals) (hshort : 13 * names.length + 55 ≤ 10240)
    (hRcells : cells + 3 ≤ R.cells) (hRslots : slots + ((stringBytes (stringToUtf16 text)).size + 4 + 6) ≤ R.slots) (hlocks : meth.locks = false) :
    ∃ (S : State) (q : Addr) (ce : Cell), (∀ target, Steps p.tables e below ((S.setTop g).pushFrame (.throwing q)) target → Steps p.tables e below ((W.setTop g).pushFrame (.throwNew cls (some text) none)) target) ∧
      Stand p l e R s m₀ args below meth c S locs (cells + 3) (slots + ((stringBytes (stringToUtf16 text)).size + 4 + 6)) ∧ S.heap[q]? = some ce ∧ s.vm.findClass cls = some ce.cls ∧ ce.vm = .none := by
  have howns : e.platform.frameOwnsMonitors = true := by rw [X.admits.platform]
  have hfin : e.platform.finalization = false := by rw [X.admits.platform]
  have hpl : e.platform.magicAccessors = ({} : Platform).magicAccessors := by rw [X.admits.platform]
  have a : ∀ x, x ∈ Bundle.messageArmAtoms cls names → x.holds args s none s [] = true := fun x hx => h x hx
  obtain ⟨T, Z0, L, -, Y⟩ := ThrowableC.of_atoms (args := args) howns hfin hpl (fun x hx => h x (by simp [Bundle.messageArmAtoms, hx]))
  obtain ⟨Z, M, LZ, LM, hnZ⟩ := Init0T.ofS_atoms (args := args) hpl L Y (fun x hx => h x (by simp [Bundle.messageArmAtoms, hx]))
  obtain ⟨P1, Ps, hlen, L1, hL, hP1m, hlink1, hlink⟩ := Bundle.chainS (args := args) hpl hnZ names cls hcls hnames (fun x hx => h x (by simp [Bundle.messageArmAtoms, hx]))
  obtain ⟨Zs, LZs, hn4, hfitv, hfitc⟩ := StringT.of_atoms (args := args) (fun x hx => h x (by simp [Bundle.messageArmAtoms, hx]))
  have hfound : s.vm.findClass cls = some P1.m.cls := findClass_of_methodNamed hP1m
  obtain ⟨c1, kX, hc1, hk, hord, -, -, hn6⟩ := Cond.instantiable_spec (a (.instantiable cls 6) (by simp [Bundle.messageArmAtoms]))
  cases Option.some.inj (hc1.symm.trans hfound)
  have hinit := Cond.initialized_spec hfound hk (a (.initialized cls) (by simp [Bundle.messageArmAtoms]))
  have hctor : kX.findMethod "<init>" "(Ljava/lang/String;)V" = some P1.m.idx := findMethod_of_methodNamed hP1m hk
  have hsel0 : selectMethod e.platform s.vm P1.m.cls T.fill0 = .method T.fill0 := by
    obtain ⟨c2, r2, m2, q1, q2, q3, q4, -⟩ := Cond.selects_spec (a (.selects cls Bundle.tFill0 Bundle.tFill0) (by simp [Bundle.messageArmAtoms]))
    cases Option.some.inj (q1.symm.trans hfound)
    cases Option.some.inj (q2.symm.trans (State.methodFound?_of_named Y.fill0 (by decide)))
    cases Option.some.inj (q3.symm.trans Y.fill0)
    rw [Launch.admits_selectMethod X.admits]; exact q4
  have hselF : selectMethod e.platform s.vm P1.m.cls T.fill = .method T.fill := by
    obtain ⟨c2, r2, m2, q1, q2, q3, q4, -⟩ := Cond.selects_spec (a (.selects cls Bundle.tFill Bundle.tFill) (by simp [Bundle.messageArmAtoms]))
    cases Option.some.inj (q1.symm.trans hfound)
    cases Option.some.inj (q2.symm.trans (State.methodFound?_of_named Y.fill (by decide)))
    cases Option.some.inj (q3.symm.trans Y.fill)
    rw [Launch.admits_selectMethod X.admits]; exact q4
  obtain ⟨cellS0, hcS0, hiss⟩ := Y.statics
  obtain ⟨u0, hu0⟩ := Cond.staticRefV Y.unassigned L.unassignedStatic L.statics hcS0 hiss (a (.isRef (.static Bundle.tN "UNASSIGNED_STACK" Bundle.steD)) (by simp [Bundle.messageArmAtoms]))
  obtain ⟨sen, hsen⟩ := Cond.staticRefV Y.sentinel L.sentinelStatic L.statics hcS0 hiss (a (.isRef (.static Bundle.tN "SUPPRESSED_SENTINEL" Bundle.listD)) (by simp [Bundle.messageArmAtoms]))
  obtain ⟨ci198, i198, fB, hk198, hg198, ha198, hsB, -, hnB, htB, hffB⟩ := Cond.ownField (t := .object "java/lang/Object") Y.found L.cls (by decide +kernel) (a (.fieldLink Bundle.tN 198 Bundle.tN "backtrace" "Ljava/lang/Object;") (by simp [Bundle.messageArmAtoms])) (a (.lays Bundle.tN Bundle.tN "backtrace" "Ljava/lang/Object;") (by simp [Bundle.messageArmAtoms])) e.platform hpl
  obtain ⟨cellS, hcS', heS, -, hkeep⟩ := X.same.2.2.2.2.2 T.aS cellS0 hcS0
  have hcellS : W.heap[T.aS]? = some cellS := hcS'
  have hout' : ∀ i, (⟨T.aS, i⟩ : Loc) ∉ locs := fun i hmem => by
    have := hlocs _ hmem cellS0 hcS0
    rw [hiss] at this; cases this
  have hknownS : cellS.vm ≠ .unknown := by
    rw [heS]; intro hu
    rw [show cellS0.vm = .unknown from hu] at hiss
    cases hiss
  have hvU : cellS.slots[T.fUnassigned.slot]? = some u0.v := by rw [hkeep _ (hout' _)]; exact hu0
  have hvSen : cellS.slots[T.fSentinel.slot]? = some sen.v := by rw [hkeep _ (hout' _)]; exact hsen
  obtain ⟨iM, hffM⟩ := Y.msg
  obtain ⟨tyC, dC, hdC, hdnC⟩ := Cond.laysAt hfound hk Y.cause (a (.lays cls Bundle.tN "cause" "Ljava/lang/Throwable;") (by simp [Bundle.messageArmAtoms]))
  obtain ⟨tyS, dS, hdS, hdnS⟩ := Cond.laysAt hfound hk Y.stack (a (.lays cls Bundle.tN "stackTrace" Bundle.steD) (by simp [Bundle.messageArmAtoms]))
  obtain ⟨tyP, dP, hdP, hdnP⟩ := Cond.laysAt hfound hk Y.supp (a (.lays cls Bundle.tN "suppressedExceptions" Bundle.listD) (by simp [Bundle.messageArmAtoms]))
  obtain ⟨tyM, dM, hdM, hdnM⟩ := Cond.laysAt hfound hk hffM (a (.lays cls Bundle.tN "detailMessage" "Ljava/lang/String;") (by simp [Bundle.messageArmAtoms]))
  obtain ⟨tyB, dB, hdB, hdnB⟩ := Cond.laysAt hfound hk hffB (a (.lays cls Bundle.tN "backtrace" "Ljava/lang/Object;") (by simp [Bundle.messageArmAtoms]))
  have bC := Cond.laysApart hdB hdC hdnB hdnC (by rw [hnB, Y.causeName]; decide)
  have bS := Cond.laysApart hdB hdS hdnB hdnS (by rw [hnB, Y.stackName]; decide)
  have bP := Cond.laysApart hdB hdP hdnB hdnP (by rw [hnB, Y.suppName]; decide)
  have hbk : ((preparedCellV T.toThrowableT (freshCell P1.m.cls kX) (W.heap.size + 2) u0 sen).withEntry W.cur).slots[fB.slot]? = some .null := by
    have := fresh_default (c := P1.m.cls) tyB
    rw [htB] at this
    simpa [preparedCellV, Cell.setSlot, Cell.withEntry, Array.getElem?_setIfInBounds, bC, bS, bP, bC.symm, bS.symm, bP.symm, defaultValue] using this
  have tkC := Takes.of_laid (v := .ref (W.heap.size + 2)) hk hord tyC (by rw [Y.causeType]; rfl)
  have tkS := Takes.of_laid (v := u0.v) hk hord tyS (by rw [Y.stackType]; exact fits_refV_array _ u0)
  have tkP := Takes.of_laid (v := sen.v) hk hord tyP (by rw [Y.suppType]; exact fits_refV_object _ sen)
  have tkM := Takes.of_laid (v := .ref (W.heap.size + 1)) hk hord tyM (by rw [Y.msgType]; rfl)
  have hskip : SkipFacts T e.platform s (fun u => u) u0 ((preparedCellV T.toThrowableT (freshCell P1.m.cls kX) (W.heap.size + 2) u0 sen).withEntry W.cur) := ⟨{ ci198 := ci198, i198 := i198, fBack := fB }, ⟨hk198, hg198, ha198, hsB⟩, hbk, fun _ _ => rfl⟩
  have h0 : At W g.method c below := by rw [hg]; exact X.here
  obtain ⟨hbeyond, hfreeW⟩ := X.vmMayThrow hsize (.throwNew cls (some text) none) (fun f hf => by cases hf) rfl hRlocals
  have hfr' : W.frames.length + Ps.length + 4 < (e.platform.stackLimits W.me).1 := by have := X.framesAbove hRframes; omega
  have hwd' : (stackUse (.java g :: W.frames.tail)).2 + 13 * Ps.length + 55 ≤ (e.platform.stackLimits W.me).2 := by have := X.stackAbove hsize (K := 13 * Ps.length + 55) (by omega); omega
  have hslots : W.slotsUsed + (stringBytes (stringToUtf16 text)).size + Zs.kS.instanceTypes.size + kX.instanceTypes.size ≤ e.platform.maxSlots := by
    have := X.slotsAbove hRslots
    rw [hn4, hn6]
    omega
  obtain ⟨vm', hW', st⟩ := Steps.vmThrowsMessageColdByV p (s₀ := s) (S := W) (g := g) h0 hexec T L Z LZ M LM X.warmed (t := W.cur) rfl Zs LZs P1 L1 Ps hL hlink1 hlink hsoe hoom hfound hk hinit hord hctor
    (Launch.admits_hotImplicitExceptions X.admits) hbeyond hfreeW htext hlimit hheap (X.cellsAbove hRcells) hslots (hfitv _) (hfitc _)
    (Nn := fun u => u) heapOnly_id (fun _ _ => rfl) (fun _ => rfl) (fun u x y => setCell_twice _ _ _ _) (fun _ => Nat.le_refl _) (cN := ((preparedCellV T.toThrowableT (freshCell P1.m.cls kX) (W.heap.size + 2) u0 sen).withEntry W.cur))
    hsel0 hcellS hknownS hvU tkS (fun _ hu => hu) (fun _ hu => hu) rfl rfl rfl (by simp [preparedCellV, Cell.setSlot, Cell.withEntry]) hskip (fun _ _ hA hW _ hroom _ hrest => L.nativeOff p htr hA hW hroom hrest) hselF hvSen tkC tkP tkM Y.objLocals rfl hfr' hwd'
  rw [plainBareV_eq T.toThrowableT (W.heap.size + 2) u0 sen (.ref (W.heap.size + 1)) W.cur rfl rfl] at st
  obtain ⟨-, -, w3, w4, -, -, -⟩ := withThrown_facts e.platform W Zs text P1.m.cls kX
  have X3 := ((X.pushed (bytesOf Zs.cB (stringToUtf16 text))).pushed (stringAt Zs.cS Zs.kS Zs.fv Zs.fc (stringToUtf16 text) W.heap.size)).pushed (freshCell P1.m.cls kX)
  rw [← withString_eq] at X3
  have X4 := X3.noted hW'
  have ha : (W.heap.size + 2) < ((withThrown W Zs text P1.m.cls kX).setVm vm').heap.size := by show _ < (withThrown W Zs text P1.m.cls kX).heap.size; rw [w3]; omega
  have hcell : ((withThrown W Zs text P1.m.cls kX).setVm vm').heap[(W.heap.size + 2)]? = some (freshCell P1.m.cls kX) := w4
  have X5 := ((((X4.stored hcell T.fCause.slot (.ref (W.heap.size + 2))).storedAgain ha T.fStack.slot u0.v).storedAgain ha T.fSupp.slot sen.v).storedAgain ha T.fStack.slot u0.v).storedAgain ha T.fMsg.slot (.ref (W.heap.size + 1))
  obtain ⟨g₁, hfrM⟩ := X5.frames_eq
  have hU : ((((withThrown W Zs text P1.m.cls kX).setVm vm').setCell (W.heap.size + 2) (plainBareV T.toThrowableT (freshCell P1.m.cls kX) (W.heap.size + 2) u0 sen (.ref (W.heap.size + 1)))).setTop g).pushFrame (.throwing (W.heap.size + 2)) = (((withThrown W Zs text P1.m.cls kX).setVm vm').setCell (W.heap.size + 2) (plainBareV T.toThrowableT (freshCell P1.m.cls kX) (W.heap.size + 2) u0 sen (.ref (W.heap.size + 1)))).setFrames (.throwing (W.heap.size + 2) :: .java g :: below) := by
    rw [State.pushFrame, State.frames_setTop _ hfrM, State.setTop_of_frames _ hfrM, State.setFrames_setFrames]
  have b1 : (bytesOf Zs.cB (stringToUtf16 text)).slots.size = (stringBytes (stringToUtf16 text)).size := by
    rw [(Cell.writeAll_facts _ _).2.2]; simp [bytes0]
  have b2 : (stringAt Zs.cS Zs.kS Zs.fv Zs.fc (stringToUtf16 text) W.heap.size).slots.size = 4 := by simp [string0, Cell.setSlot, hn4]
  have b3 : (freshCell P1.m.cls kX).slots.size = 6 := by simp [hn6]
  rw [b1, b2, b3] at X5
  have e9 : slots + (stringBytes (stringToUtf16 text)).size + 4 + 6 = slots + ((stringBytes (stringToUtf16 text)).size + 4 + 6) := by omega
  rw [e9] at X5
  simp only [List.append_assoc, List.cons_append, List.nil_append] at X5
  refine ⟨((withThrown W Zs text P1.m.cls kX).setVm vm').setCell (W.heap.size + 2) (plainBareV T.toThrowableT (freshCell P1.m.cls kX) (W.heap.size + 2) u0 sen (.ref (W.heap.size + 1))), W.heap.size + 2, _, fun target ht => st _ (by rw [X.tail, ← hU]; exact ht),
    X5.forget (fun y hy => ?_), heapAt_setCell_self _ ha, hfound, rfl⟩
  simp only [List.mem_cons, List.not_mem_nil, or_false] at hy
  have hge : s.heap.size ≤ W.heap.size := X.same.2.1
  rcases hy with rfl | rfl | rfl | rfl | rfl <;> exact Nat.le_trans hge (Nat.le_add_right _ 2)
set_option maxHeartbeats 1000000 in
/-- the machine throws NullPointerException, no traces kept: from its note over the frame g to 'throwing' over the same frame (follows the proof of Stand.vmThrowsNpe, Shelf42/KT2.lean; throwsNpeColdBareVAt, Shelf42/NT91.lean, called) -/
theorem vx_npeAt {p : Program} {l : Launch} {e : Env} {R : Room} {s : State} {m₀ : MethodId} {args : Array Value} {below : List Frame} {meth : Method} {c : Code} {W : State} {locs : List Loc} {cells slots : Nat}
    (X : Stand p l e R s m₀ args below meth c W locs cells slots) (hexec : p.tables.exec = Jvm.exec) (htr : e.platform.stackTraces = false) {n : Nat}
    (h : ∀ a ∈ Bundle.npeArmAtoms n, a.before args s = true)
    (hlocs : ∀ x ∈ locs, ∀ cell, s.heap[x.base]? = some cell → cell.vm.isStatics = false)
    {g : JFrame} (hg : g.method = m₀) (hsize : g.locals.size = c.maxLocals)
    (hRframes : 7 < R.frames) (hRlocals : 2 * g.monitorRoom + (g.stack.map fun v => v.category).sum + 10240 ≤ R.locals)
    (hRcells : cells + 1 ≤ R.cells) (hRslots : slots + n ≤ R.slots) (hlocks : meth.locks = false) :
    ∃ (S : State) (q : Addr) (ce : Cell), (∀ target, Steps p.tables e below ((S.setTop g).pushFrame (.throwing q)) target → Steps p.tables e below ((W.setTop g).pushFrame (.throwNew "java/lang/NullPointerException" none none)) target) ∧
      Stand p l e R s m₀ args below meth c S locs (cells + 1) (slots + n) ∧ S.heap[q]? = some ce ∧ s.vm.findClass "java/lang/NullPointerException" = some ce.cls ∧ ce.vm = .none := by
  have howns : e.platform.frameOwnsMonitors = true := by rw [X.admits.platform]
  have hfin : e.platform.finalization = false := by rw [X.admits.platform]
  have hpl : e.platform.magicAccessors = ({} : Platform).magicAccessors := by rw [X.admits.platform]
  have hpl2 : e.platform.arrayCloneIsPublic = true := by rw [X.admits.platform]
  have a' : ∀ x, x ∈ Bundle.npeArmAtoms n → x.holds args s none s [] = true := fun x hx => h x hx
  obtain ⟨T, Z, L, LZ, Y⟩ := ThrowableC.of_atoms (args := args) howns hfin hpl (fun x hx => h x (by simp [Bundle.npeArmAtoms, hx]))
  obtain ⟨N, LN, hcN, hnNF, hordN, hffS⟩ := NpeC.of_atoms (args := args) hpl hpl2 L Y (fun x hx => h x (by simp [Bundle.npeArmAtoms, hx]))
  obtain ⟨P1, L1, hP1m, hP1s⟩ := PassC.of_atoms (args := args) (s := s) hpl (X := Bundle.nN) (Y := Bundle.rN) (by decide) (by decide) LibCode.NullPointerException.Init0.at_0 LibCode.NullPointerException.Init0.at_1 LibCode.NullPointerException.Init0.at_4 (fun x hx => h x (by simp [Bundle.npeArmAtoms, hx]))
  obtain ⟨PR, LR, hPRm, hPRs⟩ := PassC.of_atoms (args := args) (s := s) hpl (X := Bundle.rN) (Y := Bundle.eN) (by decide) (by decide) LibCode.RuntimeException.Init0.at_0 LibCode.RuntimeException.Init0.at_1 LibCode.RuntimeException.Init0.at_4 (fun x hx => h x (by simp [Bundle.npeArmAtoms, hx]))
  obtain ⟨PE, LEx, hPEm, hPEs⟩ := PassC.of_atoms (args := args) (s := s) hpl (X := Bundle.eN) (Y := Bundle.tN) (by decide) (by decide) LibCode.Exception.Init0.at_0 LibCode.Exception.Init0.at_1 LibCode.Exception.Init0.at_4 (fun x hx => h x (by simp [Bundle.npeArmAtoms, hx]))
  have hfound : s.vm.findClass Bundle.nN = some P1.m.cls := findClass_of_methodNamed hP1m
  have ecls : N.cN = P1.m.cls := Option.some.inj (hcN.symm.trans hfound)
  have hk : s.vm.classes[P1.m.cls]? = some N.kN := by rw [← ecls]; exact LN.cls
  have hinit := Cond.initialized_spec hfound hk (a' (.initialized Bundle.nN) (by simp [Bundle.npeArmAtoms]))
  have hctor : N.kN.findMethod "<init>" "()V" = some P1.m.idx := findMethod_of_methodNamed hP1m hk
  obtain ⟨c1, k1, hc1, hk1, -, -, -, hn⟩ := Cond.instantiable_spec (a' (.instantiable Bundle.nN n) (by simp [Bundle.npeArmAtoms]))
  cases Option.some.inj (hc1.symm.trans hfound)
  cases Option.some.inj (hk1.symm.trans hk)
  have hfsz : (freshCell P1.m.cls N.kN).slots.size = n := by simp [hn]
  have hlink1 : P1.sup = PR.m := Option.some.inj (hP1s.symm.trans hPRm)
  have hlinkR : PR.sup = PE.m := Option.some.inj (hPRs.symm.trans hPEm)
  have hlinkE : PE.sup = Z.m T.toThrowableT := Option.some.inj (hPEs.symm.trans Y.init0)
  have hLs : ∀ P, P ∈ [PR, PE] → P.Links0 e.platform s := fun P hP => by
    simp only [List.mem_cons, List.not_mem_nil, or_false] at hP
    rcases hP with rfl | rfl
    · exact LR
    · exact LEx
  have hsel0 : selectMethod e.platform s.vm P1.m.cls T.fill0 = .method T.fill0 := by
    obtain ⟨c2, r2, m2, q1, q2, q3, q4, -⟩ := Cond.selects_spec (a' (.selects Bundle.nN Bundle.tFill0 Bundle.tFill0) (by simp [Bundle.npeArmAtoms]))
    cases Option.some.inj (q1.symm.trans hfound)
    cases Option.some.inj (q2.symm.trans (State.methodFound?_of_named Y.fill0 (by decide)))
    cases Option.some.inj (q3.symm.trans Y.fill0)
    rw [Launch.admits_selectMethod X.admits]; exact q4
  have hselF : selectMethod e.platform s.vm P1.m.cls T.fill = .method N.fill := by
    obtain ⟨c2, r2, m2, q1, q2, q3, q4, -⟩ := Cond.selects_spec (a' (.selects Bundle.nN Bundle.tFill Bundle.nFill) (by simp [Bundle.npeArmAtoms]))
    cases Option.some.inj (q1.symm.trans hfound)
    cases Option.some.inj (q2.symm.trans (State.methodFound?_of_named Y.fill (by decide)))
    cases Option.some.inj (q3.symm.trans hnNF)
    rw [Launch.admits_selectMethod X.admits]; exact q4
  obtain ⟨cellS0, hcS0, hiss⟩ := Y.statics
  obtain ⟨u0, hu0⟩ := Cond.staticRefV Y.unassigned L.unassignedStatic L.statics hcS0 hiss (a' (.isRef (.static Bundle.tN "UNASSIGNED_STACK" Bundle.steD)) (by simp [Bundle.npeArmAtoms]))
  obtain ⟨sen, hsen⟩ := Cond.staticRefV Y.sentinel L.sentinelStatic L.statics hcS0 hiss (a' (.isRef (.static Bundle.tN "SUPPRESSED_SENTINEL" Bundle.listD)) (by simp [Bundle.npeArmAtoms]))
  obtain ⟨ci198, i198, fB, hk198, hg198, ha198, hsB, -, hnB, htB, hffB⟩ := Cond.ownField (t := .object "java/lang/Object") Y.found L.cls (by decide +kernel) (a' (.fieldLink Bundle.tN 198 Bundle.tN "backtrace" Bundle.objD) (by simp [Bundle.npeArmAtoms])) (a' (.lays Bundle.tN Bundle.tN "backtrace" Bundle.objD) (by simp [Bundle.npeArmAtoms])) e.platform hpl
  obtain ⟨cellS, hcS', heS, -, hkeep⟩ := X.same.2.2.2.2.2 T.aS cellS0 hcS0
  have hcellS : W.heap[T.aS]? = some cellS := hcS'
  have hout' : ∀ i, (⟨T.aS, i⟩ : Loc) ∉ locs := fun i hmem => by
    have := hlocs _ hmem cellS0 hcS0
    rw [hiss] at this; cases this
  have hknownS : cellS.vm ≠ .unknown := by
    rw [heS]; intro hu
    rw [show cellS0.vm = .unknown from hu] at hiss
    cases hiss
  have hvU : cellS.slots[T.fUnassigned.slot]? = some u0.v := by rw [hkeep _ (hout' _)]; exact hu0
  have hvSen : cellS.slots[T.fSentinel.slot]? = some sen.v := by rw [hkeep _ (hout' _)]; exact hsen
  obtain ⟨tyC, dC, hdC, hdnC⟩ := Cond.laysAt hfound hk Y.cause (a' (.lays Bundle.nN Bundle.tN "cause" "Ljava/lang/Throwable;") (by simp [Bundle.npeArmAtoms]))
  obtain ⟨tyS, dS, hdS, hdnS⟩ := Cond.laysAt hfound hk Y.stack (a' (.lays Bundle.nN Bundle.tN "stackTrace" Bundle.steD) (by simp [Bundle.npeArmAtoms]))
  obtain ⟨tyP, dP, hdP, hdnP⟩ := Cond.laysAt hfound hk Y.supp (a' (.lays Bundle.nN Bundle.tN "suppressedExceptions" Bundle.listD) (by simp [Bundle.npeArmAtoms]))
  obtain ⟨tyX, dX, hdX, hdnX⟩ := Cond.laysAt hfound hk hffS (a' (.lays Bundle.nN Bundle.nN "extendedMessageState" "I") (by simp [Bundle.npeArmAtoms, Bundle.npeAtoms]))
  obtain ⟨hnX, htX⟩ := State.fieldFound?_type hffS (t := .int) (by decide +kernel)
  have xC := Cond.laysApart hdC hdX hdnC hdnX (by rw [hnX, Y.causeName]; decide)
  have xS := Cond.laysApart hdS hdX hdnS hdnX (by rw [hnX, Y.stackName]; decide)
  have xP := Cond.laysApart hdP hdX hdnP hdnX (by rw [hnX, Y.suppName]; decide)
  have hv0 : (freshCell P1.m.cls N.kN).slots[N.fState.slot]? = some (.int 0) := by
    have := fresh_default (c := P1.m.cls) tyX
    rw [htX] at this; exact this
  obtain ⟨tyB, dB, hdB, hdnB⟩ := Cond.laysAt hfound hk hffB (a' (.lays Bundle.nN Bundle.tN "backtrace" Bundle.objD) (by simp [Bundle.npeArmAtoms]))
  have bC := Cond.laysApart hdB hdC hdnB hdnC (by rw [hnB, Y.causeName]; decide)
  have bS := Cond.laysApart hdB hdS hdnB hdnS (by rw [hnB, Y.stackName]; decide)
  have bP := Cond.laysApart hdB hdP hdnB hdnP (by rw [hnB, Y.suppName]; decide)
  have bX := Cond.laysApart hdB hdX hdnB hdnX (by rw [hnB, hnX]; decide)
  have hbk : ((npeCell N.toNpeT (preparedCellV T.toThrowableT (freshCell P1.m.cls N.kN) W.heap.size u0 sen) W.cur).withEntry W.cur).slots[fB.slot]? = some .null := by
    have := fresh_default (c := P1.m.cls) tyB
    rw [htB] at this
    simpa [npeCell, preparedCellV, Cell.setSlot, Cell.withEntry, Array.getElem?_setIfInBounds, bC, bS, bP, bX, bC.symm, bS.symm, bP.symm, bX.symm, defaultValue] using this
  have tkC := Takes.of_laid (v := .ref W.heap.size) hk hordN tyC (by rw [Y.causeType]; rfl)
  have tkS := Takes.of_laid (v := u0.v) hk hordN tyS (by rw [Y.stackType]; exact fits_refV_array _ u0)
  have tkP := Takes.of_laid (v := sen.v) hk hordN tyP (by rw [Y.suppType]; exact fits_refV_object _ sen)
  have tkX := Takes.of_laid (v := .int 1) hk hordN tyX (by rw [htX]; rfl)
  have hskip : SkipFacts T e.platform s (fun u => u) u0 ((npeCell N.toNpeT (preparedCellV T.toThrowableT (freshCell P1.m.cls N.kN) W.heap.size u0 sen) W.cur).withEntry W.cur) := ⟨{ ci198 := ci198, i198 := i198, fBack := fB }, ⟨hk198, hg198, ha198, hsB⟩, hbk, fun _ _ => rfl⟩
  obtain ⟨vm', X3, st, -⟩ := X.throwsNpeColdBareVAt hexec hg hsize T L Z LZ N LN P1 L1 [PR, PE] hLs hlink1 ⟨hlinkR, hlinkE, trivial⟩ hfound hk hinit hordN hctor hsel0 hselF hcellS hknownS hvU hvSen
    hv0 xC xS xP tkC tkS tkP tkX Y.objLocals hskip (fun _ _ hA hW _ hroom _ hrest => L.nativeOff p htr hA hW hroom hrest) (by simpa using hRframes) hRlocals (by simp) hRcells (by rw [hn]; exact hRslots)
  have hlt : W.heap.size < ((W.pushCell (freshCell P1.m.cls N.kN)).setVm vm').heap.size := by
    show W.heap.size < (W.pushCell (freshCell P1.m.cls N.kN)).heap.size
    rw [State.heap_size_pushCell]; omega
  rw [hfsz] at X3
  obtain ⟨g₁, hfrM⟩ := X3.frames_eq
  have hU : ((((W.pushCell (freshCell P1.m.cls N.kN)).setVm vm').setCell W.heap.size (npeBareV T.toThrowableT N.toNpeT (freshCell P1.m.cls N.kN) W.heap.size u0 sen)).setTop g).pushFrame (.throwing W.heap.size) = (((W.pushCell (freshCell P1.m.cls N.kN)).setVm vm').setCell W.heap.size (npeBareV T.toThrowableT N.toNpeT (freshCell P1.m.cls N.kN) W.heap.size u0 sen)).setFrames (.throwing W.heap.size :: .java g :: below) := by
    rw [State.pushFrame, State.frames_setTop _ hfrM, State.setTop_of_frames _ hfrM, State.setFrames_setFrames]
  refine ⟨_, W.heap.size, _, fun target ht => st.trans (by rw [← hU]; exact ht), X3.forget (fun y hy => ?_), heapAt_setCell_self _ hlt, hfound, rfl⟩
  simp only [List.mem_cons, List.not_mem_nil, or_false] at hy
  have hge : s.heap.size ≤ W.heap.size := X.same.2.1
  rcases hy with rfl | rfl | rfl | rfl | rfl <;> exact hge
/-- the words of a machine's NullPointerException, but the four that speak of the heap -/
def vx_atN (n : Nat) : List Cond := (Bundle.npeArmAtoms n).filter vx_no
/-- the words of a machine's throw with a message, but the four that speak of the heap -/
def vx_atM (X : String) (names : List String) : List Cond := (Bundle.messageArmAtoms X names).filter vx_no
section
variable {p : Program} {l : Launch} {e : Env} {R : Room} {s : State} {m : MethodId} {args : Array Value} {below : List Frame} {meth : Method} {c : Code} {H : Heap} {locs : List Loc} {cells slots : Nat}
/-- a frame seen from a rebased start, seen from the first start again -/
theorem vx_back9 {T S : State} {R' : Room} {k n : Nat} (X : Stand p l e R s m args below meth c T locs cells slots) (Y : Stand p l e R' ((T.setVm s.vm).setFrames (.invoking m args :: below)) m args below meth c T [] 0 0) (Z : Stand p l e R' ((T.setVm s.vm).setFrames (.invoking m args :: below)) m args below meth c S [] k n) :
    Stand p l e R s m args below meth c S locs (cells + k) (slots + n) := by
  have hW0 : s.WarmedH ((T.setVm s.vm).setFrames (.invoking m args :: below)).vm := State.WarmedH.refl s
  refine { admits := X.admits, cas := X.cas, clock := X.clock, frames := X.frames, room := X.room, hears := X.hears, method := X.method, code := X.code, here := Z.here, tail := Z.tail, warmed := State.WarmedH.trans hW0 Z.warmed, limits := Z.limits.trans (Y.limits.symm.trans X.limits), bytes := Z.bytes.trans (Y.bytes.symm.trans X.bytes), same := ?_ }
  obtain ⟨e1, e2⟩ := Z.same
  rw [State.setFrames_setFrames] at e1
  have h2 : (T.setVm s.vm).sameButNew (S.setVm s.vm) [] k n := ⟨e1, e2⟩
  have h3 := X.same.trans h2
  rw [List.append_nil] at h3
  exact h3
/-- from the machine's note that E is thrown here with this text -/
def vx_Note (p : Program) (l : Launch) (e : Env) (R : Room) (s : State) (m : MethodId) (args : Array Value) (below : List Frame) (meth : Method) (c : Code) (H : Heap) (locs : List Loc) (cells slots : Nat) (Q : State → Prop) (g : JFrame) (E text : String) : Prop :=
  ∀ T : State, T.heap = H → Stand p l e R s m args below meth c T locs cells slots → ∃ t, Steps p.tables e below ((T.setTop g).pushFrame (.throwNew E (some text) none)) t ∧ Q t
theorem vx_vm {pc : Nat} {ls : Array Slot} {rest : List Value} {Q : State → Prop} (hexec : p.tables.exec = Jvm.exec) (hl : l.stackTraces = false) {cls text : String} {names : List String} {nb : Nat} {A : Nat → Prop}
    (hcls : Bundle.fit cls = true) (hnames : ∀ n ∈ names, Bundle.fit n = true) (hsoe : (cls == "java/lang/StackOverflowError") = false) (hoom : (cls == "java/lang/OutOfMemoryError") = false)
    (hat : ∀ w ∈ vx_atM cls names, w.before args s = true) (hgood : ∀ w ∈ vx_atM cls names, vx_ot w = true)
    (hU : vx_Zq Bundle.tN "UNASSIGNED_STACK" Bundle.steD A s s.heap) (hN : vx_Zq Bundle.tN "SUPPRESSED_SENTINEL" Bundle.listD A s s.heap) (hS : va_S A s.heap H locs) (hsize : ls.size = c.maxLocals)
    (htext : (text == notModelled) = false) (hnb : (stringBytes (stringToUtf16 text)).size ≤ nb) (hnb1 : nb ≤ 1000)
    (hRframes : names.length + 4 < R.frames) (hRlocals : (rest.map fun v => v.category).sum + 10240 ≤ R.locals) (hshort : 13 * names.length + 55 ≤ 10240) (hRcells : cells + 3 ≤ R.cells) (hRslots : slots + (nb + 10) ≤ R.slots) (hlocks : meth.locks = false)
    (k : ∀ (H1 : Heap) (q9 : Addr) (ce : Cell), H.size ≤ H1.size → (∀ q : Nat, q < H.size → H1[q]? = H[q]?) → va_S A s.heap H1 locs → H1[q9]? = some ce → ce.vm = .none → s.vm.findClass cls = some ce.cls → vx_W p l e R s m args below meth c H1 locs (cells + 3) (slots + (nb + 10)) Q (F0 m pc ls rest) q9) :
    vx_Note p l e R s m args below meth c H locs cells slots Q (F0 m pc ls rest) cls text := by
  intro T hT X
  have htr : e.platform.stackTraces = false := (show e.platform.stackTraces = l.stackTraces by rw [X.admits.platform]).trans hl
  have Y := vx_rebase X (R' := { frames := R.frames, locals := R.locals, cells := 3, slots := nb + 10 }) (Nat.le_refl _) (Nat.le_refl _) hRcells hRslots
  have hhp : ((T.setVm s.vm).setFrames (.invoking m args :: below)).heap = H := hT
  have hW0 : s.WarmedH ((T.setVm s.vm).setFrames (.invoking m args :: below)).vm := State.WarmedH.refl s
  have hat' : ∀ w ∈ vx_atM cls names, w.before args ((T.setVm s.vm).setFrames (.invoking m args :: below)) = true := fun w hw => vx_ot_at hW0 rfl (hgood w hw) (hat w hw)
  have hU' : vx_Zq Bundle.tN "UNASSIGNED_STACK" Bundle.steD A ((T.setVm s.vm).setFrames (.invoking m args :: below)) ((T.setVm s.vm).setFrames (.invoking m args :: below)).heap := by rw [hhp]; exact vx_Zq.moved hW0.alike (hU.kept hS.2.1)
  have hN' : vx_Zq Bundle.tN "SUPPRESSED_SENTINEL" Bundle.listD A ((T.setVm s.vm).setFrames (.invoking m args :: below)) ((T.setVm s.vm).setFrames (.invoking m args :: below)).heap := by rw [hhp]; exact vx_Zq.moved hW0.alike (hN.kept hS.2.1)
  obtain ⟨S, q, ce, st, Z, hce, hcl', hv⟩ := vx_vmAt Y hexec htr (cls := cls) (names := names) (text := text) hcls hnames hsoe hoom (vx_own hat' (vx_isRefq hU'.1) (vx_isRefq hN'.1) hU'.2.word hN'.2.word) (fun x hx => nomatch hx) htext
    (by rw [Launch.admits_arrayLengthLimit X.admits]; omega) (by rw [Launch.admits_maxHeapBytes X.admits]; simp only [componentBytes]; omega)
    (g := F0 m pc ls rest) rfl hsize hRframes (by show 2 * 0 + (rest.map fun v => v.category).sum + 10240 ≤ R.locals; omega) hshort (by show 0 + 3 ≤ 3; omega) (by show 0 + (_ + 4 + 6) ≤ nb + 10; omega) hlocks
  obtain ⟨f1, f2⟩ := vx_frame Z.same
  have f1' : H.size ≤ S.heap.size := by rw [← hT]; exact f1
  have f2' : ∀ q : Nat, q < H.size → S.heap[q]? = H[q]? := fun q hq => by
    rw [← hT]
    exact f2 q (by rw [← hT] at hq; exact hq) (fun z hz => nomatch hz)
  have X5 := vx_back9 X Y Z
  have X6 : Stand p l e R s m args below meth c S locs (cells + 3) (slots + (nb + 10)) := { X5 with same := X5.same.mono (by omega) (by omega) }
  obtain ⟨t, a1, b1⟩ := k S.heap q ce f1' f2' ⟨Nat.le_trans hS.1 f1', fun q h1 h2 => (f2' q (Nat.lt_of_lt_of_le h1 hS.1)).trans (hS.2.1 q h1 h2), hS.2.2⟩ hce hv hcl' S rfl X6
  exact ⟨t, st t a1, b1⟩
/-- from the machine's note that NullPointerException is thrown here -/
def vx_NoteN (p : Program) (l : Launch) (e : Env) (R : Room) (s : State) (m : MethodId) (args : Array Value) (below : List Frame) (meth : Method) (c : Code) (H : Heap) (locs : List Loc) (cells slots : Nat) (Q : State → Prop) (g : JFrame) : Prop :=
  ∀ T : State, T.heap = H → Stand p l e R s m args below meth c T locs cells slots → ∃ t, Steps p.tables e below ((T.setTop g).pushFrame (.throwNew "java/lang/NullPointerException" none none)) t ∧ Q t
theorem vx_npe {pc : Nat} {ls : Array Slot} {rest : List Value} {Q : State → Prop} (hexec : p.tables.exec = Jvm.exec) (hl : l.stackTraces = false) {nb : Nat} {A : Nat → Prop}
    (hat : ∀ w ∈ vx_atN nb, w.before args s = true) (hgood : ∀ w ∈ vx_atN nb, vx_ot w = true)
    (hU : vx_Zq Bundle.tN "UNASSIGNED_STACK" Bundle.steD A s s.heap) (hN : vx_Zq Bundle.tN "SUPPRESSED_SENTINEL" Bundle.listD A s s.heap) (hS : va_S A s.heap H locs) (hsize : ls.size = c.maxLocals)
    (hRframes : 7 < R.frames) (hRlocals : (rest.map fun v => v.category).sum + 10240 ≤ R.locals) (hRcells : cells + 1 ≤ R.cells) (hRslots : slots + nb ≤ R.slots) (hlocks : meth.locks = false)
    (k : ∀ (H1 : Heap) (q9 : Addr) (ce : Cell), H.size ≤ H1.size → (∀ q : Nat, q < H.size → H1[q]? = H[q]?) → va_S A s.heap H1 locs → H1[q9]? = some ce → ce.vm = .none → s.vm.findClass "java/lang/NullPointerException" = some ce.cls → vx_W p l e R s m args below meth c H1 locs (cells + 1) (slots + nb) Q (F0 m pc ls rest) q9) :
    vx_NoteN p l e R s m args below meth c H locs cells slots Q (F0 m pc ls rest) := by
  intro T hT X
  have htr : e.platform.stackTraces = false := (show e.platform.stackTraces = l.stackTraces by rw [X.admits.platform]).trans hl
  have Y := vx_rebase X (R' := { frames := R.frames, locals := R.locals, cells := 1, slots := nb }) (Nat.le_refl _) (Nat.le_refl _) hRcells hRslots
  have hhp : ((T.setVm s.vm).setFrames (.invoking m args :: below)).heap = H := hT
  have hW0 : s.WarmedH ((T.setVm s.vm).setFrames (.invoking m args :: below)).vm := State.WarmedH.refl s
  have hat' : ∀ w ∈ vx_atN nb, w.before args ((T.setVm s.vm).setFrames (.invoking m args :: below)) = true := fun w hw => vx_ot_at hW0 rfl (hgood w hw) (hat w hw)
  have hU' : vx_Zq Bundle.tN "UNASSIGNED_STACK" Bundle.steD A ((T.setVm s.vm).setFrames (.invoking m args :: below)) ((T.setVm s.vm).setFrames (.invoking m args :: below)).heap := by rw [hhp]; exact vx_Zq.moved hW0.alike (hU.kept hS.2.1)
  have hN' : vx_Zq Bundle.tN "SUPPRESSED_SENTINEL" Bundle.listD A ((T.setVm s.vm).setFrames (.invoking m args :: below)) ((T.setVm s.vm).setFrames (.invoking m args :: below)).heap := by rw [hhp]; exact vx_Zq.moved hW0.alike (hN.kept hS.2.1)
  obtain ⟨S, q, ce, st, Z, hce, hcl', hv⟩ := vx_npeAt Y hexec htr (n := nb) (vx_own hat' (vx_isRefq hU'.1) (vx_isRefq hN'.1) hU'.2.word hN'.2.word) (fun x hx => nomatch hx)
    (g := F0 m pc ls rest) rfl hsize hRframes (by show 2 * 0 + (rest.map fun v => v.category).sum + 10240 ≤ R.locals; omega) (by show 0 + 1 ≤ 1; omega) (by show 0 + nb ≤ nb; omega) hlocks
  obtain ⟨f1, f2⟩ := vx_frame Z.same
  have f1' : H.size ≤ S.heap.size := by rw [← hT]; exact f1
  have f2' : ∀ q : Nat, q < H.size → S.heap[q]? = H[q]? := fun q hq => by
    rw [← hT]
    exact f2 q (by rw [← hT] at hq; exact hq) (fun z hz => nomatch hz)
  have X5 := vx_back9 X Y Z
  have X6 : Stand p l e R s m args below meth c S locs (cells + 1) (slots + nb) := { X5 with same := X5.same.mono (by omega) (by omega) }
  obtain ⟨t, a1, b1⟩ := k S.heap q ce f1' f2' ⟨Nat.le_trans hS.1 f1', fun q h1 h2 => (f2' q (Nat.lt_of_lt_of_le h1 hS.1)).trans (hS.2.1 q h1 h2), hS.2.2⟩ hce hv hcl' S rfl X6
  exact ⟨t, st t a1, b1⟩
variable {Q : State → Prop} {cc : ByteArray} {pc : Nat} {ls : Array Slot} {rest : List Value}
theorem vx_idivZ (hexec : p.tables.exec = Jvm.exec) (hb : c.code = cc) {a b : Int32} (h0 : b = 0) (d : decode cc pc = .ok (.idiv, 1)) (k : vx_Note p l e R s m args below meth c H locs cells slots Q (F0 m pc ls rest) "java/lang/ArithmeticException" "/ by zero") :
    W p l e R s m args below meth c H locs cells slots Q (F0 m pc ls (.int b :: .int a :: rest)) := by
  intro T hT X
  obtain ⟨t, st, q⟩ := k T hT X
  exact ⟨t, X.idivZero hexec (g := F0 m pc ls (.int b :: .int a :: rest)) rfl (a := a) (rest := rest) (by rw [h0]) (by rw [hb]; exact d) t st, q⟩
theorem vx_iremZ (hexec : p.tables.exec = Jvm.exec) (hb : c.code = cc) {a b : Int32} (h0 : b = 0) (d : decode cc pc = .ok (.irem, 1)) (k : vx_Note p l e R s m args below meth c H locs cells slots Q (F0 m pc ls rest) "java/lang/ArithmeticException" "/ by zero") :
    W p l e R s m args below meth c H locs cells slots Q (F0 m pc ls (.int b :: .int a :: rest)) := by
  intro T hT X
  obtain ⟨t, st, q⟩ := k T hT X
  exact ⟨t, X.iremZero hexec (g := F0 m pc ls (.int b :: .int a :: rest)) rfl (a := a) (rest := rest) (by rw [h0]) (by rw [hb]; exact d) t st, q⟩
theorem vx_ldivZ (hexec : p.tables.exec = Jvm.exec) (hb : c.code = cc) {a b : Int64} (h0 : b = 0) (d : decode cc pc = .ok (.ldiv, 1)) (k : vx_Note p l e R s m args below meth c H locs cells slots Q (F0 m pc ls rest) "java/lang/ArithmeticException" "/ by zero") :
    W p l e R s m args below meth c H locs cells slots Q (F0 m pc ls (.long b :: .long a :: rest)) := by
  intro T hT X
  obtain ⟨t, st, q⟩ := k T hT X
  exact ⟨t, X.ldivZero hexec (g := F0 m pc ls (.long b :: .long a :: rest)) rfl (a := a) (rest := rest) (by rw [h0]) (by rw [hb]; exact d) t st, q⟩
theorem vx_lremZ (hexec : p.tables.exec = Jvm.exec) (hb : c.code = cc) {a b : Int64} (h0 : b = 0) (d : decode cc pc = .ok (.lrem, 1)) (k : vx_Note p l e R s m args below meth c H locs cells slots Q (F0 m pc ls rest) "java/lang/ArithmeticException" "/ by zero") :
    W p l e R s m args below meth c H locs cells slots Q (F0 m pc ls (.long b :: .long a :: rest)) := by
  intro T hT X
  obtain ⟨t, st, q⟩ := k T hT X
  exact ⟨t, X.lremZero hexec (g := F0 m pc ls (.long b :: .long a :: rest)) rfl (a := a) (rest := rest) (by rw [h0]) (by rw [hb]; exact d) t st, q⟩
theorem vx_ialdZ {D : va_G} {cl : List vw_C} {ws : va_W} {tys : List (ClassId × FieldType)} {a : Nat} (hexec : p.tables.exec = Jvm.exec) (hb : c.code = cc) (hK : va_K D cl tys s) (hP : va_P D cl ws H) (q0 t0 : Nat) {cA : ClassId} {n : Nat} {f : Nat → Int32} (ha : ws[q0]? = some (a, .inl (cA, n, .inl f))) (ht : tys[t0]? = some (cA, .int)) {i : Int32} (hout : ¬ vp_in i n) (hdg : decode cc pc = .ok (.iaload, 1))
    (k : ∀ tx : String, tx = (toString "Index " ++ toString i ++ toString " out of bounds for length " ++ toString n : String) → vx_Note p l e R s m args below meth c H locs cells slots Q (F0 m pc ls rest) "java/lang/ArrayIndexOutOfBoundsException" tx) : W p l e R s m args below meth c H locs cells slots Q (F0 m pc ls (.int i :: .ref a :: rest)) := by
  intro T hT X
  obtain ⟨t, st, q⟩ := k _ rfl T hT X
  refine ⟨t, ?_, q⟩
  have h1 := X.ialoadOut hexec (by rw [hT]; exact hP q0 _ ha) ((hK.2 t0 _ ht).1 n (fun j => .int (f j))) (j := i) (by show (i < 0 ∨ (arrV _ _ _).slots.size ≤ _); rw [arrV_size]; exact Classical.byContradiction hout) (g := F0 m pc ls (.int i :: .ref a :: rest)) rfl (rest := rest) rfl (by rw [hb]; exact hdg) t
  simp only [arrV_size] at h1
  exact h1 st
theorem vx_iastZ {D : va_G} {cl : List vw_C} {ws : va_W} {tys : List (ClassId × FieldType)} {a : Nat} (hexec : p.tables.exec = Jvm.exec) (hb : c.code = cc) (hK : va_K D cl tys s) (hP : va_P D cl ws H) (q0 t0 : Nat) {cA : ClassId} {n : Nat} {f : Nat → Int32} (ha : ws[q0]? = some (a, .inl (cA, n, .inl f))) (ht : tys[t0]? = some (cA, .int)) {i : Int32} {x : Int32} (hout : ¬ vp_in i n) (hdg : decode cc pc = .ok (.iastore, 1))
    (k : ∀ tx : String, tx = (toString "Index " ++ toString i ++ toString " out of bounds for length " ++ toString n : String) → vx_Note p l e R s m args below meth c H locs cells slots Q (F0 m pc ls rest) "java/lang/ArrayIndexOutOfBoundsException" tx) : W p l e R s m args below meth c H locs cells slots Q (F0 m pc ls (.int x :: .int i :: .ref a :: rest)) := by
  intro T hT X
  obtain ⟨t, st, q⟩ := k _ rfl T hT X
  refine ⟨t, ?_, q⟩
  have h1 := X.iastoreOut hexec (by rw [hT]; exact hP q0 _ ha) ((hK.2 t0 _ ht).1 n (fun j => .int (f j))) (j := i) (by show (i < 0 ∨ (arrV _ _ _).slots.size ≤ _); rw [arrV_size]; exact Classical.byContradiction hout) (g := F0 m pc ls (.int x :: .int i :: .ref a :: rest)) rfl (rest := rest) rfl (by rw [hb]; exact hdg) t
  simp only [arrV_size] at h1
  exact h1 st
theorem vx_baldZ {D : va_G} {cl : List vw_C} {ws : va_W} {tys : List (ClassId × FieldType)} {a : Nat} (hexec : p.tables.exec = Jvm.exec) (hb : c.code = cc) (hK : va_K D cl tys s) (hP : va_P D cl ws H) (q0 t0 : Nat) {cA : ClassId} {n : Nat} {f : Nat → Int32} (ha : ws[q0]? = some (a, .inl (cA, n, .inl f))) (ht : tys[t0]? = some (cA, .byte)) {i : Int32} (hout : ¬ vp_in i n) (hdg : decode cc pc = .ok (.baload, 1))
    (k : ∀ tx : String, tx = (toString "Index " ++ toString i ++ toString " out of bounds for length " ++ toString n : String) → vx_Note p l e R s m args below meth c H locs cells slots Q (F0 m pc ls rest) "java/lang/ArrayIndexOutOfBoundsException" tx) : W p l e R s m args below meth c H locs cells slots Q (F0 m pc ls (.int i :: .ref a :: rest)) := by
  intro T hT X
  obtain ⟨t, st, q⟩ := k _ rfl T hT X
  refine ⟨t, ?_, q⟩
  have h1 := X.baloadOut hexec (by rw [hT]; exact hP q0 _ ha) ((hK.2 t0 _ ht).1 n (fun j => .int (f j))) (j := i) (by show (i < 0 ∨ (arrV _ _ _).slots.size ≤ _); rw [arrV_size]; exact Classical.byContradiction hout) (g := F0 m pc ls (.int i :: .ref a :: rest)) rfl (rest := rest) rfl (by rw [hb]; exact hdg) t
  simp only [arrV_size] at h1
  exact h1 st
theorem vx_bastZ {D : va_G} {cl : List vw_C} {ws : va_W} {tys : List (ClassId × FieldType)} {a : Nat} (hexec : p.tables.exec = Jvm.exec) (hb : c.code = cc) (hK : va_K D cl tys s) (hP : va_P D cl ws H) (q0 t0 : Nat) {cA : ClassId} {n : Nat} {f : Nat → Int32} (ha : ws[q0]? = some (a, .inl (cA, n, .inl f))) (ht : tys[t0]? = some (cA, .byte)) {i : Int32} {x : Int32} (hout : ¬ vp_in i n) (hdg : decode cc pc = .ok (.bastore, 1))
    (k : ∀ tx : String, tx = (toString "Index " ++ toString i ++ toString " out of bounds for length " ++ toString n : String) → vx_Note p l e R s m args below meth c H locs cells slots Q (F0 m pc ls rest) "java/lang/ArrayIndexOutOfBoundsException" tx) : W p l e R s m args below meth c H locs cells slots Q (F0 m pc ls (.int x :: .int i :: .ref a :: rest)) := by
  intro T hT X
  obtain ⟨t, st, q⟩ := k _ rfl T hT X
  refine ⟨t, ?_, q⟩
  have h1 := X.bastoreOut hexec (by rw [hT]; exact hP q0 _ ha) ((hK.2 t0 _ ht).1 n (fun j => .int (f j))) (j := i) (by show (i < 0 ∨ (arrV _ _ _).slots.size ≤ _); rw [arrV_size]; exact Classical.byContradiction hout) (g := F0 m pc ls (.int x :: .int i :: .ref a :: rest)) rfl (rest := rest) rfl (by rw [hb]; exact hdg) t
  simp only [arrV_size] at h1
  exact h1 st
theorem vx_zaldZ {D : va_G} {cl : List vw_C} {ws : va_W} {tys : List (ClassId × FieldType)} {a : Nat} (hexec : p.tables.exec = Jvm.exec) (hb : c.code = cc) (hK : va_K D cl tys s) (hP : va_P D cl ws H) (q0 t0 : Nat) {cA : ClassId} {n : Nat} {f : Nat → Int32} (ha : ws[q0]? = some (a, .inl (cA, n, .inl f))) (ht : tys[t0]? = some (cA, .boolean)) {i : Int32} (hout : ¬ vp_in i n) (hdg : decode cc pc = .ok (.baload, 1))
    (k : ∀ tx : String, tx = (toString "Index " ++ toString i ++ toString " out of bounds for length " ++ toString n : String) → vx_Note p l e R s m args below meth c H locs cells slots Q (F0 m pc ls rest) "java/lang/ArrayIndexOutOfBoundsException" tx) : W p l e R s m args below meth c H locs cells slots Q (F0 m pc ls (.int i :: .ref a :: rest)) := by
  intro T hT X
  obtain ⟨t, st, q⟩ := k _ rfl T hT X
  refine ⟨t, ?_, q⟩
  have h1 := X.baloadOut hexec (by rw [hT]; exact hP q0 _ ha) ((hK.2 t0 _ ht).1 n (fun j => .int (f j))) (j := i) (by show (i < 0 ∨ (arrV _ _ _).slots.size ≤ _); rw [arrV_size]; exact Classical.byContradiction hout) (g := F0 m pc ls (.int i :: .ref a :: rest)) rfl (rest := rest) rfl (by rw [hb]; exact hdg) t
  simp only [arrV_size] at h1
  exact h1 st
theorem vx_zastZ {D : va_G} {cl : List vw_C} {ws : va_W} {tys : List (ClassId × FieldType)} {a : Nat} (hexec : p.tables.exec = Jvm.exec) (hb : c.code = cc) (hK : va_K D cl tys s) (hP : va_P D cl ws H) (q0 t0 : Nat) {cA : ClassId} {n : Nat} {f : Nat → Int32} (ha : ws[q0]? = some (a, .inl (cA, n, .inl f))) (ht : tys[t0]? = some (cA, .boolean)) {i : Int32} {x : Int32} (hout : ¬ vp_in i n) (hdg : decode cc pc = .ok (.bastore, 1))
    (k : ∀ tx : String, tx = (toString "Index " ++ toString i ++ toString " out of bounds for length " ++ toString n : String) → vx_Note p l e R s m args below meth c H locs cells slots Q (F0 m pc ls rest) "java/lang/ArrayIndexOutOfBoundsException" tx) : W p l e R s m args below meth c H locs cells slots Q (F0 m pc ls (.int x :: .int i :: .ref a :: rest)) := by
  intro T hT X
  obtain ⟨t, st, q⟩ := k _ rfl T hT X
  refine ⟨t, ?_, q⟩
  have h1 := X.bastoreOut hexec (by rw [hT]; exact hP q0 _ ha) ((hK.2 t0 _ ht).1 n (fun j => .int (f j))) (j := i) (by show (i < 0 ∨ (arrV _ _ _).slots.size ≤ _); rw [arrV_size]; exact Classical.byContradiction hout) (g := F0 m pc ls (.int x :: .int i :: .ref a :: rest)) rfl (rest := rest) rfl (by rw [hb]; exact hdg) t
  simp only [arrV_size] at h1
  exact h1 st
theorem vx_caldZ {D : va_G} {cl : List vw_C} {ws : va_W} {tys : List (ClassId × FieldType)} {a : Nat} (hexec : p.tables.exec = Jvm.exec) (hb : c.code = cc) (hK : va_K D cl tys s) (hP : va_P D cl ws H) (q0 t0 : Nat) {cA : ClassId} {n : Nat} {f : Nat → Int32} (ha : ws[q0]? = some (a, .inl (cA, n, .inl f))) (ht : tys[t0]? = some (cA, .char)) {i : Int32} (hout : ¬ vp_in i n) (hdg : decode cc pc = .ok (.caload, 1))
    (k : ∀ tx : String, tx = (toString "Index " ++ toString i ++ toString " out of bounds for length " ++ toString n : String) → vx_Note p l e R s m args below meth c H locs cells slots Q (F0 m pc ls rest) "java/lang/ArrayIndexOutOfBoundsException" tx) : W p l e R s m args below meth c H locs cells slots Q (F0 m pc ls (.int i :: .ref a :: rest)) := by
  intro T hT X
  obtain ⟨t, st, q⟩ := k _ rfl T hT X
  refine ⟨t, ?_, q⟩
  have h1 := X.caloadOut hexec (by rw [hT]; exact hP q0 _ ha) ((hK.2 t0 _ ht).1 n (fun j => .int (f j))) (j := i) (by show (i < 0 ∨ (arrV _ _ _).slots.size ≤ _); rw [arrV_size]; exact Classical.byContradiction hout) (g := F0 m pc ls (.int i :: .ref a :: rest)) rfl (rest := rest) rfl (by rw [hb]; exact hdg) t
  simp only [arrV_size] at h1
  exact h1 st
theorem vx_castZ {D : va_G} {cl : List vw_C} {ws : va_W} {tys : List (ClassId × FieldType)} {a : Nat} (hexec : p.tables.exec = Jvm.exec) (hb : c.code = cc) (hK : va_K D cl tys s) (hP : va_P D cl ws H) (q0 t0 : Nat) {cA : ClassId} {n : Nat} {f : Nat → Int32} (ha : ws[q0]? = some (a, .inl (cA, n, .inl f))) (ht : tys[t0]? = some (cA, .char)) {i : Int32} {x : Int32} (hout : ¬ vp_in i n) (hdg : decode cc pc = .ok (.castore, 1))
    (k : ∀ tx : String, tx = (toString "Index " ++ toString i ++ toString " out of bounds for length " ++ toString n : String) → vx_Note p l e R s m args below meth c H locs cells slots Q (F0 m pc ls rest) "java/lang/ArrayIndexOutOfBoundsException" tx) : W p l e R s m args below meth c H locs cells slots Q (F0 m pc ls (.int x :: .int i :: .ref a :: rest)) := by
  intro T hT X
  obtain ⟨t, st, q⟩ := k _ rfl T hT X
  refine ⟨t, ?_, q⟩
  have h1 := X.castoreOut hexec (by rw [hT]; exact hP q0 _ ha) ((hK.2 t0 _ ht).1 n (fun j => .int (f j))) (j := i) (by show (i < 0 ∨ (arrV _ _ _).slots.size ≤ _); rw [arrV_size]; exact Classical.byContradiction hout) (g := F0 m pc ls (.int x :: .int i :: .ref a :: rest)) rfl (rest := rest) rfl (by rw [hb]; exact hdg) t
  simp only [arrV_size] at h1
  exact h1 st
theorem vx_saldZ {D : va_G} {cl : List vw_C} {ws : va_W} {tys : List (ClassId × FieldType)} {a : Nat} (hexec : p.tables.exec = Jvm.exec) (hb : c.code = cc) (hK : va_K D cl tys s) (hP : va_P D cl ws H) (q0 t0 : Nat) {cA : ClassId} {n : Nat} {f : Nat → Int32} (ha : ws[q0]? = some (a, .inl (cA, n, .inl f))) (ht : tys[t0]? = some (cA, .short)) {i : Int32} (hout : ¬ vp_in i n) (hdg : decode cc pc = .ok (.saload, 1))
    (k : ∀ tx : String, tx = (toString "Index " ++ toString i ++ toString " out of bounds for length " ++ toString n : String) → vx_Note p l e R s m args below meth c H locs cells slots Q (F0 m pc ls rest) "java/lang/ArrayIndexOutOfBoundsException" tx) : W p l e R s m args below meth c H locs cells slots Q (F0 m pc ls (.int i :: .ref a :: rest)) := by
  intro T hT X
  obtain ⟨t, st, q⟩ := k _ rfl T hT X
  refine ⟨t, ?_, q⟩
  have h1 := X.saloadOut hexec (by rw [hT]; exact hP q0 _ ha) ((hK.2 t0 _ ht).1 n (fun j => .int (f j))) (j := i) (by show (i < 0 ∨ (arrV _ _ _).slots.size ≤ _); rw [arrV_size]; exact Classical.byContradiction hout) (g := F0 m pc ls (.int i :: .ref a :: rest)) rfl (rest := rest) rfl (by rw [hb]; exact hdg) t
  simp only [arrV_size] at h1
  exact h1 st
theorem vx_sastZ {D : va_G} {cl : List vw_C} {ws : va_W} {tys : List (ClassId × FieldType)} {a : Nat} (hexec : p.tables.exec = Jvm.exec) (hb : c.code = cc) (hK : va_K D cl tys s) (hP : va_P D cl ws H) (q0 t0 : Nat) {cA : ClassId} {n : Nat} {f : Nat → Int32} (ha : ws[q0]? = some (a, .inl (cA, n, .inl f))) (ht : tys[t0]? = some (cA, .short)) {i : Int32} {x : Int32} (hout : ¬ vp_in i n) (hdg : decode cc pc = .ok (.sastore, 1))
    (k : ∀ tx : String, tx = (toString "Index " ++ toString i ++ toString " out of bounds for length " ++ toString n : String) → vx_Note p l e R s m args below meth c H locs cells slots Q (F0 m pc ls rest) "java/lang/ArrayIndexOutOfBoundsException" tx) : W p l e R s m args below meth c H locs cells slots Q (F0 m pc ls (.int x :: .int i :: .ref a :: rest)) := by
  intro T hT X
  obtain ⟨t, st, q⟩ := k _ rfl T hT X
  refine ⟨t, ?_, q⟩
  have h1 := X.sastoreOut hexec (by rw [hT]; exact hP q0 _ ha) ((hK.2 t0 _ ht).1 n (fun j => .int (f j))) (j := i) (by show (i < 0 ∨ (arrV _ _ _).slots.size ≤ _); rw [arrV_size]; exact Classical.byContradiction hout) (g := F0 m pc ls (.int x :: .int i :: .ref a :: rest)) rfl (rest := rest) rfl (by rw [hb]; exact hdg) t
  simp only [arrV_size] at h1
  exact h1 st
theorem vx_laldZ {D : va_G} {cl : List vw_C} {ws : va_W} {tys : List (ClassId × FieldType)} {a : Nat} (hexec : p.tables.exec = Jvm.exec) (hb : c.code = cc) (hK : va_K D cl tys s) (hP : va_P D cl ws H) (q0 t0 : Nat) {cA : ClassId} {n : Nat} {f : Nat → Int64} (ha : ws[q0]? = some (a, .inl (cA, n, .inr (.inl f)))) (ht : tys[t0]? = some (cA, .long)) {i : Int32} (hout : ¬ vp_in i n) (hdg : decode cc pc = .ok (.laload, 1))
    (k : ∀ tx : String, tx = (toString "Index " ++ toString i ++ toString " out of bounds for length " ++ toString n : String) → vx_Note p l e R s m args below meth c H locs cells slots Q (F0 m pc ls rest) "java/lang/ArrayIndexOutOfBoundsException" tx) : W p l e R s m args below meth c H locs cells slots Q (F0 m pc ls (.int i :: .ref a :: rest)) := by
  intro T hT X
  obtain ⟨t, st, q⟩ := k _ rfl T hT X
  refine ⟨t, ?_, q⟩
  have h1 := X.laloadOut hexec (by rw [hT]; exact hP q0 _ ha) ((hK.2 t0 _ ht).1 n (fun j => .long (f j))) (j := i) (by show (i < 0 ∨ (arrV _ _ _).slots.size ≤ _); rw [arrV_size]; exact Classical.byContradiction hout) (g := F0 m pc ls (.int i :: .ref a :: rest)) rfl (rest := rest) rfl (by rw [hb]; exact hdg) t
  simp only [arrV_size] at h1
  exact h1 st
theorem vx_lastZ {D : va_G} {cl : List vw_C} {ws : va_W} {tys : List (ClassId × FieldType)} {a : Nat} (hexec : p.tables.exec = Jvm.exec) (hb : c.code = cc) (hK : va_K D cl tys s) (hP : va_P D cl ws H) (q0 t0 : Nat) {cA : ClassId} {n : Nat} {f : Nat → Int64} (ha : ws[q0]? = some (a, .inl (cA, n, .inr (.inl f)))) (ht : tys[t0]? = some (cA, .long)) {i : Int32} {x : Int64} (hout : ¬ vp_in i n) (hdg : decode cc pc = .ok (.lastore, 1))
    (k : ∀ tx : String, tx = (toString "Index " ++ toString i ++ toString " out of bounds for length " ++ toString n : String) → vx_Note p l e R s m args below meth c H locs cells slots Q (F0 m pc ls rest) "java/lang/ArrayIndexOutOfBoundsException" tx) : W p l e R s m args below meth c H locs cells slots Q (F0 m pc ls (.long x :: .int i :: .ref a :: rest)) := by
  intro T hT X
  obtain ⟨t, st, q⟩ := k _ rfl T hT X
  refine ⟨t, ?_, q⟩
  have h1 := X.lastoreOut hexec (by rw [hT]; exact hP q0 _ ha) ((hK.2 t0 _ ht).1 n (fun j => .long (f j))) (j := i) (by show (i < 0 ∨ (arrV _ _ _).slots.size ≤ _); rw [arrV_size]; exact Classical.byContradiction hout) (g := F0 m pc ls (.long x :: .int i :: .ref a :: rest)) rfl (rest := rest) rfl (by rw [hb]; exact hdg) t
  simp only [arrV_size] at h1
  exact h1 st
theorem vx_faldZ {D : va_G} {cl : List vw_C} {ws : va_W} {tys : List (ClassId × FieldType)} {a : Nat} (hexec : p.tables.exec = Jvm.exec) (hb : c.code = cc) (hK : va_K D cl tys s) (hP : va_P D cl ws H) (q0 t0 : Nat) {cA : ClassId} {n : Nat} {f : Nat → UInt32} (ha : ws[q0]? = some (a, .inl (cA, n, .inr (.inr (.inl f))))) (ht : tys[t0]? = some (cA, .float)) {i : Int32} (hout : ¬ vp_in i n) (hdg : decode cc pc = .ok (.faload, 1))
    (k : ∀ tx : String, tx = (toString "Index " ++ toString i ++ toString " out of bounds for length " ++ toString n : String) → vx_Note p l e R s m args below meth c H locs cells slots Q (F0 m pc ls rest) "java/lang/ArrayIndexOutOfBoundsException" tx) : W p l e R s m args below meth c H locs cells slots Q (F0 m pc ls (.int i :: .ref a :: rest)) := by
  intro T hT X
  obtain ⟨t, st, q⟩ := k _ rfl T hT X
  refine ⟨t, ?_, q⟩
  have h1 := X.faloadOut hexec (by rw [hT]; exact hP q0 _ ha) ((hK.2 t0 _ ht).1 n (fun j => .float (f j))) (j := i) (by show (i < 0 ∨ (arrV _ _ _).slots.size ≤ _); rw [arrV_size]; exact Classical.byContradiction hout) (g := F0 m pc ls (.int i :: .ref a :: rest)) rfl (rest := rest) rfl (by rw [hb]; exact hdg) t
  simp only [arrV_size] at h1
  exact h1 st
theorem vx_fastZ {D : va_G} {cl : List vw_C} {ws : va_W} {tys : List (ClassId × FieldType)} {a : Nat} (hexec : p.tables.exec = Jvm.exec) (hb : c.code = cc) (hK : va_K D cl tys s) (hP : va_P D cl ws H) (q0 t0 : Nat) {cA : ClassId} {n : Nat} {f : Nat → UInt32} (ha : ws[q0]? = some (a, .inl (cA, n, .inr (.inr (.inl f))))) (ht : tys[t0]? = some (cA, .float)) {i : Int32} {x : UInt32} (hout : ¬ vp_in i n) (hdg : decode cc pc = .ok (.fastore, 1))
    (k : ∀ tx : String, tx = (toString "Index " ++ toString i ++ toString " out of bounds for length " ++ toString n : String) → vx_Note p l e R s m args below meth c H locs cells slots Q (F0 m pc ls rest) "java/lang/ArrayIndexOutOfBoundsException" tx) : W p l e R s m args below meth c H locs cells slots Q (F0 m pc ls (.float x :: .int i :: .ref a :: rest)) := by
  intro T hT X
  obtain ⟨t, st, q⟩ := k _ rfl T hT X
  refine ⟨t, ?_, q⟩
  have h1 := X.fastoreOut hexec (by rw [hT]; exact hP q0 _ ha) ((hK.2 t0 _ ht).1 n (fun j => .float (f j))) (j := i) (by show (i < 0 ∨ (arrV _ _ _).slots.size ≤ _); rw [arrV_size]; exact Classical.byContradiction hout) (g := F0 m pc ls (.float x :: .int i :: .ref a :: rest)) rfl (rest := rest) rfl (by rw [hb]; exact hdg) t
  simp only [arrV_size] at h1
  exact h1 st
theorem vx_daldZ {D : va_G} {cl : List vw_C} {ws : va_W} {tys : List (ClassId × FieldType)} {a : Nat} (hexec : p.tables.exec = Jvm.exec) (hb : c.code = cc) (hK : va_K D cl tys s) (hP : va_P D cl ws H) (q0 t0 : Nat) {cA : ClassId} {n : Nat} {f : Nat → UInt64} (ha : ws[q0]? = some (a, .inl (cA, n, .inr (.inr (.inr (.inl f)))))) (ht : tys[t0]? = some (cA, .double)) {i : Int32} (hout : ¬ vp_in i n) (hdg : decode cc pc = .ok (.daload, 1))
    (k : ∀ tx : String, tx = (toString "Index " ++ toString i ++ toString " out of bounds for length " ++ toString n : String) → vx_Note p l e R s m args below meth c H locs cells slots Q (F0 m pc ls rest) "java/lang/ArrayIndexOutOfBoundsException" tx) : W p l e R s m args below meth c H locs cells slots Q (F0 m pc ls (.int i :: .ref a :: rest)) := by
  intro T hT X
  obtain ⟨t, st, q⟩ := k _ rfl T hT X
  refine ⟨t, ?_, q⟩
  have h1 := X.daloadOut hexec (by rw [hT]; exact hP q0 _ ha) ((hK.2 t0 _ ht).1 n (fun j => .double (f j))) (j := i) (by show (i < 0 ∨ (arrV _ _ _).slots.size ≤ _); rw [arrV_size]; exact Classical.byContradiction hout) (g := F0 m pc ls (.int i :: .ref a :: rest)) rfl (rest := rest) rfl (by rw [hb]; exact hdg) t
  simp only [arrV_size] at h1
  exact h1 st
theorem vx_dastZ {D : va_G} {cl : List vw_C} {ws : va_W} {tys : List (ClassId × FieldType)} {a : Nat} (hexec : p.tables.exec = Jvm.exec) (hb : c.code = cc) (hK : va_K D cl tys s) (hP : va_P D cl ws H) (q0 t0 : Nat) {cA : ClassId} {n : Nat} {f : Nat → UInt64} (ha : ws[q0]? = some (a, .inl (cA, n, .inr (.inr (.inr (.inl f)))))) (ht : tys[t0]? = some (cA, .double)) {i : Int32} {x : UInt64} (hout : ¬ vp_in i n) (hdg : decode cc pc = .ok (.dastore, 1))
    (k : ∀ tx : String, tx = (toString "Index " ++ toString i ++ toString " out of bounds for length " ++ toString n : String) → vx_Note p l e R s m args below meth c H locs cells slots Q (F0 m pc ls rest) "java/lang/ArrayIndexOutOfBoundsException" tx) : W p l e R s m args below meth c H locs cells slots Q (F0 m pc ls (.double x :: .int i :: .ref a :: rest)) := by
  intro T hT X
  obtain ⟨t, st, q⟩ := k _ rfl T hT X
  refine ⟨t, ?_, q⟩
  have h1 := X.dastoreOut hexec (by rw [hT]; exact hP q0 _ ha) ((hK.2 t0 _ ht).1 n (fun j => .double (f j))) (j := i) (by show (i < 0 ∨ (arrV _ _ _).slots.size ≤ _); rw [arrV_size]; exact Classical.byContradiction hout) (g := F0 m pc ls (.double x :: .int i :: .ref a :: rest)) rfl (rest := rest) rfl (by rw [hb]; exact hdg) t
  simp only [arrV_size] at h1
  exact h1 st
theorem vx_arraylengthN (hexec : p.tables.exec = Jvm.exec) (hb : c.code = cc) (hdg : decode cc pc = .ok (.arraylength, 1)) (k : vx_NoteN p l e R s m args below meth c H locs cells slots Q (F0 m pc ls rest)) : W p l e R s m args below meth c H locs cells slots Q (F0 m pc ls (.null :: rest)) := by
  intro T hT X
  obtain ⟨t, st, q⟩ := k T hT X
  exact ⟨t, X.arraylengthNull hexec (g := F0 m pc ls (.null :: rest)) rfl (rest := rest) rfl (by rw [hb]; exact hdg) t st, q⟩
theorem vx_ialoadN (hexec : p.tables.exec = Jvm.exec) (hb : c.code = cc) {i : Int32} (hdg : decode cc pc = .ok (.iaload, 1)) (k : vx_NoteN p l e R s m args below meth c H locs cells slots Q (F0 m pc ls rest)) : W p l e R s m args below meth c H locs cells slots Q (F0 m pc ls (.int i :: .null :: rest)) := by
  intro T hT X
  obtain ⟨t, st, q⟩ := k T hT X
  exact ⟨t, X.ialoadNull hexec (g := F0 m pc ls (.int i :: .null :: rest)) rfl (rest := rest) rfl (by rw [hb]; exact hdg) t st, q⟩
theorem vx_laloadN (hexec : p.tables.exec = Jvm.exec) (hb : c.code = cc) {i : Int32} (hdg : decode cc pc = .ok (.laload, 1)) (k : vx_NoteN p l e R s m args below meth c H locs cells slots Q (F0 m pc ls rest)) : W p l e R s m args below meth c H locs cells slots Q (F0 m pc ls (.int i :: .null :: rest)) := by
  intro T hT X
  obtain ⟨t, st, q⟩ := k T hT X
  exact ⟨t, X.laloadNull hexec (g := F0 m pc ls (.int i :: .null :: rest)) rfl (rest := rest) rfl (by rw [hb]; exact hdg) t st, q⟩
theorem vx_faloadN (hexec : p.tables.exec = Jvm.exec) (hb : c.code = cc) {i : Int32} (hdg : decode cc pc = .ok (.faload, 1)) (k : vx_NoteN p l e R s m args below meth c H locs cells slots Q (F0 m pc ls rest)) : W p l e R s m args below meth c H locs cells slots Q (F0 m pc ls (.int i :: .null :: rest)) := by
  intro T hT X
  obtain ⟨t, st, q⟩ := k T hT X
  exact ⟨t, X.faloadNull hexec (g := F0 m pc ls (.int i :: .null :: rest)) rfl (rest := rest) rfl (by rw [hb]; exact hdg) t st, q⟩
theorem vx_daloadN (hexec : p.tables.exec = Jvm.exec) (hb : c.code = cc) {i : Int32} (hdg : decode cc pc = .ok (.daload, 1)) (k : vx_NoteN p l e R s m args below meth c H locs cells slots Q (F0 m pc ls rest)) : W p l e R s m args below meth c H locs cells slots Q (F0 m pc ls (.int i :: .null :: rest)) := by
  intro T hT X
  obtain ⟨t, st, q⟩ := k T hT X
  exact ⟨t, X.daloadNull hexec (g := F0 m pc ls (.int i :: .null :: rest)) rfl (rest := rest) rfl (by rw [hb]; exact hdg) t st, q⟩
theorem vx_aaloadN (hexec : p.tables.exec = Jvm.exec) (hb : c.code = cc) {i : Int32} (hdg : decode cc pc = .ok (.aaload, 1)) (k : vx_NoteN p l e R s m args below meth c H locs cells slots Q (F0 m pc ls rest)) : W p l e R s m args below meth c H locs cells slots Q (F0 m pc ls (.int i :: .null :: rest)) := by
  intro T hT X
  obtain ⟨t, st, q⟩ := k T hT X
  exact ⟨t, X.aaloadNull hexec (g := F0 m pc ls (.int i :: .null :: rest)) rfl (rest := rest) rfl (by rw [hb]; exact hdg) t st, q⟩
theorem vx_baloadN (hexec : p.tables.exec = Jvm.exec) (hb : c.code = cc) {i : Int32} (hdg : decode cc pc = .ok (.baload, 1)) (k : vx_NoteN p l e R s m args below meth c H locs cells slots Q (F0 m pc ls rest)) : W p l e R s m args below meth c H locs cells slots Q (F0 m pc ls (.int i :: .null :: rest)) := by
  intro T hT X
  obtain ⟨t, st, q⟩ := k T hT X
  exact ⟨t, X.baloadNull hexec (g := F0 m pc ls (.int i :: .null :: rest)) rfl (rest := rest) rfl (by rw [hb]; exact hdg) t st, q⟩
theorem vx_caloadN (hexec : p.tables.exec = Jvm.exec) (hb : c.code = cc) {i : Int32} (hdg : decode cc pc = .ok (.caload, 1)) (k : vx_NoteN p l e R s m args below meth c H locs cells slots Q (F0 m pc ls rest)) : W p l e R s m args below meth c H locs cells slots Q (F0 m pc ls (.int i :: .null :: rest)) := by
  intro T hT X
  obtain ⟨t, st, q⟩ := k T hT X
  exact ⟨t, X.caloadNull hexec (g := F0 m pc ls (.int i :: .null :: rest)) rfl (rest := rest) rfl (by rw [hb]; exact hdg) t st, q⟩
theorem vx_saloadN (hexec : p.tables.exec = Jvm.exec) (hb : c.code = cc) {i : Int32} (hdg : decode cc pc = .ok (.saload, 1)) (k : vx_NoteN p l e R s m args below meth c H locs cells slots Q (F0 m pc ls rest)) : W p l e R s m args below meth c H locs cells slots Q (F0 m pc ls (.int i :: .null :: rest)) := by
  intro T hT X
  obtain ⟨t, st, q⟩ := k T hT X
  exact ⟨t, X.saloadNull hexec (g := F0 m pc ls (.int i :: .null :: rest)) rfl (rest := rest) rfl (by rw [hb]; exact hdg) t st, q⟩
theorem vx_iastoreN (hexec : p.tables.exec = Jvm.exec) (hb : c.code = cc) {x : Int32} {i : Int32} (hdg : decode cc pc = .ok (.iastore, 1)) (k : vx_NoteN p l e R s m args below meth c H locs cells slots Q (F0 m pc ls rest)) : W p l e R s m args below meth c H locs cells slots Q (F0 m pc ls (.int x :: .int i :: .null :: rest)) := by
  intro T hT X
  obtain ⟨t, st, q⟩ := k T hT X
  exact ⟨t, X.iastoreNull hexec (g := F0 m pc ls (.int x :: .int i :: .null :: rest)) rfl (rest := rest) rfl (by rw [hb]; exact hdg) t st, q⟩
theorem vx_lastoreN (hexec : p.tables.exec = Jvm.exec) (hb : c.code = cc) {x : Int64} {i : Int32} (hdg : decode cc pc = .ok (.lastore, 1)) (k : vx_NoteN p l e R s m args below meth c H locs cells slots Q (F0 m pc ls rest)) : W p l e R s m args below meth c H locs cells slots Q (F0 m pc ls (.long x :: .int i :: .null :: rest)) := by
  intro T hT X
  obtain ⟨t, st, q⟩ := k T hT X
  exact ⟨t, X.lastoreNull hexec (g := F0 m pc ls (.long x :: .int i :: .null :: rest)) rfl (rest := rest) rfl (by rw [hb]; exact hdg) t st, q⟩
theorem vx_fastoreN (hexec : p.tables.exec = Jvm.exec) (hb : c.code = cc) {x : UInt32} {i : Int32} (hdg : decode cc pc = .ok (.fastore, 1)) (k : vx_NoteN p l e R s m args below meth c H locs cells slots Q (F0 m pc ls rest)) : W p l e R s m args below meth c H locs cells slots Q (F0 m pc ls (.float x :: .int i :: .null :: rest)) := by
  intro T hT X
  obtain ⟨t, st, q⟩ := k T hT X
  exact ⟨t, X.fastoreNull hexec (g := F0 m pc ls (.float x :: .int i :: .null :: rest)) rfl (rest := rest) rfl (by rw [hb]; exact hdg) t st, q⟩
theorem vx_dastoreN (hexec : p.tables.exec = Jvm.exec) (hb : c.code = cc) {x : UInt64} {i : Int32} (hdg : decode cc pc = .ok (.dastore, 1)) (k : vx_NoteN p l e R s m args below meth c H locs cells slots Q (F0 m pc ls rest)) : W p l e R s m args below meth c H locs cells slots Q (F0 m pc ls (.double x :: .int i :: .null :: rest)) := by
  intro T hT X
  obtain ⟨t, st, q⟩ := k T hT X
  exact ⟨t, X.dastoreNull hexec (g := F0 m pc ls (.double x :: .int i :: .null :: rest)) rfl (rest := rest) rfl (by rw [hb]; exact hdg) t st, q⟩
theorem vx_bastoreN (hexec : p.tables.exec = Jvm.exec) (hb : c.code = cc) {x : Int32} {i : Int32} (hdg : decode cc pc = .ok (.bastore, 1)) (k : vx_NoteN p l e R s m args below meth c H locs cells slots Q (F0 m pc ls rest)) : W p l e R s m args below meth c H locs cells slots Q (F0 m pc ls (.int x :: .int i :: .null :: rest)) := by
  intro T hT X
  obtain ⟨t, st, q⟩ := k T hT X
  exact ⟨t, X.bastoreNull hexec (g := F0 m pc ls (.int x :: .int i :: .null :: rest)) rfl (rest := rest) rfl (by rw [hb]; exact hdg) t st, q⟩
theorem vx_castoreN (hexec : p.tables.exec = Jvm.exec) (hb : c.code = cc) {x : Int32} {i : Int32} (hdg : decode cc pc = .ok (.castore, 1)) (k : vx_NoteN p l e R s m args below meth c H locs cells slots Q (F0 m pc ls rest)) : W p l e R s m args below meth c H locs cells slots Q (F0 m pc ls (.int x :: .int i :: .null :: rest)) := by
  intro T hT X
  obtain ⟨t, st, q⟩ := k T hT X
  exact ⟨t, X.castoreNull hexec (g := F0 m pc ls (.int x :: .int i :: .null :: rest)) rfl (rest := rest) rfl (by rw [hb]; exact hdg) t st, q⟩
theorem vx_sastoreN (hexec : p.tables.exec = Jvm.exec) (hb : c.code = cc) {x : Int32} {i : Int32} (hdg : decode cc pc = .ok (.sastore, 1)) (k : vx_NoteN p l e R s m args below meth c H locs cells slots Q (F0 m pc ls rest)) : W p l e R s m args below meth c H locs cells slots Q (F0 m pc ls (.int x :: .int i :: .null :: rest)) := by
  intro T hT X
  obtain ⟨t, st, q⟩ := k T hT X
  exact ⟨t, X.sastoreNull hexec (g := F0 m pc ls (.int x :: .int i :: .null :: rest)) rfl (rest := rest) rfl (by rw [hb]; exact hdg) t st, q⟩
theorem vx_invokeN {own C : String} {index maxL : Nat} {y : MethodName} {bytes : ByteArray} {ret : Option FieldType} (hexec : p.tables.exec = Jvm.exec) (hb : c.code = cc) (hown : s.vm.findClass own = some m.cls) (hlink : (Cond.methodLink own index y).before args s = true) (hinst : (Cond.instanceMethod y).before args s = true) (hcode : (Cond.code y bytes maxL ret).before args s = true) (hsel : (Cond.selects C y y).before args s = true)
    (hx : y.cls ≠ "java/lang/invoke/MethodHandle" ∧ y.cls ≠ "java/lang/invoke/VarHandle") {As : List Value} (hlen : (parseMethodDescriptor y.desc).map (fun d => d.parameters.length) = some As.length) (hdg : decode cc pc = .ok (.invokevirtual index, 3))
    (k : vx_NoteN p l e R s m args below meth c H locs cells slots Q (F0 m pc ls rest)) {st0 : List Value} (hst : st0 = As.reverse ++ .null :: rest) : W p l e R s m args below meth c H locs cells slots Q (F0 m pc ls st0) := by
  intro T hT X
  obtain ⟨r0, r, hn, hrm, hstR, hsigR⟩ := va_Decl.of hinst hcode
  obtain ⟨c2, r2, m2, q1, q2, q3, q4, kP, hkP, hkPi⟩ := Cond.selects_spec hsel
  cases hn.symm.trans q3
  have hl9 : As.length = r.sig.parameters.length := by
    rw [hsigR] at hlen
    exact (Option.some.inj hlen).symm
  obtain ⟨vm', X1, st1⟩ := X.invokevirtualNull hexec hown hlink hn hrm hstR hkP hkPi hx (g := F0 m pc ls st0) rfl (argsL := As) (rest := rest) hl9 hst (by rw [hb]; exact hdg)
  obtain ⟨t, st, q⟩ := k (T.setVm vm') hT X1
  exact ⟨t, st1 t st, q⟩
theorem vx_newarrayZ {atype : ArrayType} (hexec : p.tables.exec = Jvm.exec) (hb : c.code = cc) {n : Int32} (h0 : n < 0) (hdg : decode cc pc = .ok (.newarray atype, 2)) (k : ∀ tx : String, tx = toString n → vx_Note p l e R s m args below meth c H locs cells slots Q (F0 m pc ls rest) "java/lang/NegativeArraySizeException" tx) : W p l e R s m args below meth c H locs cells slots Q (F0 m pc ls (.int n :: rest)) := by
  intro T hT X
  obtain ⟨t, st, q⟩ := k _ rfl T hT X
  exact ⟨t, X.newarrayNegative hexec (g := F0 m pc ls (.int n :: rest)) rfl h0 (rest := rest) rfl (by rw [hb]; exact hdg) t st, q⟩
end
end VXM
/-! ===== END ===== -/
/-! ===== BEGIN an exception as an object: made, kept, thrown later (no traces kept) ===== -/
section VXK
variable {p : Program} {l : Launch} {e : Env} {R : Room} {s : State} {m₀ : MethodId} {args : Array Value} {below : List Frame} {meth : Method} {c : Code} {W : State} {locs : List Loc} {cells slots : Nat}
set_option maxHeartbeats 1000000 in
theorem vx_ctorMadeS (X : Stand p l e R s m₀ args below meth c W locs cells slots) (hexec : p.tables.exec = Jvm.exec) (htr : e.platform.stackTraces = false) {own cls : String} {names : List String} {ic : Nat}
    (hown : s.vm.findClass own = some m₀.cls) (hcls : Bundle.fit cls = true) (hnames : ∀ n ∈ names, Bundle.fit n = true)
    (h : ∀ a ∈ Bundle.ownAtoms own ic cls names, a.before args s = true)
    (hlocs : ∀ x ∈ locs, ∀ cell, s.heap[x.base]? = some cell → cell.vm.isStatics = false)
    {a : Addr} {cX : ClassId} {kX : Class} (hfoundX : s.vm.findClass cls = some cX) (hkX : s.vm.classes[cX]? = some kX) (hcell : W.heap[a]? = some (freshCell cX kX)) (hnew : s.heap.size ≤ a)
    {msg : Value} (hmsg : msg.isRef = true)
    {g : JFrame} (hg : g.method = m₀) (hsize : g.locals.size = c.maxLocals) {rest : List Value} (hstack : g.stack = msg :: .ref a :: .ref a :: rest)
    (hd6 : decode c.code g.pc = .ok (.invokespecial ic, 3))
    (hRframes : names.length + 3 < R.frames) (hRlocals : 2 * g.monitorRoom + ((Value.ref a :: rest).map fun v => v.category).sum + (13 * (names.length + 1) + 42) ≤ R.locals) :
    ∃ (V : State) (ce : Cell) (L : List Loc), Stand p l e R s m₀ args below meth c (V.setCell a ce) (locs ++ L) cells slots ∧ (∀ y ∈ L, y.base = a) ∧ a < V.heap.size ∧ ce.cls = cX ∧ ce.vm = .none ∧
      ∀ target, Steps p.tables e below ((V.setCell a ce).setTop { g with stack := .ref a :: rest, pc := g.pc + 3 }) target → Steps p.tables e below (W.setTop g) target := by
  have howns : e.platform.frameOwnsMonitors = true := by rw [X.admits.platform]
  have hfin : e.platform.finalization = false := by rw [X.admits.platform]
  have hpl : e.platform.magicAccessors = ({} : Platform).magicAccessors := by rw [X.admits.platform]
  have a' : ∀ x, x ∈ Bundle.ownAtoms own ic cls names → x.holds args s none s [] = true := fun x hx => h x hx
  obtain ⟨T, Z0, L, -, Y⟩ := ThrowableC.of_atoms (args := args) howns hfin hpl (fun x hx => h x (by simp [Bundle.ownAtoms, hx]))
  obtain ⟨Z, M, LZ, LM, hnZ⟩ := Init0T.ofS_atoms (args := args) hpl L Y (fun x hx => h x (by simp [Bundle.ownAtoms, hx]))
  obtain ⟨P1, Ps, hlen, L1, hL, hP1m, hlink1, hlink⟩ := Bundle.chainS (args := args) hpl hnZ names cls hcls hnames (fun x hx => h x (by simp [Bundle.ownAtoms, hx]))
  have hfound : s.vm.findClass cls = some P1.m.cls := findClass_of_methodNamed hP1m
  cases Option.some.inj (hfoundX.symm.trans hfound)
  obtain ⟨c1, kX', hc1, hk, hord, -, -, hn6⟩ := Cond.instantiable_spec (a' (.instantiable cls 6) (by simp [Bundle.ownAtoms]))
  cases Option.some.inj (hc1.symm.trans hfound)
  cases Option.some.inj (hkX.symm.trans hk)
  have hsel0 : selectMethod e.platform s.vm P1.m.cls T.fill0 = .method T.fill0 := by
    obtain ⟨c2, r2, m2, q1, q2, q3, q4, -⟩ := Cond.selects_spec (a' (.selects cls Bundle.tFill0 Bundle.tFill0) (by simp [Bundle.ownAtoms]))
    cases Option.some.inj (q1.symm.trans hfound)
    cases Option.some.inj (q2.symm.trans (State.methodFound?_of_named Y.fill0 (by decide)))
    cases Option.some.inj (q3.symm.trans Y.fill0)
    rw [Launch.admits_selectMethod X.admits]; exact q4
  have hselF : selectMethod e.platform s.vm P1.m.cls T.fill = .method T.fill := by
    obtain ⟨c2, r2, m2, q1, q2, q3, q4, -⟩ := Cond.selects_spec (a' (.selects cls Bundle.tFill Bundle.tFill) (by simp [Bundle.ownAtoms]))
    cases Option.some.inj (q1.symm.trans hfound)
    cases Option.some.inj (q2.symm.trans (State.methodFound?_of_named Y.fill (by decide)))
    cases Option.some.inj (q3.symm.trans Y.fill)
    rw [Launch.admits_selectMethod X.admits]; exact q4
  obtain ⟨cellS0, hcS0, hiss⟩ := Y.statics
  obtain ⟨u0, hu0⟩ := Cond.staticRefV Y.unassigned L.unassignedStatic L.statics hcS0 hiss (a' (.isRef (.static Bundle.tN "UNASSIGNED_STACK" Bundle.steD)) (by simp [Bundle.ownAtoms]))
  obtain ⟨sen, hsen⟩ := Cond.staticRefV Y.sentinel L.sentinelStatic L.statics hcS0 hiss (a' (.isRef (.static Bundle.tN "SUPPRESSED_SENTINEL" Bundle.listD)) (by simp [Bundle.ownAtoms]))
  obtain ⟨ci198, i198, fB, hk198, hg198, ha198, hsB, -, hnB, htB, hffB⟩ := Cond.ownField (t := .object "java/lang/Object") Y.found L.cls (by decide +kernel) (a' (.fieldLink Bundle.tN 198 Bundle.tN "backtrace" "Ljava/lang/Object;") (by simp [Bundle.ownAtoms])) (a' (.lays Bundle.tN Bundle.tN "backtrace" "Ljava/lang/Object;") (by simp [Bundle.ownAtoms])) e.platform hpl
  obtain ⟨cellS, hcS', heS, -, hkeep⟩ := X.same.2.2.2.2.2 T.aS cellS0 hcS0
  have hcellS : W.heap[T.aS]? = some cellS := hcS'
  have hout' : ∀ i, (⟨T.aS, i⟩ : Loc) ∉ locs := fun i hmem => by
    have := hlocs _ hmem cellS0 hcS0
    rw [hiss] at this; cases this
  have hknownS : cellS.vm ≠ .unknown := by
    rw [heS]; intro hu
    rw [show cellS0.vm = .unknown from hu] at hiss
    cases hiss
  have hneS : T.aS ≠ a := Nat.ne_of_lt (Nat.lt_of_lt_of_le (Array.getElem?_eq_some_iff.mp hcS0).1 hnew)
  obtain ⟨iM, hffM⟩ := Y.msg
  obtain ⟨tyC, dC, hdC, hdnC⟩ := Cond.laysAt hfound hk Y.cause (a' (.lays cls Bundle.tN "cause" "Ljava/lang/Throwable;") (by simp [Bundle.ownAtoms]))
  obtain ⟨tyS, dS, hdS, hdnS⟩ := Cond.laysAt hfound hk Y.stack (a' (.lays cls Bundle.tN "stackTrace" Bundle.steD) (by simp [Bundle.ownAtoms]))
  obtain ⟨tyP, dP, hdP, hdnP⟩ := Cond.laysAt hfound hk Y.supp (a' (.lays cls Bundle.tN "suppressedExceptions" Bundle.listD) (by simp [Bundle.ownAtoms]))
  obtain ⟨tyM, dM, hdM, hdnM⟩ := Cond.laysAt hfound hk hffM (a' (.lays cls Bundle.tN "detailMessage" "Ljava/lang/String;") (by simp [Bundle.ownAtoms]))
  obtain ⟨tyB, dB, hdB, hdnB⟩ := Cond.laysAt hfound hk hffB (a' (.lays cls Bundle.tN "backtrace" "Ljava/lang/Object;") (by simp [Bundle.ownAtoms]))
  have bC := Cond.laysApart hdB hdC hdnB hdnC (by rw [hnB, Y.causeName]; decide)
  have bS := Cond.laysApart hdB hdS hdnB hdnS (by rw [hnB, Y.stackName]; decide)
  have bP := Cond.laysApart hdB hdP hdnB hdnP (by rw [hnB, Y.suppName]; decide)
  have hskip : SkipFacts T e.platform s (fun u => u) u0 ((preparedCellV T.toThrowableT (freshCell P1.m.cls kX) a u0 sen).withEntry W.cur) :=
    ⟨{ ci198 := ci198, i198 := i198, fBack := fB }, ⟨hk198, hg198, ha198, hsB⟩, by
      have := fresh_default (c := P1.m.cls) tyB
      rw [htB] at this
      simpa [preparedCellV, Cell.setSlot, Cell.withEntry, Array.getElem?_setIfInBounds, bC, bS, bP, bC.symm, bS.symm, bP.symm, defaultValue] using this, fun _ _ => rfl⟩
  obtain ⟨tm, methC, cdC, kC, vm₁, hnC, -, -, -, -, -, -, -, hW₁, st1⟩ := Steps.initColdS (tb := p.tables) (e := e) (below := below) (s := s) (U := W) X.here hexec X.warmed hpl hown (t := Bundle.initS cls) rfl rfl (Bundle.fit_spec hcls).2
    (a' (.methodLink own ic (Bundle.initS cls)) (by simp [Bundle.ownAtoms])) (h (.instanceMethod (Bundle.initS cls)) (by cases names <;> simp [Bundle.ownAtoms, Bundle.chainSAtoms, Bundle.passSAtoms])) (bytes := Bundle.six) (maxL := 2) (h (.code (Bundle.initS cls) Bundle.six 2 none) (by cases names <;> simp [Bundle.ownAtoms, Bundle.chainSAtoms, Bundle.passSAtoms]))
    (f := g) hg (a := a) (msg := msg) (rest := .ref a :: rest) hstack hd6
  cases Option.some.inj (hnC.symm.trans hP1m)
  have X₁ := X.noted hW₁
  obtain ⟨vm₂, X₂, st2⟩ := X₁.ctorMessageOffV hexec (g := { g with stack := .ref a :: rest }) hg hsize T L Z LZ M LM (P1 :: Ps)
    (fun P hP => by rcases List.mem_cons.mp hP with rfl | hP; exact L1; exact hL P hP) ⟨hlink1, hlink⟩ (u0 := u0) (sen := sen) (self := a) hmsg (cell := freshCell P1.m.cls kX) (cellS := cellS)
    hcell (fun _ => by simp) (by simp) rfl rfl hsel0 hselF hcellS hneS hknownS (by rw [hkeep _ (hout' _)]; exact hu0) (by rw [hkeep _ (hout' _)]; exact hsen)
    (Takes.of_laid hk hord tyC (by rw [Y.causeType]; rfl)) (Takes.of_laid hk hord tyS (by rw [Y.stackType]; exact fits_refV_array _ u0)) (Takes.of_laid hk hord tyP (by rw [Y.suppType]; exact fits_refV_object _ sen))
    (Takes.of_laid hk hord tyM (by rw [Y.msgType]; exact fits_refV_object _ ⟨msg, hmsg⟩)) Y.objLocals hskip htr [] hd6
    (by simp only [List.length_cons, hlen]; omega) (by simp only [List.length_cons, hlen]; exact hRlocals)
  have hlt : a < ((W.setVm vm₁).setVm vm₂).heap.size := (Array.getElem?_eq_some_iff.mp hcell).1
  refine ⟨(W.setVm vm₁).setVm vm₂, _, _, X₂, fun y hy => ?_, hlt, rfl, rfl, fun target hwalk => st1 _ (fun acts => ?_)⟩
  · simp only [List.mem_cons, List.not_mem_nil, or_false] at hy
    rcases hy with rfl | rfl | rfl | rfl | rfl <;> rfl
  · rw [doInvoke_state]
    exact st2 _ hwalk
set_option maxHeartbeats 1000000 in
theorem vx_ctorMade0 (X : Stand p l e R s m₀ args below meth c W locs cells slots) (hexec : p.tables.exec = Jvm.exec) (htr : e.platform.stackTraces = false) {own cls : String} {names : List String} {ic : Nat}
    (hown : s.vm.findClass own = some m₀.cls) (hcls : Bundle.fit cls = true) (hnames : ∀ n ∈ names, Bundle.fit n = true)
    (h : ∀ a ∈ Bundle.ownAtoms0 own ic cls names, a.before args s = true)
    (hlocs : ∀ x ∈ locs, ∀ cell, s.heap[x.base]? = some cell → cell.vm.isStatics = false)
    {a : Addr} {cX : ClassId} {kX : Class} (hfoundX : s.vm.findClass cls = some cX) (hkX : s.vm.classes[cX]? = some kX) (hcell : W.heap[a]? = some (freshCell cX kX)) (hnew : s.heap.size ≤ a)
    {g : JFrame} (hg : g.method = m₀) (hsize : g.locals.size = c.maxLocals) {rest : List Value} (hstack : g.stack = .ref a :: .ref a :: rest)
    (hd6 : decode c.code g.pc = .ok (.invokespecial ic, 3))
    (hRframes : names.length + 3 < R.frames) (hRlocals : 2 * g.monitorRoom + ((Value.ref a :: rest).map fun v => v.category).sum + (13 * (names.length + 1) + 41) ≤ R.locals) :
    ∃ (V : State) (ce : Cell) (L : List Loc), Stand p l e R s m₀ args below meth c (V.setCell a ce) (locs ++ L) cells slots ∧ (∀ y ∈ L, y.base = a) ∧ a < V.heap.size ∧ ce.cls = cX ∧ ce.vm = .none ∧
      ∀ target, Steps p.tables e below ((V.setCell a ce).setTop { g with stack := .ref a :: rest, pc := g.pc + 3 }) target → Steps p.tables e below (W.setTop g) target := by
  have howns : e.platform.frameOwnsMonitors = true := by rw [X.admits.platform]
  have hfin : e.platform.finalization = false := by rw [X.admits.platform]
  have hpl : e.platform.magicAccessors = ({} : Platform).magicAccessors := by rw [X.admits.platform]
  have a' : ∀ x, x ∈ Bundle.ownAtoms0 own ic cls names → x.holds args s none s [] = true := fun x hx => h x hx
  obtain ⟨T, Z, L, LZ, Y⟩ := ThrowableC.of_atoms (args := args) howns hfin hpl (fun x hx => h x (by simp [Bundle.ownAtoms0, hx]))
  obtain ⟨P1, Ps, hlen, L1, hL, hP1m, hlink1, hlink⟩ := Bundle.chain0 (args := args) hpl Y.init0 names cls hcls hnames (fun x hx => h x (by simp [Bundle.ownAtoms0, hx]))
  have hfound : s.vm.findClass cls = some P1.m.cls := findClass_of_methodNamed hP1m
  cases Option.some.inj (hfoundX.symm.trans hfound)
  obtain ⟨c1, kX', hc1, hk, hord, -, -, hn6⟩ := Cond.instantiable_spec (a' (.instantiable cls 6) (by simp [Bundle.ownAtoms0]))
  cases Option.some.inj (hc1.symm.trans hfound)
  cases Option.some.inj (hkX.symm.trans hk)
  have hsel0 : selectMethod e.platform s.vm P1.m.cls T.fill0 = .method T.fill0 := by
    obtain ⟨c2, r2, m2, q1, q2, q3, q4, -⟩ := Cond.selects_spec (a' (.selects cls Bundle.tFill0 Bundle.tFill0) (by simp [Bundle.ownAtoms0]))
    cases Option.some.inj (q1.symm.trans hfound)
    cases Option.some.inj (q2.symm.trans (State.methodFound?_of_named Y.fill0 (by decide)))
    cases Option.some.inj (q3.symm.trans Y.fill0)
    rw [Launch.admits_selectMethod X.admits]; exact q4
  have hselF : selectMethod e.platform s.vm P1.m.cls T.fill = .method T.fill := by
    obtain ⟨c2, r2, m2, q1, q2, q3, q4, -⟩ := Cond.selects_spec (a' (.selects cls Bundle.tFill Bundle.tFill) (by simp [Bundle.ownAtoms0]))
    cases Option.some.inj (q1.symm.trans hfound)
    cases Option.some.inj (q2.symm.trans (State.methodFound?_of_named Y.fill (by decide)))
    cases Option.some.inj (q3.symm.trans Y.fill)
    rw [Launch.admits_selectMethod X.admits]; exact q4
  obtain ⟨cellS0, hcS0, hiss⟩ := Y.statics
  obtain ⟨u0, hu0⟩ := Cond.staticRefV Y.unassigned L.unassignedStatic L.statics hcS0 hiss (a' (.isRef (.static Bundle.tN "UNASSIGNED_STACK" Bundle.steD)) (by simp [Bundle.ownAtoms0]))
  obtain ⟨sen, hsen⟩ := Cond.staticRefV Y.sentinel L.sentinelStatic L.statics hcS0 hiss (a' (.isRef (.static Bundle.tN "SUPPRESSED_SENTINEL" Bundle.listD)) (by simp [Bundle.ownAtoms0]))
  obtain ⟨ci198, i198, fB, hk198, hg198, ha198, hsB, -, hnB, htB, hffB⟩ := Cond.ownField (t := .object "java/lang/Object") Y.found L.cls (by decide +kernel) (a' (.fieldLink Bundle.tN 198 Bundle.tN "backtrace" "Ljava/lang/Object;") (by simp [Bundle.ownAtoms0])) (a' (.lays Bundle.tN Bundle.tN "backtrace" "Ljava/lang/Object;") (by simp [Bundle.ownAtoms0])) e.platform hpl
  obtain ⟨cellS, hcS', heS, -, hkeep⟩ := X.same.2.2.2.2.2 T.aS cellS0 hcS0
  have hcellS : W.heap[T.aS]? = some cellS := hcS'
  have hout' : ∀ i, (⟨T.aS, i⟩ : Loc) ∉ locs := fun i hmem => by
    have := hlocs _ hmem cellS0 hcS0
    rw [hiss] at this; cases this
  have hknownS : cellS.vm ≠ .unknown := by
    rw [heS]; intro hu
    rw [show cellS0.vm = .unknown from hu] at hiss
    cases hiss
  have hneS : T.aS ≠ a := Nat.ne_of_lt (Nat.lt_of_lt_of_le (Array.getElem?_eq_some_iff.mp hcS0).1 hnew)
  obtain ⟨iM, hffM⟩ := Y.msg
  obtain ⟨tyC, dC, hdC, hdnC⟩ := Cond.laysAt hfound hk Y.cause (a' (.lays cls Bundle.tN "cause" "Ljava/lang/Throwable;") (by simp [Bundle.ownAtoms0]))
  obtain ⟨tyS, dS, hdS, hdnS⟩ := Cond.laysAt hfound hk Y.stack (a' (.lays cls Bundle.tN "stackTrace" Bundle.steD) (by simp [Bundle.ownAtoms0]))
  obtain ⟨tyP, dP, hdP, hdnP⟩ := Cond.laysAt hfound hk Y.supp (a' (.lays cls Bundle.tN "suppressedExceptions" Bundle.listD) (by simp [Bundle.ownAtoms0]))
  obtain ⟨tyM, dM, hdM, hdnM⟩ := Cond.laysAt hfound hk hffM (a' (.lays cls Bundle.tN "detailMessage" "Ljava/lang/String;") (by simp [Bundle.ownAtoms0]))
  obtain ⟨tyB, dB, hdB, hdnB⟩ := Cond.laysAt hfound hk hffB (a' (.lays cls Bundle.tN "backtrace" "Ljava/lang/Object;") (by simp [Bundle.ownAtoms0]))
  have bC := Cond.laysApart hdB hdC hdnB hdnC (by rw [hnB, Y.causeName]; decide)
  have bS := Cond.laysApart hdB hdS hdnB hdnS (by rw [hnB, Y.stackName]; decide)
  have bP := Cond.laysApart hdB hdP hdnB hdnP (by rw [hnB, Y.suppName]; decide)
  have hskip : SkipFacts T e.platform s (fun u => u) u0 ((preparedCellV T.toThrowableT (freshCell P1.m.cls kX) a u0 sen).withEntry W.cur) :=
    ⟨{ ci198 := ci198, i198 := i198, fBack := fB }, ⟨hk198, hg198, ha198, hsB⟩, by
      have := fresh_default (c := P1.m.cls) tyB
      rw [htB] at this
      simpa [preparedCellV, Cell.setSlot, Cell.withEntry, Array.getElem?_setIfInBounds, bC, bS, bP, bC.symm, bS.symm, bP.symm, defaultValue] using this, fun _ _ => rfl⟩
  obtain ⟨tm, methC, cdC, kC, vm₁, hnC, -, -, -, -, -, -, -, hW₁, st1⟩ := Steps.initCold (tb := p.tables) (e := e) (below := below) (s := s) (U := W) X.here hexec X.warmed hpl hown (t := Bundle.init0 cls) rfl rfl (Bundle.fit_spec hcls).2
    (a' (.methodLink own ic (Bundle.init0 cls)) (by simp [Bundle.ownAtoms0])) (h (.instanceMethod (Bundle.init0 cls)) (by cases names <;> simp [Bundle.ownAtoms0, Bundle.chain0Atoms, Bundle.passAtoms])) (bytes := Bundle.five) (maxL := 1) (h (.code (Bundle.init0 cls) Bundle.five 1 none) (by cases names <;> simp [Bundle.ownAtoms0, Bundle.chain0Atoms, Bundle.passAtoms]))
    (f := g) hg (a := a) (rest := .ref a :: rest) hstack hd6
  cases Option.some.inj (hnC.symm.trans hP1m)
  have X₁ := X.noted hW₁
  obtain ⟨vm₂, X₂, st2⟩ := X₁.ctorPlainOffV hexec (g := { g with stack := .ref a :: rest }) hg hsize T L Z LZ (P1 :: Ps)
    (fun P hP => by rcases List.mem_cons.mp hP with rfl | hP; exact L1; exact hL P hP) ⟨hlink1, hlink⟩ (u0 := u0) (sen := sen) (self := a) (cell := freshCell P1.m.cls kX) (cellS := cellS)
    hcell (fun _ => by simp) (by simp) rfl rfl hsel0 hselF hcellS hneS hknownS (by rw [hkeep _ (hout' _)]; exact hu0) (by rw [hkeep _ (hout' _)]; exact hsen)
    (Takes.of_laid hk hord tyC (by rw [Y.causeType]; rfl)) (Takes.of_laid hk hord tyS (by rw [Y.stackType]; exact fits_refV_array _ u0)) (Takes.of_laid hk hord tyP (by rw [Y.suppType]; exact fits_refV_object _ sen)) Y.objLocals hskip htr [] hd6
    (by simp only [List.length_cons, hlen]; omega) (by simp only [List.length_cons, hlen]; exact hRlocals)
  have hlt : a < ((W.setVm vm₁).setVm vm₂).heap.size := (Array.getElem?_eq_some_iff.mp hcell).1
  refine ⟨(W.setVm vm₁).setVm vm₂, _, _, X₂, fun y hy => ?_, hlt, rfl, rfl, fun target hwalk => st1 _ (fun acts => ?_)⟩
  · simp only [List.mem_cons, List.not_mem_nil, or_false] at hy
    rcases hy with rfl | rfl | rfl | rfl <;> rfl
  · rw [doInvoke_state]
    exact st2 _ hwalk
end VXK
section VXK2
variable {p : Program} {l : Launch} {e : Env} {R : Room} {s : State} {m : MethodId} {args : Array Value} {below : List Frame} {meth : Method} {c : Code} {H : Heap} {locs : List Loc} {cells slots : Nat} {Q : State → Prop}
variable {ls : Array Slot} {rest : List Value} {D : va_G} {cl : List vw_C} {tys : List (ClassId × FieldType)} {ws : va_W}
/-- 'new E("text")' that isn't thrown at once: the object goes on the stack -/
theorem vx_makeS {cc : ByteArray} {pc : Nat} (hexec : p.tables.exec = Jvm.exec) (hb : c.code = cc) (hl : l.stackTraces = false) {own cls text : String} {names : List String} {ik is ic sa ci : Nat} {A : Nat → Prop} {T0 : u_T}
    (hown : s.vm.findClass own = some m.cls) (hcls : Bundle.fit cls = true) (hnames : ∀ n ∈ names, Bundle.fit n = true)
    (hk : (Cond.classLink own ik cls).before args s = true) (hini : (Cond.initialized cls).before args s = true) (hstr : vk_R own is text sa s) (hat : ∀ w ∈ vx_atS own ic cls names, w.before args s = true)
    (hgood : ∀ w ∈ Cond.classLink own ik cls :: Cond.initialized cls :: vx_atS own ic cls names, vx_ot w = true)
    (hU : vx_Zq Bundle.tN "UNASSIGNED_STACK" Bundle.steD A s s.heap) (hN : vx_Zq Bundle.tN "SUPPRESSED_SENTINEL" Bundle.listD A s s.heap) (hS : va_S A s.heap H locs) (hsize : ls.size = c.maxLocals)
    (d0 : decode cc pc = .ok (.new ik, 3)) (d3 : decode cc (pc + 3) = .ok (.dup, 1)) (d4 : decode cc (pc + 4) = .ok (.ldc is, 2)) (d6 : decode cc (pc + 6) = .ok (.invokespecial ic, 3))
    (hK : va_K D cl tys s) (hP : va_P D cl ws H) (hD : va_D A ws) (hA : ∀ q, s.heap.size ≤ q → A q) (hc : cl[ci]? = some (cls, T0, 0))
    (hRframes : names.length + 3 < R.frames) (hRlocals : (rest.map fun v => v.category).sum + (13 * (names.length + 1) + 43) ≤ R.locals) (hRcells : cells + 1 ≤ R.cells) (hRslots : slots + 6 ≤ R.slots)
    (kk : ∀ (q : Nat) (H1 : Heap), va_P D cl (ws ++ [(q, .inr (ci, []))]) H1 → va_D A (ws ++ [(q, .inr (ci, []))]) → va_S A s.heap H1 locs → W p l e R s m args below meth c H1 locs (cells + 1) (slots + 6) Q (F0 m (pc + 9) ls (.ref q :: rest))) :
    W p l e R s m args below meth c H locs cells slots Q (F0 m pc ls rest) := by
  intro T hT X
  subst hT
  have htr : e.platform.stackTraces = false := (show e.platform.stackTraces = l.stackTraces by rw [X.admits.platform]).trans hl
  have Y := vx_rebase X (R' := { frames := R.frames, locals := R.locals, cells := 1, slots := 6 }) (Nat.le_refl _) (Nat.le_refl _) hRcells hRslots
  obtain ⟨s', hA'⟩ : ∃ z, z = (T.setVm s.vm).setFrames (.invoking m args :: below) := ⟨_, rfl⟩
  rw [← hA'] at Y
  have hvm : s'.vm = s.vm := by rw [hA']; rfl
  have hhp : s'.heap = T.heap := by rw [hA']; rfl
  have hW0 : s.WarmedH s'.vm := by rw [hvm]; exact State.WarmedH.refl s
  have hat' : ∀ w ∈ vx_atS own ic cls names, w.before args s' = true := fun w hw => vx_ot_at hW0 hvm.symm (hgood w (List.mem_cons_of_mem _ (List.mem_cons_of_mem _ hw))) (hat w hw)
  have hk' : (Cond.classLink own ik cls).before args s' = true := vx_ot_at hW0 hvm.symm (hgood _ List.mem_cons_self) hk
  have hini' : (Cond.initialized cls).before args s' = true := vx_ot_at hW0 hvm.symm (hgood _ (List.mem_cons_of_mem _ List.mem_cons_self)) hini
  have hU' : vx_Zq Bundle.tN "UNASSIGNED_STACK" Bundle.steD A s' s'.heap := by rw [hhp]; exact vx_Zq.moved hW0.alike (hU.kept hS.2.1)
  have hN' : vx_Zq Bundle.tN "SUPPRESSED_SENTINEL" Bundle.listD A s' s'.heap := by rw [hhp]; exact vx_Zq.moved hW0.alike (hN.kept hS.2.1)
  have h : ∀ w ∈ Bundle.ownAtoms own ic cls names, w.before args s' = true := vx_own hat' (vx_isRefq hU'.1) (vx_isRefq hN'.1) hU'.2.word hN'.2.word
  have hown' : s'.vm.findClass own = some m.cls := by rw [hvm]; exact hown
  have hins : (Cond.instantiable cls 6).before args s' = true := h _ (by simp [Bundle.ownAtoms])
  obtain ⟨vm₁, cX, kX, hfX, hkX, -, -, X₁, st1⟩ := Y.newCold hexec (own := own) (C := cls) (index := ik) (n := 6) hown' hk' hins hini'
    (g := F0 m pc ls rest) rfl (by rw [hb]; exact d0) (Nat.le_refl _) (Nat.le_refl _)
  generalize hT1 : (T.setVm vm₁).pushCell { cls := cX, slots := kX.instanceTypes.map defaultValue, vm := .none } = T1 at X₁ st1
  have hcat : (Value.ref T.heap.size).category = 1 := rfl
  have hcellA : T1.heap[T.heap.size]? = some (freshCell cX kX) := by rw [← hT1]; exact State.heap_pushCell_size _ _
  have d3' : decode c.code (pc + 3) = .ok (.dup, 1) := by rw [hb]; exact d3
  have d4' : decode c.code (pc + 4) = .ok (.ldc is, 2) := by rw [hb]; exact d4
  have hstr' : vk_R own is text sa s' := vk_R.warm hW0 hstr
  obtain ⟨V, ce, L, Z, hL, hlt, hcl9, hvm9, st⟩ := vx_ctorMadeS X₁ hexec htr (own := own) (cls := cls) (names := names) (ic := ic) hown' hcls hnames h (fun x hx => nomatch hx) hfX hkX hcellA (by rw [hhp]; exact Nat.le_refl _) (msg := .ref sa) rfl
    (g := { method := m, pc := pc + 6, locals := ls, stack := .ref sa :: .ref T.heap.size :: .ref T.heap.size :: rest, locked := none }) rfl hsize (rest := rest) rfl
    (by rw [hb]; exact d6) hRframes (by simp only [List.map_cons, List.sum_cons, hcat]; omega)
  have Z0 := Stand.forget (locs := []) Z (fun y hy => by rw [hL y hy, hhp]; exact Nat.le_refl _)
  obtain ⟨f1, f2⟩ := vx_frame Z0.same
  rw [hhp] at f1 f2
  have hcid : ce.cls = D.1 ci := by
    rw [hcl9]
    have h1 := (hK.1 ci _ hc).2.1
    rw [hvm] at hfX
    exact Option.some.inj (hfX.symm.trans h1)
  have hh : (V.setCell T.heap.size ce).heap[T.heap.size]? = some ce := heapAt_setCell_self (s := V) ce hlt
  subst hA'
  have X5 := vx_back9 X Y Z0
  have X6 : Stand p l e R s m args below meth c (V.setCell T.heap.size ce) locs (cells + 1) (slots + 6) := { X5 with same := X5.same.mono (by omega) (by omega) }
  have hk9 : ∀ (k : Nat) (x : Nat × va_E), ws[k]? = some x → (V.setCell T.heap.size ce).heap[x.1]? = T.heap[x.1]? := fun k x hx => f2 x.1 ((hP k x hx).lt) (fun z hz => nomatch hz)
  obtain ⟨t, a1, b1⟩ := kk T.heap.size (V.setCell T.heap.size ce).heap ((hP.kept hk9).app (fun k x hx => by
      have hz : k < 1 := (List.getElem?_eq_some_iff.mp hx).1
      rw [show k = 0 by omega] at hx
      cases hx
      exact ⟨_, hc, ce, hh, hcid, hvm9, fun k hk => absurd hk (Nat.not_lt_zero k)⟩)) (hD.push hP rfl (hA _ hS.1)) ⟨Nat.le_trans hS.1 f1, fun q h1 h2 => (f2 q (Nat.lt_of_lt_of_le h1 hS.1) (fun z hz => nomatch hz)).trans (hS.2.1 q h1 h2), hS.2.2⟩ _ rfl X6
  refine ⟨t, st1 _ ?_, b1⟩
  show Steps p.tables e below (T1.setTop { method := m, pc := pc + 3, locals := ls, stack := .ref T.heap.size :: rest, locked := none }) _
  jvm_step X₁.here [X₁.here.top, hexec, d3', Value.category]
  exact X₁.ldcString hexec (own := own) (text := text) (index := is) (a := sa) hown' hstr'.1 hstr'.2
    (g := { method := m, pc := pc + 4, locals := ls, stack := .ref T.heap.size :: .ref T.heap.size :: rest, locked := none }) rfl d4' _ (st _ a1)
/-- 'new E()' that isn't thrown at once: the object goes on the stack -/
theorem vx_make0 {cc : ByteArray} {pc : Nat} (hexec : p.tables.exec = Jvm.exec) (hb : c.code = cc) (hl : l.stackTraces = false) {own cls : String} {names : List String} {ik ic ci : Nat} {A : Nat → Prop} {T0 : u_T}
    (hown : s.vm.findClass own = some m.cls) (hcls : Bundle.fit cls = true) (hnames : ∀ n ∈ names, Bundle.fit n = true)
    (hk : (Cond.classLink own ik cls).before args s = true) (hini : (Cond.initialized cls).before args s = true) (hat : ∀ w ∈ vx_at0 own ic cls names, w.before args s = true)
    (hgood : ∀ w ∈ Cond.classLink own ik cls :: Cond.initialized cls :: vx_at0 own ic cls names, vx_ot w = true)
    (hU : vx_Zq Bundle.tN "UNASSIGNED_STACK" Bundle.steD A s s.heap) (hN : vx_Zq Bundle.tN "SUPPRESSED_SENTINEL" Bundle.listD A s s.heap) (hS : va_S A s.heap H locs) (hsize : ls.size = c.maxLocals)
    (d0 : decode cc pc = .ok (.new ik, 3)) (d3 : decode cc (pc + 3) = .ok (.dup, 1)) (d4 : decode cc (pc + 4) = .ok (.invokespecial ic, 3))
    (hK : va_K D cl tys s) (hP : va_P D cl ws H) (hD : va_D A ws) (hA : ∀ q, s.heap.size ≤ q → A q) (hc : cl[ci]? = some (cls, T0, 0))
    (hRframes : names.length + 3 < R.frames) (hRlocals : (rest.map fun v => v.category).sum + (13 * (names.length + 1) + 42) ≤ R.locals) (hRcells : cells + 1 ≤ R.cells) (hRslots : slots + 6 ≤ R.slots)
    (kk : ∀ (q : Nat) (H1 : Heap), va_P D cl (ws ++ [(q, .inr (ci, []))]) H1 → va_D A (ws ++ [(q, .inr (ci, []))]) → va_S A s.heap H1 locs → W p l e R s m args below meth c H1 locs (cells + 1) (slots + 6) Q (F0 m (pc + 7) ls (.ref q :: rest))) :
    W p l e R s m args below meth c H locs cells slots Q (F0 m pc ls rest) := by
  intro T hT X
  subst hT
  have htr : e.platform.stackTraces = false := (show e.platform.stackTraces = l.stackTraces by rw [X.admits.platform]).trans hl
  have Y := vx_rebase X (R' := { frames := R.frames, locals := R.locals, cells := 1, slots := 6 }) (Nat.le_refl _) (Nat.le_refl _) hRcells hRslots
  obtain ⟨s', hA'⟩ : ∃ z, z = (T.setVm s.vm).setFrames (.invoking m args :: below) := ⟨_, rfl⟩
  rw [← hA'] at Y
  have hvm : s'.vm = s.vm := by rw [hA']; rfl
  have hhp : s'.heap = T.heap := by rw [hA']; rfl
  have hW0 : s.WarmedH s'.vm := by rw [hvm]; exact State.WarmedH.refl s
  have hat' : ∀ w ∈ vx_at0 own ic cls names, w.before args s' = true := fun w hw => vx_ot_at hW0 hvm.symm (hgood w (List.mem_cons_of_mem _ (List.mem_cons_of_mem _ hw))) (hat w hw)
  have hk' : (Cond.classLink own ik cls).before args s' = true := vx_ot_at hW0 hvm.symm (hgood _ List.mem_cons_self) hk
  have hini' : (Cond.initialized cls).before args s' = true := vx_ot_at hW0 hvm.symm (hgood _ (List.mem_cons_of_mem _ List.mem_cons_self)) hini
  have hU' : vx_Zq Bundle.tN "UNASSIGNED_STACK" Bundle.steD A s' s'.heap := by rw [hhp]; exact vx_Zq.moved hW0.alike (hU.kept hS.2.1)
  have hN' : vx_Zq Bundle.tN "SUPPRESSED_SENTINEL" Bundle.listD A s' s'.heap := by rw [hhp]; exact vx_Zq.moved hW0.alike (hN.kept hS.2.1)
  have h : ∀ w ∈ Bundle.ownAtoms0 own ic cls names, w.before args s' = true := vx_own hat' (vx_isRefq hU'.1) (vx_isRefq hN'.1) hU'.2.word hN'.2.word
  have hown' : s'.vm.findClass own = some m.cls := by rw [hvm]; exact hown
  have hins : (Cond.instantiable cls 6).before args s' = true := h _ (by simp [Bundle.ownAtoms0])
  obtain ⟨vm₁, cX, kX, hfX, hkX, -, -, X₁, st1⟩ := Y.newCold hexec (own := own) (C := cls) (index := ik) (n := 6) hown' hk' hins hini'
    (g := F0 m pc ls rest) rfl (by rw [hb]; exact d0) (Nat.le_refl _) (Nat.le_refl _)
  generalize hT1 : (T.setVm vm₁).pushCell { cls := cX, slots := kX.instanceTypes.map defaultValue, vm := .none } = T1 at X₁ st1
  have hcat : (Value.ref T.heap.size).category = 1 := rfl
  have hcellA : T1.heap[T.heap.size]? = some (freshCell cX kX) := by rw [← hT1]; exact State.heap_pushCell_size _ _
  have d3' : decode c.code (pc + 3) = .ok (.dup, 1) := by rw [hb]; exact d3
  obtain ⟨V, ce, L, Z, hL, hlt, hcl9, hvm9, st⟩ := vx_ctorMade0 X₁ hexec htr (own := own) (cls := cls) (names := names) (ic := ic) hown' hcls hnames h (fun x hx => nomatch hx) hfX hkX hcellA (by rw [hhp]; exact Nat.le_refl _)
    (g := { method := m, pc := pc + 4, locals := ls, stack := .ref T.heap.size :: .ref T.heap.size :: rest, locked := none }) rfl hsize (rest := rest) rfl
    (by rw [hb]; exact d4) hRframes (by simp only [List.map_cons, List.sum_cons, hcat]; omega)
  have Z0 := Stand.forget (locs := []) Z (fun y hy => by rw [hL y hy, hhp]; exact Nat.le_refl _)
  obtain ⟨f1, f2⟩ := vx_frame Z0.same
  rw [hhp] at f1 f2
  have hcid : ce.cls = D.1 ci := by
    rw [hcl9]
    have h1 := (hK.1 ci _ hc).2.1
    rw [hvm] at hfX
    exact Option.some.inj (hfX.symm.trans h1)
  have hh : (V.setCell T.heap.size ce).heap[T.heap.size]? = some ce := heapAt_setCell_self (s := V) ce hlt
  subst hA'
  have X5 := vx_back9 X Y Z0
  have X6 : Stand p l e R s m args below meth c (V.setCell T.heap.size ce) locs (cells + 1) (slots + 6) := { X5 with same := X5.same.mono (by omega) (by omega) }
  have hk9 : ∀ (k : Nat) (x : Nat × va_E), ws[k]? = some x → (V.setCell T.heap.size ce).heap[x.1]? = T.heap[x.1]? := fun k x hx => f2 x.1 ((hP k x hx).lt) (fun z hz => nomatch hz)
  obtain ⟨t, a1, b1⟩ := kk T.heap.size (V.setCell T.heap.size ce).heap ((hP.kept hk9).app (fun k x hx => by
      have hz : k < 1 := (List.getElem?_eq_some_iff.mp hx).1
      rw [show k = 0 by omega] at hx
      cases hx
      exact ⟨_, hc, ce, hh, hcid, hvm9, fun k hk => absurd hk (Nat.not_lt_zero k)⟩)) (hD.push hP rfl (hA _ hS.1)) ⟨Nat.le_trans hS.1 f1, fun q h1 h2 => (f2 q (Nat.lt_of_lt_of_le h1 hS.1) (fun z hz => nomatch hz)).trans (hS.2.1 q h1 h2), hS.2.2⟩ _ rfl X6
  refine ⟨t, st1 _ ?_, b1⟩
  show Steps p.tables e below (T1.setTop { method := m, pc := pc + 3, locals := ls, stack := .ref T.heap.size :: rest, locked := none }) _
  jvm_step X₁.here [X₁.here.top, hexec, d3', Value.category]
  exact st _ a1
/-- 'throw x' of an object that was made before -/
theorem vx_athrow {cc : ByteArray} {pc : Nat} (hexec : p.tables.exec = Jvm.exec) (hb : c.code = cc) {q : Addr} (hdg : decode cc pc = .ok (.athrow, 1)) (k : vx_W p l e R s m args below meth c H locs cells slots Q (F0 m pc ls rest) q) : W p l e R s m args below meth c H locs cells slots Q (F0 m pc ls (.ref q :: rest)) := by
  intro T hT X
  obtain ⟨t, st, hq⟩ := k T hT X
  refine ⟨t, ?_, hq⟩
  have hdg' : decode c.code pc = .ok (.athrow, 1) := by rw [hb]; exact hdg
  jvm_step X.here [X.here.top, hexec, hdg', athrow.wp_sem]
  exact st
end VXK2
/-! ===== END ===== -/
/-! ===== BEGIN a constructor that throws (launches without stack traces) ===== -/
section VXIA
variable {p : Program} {l : Launch} {e : Env} {R : Room} {s : State} {m : MethodId} {args : Array Value} {below : List Frame} {meth : Method} {c : Code} {T : State} {locs : List Loc} {cells slots : Nat}
theorem vx_callI (X : Stand p l e R s m args below meth c T locs cells slots) (hexec : p.tables.exec = Jvm.exec) {own : String} {index : Nat} {y : MethodName} {bytes : ByteArray} {maxL : Nat}
    (hown : s.vm.findClass own = some m.cls) (hy1 : y.name = "<init>") (hlink : (Cond.methodLink own index y).before args s = true) (hinst : (Cond.instanceMethod y).before args s = true)
    (hcode : (Cond.code y bytes maxL none).before args s = true) (hy : y.cls ≠ "java/lang/invoke/MethodHandle" ∧ y.cls ≠ "java/lang/invoke/VarHandle")
    {W9 : Nat} {Pre : Pt → Array Value → Prop} {Post : Pt → Array Value → Option Value → Pt → Prop} {PostX : Pt → Array Value → Addr → Pt → Prop} (hK : vx_Back l R p e below s args y 3 W9 Pre Post PostX)
    {g : JFrame} (hg : g.method = m) (hsize : g.locals.size = c.maxLocals) {a : Addr} {argsL rest : List Value} (hlen : ∀ sig, parseMethodDescriptor y.desc = some sig → argsL.length = sig.parameters.length)
    (hstack : g.stack = argsL.reverse ++ .ref a :: rest) (hW : 2 * g.monitorRoom + (rest.map fun v => v.category).sum ≤ W9) (hdg : decode c.code g.pc = .ok (.invokespecial index, 3))
    (hpre : ∀ vm₁, s.WarmedH vm₁ → Pre ⟨T.setVm vm₁, locs, cells, slots⟩ (Value.ref a :: argsL).toArray) :
    (∃ (v : Option Value) (vm₁ : Vm) (B : Pt), s.WarmedH vm₁ ∧ Stand p l e R s m args below meth c B.U B.locs B.cells B.slots ∧ Post ⟨T.setVm vm₁, locs, cells, slots⟩ (Value.ref a :: argsL).toArray v B ∧
      ∀ target, Steps p.tables e below (B.U.setTop { g with pc := g.pc + 3, stack := v.toList ++ rest }) target → Steps p.tables e below (T.setTop g) target) ∨
    (∃ (q : Addr) (vm₁ : Vm) (B : Pt), s.WarmedH vm₁ ∧ Stand p l e R s m args below meth c B.U B.locs B.cells B.slots ∧ PostX ⟨T.setVm vm₁, locs, cells, slots⟩ (Value.ref a :: argsL).toArray q B ∧
      Steps p.tables e below (T.setTop g) ((B.U.setTop { g with stack := rest }).pushFrame (.throwing q))) := by
  subst hg
  have hpl : e.platform.magicAccessors = ({} : Platform).magicAccessors := by rw [X.admits.platform]
  obtain ⟨mk, methM, cM, kP, vm₁, hnamed, hmethM, hcodeM, -, hlocalsM, -, hkP, -, hW₁, hstep₁⟩ := Steps.initColdArgs (e := e) X.here hexec X.warmed hpl hown hy1 hy hlink hinst hcode (f := g) rfl hlen hstack hdg
  have X₁ := X.noted hW₁
  rcases hK g.method meth c ⟨T.setVm vm₁, locs, cells, slots⟩ { g with stack := rest } (.invokespecial index) mk (Value.ref a :: argsL).toArray X₁ rfl hsize hdg hW (X₁.named hnamed) (hpre vm₁ X₁.warmed) with ⟨v, B, X', hpost, hsteps⟩ | ⟨q, B, X', hpost, hsteps⟩
  · exact Or.inl ⟨v, vm₁, B, X₁.warmed, X', hpost, fun target h => hstep₁ _ fun acts => by rw [doInvoke_state]; exact hsteps.trans h⟩
  · exact Or.inr ⟨q, vm₁, B, X₁.warmed, X', hpost, hstep₁ _ fun acts => by rw [doInvoke_state]; exact hsteps⟩
end VXIA
section VXIB
variable {p : Program} {l : Launch} {e : Env} {R : Room} {s : State} {m : MethodId} {args : Array Value} {below : List Frame} {meth : Method} {c : Code} {H : Heap} {locs : List Loc} {cells slots : Nat}
variable {y : MethodName} {bytes cc : ByteArray} {maxL nL mc ms n index : Nat} {ret : Option FieldType} {ws : List Cond} {rm : Room} {Pc : Array Value → State → Prop} {Qc : Array Value → State → Outcome → State → Prop} {XC : String → State → State → Prop} {free : Addr → Prop} {Ts : List Cond} {own C : String} {b : Addr} {As rest : List Value} {g : JFrame}
theorem vx_runI (S : CallFix p m c cc nL s args Ts own) (hM : vx_Met l y ws rm Pc Qc XC mc ms free) (cw : CallB R s args own index y bytes maxL none ws rm mc ms n ∧ y.name = "<init>" ∧ (Cond.instanceMethod y).before args s = true) (hp : PreS s H Pc (.ref b :: As))
    (hg : g.method = m) (hn : As.length = n) (hsize : g.locals.size = nL) (hstack : g.stack = As.reverse ++ .ref b :: rest) (hW : 2 * g.monitorRoom + (rest.map fun v => v.category).sum ≤ 8) (hdg : decode cc g.pc = .ok (.invokespecial index, 3)) (hf : cells + mc ≤ R.cells ∧ slots + ms ≤ R.slots) :
    vx_Run p l e R s m args below meth c H locs cells slots mc ms g rest (Qc (Value.ref b :: As).toArray) XC free := by
  have hK : vx_Back l R p e below s args y 3 8 (PreOf R mc ms Pc) (PostOf Qc mc ms free) (vx_Post XC mc ms free) := vx_callBack cw.1 hM hp.1
  obtain ⟨⟨-, -, -, -, -, -, hcode, -, hy, hlen, hl⟩, hy1, hin⟩ := cw
  obtain ⟨hx, hb, hml, ho, -⟩ := S
  have hPc := hp.2
  intro T hT X
  rcases vx_callI X hx (bytes := bytes) (maxL := maxL) ho hy1 hl hin hcode hy hK hg (hsize.trans hml.symm) (a := b) (argsL := As) (rest := rest) (fun sig h => hn.trans (hlen sig h)) hstack hW (by rw [hb]; exact hdg)
    (fun vm₁ hW₁ => ⟨hf.1, hf.2, hPc (T.setVm vm₁) hT hW₁⟩) with ⟨v, vm₁, ⟨U', l2, c2, s2⟩, hW₁, X', ⟨g', mk, t, L, e1, e2, hq, h1, hL, h2, h3⟩, st⟩ | ⟨q, vm₁, ⟨U', l2, c2, s2⟩, hW₁, X', ⟨g', mk, t, L, E, ce, e1, e2, hq, hce, hcv, hcl, h1, hL, h2, h3⟩, st⟩
  · dsimp only [Pt.U, Pt.locs, Pt.cells, Pt.slots] at X' e1 e2 h1 h2 h3 st
    subst h1; subst h2; subst h3
    exact Or.inl ⟨v, (T.setVm vm₁).calling g' mk (Value.ref b :: As).toArray, t, U', L, hT, X', hL, e1, e2, hq, st⟩
  · dsimp only [Pt.U, Pt.locs, Pt.cells, Pt.slots] at X' e1 e2 h1 h2 h3 st hcl
    subst h1; subst h2; subst h3
    exact Or.inr ⟨q, (T.setVm vm₁).calling g' mk (Value.ref b :: As).toArray, t, U', L, E, ce, hT, X', hL, e1, e2, hq, hce, hcv, vx_cls hW₁ hcl, st⟩
end VXIB
/-! ===== END ===== -/
/-! ===== BEGIN a private constructor of a nest mate that throws ===== -/
section VXIC
variable {p : Program} {l : Launch} {e : Env} {R : Room} {s : State} {m : MethodId} {args : Array Value} {below : List Frame} {meth : Method} {c : Code} {T : State} {locs : List Loc} {cells slots : Nat}
theorem vx_callIN (X : Stand p l e R s m args below meth c T locs cells slots) (hexec : p.tables.exec = Jvm.exec) {own : String} {index : Nat} {host : String} {y : MethodName} {bytes : ByteArray} {maxL : Nat}
    (hown : s.vm.findClass own = some m.cls) (hy1 : y.name = "<init>") (hlink : (Cond.methodLinkNest own index y host).before args s = true) (hinst : (Cond.instanceMethod y).before args s = true)
    (hcode : (Cond.code y bytes maxL none).before args s = true) (hy : y.cls ≠ "java/lang/invoke/MethodHandle" ∧ y.cls ≠ "java/lang/invoke/VarHandle")
    {W9 : Nat} {Pre : Pt → Array Value → Prop} {Post : Pt → Array Value → Option Value → Pt → Prop} {PostX : Pt → Array Value → Addr → Pt → Prop} (hK : vx_Back l R p e below s args y 3 W9 Pre Post PostX)
    {g : JFrame} (hg : g.method = m) (hsize : g.locals.size = c.maxLocals) {a : Addr} {argsL rest : List Value} (hlen : ∀ sig, parseMethodDescriptor y.desc = some sig → argsL.length = sig.parameters.length)
    (hstack : g.stack = argsL.reverse ++ .ref a :: rest) (hW : 2 * g.monitorRoom + (rest.map fun v => v.category).sum ≤ W9) (hdg : decode c.code g.pc = .ok (.invokespecial index, 3))
    (hpre : ∀ vm₁, s.WarmedH vm₁ → Pre ⟨T.setVm vm₁, locs, cells, slots⟩ (Value.ref a :: argsL).toArray) :
    (∃ (v : Option Value) (vm₁ : Vm) (B : Pt), s.WarmedH vm₁ ∧ Stand p l e R s m args below meth c B.U B.locs B.cells B.slots ∧ Post ⟨T.setVm vm₁, locs, cells, slots⟩ (Value.ref a :: argsL).toArray v B ∧
      ∀ target, Steps p.tables e below (B.U.setTop { g with pc := g.pc + 3, stack := v.toList ++ rest }) target → Steps p.tables e below (T.setTop g) target) ∨
    (∃ (q : Addr) (vm₁ : Vm) (B : Pt), s.WarmedH vm₁ ∧ Stand p l e R s m args below meth c B.U B.locs B.cells B.slots ∧ PostX ⟨T.setVm vm₁, locs, cells, slots⟩ (Value.ref a :: argsL).toArray q B ∧
      Steps p.tables e below (T.setTop g) ((B.U.setTop { g with stack := rest }).pushFrame (.throwing q))) := by
  subst hg
  have hpl : e.platform.magicAccessors = ({} : Platform).magicAccessors := by rw [X.admits.platform]
  obtain ⟨mk, methM, cM, kP, vm₁, hnamed, hmethM, hcodeM, -, hlocalsM, -, hkP, -, hW₁, hstep₁⟩ := Steps.initColdArgsNest (e := e) X.here hexec X.warmed hpl hown hy1 hy hlink hinst hcode (f := g) rfl hlen hstack hdg
  have X₁ := X.noted hW₁
  rcases hK g.method meth c ⟨T.setVm vm₁, locs, cells, slots⟩ { g with stack := rest } (.invokespecial index) mk (Value.ref a :: argsL).toArray X₁ rfl hsize hdg hW (X₁.named hnamed) (hpre vm₁ X₁.warmed) with ⟨v, B, X', hpost, hsteps⟩ | ⟨q, B, X', hpost, hsteps⟩
  · exact Or.inl ⟨v, vm₁, B, X₁.warmed, X', hpost, fun target h => hstep₁ _ fun acts => by rw [doInvoke_state]; exact hsteps.trans h⟩
  · exact Or.inr ⟨q, vm₁, B, X₁.warmed, X', hpost, hstep₁ _ fun acts => by rw [doInvoke_state]; exact hsteps⟩
end VXIC
section VXID
variable {p : Program} {l : Launch} {e : Env} {R : Room} {s : State} {m : MethodId} {args : Array Value} {below : List Frame} {meth : Method} {c : Code} {H : Heap} {locs : List Loc} {cells slots : Nat}
theorem vx_runIN {y : MethodName} {bytes cc : ByteArray} {maxL nL mc ms n index : Nat} {ws : List Cond} {rm : Room} {Pc : Array Value → State → Prop} {Qc : Array Value → State → Outcome → State → Prop} {XC : String → State → State → Prop} {free : Addr → Prop} {Ts : List Cond} {own host : String} {b : Addr} {As rest : List Value} {g : JFrame}
    (S : CallFix p m c cc nL s args Ts own) (hM : vx_Met l y ws rm Pc Qc XC mc ms free) (cw : va_CN R s args own index y host bytes maxL none ws rm mc ms n ∧ y.name = "<init>" ∧ (Cond.instanceMethod y).before args s = true) (hp : PreS s H Pc (.ref b :: As))
    (hg : g.method = m) (hn : As.length = n) (hsize : g.locals.size = nL) (hstack : g.stack = As.reverse ++ .ref b :: rest) (hW : 2 * g.monitorRoom + (rest.map fun v => v.category).sum ≤ 8) (hdg : decode cc g.pc = .ok (.invokespecial index, 3)) (hf : cells + mc ≤ R.cells ∧ slots + ms ≤ R.slots) :
    vx_Run p l e R s m args below meth c H locs cells slots mc ms g rest (Qc (Value.ref b :: As).toArray) XC free := by
  obtain ⟨⟨⟨hrc, hrs, hfr, hlo, hws, hcw⟩, hcode, hini, hy, hlen, hl⟩, hx1, hx2⟩ := cw
  have hK : vx_Back l R p e below s args y 3 8 (PreOf R mc ms Pc) (PostOf Qc mc ms free) (vx_Post XC mc ms free) := vx_back (bytes := bytes) (maxL := maxL) (ret := none) hM hp.1 hrc hrs hfr hlo hws hcw (fun a' U hW => word_at hW (Or.inl (by first | rfl | simp [Cond.onTables, Cond.keeps, Cond.steady])) hini)
  obtain ⟨hx, hb, hml, ho, -⟩ := S
  have hPc := hp.2
  intro T hT X
  rcases vx_callIN X hx (bytes := bytes) (maxL := maxL) ho hx1 hl hx2 hcode hy hK hg (hsize.trans hml.symm) (a := b) (argsL := As) (rest := rest) (fun sig h => hn.trans (hlen sig h)) hstack hW (by rw [hb]; exact hdg)
    (fun vm₁ hW₁ => ⟨hf.1, hf.2, hPc (T.setVm vm₁) hT hW₁⟩) with ⟨v, vm₁, ⟨U', l2, c2, s2⟩, hW₁, X', ⟨g', mk, t, L, e1, e2, hq, h1, hL, h2, h3⟩, st⟩ | ⟨q, vm₁, ⟨U', l2, c2, s2⟩, hW₁, X', ⟨g', mk, t, L, E, ce, e1, e2, hq, hce, hcv, hcl, h1, hL, h2, h3⟩, st⟩
  · dsimp only [Pt.U, Pt.locs, Pt.cells, Pt.slots] at X' e1 e2 h1 h2 h3 st
    subst h1; subst h2; subst h3
    exact Or.inl ⟨v, (T.setVm vm₁).calling g' mk (Value.ref b :: As).toArray, t, U', L, hT, X', hL, e1, e2, hq, st⟩
  · dsimp only [Pt.U, Pt.locs, Pt.cells, Pt.slots] at X' e1 e2 h1 h2 h3 st hcl
    subst h1; subst h2; subst h3
    exact Or.inr ⟨q, (T.setVm vm₁).calling g' mk (Value.ref b :: As).toArray, t, U', L, E, ce, hT, X', hL, e1, e2, hq, hce, hcv, vx_cls hW₁ hcl, st⟩
end VXID
/-! ===== END ===== -/
/-! ===== BEGIN a method of a class above, found by the receiver, that may throw (follows va_callVU, va_runU of this kit) ===== -/
section
variable {p : Program} {l : Launch} {e : Env} {R : Room} {s : State} {m : MethodId} {args : Array Value} {below : List Frame} {meth : Method} {c : Code} {H : Heap} {locs : List Loc} {cells slots : Nat}
theorem vx_callVU {T : State} {locs : List Loc} {cells slots : Nat} (X : Stand p l e R s m args below meth c T locs cells slots) (hexec : p.tables.exec = Jvm.exec) {own C owner : String} {index : Nat} {x y : MethodName} {bytes : ByteArray} {maxL : Nat} {ret : Option FieldType}
    (hown : s.vm.findClass own = some m.cls) (hlink : (Cond.methodLink own index x).before args s = true) (hsame : (Cond.sameMethod x.cls owner x.name x.desc).before args s = true)
    (hd0 : va_Decl s ⟨owner, x.name, x.desc⟩) (howner : owner ≠ "java/lang/invoke/MethodHandle" ∧ owner ≠ "java/lang/invoke/VarHandle")
    (hsel : (Cond.selects C x y).before args s = true) (hinst : (Cond.instanceMethod y).before args s = true) (hcode : (Cond.code y bytes maxL ret).before args s = true)
    {W : Nat} {Pre : Pt → Array Value → Prop} {Post : Pt → Array Value → Option Value → Pt → Prop} {PostX : Pt → Array Value → Addr → Pt → Prop} (hK : vx_Back l R p e below s args y 3 W Pre Post PostX)
    {b : Addr} {cellB : Cell} (hcell : T.heap[b]? = some cellB) (hobj : cellB.vm.isStatics = false) (hcls : s.vm.findClass C = some cellB.cls)
    {g : JFrame} (hg : g.method = m) (hsize : g.locals.size = c.maxLocals) {argsL rest : List Value} (hlen : ∀ sig, parseMethodDescriptor x.desc = some sig → argsL.length = sig.parameters.length)
    (hstack : g.stack = argsL.reverse ++ .ref b :: rest) (hW : 2 * g.monitorRoom + (rest.map fun v => v.category).sum ≤ W) (hdg : decode c.code g.pc = .ok (.invokevirtual index, 3))
    (hpre : ∀ vm₁, s.WarmedH vm₁ → Pre ⟨T.setVm vm₁, locs, cells, slots⟩ (Value.ref b :: argsL).toArray) :
    (∃ (v : Option Value) (vm₁ : Vm) (B : Pt), s.WarmedH vm₁ ∧ Stand p l e R s m args below meth c B.U B.locs B.cells B.slots ∧ Post ⟨T.setVm vm₁, locs, cells, slots⟩ (Value.ref b :: argsL).toArray v B ∧
      ∀ target, Steps p.tables e below (B.U.setTop { g with pc := g.pc + 3, stack := v.toList ++ rest }) target → Steps p.tables e below (T.setTop g) target) ∨
    (∃ (q : Addr) (vm₁ : Vm) (B : Pt), s.WarmedH vm₁ ∧ Stand p l e R s m args below meth c B.U B.locs B.cells B.slots ∧ PostX ⟨T.setVm vm₁, locs, cells, slots⟩ (Value.ref b :: argsL).toArray q B ∧
      Steps p.tables e below (T.setTop g) ((B.U.setTop { g with stack := rest }).pushFrame (.throwing q))) := by
  obtain ⟨r0, r, hn, hrm, hstR, hsigR⟩ := hd0
  obtain ⟨cn, ck, r1, hcn, hck, hni, hf, hn1⟩ := Cond.sameMethod_found hsame
  cases hn.symm.trans hn1
  obtain ⟨mk, methM, hnamed, hmethM, -, habM⟩ := Cond.instanceMethod_spec hinst
  obtain ⟨c2, r2, m2, q1, q2, q3, q4, kP, hkP, hkPi⟩ := Cond.selects_spec hsel
  cases hcls.symm.trans q1
  cases hf.symm.trans q2
  cases hnamed.symm.trans q3
  have hselP : selectMethod e.platform s.vm cellB.cls r0 = .method mk := by rw [Launch.admits_selectMethod X.admits]; exact q4
  obtain ⟨vm₁, X₁, hstep₁⟩ := X.invokevirtualUp hexec hown hlink hsame howner hn hrm hstR (a := b) (cell := cellB) hcell
    (fun z h => by rw [h] at hobj; cases hobj) hselP hmethM habM hkP hkPi (g := g) hg (argsL := argsL) (rest := rest) (hlen _ hsigR) hstack hdg
  rcases hK m meth c ⟨T.setVm vm₁, locs, cells, slots⟩ { g with stack := rest } (.invokevirtual index) mk (Value.ref b :: argsL).toArray X₁ hg hsize hdg hW (X₁.named hnamed) (hpre vm₁ X₁.warmed) with ⟨v, B, X', hpost, hsteps⟩ | ⟨q, B, X', hpost, hsteps⟩
  · exact Or.inl ⟨v, vm₁, B, X₁.warmed, X', hpost, fun target h => hstep₁ _ fun acts => by rw [doInvoke_state]; exact hsteps.trans h⟩
  · exact Or.inr ⟨q, vm₁, B, X₁.warmed, X', hpost, hstep₁ _ fun acts => by rw [doInvoke_state]; exact hsteps⟩
theorem vx_runU {x y : MethodName} {bytes cc : ByteArray} {maxL nL mc ms n index : Nat} {ret : Option FieldType} {ws : List Cond} {rm : Room} {Pc : Array Value → State → Prop} {Qc : Array Value → State → Outcome → State → Prop} {XC : String → State → State → Prop} {free : Addr → Prop} {Ts : List Cond} {own C owner : String} {b : Addr} {As rest : List Value} {g : JFrame}
    (S : CallFix p m c cc nL s args Ts own) (hM : vx_Met l y ws rm Pc Qc XC mc ms free) (cw : va_CU R s args own C owner index x y bytes maxL ret ws rm mc ms n) (hp : PreV s H C b Pc As)
    (hg : g.method = m) (hn : As.length = n) (hsize : g.locals.size = nL) (hstack : g.stack = As.reverse ++ .ref b :: rest) (hW : 2 * g.monitorRoom + (rest.map fun v => v.category).sum ≤ 8) (hdg : decode cc g.pc = .ok (.invokevirtual index, 3)) (hf : cells + mc ≤ R.cells ∧ slots + ms ≤ R.slots) :
    vx_Run p l e R s m args below meth c H locs cells slots mc ms g rest (Qc (Value.ref b :: As).toArray) XC free := by
  obtain ⟨hrc, hrs, hfr, hlo, hws, hcw⟩ := cw.back
  have hini := cw.init
  have hK : vx_Back l R p e below s args y 3 8 (PreOf R mc ms Pc) (PostOf Qc mc ms free) (vx_Post XC mc ms free) := vx_back (bytes := bytes) (maxL := maxL) (ret := ret) hM hp.1 hrc hrs hfr hlo hws hcw (fun a' U hW => word_at hW (Or.inl (by first | rfl | simp [Cond.onTables, Cond.keeps, Cond.steady])) hini)
  obtain ⟨hx, hb, hml, ho, -⟩ := S
  obtain ⟨-, ⟨cellB, hcB, hoB, hclB⟩, hPc⟩ := hp
  intro T hT X
  rcases vx_callVU X hx (C := C) (owner := owner) (bytes := bytes) (maxL := maxL) (ret := ret) ho cw.link cw.same cw.decl cw.notMH cw.sel cw.inst cw.code hK (by rw [hT]; exact hcB) hoB hclB hg (hsize.trans hml.symm) (argsL := As) (rest := rest) (fun sig h => hn.trans (cw.len sig h)) hstack hW (by rw [hb]; exact hdg)
    (fun vm₁ hW₁ => ⟨hf.1, hf.2, hPc (T.setVm vm₁) hT hW₁⟩) with ⟨v, vm₁, ⟨U', l2, c2, s2⟩, hW₁, X', ⟨g', mk, t, L, e1, e2, hq, h1, hL, h2, h3⟩, st⟩ | ⟨q, vm₁, ⟨U', l2, c2, s2⟩, hW₁, X', ⟨g', mk, t, L, E, ce, e1, e2, hq, hce, hcv, hcl, h1, hL, h2, h3⟩, st⟩
  · dsimp only [Pt.U, Pt.locs, Pt.cells, Pt.slots] at X' e1 e2 h1 h2 h3 st
    subst h1; subst h2; subst h3
    exact Or.inl ⟨v, (T.setVm vm₁).calling g' mk (Value.ref b :: As).toArray, t, U', L, hT, X', hL, e1, e2, hq, st⟩
  · dsimp only [Pt.U, Pt.locs, Pt.cells, Pt.slots] at X' e1 e2 h1 h2 h3 st hcl
    subst h1; subst h2; subst h3
    exact Or.inr ⟨q, (T.setVm vm₁).calling g' mk (Value.ref b :: As).toArray, t, U', L, E, ce, hT, X', hL, e1, e2, hq, hce, hcv, vx_cls hW₁ hcl, st⟩
end
/-! ===== END ===== -/
/-! ===== BEGIN super.m(..) that may throw (follows va_callSU, va_runSU) ===== -/
section
variable {p : Program} {l : Launch} {e : Env} {R : Room} {s : State} {m : MethodId} {args : Array Value} {below : List Frame} {meth : Method} {c : Code} {H : Heap} {locs : List Loc} {cells slots : Nat}
theorem vx_callSU {T : State} {locs : List Loc} {cells slots : Nat} (X : Stand p l e R s m args below meth c T locs cells slots) (hexec : p.tables.exec = Jvm.exec) {own : String} {index : Nat} {y : MethodName} {bytes : ByteArray} {maxL : Nat} {ret : Option FieldType}
    (hown : s.vm.findClass own = some m.cls) (hlink : (Cond.methodLink own index y).before args s = true) (hsame : (Cond.sameMethod y.cls y.cls y.name y.desc).before args s = true) (hsup : (Cond.superclass own y.cls).before args s = true)
    (hinst : (Cond.instanceMethod y).before args s = true) (hcode : (Cond.code y bytes maxL ret).before args s = true) (hno : y.name ≠ "<init>")
    {W : Nat} {Pre : Pt → Array Value → Prop} {Post : Pt → Array Value → Option Value → Pt → Prop} {PostX : Pt → Array Value → Addr → Pt → Prop} (hK : vx_Back l R p e below s args y 3 W Pre Post PostX)
    {b : Addr} {cellB : Cell} {kB : Class} (hcell : T.heap[b]? = some cellB) (hobj : cellB.vm.isStatics = false) (hkB : s.vm.classes[cellB.cls]? = some kB)
    {g : JFrame} (hg : g.method = m) (hsize : g.locals.size = c.maxLocals) {argsL rest : List Value} (hlen : ∀ sig, parseMethodDescriptor y.desc = some sig → argsL.length = sig.parameters.length)
    (hstack : g.stack = argsL.reverse ++ .ref b :: rest) (hW : 2 * g.monitorRoom + (rest.map fun v => v.category).sum ≤ W) (hdg : decode c.code g.pc = .ok (.invokespecial index, 3))
    (hpre : ∀ vm₁, s.WarmedH vm₁ → Pre ⟨T.setVm vm₁, locs, cells, slots⟩ (Value.ref b :: argsL).toArray) :
    (∃ (v : Option Value) (vm₁ : Vm) (B : Pt), s.WarmedH vm₁ ∧ Stand p l e R s m args below meth c B.U B.locs B.cells B.slots ∧ Post ⟨T.setVm vm₁, locs, cells, slots⟩ (Value.ref b :: argsL).toArray v B ∧
      ∀ target, Steps p.tables e below (B.U.setTop { g with pc := g.pc + 3, stack := v.toList ++ rest }) target → Steps p.tables e below (T.setTop g) target) ∨
    (∃ (q : Addr) (vm₁ : Vm) (B : Pt), s.WarmedH vm₁ ∧ Stand p l e R s m args below meth c B.U B.locs B.cells B.slots ∧ PostX ⟨T.setVm vm₁, locs, cells, slots⟩ (Value.ref b :: argsL).toArray q B ∧
      Steps p.tables e below (T.setTop g) ((B.U.setTop { g with stack := rest }).pushFrame (.throwing q))) := by
  obtain ⟨mk, methM, hnamed, hmethM, hstM, habM⟩ := Cond.instanceMethod_spec hinst
  obtain ⟨methM', cM, hmethM', -, -, -, -, -, -, hsigM⟩ := Cond.code_spec hnamed hcode
  cases hmethM.symm.trans hmethM'
  obtain ⟨ps, dk, kp, hps, hdk, hkp, hsuper, -, -, hnid⟩ := Cond.superclass_spec hown hsup
  have hn : s.methodNamed? ⟨y.cls, y.name, y.desc⟩ = some mk := hnamed
  have hpm : ps = mk.cls := Option.some.inj (hps.symm.trans (findClass_of_methodNamed hnamed))
  have hsub : s.vm.isSubclass ps mk.cls = true := by rw [hpm]; simp [Vm.isSubclass, Vm.isSubclassAux]
  obtain ⟨vm₁, X₁, hstep₁⟩ := X.invokespecialUp hexec hown hlink hsame hn hmethM hstM habM hno hdk hnid hps hsuper hsub (a := b) (cell := cellB) hcell
    (fun z h => by rw [h] at hobj; cases hobj) hkB (g := g) hg (argsL := argsL) (rest := rest) (hlen _ hsigM) hstack hdg
  rcases hK m meth c ⟨T.setVm vm₁, locs, cells, slots⟩ { g with stack := rest } (.invokespecial index) mk (Value.ref b :: argsL).toArray X₁ hg hsize hdg hW (X₁.named hnamed) (hpre vm₁ X₁.warmed) with ⟨v, B, X', hpost, hsteps⟩ | ⟨q, B, X', hpost, hsteps⟩
  · exact Or.inl ⟨v, vm₁, B, X₁.warmed, X', hpost, fun target h => hstep₁ _ (by rw [doInvoke_state]; exact hsteps.trans h)⟩
  · exact Or.inr ⟨q, vm₁, B, X₁.warmed, X', hpost, hstep₁ _ (by rw [doInvoke_state]; exact hsteps)⟩
theorem vx_runSU {y : MethodName} {bytes cc : ByteArray} {maxL nL mc ms n index : Nat} {ret : Option FieldType} {ws : List Cond} {rm : Room} {Pc : Array Value → State → Prop} {Qc : Array Value → State → Outcome → State → Prop} {XC : String → State → State → Prop} {free : Addr → Prop} {Ts : List Cond} {own C : String} {cC : ClassId} {b : Addr} {As rest : List Value} {g : JFrame}
    (hat : ClassAt s C cC) (S : CallFix p m c cc nL s args Ts own) (hM : vx_Met l y ws rm Pc Qc XC mc ms free) (cw : va_CS R s args own index y bytes maxL ret ws rm mc ms n) (hp : PreV s H C b Pc As)
    (hg : g.method = m) (hn : As.length = n) (hsize : g.locals.size = nL) (hstack : g.stack = As.reverse ++ .ref b :: rest) (hW : 2 * g.monitorRoom + (rest.map fun v => v.category).sum ≤ 8) (hdg : decode cc g.pc = .ok (.invokespecial index, 3)) (hf : cells + mc ≤ R.cells ∧ slots + ms ≤ R.slots) :
    vx_Run p l e R s m args below meth c H locs cells slots mc ms g rest (Qc (Value.ref b :: As).toArray) XC free := by
  obtain ⟨⟨hrc, hrs, hfr, hlo, hws, hcw⟩, hl1, hl2, hl3, hl4, hini, hcode, hno, hlen⟩ := cw
  have hK : vx_Back l R p e below s args y 3 8 (PreOf R mc ms Pc) (PostOf Qc mc ms free) (vx_Post XC mc ms free) := vx_back (bytes := bytes) (maxL := maxL) (ret := ret) hM hp.1 hrc hrs hfr hlo hws hcw (fun a' U hW => word_at hW (Or.inl (by first | rfl | simp [Cond.onTables, Cond.keeps, Cond.steady])) hini)
  obtain ⟨hx, hb, hml, ho, -⟩ := S
  obtain ⟨-, ⟨cellB, hcB, hoB, hclB⟩, hPc⟩ := hp
  obtain ⟨hfc, kB, hkB, -⟩ := hat
  cases hfc.symm.trans hclB
  intro T hT X
  rcases vx_callSU X hx (bytes := bytes) (maxL := maxL) (ret := ret) ho hl1 hl2 hl3 hl4 hcode hno hK (by rw [hT]; exact hcB) hoB hkB hg (hsize.trans hml.symm) (argsL := As) (rest := rest) (fun sig h => hn.trans (hlen sig h)) hstack hW (by rw [hb]; exact hdg)
    (fun vm₁ hW₁ => ⟨hf.1, hf.2, hPc (T.setVm vm₁) hT hW₁⟩) with ⟨v, vm₁, ⟨U', l2, c2, s2⟩, hW₁, X', ⟨g', mk, t, L, e1, e2, hq, h1, hL, h2, h3⟩, st⟩ | ⟨q, vm₁, ⟨U', l2, c2, s2⟩, hW₁, X', ⟨g', mk, t, L, E, ce, e1, e2, hq, hce, hcv, hcl, h1, hL, h2, h3⟩, st⟩
  · dsimp only [Pt.U, Pt.locs, Pt.cells, Pt.slots] at X' e1 e2 h1 h2 h3 st
    subst h1; subst h2; subst h3
    exact Or.inl ⟨v, (T.setVm vm₁).calling g' mk (Value.ref b :: As).toArray, t, U', L, hT, X', hL, e1, e2, hq, st⟩
  · dsimp only [Pt.U, Pt.locs, Pt.cells, Pt.slots] at X' e1 e2 h1 h2 h3 st hcl
    subst h1; subst h2; subst h3
    exact Or.inr ⟨q, (T.setVm vm₁).calling g' mk (Value.ref b :: As).toArray, t, U', L, E, ce, hT, X', hL, e1, e2, hq, hce, hcv, vx_cls hW₁ hcl, st⟩
end
/-! ===== END ===== -/
/-! ===== BEGIN a private method of a nest mate that may throw (follows va_callVN, va_callSN, va_runVN, va_runSN) ===== -/
section
variable {p : Program} {l : Launch} {e : Env} {R : Room} {s : State} {m : MethodId} {args : Array Value} {below : List Frame} {meth : Method} {c : Code} {H : Heap} {locs : List Loc} {cells slots : Nat}
variable {T : State}
theorem vx_callVN (X : Stand p l e R s m args below meth c T locs cells slots) (hexec : p.tables.exec = Jvm.exec) {own C : String} {index : Nat} {host : String} {y : MethodName} {bytes : ByteArray} {maxL : Nat} {ret : Option FieldType}
    (hown : s.vm.findClass own = some m.cls) (hlink : (Cond.methodLinkNest own index y host).before args s = true) (hinst : (Cond.instanceMethod y).before args s = true) (hsel : (Cond.selects C y y).before args s = true)
    (hcode : (Cond.code y bytes maxL ret).before args s = true) (hy : y.cls ≠ "java/lang/invoke/MethodHandle" ∧ y.cls ≠ "java/lang/invoke/VarHandle")
    {W : Nat} {Pre : Pt → Array Value → Prop} {Post : Pt → Array Value → Option Value → Pt → Prop} {PostX : Pt → Array Value → Addr → Pt → Prop} (hK : vx_Back l R p e below s args y 3 W Pre Post PostX)
    {b : Addr} {cellB : Cell} (hcell : T.heap[b]? = some cellB) (hobj : cellB.vm.isStatics = false) (hcls : s.vm.findClass C = some cellB.cls)
    {g : JFrame} (hg : g.method = m) (hsize : g.locals.size = c.maxLocals) {argsL rest : List Value} (hlen : ∀ sig, parseMethodDescriptor y.desc = some sig → argsL.length = sig.parameters.length)
    (hstack : g.stack = argsL.reverse ++ .ref b :: rest) (hW : 2 * g.monitorRoom + (rest.map fun v => v.category).sum ≤ W) (hdg : decode c.code g.pc = .ok (.invokevirtual index, 3))
    (hpre : ∀ vm₁, s.WarmedH vm₁ → Pre ⟨T.setVm vm₁, locs, cells, slots⟩ (Value.ref b :: argsL).toArray) :
    (∃ (v : Option Value) (vm₁ : Vm) (B : Pt), s.WarmedH vm₁ ∧ Stand p l e R s m args below meth c B.U B.locs B.cells B.slots ∧ Post ⟨T.setVm vm₁, locs, cells, slots⟩ (Value.ref b :: argsL).toArray v B ∧
      ∀ target, Steps p.tables e below (B.U.setTop { g with pc := g.pc + 3, stack := v.toList ++ rest }) target → Steps p.tables e below (T.setTop g) target) ∨
    (∃ (q : Addr) (vm₁ : Vm) (B : Pt), s.WarmedH vm₁ ∧ Stand p l e R s m args below meth c B.U B.locs B.cells B.slots ∧ PostX ⟨T.setVm vm₁, locs, cells, slots⟩ (Value.ref b :: argsL).toArray q B ∧
      Steps p.tables e below (T.setTop g) ((B.U.setTop { g with stack := rest }).pushFrame (.throwing q))) := by
  obtain ⟨mk, methM, hnamed, hmethM, hstM, habM⟩ := Cond.instanceMethod_spec hinst
  obtain ⟨methM', cM, hmethM', -, -, -, -, -, -, hsigM⟩ := Cond.code_spec hnamed hcode
  cases hmethM.symm.trans hmethM'
  obtain ⟨c2, r2, m2, q1, q2, q3, q4, kP, hkP, hkPi⟩ := Cond.selects_spec hsel
  cases hcls.symm.trans q1
  cases (State.methodFound?_of_named hnamed hy).symm.trans q2
  cases hnamed.symm.trans q3
  have hselP : selectMethod e.platform s.vm cellB.cls mk = .method mk := by rw [Launch.admits_selectMethod X.admits]; exact q4
  obtain ⟨vm₁, X₁, hstep₁⟩ := X.invokevirtualNest hexec hown hlink hnamed hmethM hstM hkP hkPi hy (a := b) (cell := cellB) hcell
    (fun z h => by rw [h] at hobj; cases hobj) hselP hmethM habM hkP hkPi (g := g) hg (argsL := argsL) (rest := rest) (hlen _ hsigM) hstack hdg
  rcases hK m meth c ⟨T.setVm vm₁, locs, cells, slots⟩ { g with stack := rest } (.invokevirtual index) mk (Value.ref b :: argsL).toArray X₁ hg hsize hdg hW (X₁.named hnamed) (hpre vm₁ X₁.warmed) with ⟨v, B, X', hpost, hsteps⟩ | ⟨q, B, X', hpost, hsteps⟩
  · exact Or.inl ⟨v, vm₁, B, X₁.warmed, X', hpost, fun target h => hstep₁ _ fun acts => by rw [doInvoke_state]; exact hsteps.trans h⟩
  · exact Or.inr ⟨q, vm₁, B, X₁.warmed, X', hpost, hstep₁ _ fun acts => by rw [doInvoke_state]; exact hsteps⟩
theorem vx_callSN (X : Stand p l e R s m args below meth c T locs cells slots) (hexec : p.tables.exec = Jvm.exec) {own : String} {index : Nat} {host : String} {y : MethodName} {bytes : ByteArray} {maxL : Nat} {ret : Option FieldType}
    (hown : s.vm.findClass own = some m.cls) (hlink : (Cond.methodLinkNest own index y host).before args s = true) (hstat : (Cond.static y).before args s = true) (hinit : (Cond.initialized y.cls).before args s = true)
    (hcode : (Cond.code y bytes maxL ret).before args s = true) (hy : y.cls ≠ "java/lang/invoke/MethodHandle" ∧ y.cls ≠ "java/lang/invoke/VarHandle")
    {W : Nat} {Pre : Pt → Array Value → Prop} {Post : Pt → Array Value → Option Value → Pt → Prop} {PostX : Pt → Array Value → Addr → Pt → Prop} (hK : vx_Back l R p e below s args y 3 W Pre Post PostX)
    {g : JFrame} (hg : g.method = m) (hsize : g.locals.size = c.maxLocals) {argsL rest : List Value} (hlen : ∀ sig, parseMethodDescriptor y.desc = some sig → argsL.length = sig.parameters.length)
    (hstack : g.stack = argsL.reverse ++ rest) (hW : 2 * g.monitorRoom + (rest.map fun v => v.category).sum ≤ W) (hdg : decode c.code g.pc = .ok (.invokestatic index, 3))
    (hpre : ∀ vm₁, s.WarmedH vm₁ → Pre ⟨T.setVm vm₁, locs, cells, slots⟩ argsL.toArray) :
    (∃ (v : Option Value) (vm₁ : Vm) (B : Pt), s.WarmedH vm₁ ∧ Stand p l e R s m args below meth c B.U B.locs B.cells B.slots ∧ Post ⟨T.setVm vm₁, locs, cells, slots⟩ argsL.toArray v B ∧
      ∀ target, Steps p.tables e below (B.U.setTop { g with pc := g.pc + 3, stack := v.toList ++ rest }) target → Steps p.tables e below (T.setTop g) target) ∨
    (∃ (q : Addr) (vm₁ : Vm) (B : Pt), s.WarmedH vm₁ ∧ Stand p l e R s m args below meth c B.U B.locs B.cells B.slots ∧ PostX ⟨T.setVm vm₁, locs, cells, slots⟩ argsL.toArray q B ∧
      Steps p.tables e below (T.setTop g) ((B.U.setTop { g with stack := rest }).pushFrame (.throwing q))) := by
  obtain ⟨mk, hnamed⟩ := Cond.code_named hcode
  obtain ⟨methM, cM, hmethM, -, -, -, -, -, -, hsigM⟩ := Cond.code_spec hnamed hcode
  have hstatic : methM.isStatic = true := Cond.static_spec hnamed hmethM hstat
  obtain ⟨kP, hkP, -⟩ := className_of_methodNamed hnamed
  have hinitP : kP.init = .initialized := Cond.initialized_spec (findClass_of_methodNamed hnamed) hkP hinit
  obtain ⟨vm₁, X₁, hstep₁⟩ := X.invokestaticNest hexec hown hlink hnamed hmethM hstatic hkP hinitP hy (g := g) hg (argsL := argsL) (rest := rest) (hlen _ hsigM) hstack hdg
  rcases hK m meth c ⟨T.setVm vm₁, locs, cells, slots⟩ { g with stack := rest } (.invokestatic index) mk argsL.toArray X₁ hg hsize hdg hW (X₁.named hnamed) (hpre vm₁ X₁.warmed) with ⟨v, B, X', hpost, hsteps⟩ | ⟨q, B, X', hpost, hsteps⟩
  · exact Or.inl ⟨v, vm₁, B, X₁.warmed, X', hpost, fun target h => hstep₁ _ fun acts => by rw [doInvoke_state]; exact hsteps.trans h⟩
  · exact Or.inr ⟨q, vm₁, B, X₁.warmed, X', hpost, hstep₁ _ fun acts => by rw [doInvoke_state]; exact hsteps⟩
theorem vx_runVN {y : MethodName} {bytes cc : ByteArray} {maxL nL mc ms n index : Nat} {ret : Option FieldType} {ws : List Cond} {rm : Room} {Pc : Array Value → State → Prop} {Qc : Array Value → State → Outcome → State → Prop} {XC : String → State → State → Prop} {free : Addr → Prop} {Ts : List Cond} {own C host : String} {b : Addr} {As rest : List Value} {g : JFrame}
    (S : CallFix p m c cc nL s args Ts own) (hM : vx_Met l y ws rm Pc Qc XC mc ms free) (cw : va_CN R s args own index y host bytes maxL ret ws rm mc ms n ∧ (Cond.instanceMethod y).before args s = true ∧ (Cond.selects C y y).before args s = true) (hp : PreV s H C b Pc As)
    (hg : g.method = m) (hn : As.length = n) (hsize : g.locals.size = nL) (hstack : g.stack = As.reverse ++ .ref b :: rest) (hW : 2 * g.monitorRoom + (rest.map fun v => v.category).sum ≤ 8) (hdg : decode cc g.pc = .ok (.invokevirtual index, 3)) (hf : cells + mc ≤ R.cells ∧ slots + ms ≤ R.slots) :
    vx_Run p l e R s m args below meth c H locs cells slots mc ms g rest (Qc (Value.ref b :: As).toArray) XC free := by
  obtain ⟨⟨⟨hrc, hrs, hfr, hlo, hws, hcw⟩, hcode, hini, hy, hlen, hl⟩, hx1, hx2⟩ := cw
  have hK : vx_Back l R p e below s args y 3 8 (PreOf R mc ms Pc) (PostOf Qc mc ms free) (vx_Post XC mc ms free) := vx_back (bytes := bytes) (maxL := maxL) (ret := ret) hM hp.1 hrc hrs hfr hlo hws hcw (fun a' U hW => word_at hW (Or.inl (by first | rfl | simp [Cond.onTables, Cond.keeps, Cond.steady])) hini)
  obtain ⟨hx, hb, hml, ho, -⟩ := S
  obtain ⟨-, ⟨cellB, hcB, hoB, hclB⟩, hPc⟩ := hp
  intro T hT X
  rcases vx_callVN X hx (C := C) (bytes := bytes) (maxL := maxL) (ret := ret) ho hl hx1 hx2 hcode hy hK (by rw [hT]; exact hcB) hoB hclB hg (hsize.trans hml.symm) (argsL := As) (rest := rest) (fun sig h => hn.trans (hlen sig h)) hstack hW (by rw [hb]; exact hdg)
    (fun vm₁ hW₁ => ⟨hf.1, hf.2, hPc (T.setVm vm₁) hT hW₁⟩) with ⟨v, vm₁, ⟨U', l2, c2, s2⟩, hW₁, X', ⟨g', mk, t, L, e1, e2, hq, h1, hL, h2, h3⟩, st⟩ | ⟨q, vm₁, ⟨U', l2, c2, s2⟩, hW₁, X', ⟨g', mk, t, L, E, ce, e1, e2, hq, hce, hcv, hcl, h1, hL, h2, h3⟩, st⟩
  · dsimp only [Pt.U, Pt.locs, Pt.cells, Pt.slots] at X' e1 e2 h1 h2 h3 st
    subst h1; subst h2; subst h3
    exact Or.inl ⟨v, (T.setVm vm₁).calling g' mk (Value.ref b :: As).toArray, t, U', L, hT, X', hL, e1, e2, hq, st⟩
  · dsimp only [Pt.U, Pt.locs, Pt.cells, Pt.slots] at X' e1 e2 h1 h2 h3 st hcl
    subst h1; subst h2; subst h3
    exact Or.inr ⟨q, (T.setVm vm₁).calling g' mk (Value.ref b :: As).toArray, t, U', L, E, ce, hT, X', hL, e1, e2, hq, hce, hcv, vx_cls hW₁ hcl, st⟩
theorem vx_runSN {y : MethodName} {bytes cc : ByteArray} {maxL nL mc ms n index : Nat} {ret : Option FieldType} {ws : List Cond} {rm : Room} {Pc : Array Value → State → Prop} {Qc : Array Value → State → Outcome → State → Prop} {XC : String → State → State → Prop} {free : Addr → Prop} {Ts : List Cond} {own host : String} {As rest : List Value} {g : JFrame}
    (S : CallFix p m c cc nL s args Ts own) (hM : vx_Met l y ws rm Pc Qc XC mc ms free) (cw : va_CN R s args own index y host bytes maxL ret ws rm mc ms n ∧ (Cond.static y).before args s = true ∧ True) (hp : PreS s H Pc As)
    (hg : g.method = m) (hn : As.length = n) (hsize : g.locals.size = nL) (hstack : g.stack = As.reverse ++ rest) (hW : 2 * g.monitorRoom + (rest.map fun v => v.category).sum ≤ 8) (hdg : decode cc g.pc = .ok (.invokestatic index, 3)) (hf : cells + mc ≤ R.cells ∧ slots + ms ≤ R.slots) :
    vx_Run p l e R s m args below meth c H locs cells slots mc ms g rest (Qc As.toArray) XC free := by
  obtain ⟨⟨⟨hrc, hrs, hfr, hlo, hws, hcw⟩, hcode, hini, hy, hlen, hl⟩, hx1, hx2⟩ := cw
  have hK : vx_Back l R p e below s args y 3 8 (PreOf R mc ms Pc) (PostOf Qc mc ms free) (vx_Post XC mc ms free) := vx_back (bytes := bytes) (maxL := maxL) (ret := ret) hM hp.1 hrc hrs hfr hlo hws hcw (fun a' U hW => word_at hW (Or.inl (by first | rfl | simp [Cond.onTables, Cond.keeps, Cond.steady])) hini)
  obtain ⟨hx, hb, hml, ho, -⟩ := S
  have hPc := hp.2
  intro T hT X
  rcases vx_callSN X hx (bytes := bytes) (maxL := maxL) (ret := ret) ho hl hx1 hini hcode hy hK hg (hsize.trans hml.symm) (argsL := As) (rest := rest) (fun sig h => hn.trans (hlen sig h)) hstack hW (by rw [hb]; exact hdg)
    (fun vm₁ hW₁ => ⟨hf.1, hf.2, hPc (T.setVm vm₁) hT hW₁⟩) with ⟨v, vm₁, ⟨U', l2, c2, s2⟩, hW₁, X', ⟨g', mk, t, L, e1, e2, hq, h1, hL, h2, h3⟩, st⟩ | ⟨q, vm₁, ⟨U', l2, c2, s2⟩, hW₁, X', ⟨g', mk, t, L, E, ce, e1, e2, hq, hce, hcv, hcl, h1, hL, h2, h3⟩, st⟩
  · dsimp only [Pt.U, Pt.locs, Pt.cells, Pt.slots] at X' e1 e2 h1 h2 h3 st
    subst h1; subst h2; subst h3
    exact Or.inl ⟨v, (T.setVm vm₁).calling g' mk As.toArray, t, U', L, hT, X', hL, e1, e2, hq, st⟩
  · dsimp only [Pt.U, Pt.locs, Pt.cells, Pt.slots] at X' e1 e2 h1 h2 h3 st hcl
    subst h1; subst h2; subst h3
    exact Or.inr ⟨q, (T.setVm vm₁).calling g' mk As.toArray, t, U', L, E, ce, hT, X', hL, e1, e2, hq, hce, hcv, vx_cls hW₁ hcl, st⟩
end
/-! ===== END ===== -/
/-! ===== BEGIN calls by an interface of methods that may throw (vx_callIF, vx_runF follow va_callIF, va_runF of this kit) ===== -/
section
variable {p : Program} {l : Launch} {e : Env} {R : Room} {s : State} {m : MethodId} {args : Array Value} {below : List Frame} {meth : Method} {c : Code} {H : Heap} {locs : List Loc} {cells slots : Nat} {Q : State → Prop}
variable {mc ms : Nat} {free : Addr → Prop} {A0 A1 : Nat → Prop} {H0 : Heap} {a : Array Value} {pc : Nat} {ls : Array Slot} {st0 rest : List Value}
def vx_Run5 (p : Program) (l : Launch) (e : Env) (R : Room) (s : State) (m : MethodId) (args : Array Value) (below : List Frame) (meth : Method) (c : Code) (H : Heap) (locs : List Loc) (cells slots mc ms : Nat) (g : JFrame) (rest : List Value) (Qa : State → Outcome → State → Prop) (XC : String → State → State → Prop) (free : Addr → Prop) : Prop :=
  ∀ T : State, T.heap = H → Stand p l e R s m args below meth c T locs cells slots →
    (∃ (v : Option Value) (st₀ t T' : State) (L : List Loc), st₀.heap = H ∧ Stand p l e R s m args below meth c T' (locs ++ L) (cells + mc) (slots + ms) ∧ (∀ q ∈ L, free q.base) ∧ T'.heap = t.heap ∧ T'.vm = t.vm ∧ Qa st₀ (.returned v) t ∧
      Goes p e below T g T' { g with pc := g.pc + 5, stack := v.toList ++ rest }) ∨
    (∃ (q : Addr) (st₀ t T' : State) (L : List Loc) (E : String) (ce : Cell), st₀.heap = H ∧ Stand p l e R s m args below meth c T' (locs ++ L) (cells + mc) (slots + ms) ∧ (∀ z ∈ L, free z.base) ∧ T'.heap = t.heap ∧ T'.vm = t.vm ∧ XC E st₀ t ∧ t.heap[q]? = some ce ∧ ce.vm = .none ∧ s.vm.findClass E = some ce.cls ∧
      Steps p.tables e below (T.setTop g) ((T'.setTop { g with stack := rest }).pushFrame (.throwing q)))
theorem vx_callIF {T : State} (X : Stand p l e R s m args below meth c T locs cells slots) (hexec : p.tables.exec = Jvm.exec) {own C : String} {index count : Nat} {x y : MethodName} {bytes : ByteArray} {maxL : Nat} {ret : Option FieldType}
    (hown : s.vm.findClass own = some m.cls) (hlink : (Cond.methodLink own index x).before args s = true) (hdecl : (Cond.declares x).before args s = true) (hface : (Cond.interfaceMethod x.cls x.cls x.name x.desc).before args s = true)
    (hsel : (Cond.selects C x y).before args s = true) (hinst : (Cond.instanceMethod y).before args s = true) (hpub : (Cond.publicMethod y).before args s = true) (hunh : (Cond.unhidden C x.name x.desc).before args s = true)
    (hcast : (Cond.castable C x.cls).before args s = true) (hcode : (Cond.code y bytes maxL ret).before args s = true) (hx : x.cls ≠ "java/lang/invoke/MethodHandle" ∧ x.cls ≠ "java/lang/invoke/VarHandle")
    {W9 : Nat} {Pre : Pt → Array Value → Prop} {Post : Pt → Array Value → Option Value → Pt → Prop} {PostX : Pt → Array Value → Addr → Pt → Prop} (hK : vx_Back l R p e below s args y 5 W9 Pre Post PostX)
    {b : Addr} {cellB : Cell} {kB : Class} (hcell : T.heap[b]? = some cellB) (hobj : cellB.vm.isStatics = false) (hcls : s.vm.findClass C = some cellB.cls) (hkB : s.vm.classes[cellB.cls]? = some kB)
    {g : JFrame} (hg : g.method = m) (hsize : g.locals.size = c.maxLocals) {argsL rest : List Value} (hlen : ∀ sig, parseMethodDescriptor x.desc = some sig → argsL.length = sig.parameters.length)
    (hstack : g.stack = argsL.reverse ++ .ref b :: rest) (hW : 2 * g.monitorRoom + (rest.map fun v => v.category).sum ≤ W9) (hdg : decode c.code g.pc = .ok (.invokeinterface index count, 5))
    (hpre : ∀ vm₁, s.WarmedH vm₁ → Pre ⟨T.setVm vm₁, locs, cells, slots⟩ (Value.ref b :: argsL).toArray) :
    (∃ (v : Option Value) (vm₁ : Vm) (B : Pt), s.WarmedH vm₁ ∧ Stand p l e R s m args below meth c B.U B.locs B.cells B.slots ∧ Post ⟨T.setVm vm₁, locs, cells, slots⟩ (Value.ref b :: argsL).toArray v B ∧
      ∀ target, Steps p.tables e below (B.U.setTop { g with pc := g.pc + 5, stack := v.toList ++ rest }) target → Steps p.tables e below (T.setTop g) target) ∨
    (∃ (q : Addr) (vm₁ : Vm) (B : Pt), s.WarmedH vm₁ ∧ Stand p l e R s m args below meth c B.U B.locs B.cells B.slots ∧ PostX ⟨T.setVm vm₁, locs, cells, slots⟩ (Value.ref b :: argsL).toArray q B ∧
      Steps p.tables e below (T.setTop g) ((B.U.setTop { g with stack := rest }).pushFrame (.throwing q))) := by
  obtain ⟨r0, r, hn, hrm, hstR, hsigR⟩ := Cond.declares_spec hdecl
  obtain ⟨cL, kL, r1, hcL, hkL, hiL, hfoundL, hn1⟩ := Cond.interfaceMethod_spec hface
  cases hn.symm.trans hn1
  have hr0cls : r0.cls = cL := Option.some.inj ((findClass_of_methodNamed hn).symm.trans hcL)
  obtain ⟨hnameR, hdescR⟩ := name_of_methodNamed hn hrm
  obtain ⟨mk, methM, hnamed, hmethM, -, habM⟩ := Cond.instanceMethod_spec hinst
  obtain ⟨c2, r2, m2, q1, q2, q3, q4, -⟩ := Cond.selects_spec hsel
  cases hcls.symm.trans q1
  cases hfoundL.symm.trans q2
  cases hnamed.symm.trans q3
  have hselP : selectMethod e.platform s.vm cellB.cls r0 = .method mk := by rw [Launch.admits_selectMethod X.admits]; exact q4
  have hpubM : hasFlag methM.accessFlags Acc.public_ = true := Cond.publicMethod_spec hnamed hmethM hpub
  have hway : ((cellB.cls :: s.vm.superclasses cellB.cls).any fun k => (declaredIn s.vm r.name r.desc k).any fun (_, z) => z.isPrivate || z.isStatic) = false := by
    rw [hnameR, hdescR]; exact Cond.unhidden_spec hcls hunh
  obtain ⟨c3, t3, w1, w2, w3⟩ := Cond.castable_spec hcast
  cases hcls.symm.trans w1
  cases hcL.symm.trans w2
  obtain ⟨vm₁, X₁, hstep₁⟩ := X.invokeinterface hexec hown hlink hn hrm hstR (by rw [hr0cls]; exact hkL) hiL hx (a := b) (cell := cellB) (kcell := kB) hcell
    (fun z h => by rw [h] at hobj; cases hobj) hkB (by rw [hr0cls]; exact w3) hselP hmethM hway hpubM habM (g := g) hg (argsL := argsL) (rest := rest) (hlen _ hsigR) hstack hdg
  rcases hK m meth c ⟨T.setVm vm₁, locs, cells, slots⟩ { g with stack := rest } (.invokeinterface index count) mk (Value.ref b :: argsL).toArray X₁ hg hsize hdg hW (X₁.named hnamed) (hpre vm₁ X₁.warmed) with ⟨v, B, X', hpost, hsteps⟩ | ⟨q, B, X', hpost, hsteps⟩
  · exact Or.inl ⟨v, vm₁, B, X₁.warmed, X', hpost, fun target h => hstep₁ _ fun acts => by rw [doInvoke_state]; exact hsteps.trans h⟩
  · exact Or.inr ⟨q, vm₁, B, X₁.warmed, X', hpost, hstep₁ _ fun acts => by rw [doInvoke_state]; exact hsteps⟩
theorem vx_runF {x y : MethodName} {bytes cc : ByteArray} {maxL nL mc ms n index count : Nat} {ret : Option FieldType} {ws : List Cond} {rm : Room} {Pc : Array Value → State → Prop} {Qc : Array Value → State → Outcome → State → Prop} {XC : String → State → State → Prop} {free : Addr → Prop} {Ts : List Cond} {own C : String} {cC : ClassId} {b : Addr} {As rest : List Value} {g : JFrame}
    (hat : ClassAt s C cC) (S : CallFix p m c cc nL s args Ts own) (hM : vx_Met l y ws rm Pc Qc XC mc ms free) (cw : va_CI R s args own C index x y bytes maxL ret ws rm mc ms n) (hp : PreV s H C b Pc As)
    (hg : g.method = m) (hn : As.length = n) (hsize : g.locals.size = nL) (hstack : g.stack = As.reverse ++ .ref b :: rest) (hW : 2 * g.monitorRoom + (rest.map fun v => v.category).sum ≤ 8) (hdg : decode cc g.pc = .ok (.invokeinterface index count, 5)) (hf : cells + mc ≤ R.cells ∧ slots + ms ≤ R.slots) :
    vx_Run5 p l e R s m args below meth c H locs cells slots mc ms g rest (Qc (Value.ref b :: As).toArray) XC free := by
  obtain ⟨hrc, hrs, hfr, hlo, hws, hcw⟩ := cw.back
  have hini := cw.init
  have hK : vx_Back l R p e below s args y 5 8 (PreOf R mc ms Pc) (PostOf Qc mc ms free) (vx_Post XC mc ms free) := vx_back (bytes := bytes) (maxL := maxL) (ret := ret) hM hp.1 hrc hrs hfr hlo hws hcw (fun a' U hW => word_at hW (Or.inl (by first | rfl | simp [Cond.onTables, Cond.keeps, Cond.steady])) hini)
  obtain ⟨hx, hb, hml, ho, -⟩ := S
  obtain ⟨-, ⟨cellB, hcB, hoB, hclB⟩, hPc⟩ := hp
  obtain ⟨hfc, kB, hkB, -⟩ := hat
  cases hfc.symm.trans hclB
  intro T hT X
  rcases vx_callIF X hx (C := C) (bytes := bytes) (maxL := maxL) (ret := ret) ho cw.link cw.decl cw.face cw.sel cw.inst cw.pub cw.unh cw.cast cw.code cw.notMH hK (by rw [hT]; exact hcB) hoB hclB hkB hg (hsize.trans hml.symm) (argsL := As) (rest := rest) (fun sig h => hn.trans (cw.len sig h)) hstack hW (by rw [hb]; exact hdg)
    (fun vm₁ hW₁ => ⟨hf.1, hf.2, hPc (T.setVm vm₁) hT hW₁⟩) with ⟨v, vm₁, ⟨U', l2, c2, s2⟩, hW₁, X', ⟨g', mk, t, L, e1, e2, hq, h1, hL, h2, h3⟩, st⟩ | ⟨q, vm₁, ⟨U', l2, c2, s2⟩, hW₁, X', ⟨g', mk, t, L, E, ce, e1, e2, hq, hce, hcv, hcl, h1, hL, h2, h3⟩, st⟩
  · dsimp only [Pt.U, Pt.locs, Pt.cells, Pt.slots] at X' e1 e2 h1 h2 h3 st
    subst h1; subst h2; subst h3
    exact Or.inl ⟨v, (T.setVm vm₁).calling g' mk (Value.ref b :: As).toArray, t, U', L, hT, X', hL, e1, e2, hq, st⟩
  · dsimp only [Pt.U, Pt.locs, Pt.cells, Pt.slots] at X' e1 e2 h1 h2 h3 st hcl
    subst h1; subst h2; subst h3
    exact Or.inr ⟨q, (T.setVm vm₁).calling g' mk (Value.ref b :: As).toArray, t, U', L, E, ce, hT, X', hL, e1, e2, hq, hce, hcv, vx_cls hW₁ hcl, st⟩
theorem vx_callFv {S SX : Type} {post : S → Prop} {px : SX → Prop} {B : S → State → Prop} {BX : String → SX → State → Prop} {AX : Nat → Prop} (hr : vx_Run5 p l e R s m args below meth c H locs cells slots mc ms (F0 m pc ls st0) rest (va_Qv post B A1 a) (vx_X px BX AX) free) (hS : va_S A0 H0 H locs) (hA : ∀ q, q < H.size → A1 q → A0 q) (hf : ∀ q, free q → A0 q) (hAX : ∀ q, q < H.size → AX q → A0 q)
    (kx : ∀ (E : String) (ce : Cell) (q9 : Addr) (u : SX) (t : State) (H1 : Heap) (locs1 : List Loc), t.heap = H1 → s.vm.Alike t.vm → px u → BX E u t → H.size ≤ H1.size → (∀ q : Nat, q < H.size → ¬ AX q → H1[q]? = H[q]?) → va_S A0 H0 H1 locs1 → H1[q9]? = some ce → ce.vm = .none → s.vm.findClass E = some ce.cls → vx_W p l e R s m args below meth c H1 locs1 (cells + mc) (slots + ms) Q (F0 m pc ls rest) q9)
    (kk : ∀ (u : S) (t : State) (H1 : Heap) (locs1 : List Loc), t.heap = H1 → s.vm.Alike t.vm → post u → B u t → H.size ≤ H1.size → (∀ q : Nat, q < H.size → ¬ A1 q → H1[q]? = H[q]?) → va_S A0 H0 H1 locs1 → W p l e R s m args below meth c H1 locs1 (cells + mc) (slots + ms) Q (F0 m (pc + 5) ls (rest))) : W p l e R s m args below meth c H locs cells slots Q (F0 m pc ls st0) := by
  intro T hT X
  rcases hr T hT X with ⟨v, st₀, t, T', L, h0, X', hL, e1, e2, ⟨⟨u, hv, hp, hb⟩, hF⟩, st⟩ | ⟨q, st₀, t, T', L, E, ce, h0, X', hL, e1, e2, ⟨u, hp, hb, hF⟩, hce, hcv, hcl, st⟩
  · cases hv
    obtain ⟨k1, k2, k3⟩ := vx_keep h0 e1 hS hA hf hL hF
    obtain ⟨t2, a1, b1⟩ := kk u t T'.heap (locs ++ L) e1.symm (by rw [← e2]; exact X'.warmed.alike) hp hb k1 k2 k3 T' rfl X'
    exact ⟨t2, st t2 a1, b1⟩
  · obtain ⟨k1, k2, k3⟩ := vx_keep h0 e1 hS hAX hf hL hF
    obtain ⟨t2, a1, b1⟩ := kx E ce q u t T'.heap (locs ++ L) e1.symm (by rw [← e2]; exact X'.warmed.alike) hp hb k1 k2 k3 (by rw [e1]; exact hce) hcv hcl T' rfl X'
    exact ⟨t2, st.trans a1, b1⟩
theorem vx_callFi {S SX : Type} {post : Int32 → S → Prop} {px : SX → Prop} {B : S → State → Prop} {BX : String → SX → State → Prop} {AX : Nat → Prop} (hr : vx_Run5 p l e R s m args below meth c H locs cells slots mc ms (F0 m pc ls st0) rest (va_Qi post B A1 a) (vx_X px BX AX) free) (hS : va_S A0 H0 H locs) (hA : ∀ q, q < H.size → A1 q → A0 q) (hf : ∀ q, free q → A0 q) (hAX : ∀ q, q < H.size → AX q → A0 q)
    (kx : ∀ (E : String) (ce : Cell) (q9 : Addr) (u : SX) (t : State) (H1 : Heap) (locs1 : List Loc), t.heap = H1 → s.vm.Alike t.vm → px u → BX E u t → H.size ≤ H1.size → (∀ q : Nat, q < H.size → ¬ AX q → H1[q]? = H[q]?) → va_S A0 H0 H1 locs1 → H1[q9]? = some ce → ce.vm = .none → s.vm.findClass E = some ce.cls → vx_W p l e R s m args below meth c H1 locs1 (cells + mc) (slots + ms) Q (F0 m pc ls rest) q9)
    (kk : ∀ (r : Int32) (u : S) (t : State) (H1 : Heap) (locs1 : List Loc), t.heap = H1 → s.vm.Alike t.vm → post r u → B u t → H.size ≤ H1.size → (∀ q : Nat, q < H.size → ¬ A1 q → H1[q]? = H[q]?) → va_S A0 H0 H1 locs1 → W p l e R s m args below meth c H1 locs1 (cells + mc) (slots + ms) Q (F0 m (pc + 5) ls (.int r :: rest))) : W p l e R s m args below meth c H locs cells slots Q (F0 m pc ls st0) := by
  intro T hT X
  rcases hr T hT X with ⟨v, st₀, t, T', L, h0, X', hL, e1, e2, ⟨⟨r, u, hv, hp, hb⟩, hF⟩, st⟩ | ⟨q, st₀, t, T', L, E, ce, h0, X', hL, e1, e2, ⟨u, hp, hb, hF⟩, hce, hcv, hcl, st⟩
  · cases hv
    obtain ⟨k1, k2, k3⟩ := vx_keep h0 e1 hS hA hf hL hF
    obtain ⟨t2, a1, b1⟩ := kk r u t T'.heap (locs ++ L) e1.symm (by rw [← e2]; exact X'.warmed.alike) hp hb k1 k2 k3 T' rfl X'
    exact ⟨t2, st t2 a1, b1⟩
  · obtain ⟨k1, k2, k3⟩ := vx_keep h0 e1 hS hAX hf hL hF
    obtain ⟨t2, a1, b1⟩ := kx E ce q u t T'.heap (locs ++ L) e1.symm (by rw [← e2]; exact X'.warmed.alike) hp hb k1 k2 k3 (by rw [e1]; exact hce) hcv hcl T' rfl X'
    exact ⟨t2, st.trans a1, b1⟩
theorem vx_callFl {S SX : Type} {post : Int64 → S → Prop} {px : SX → Prop} {B : S → State → Prop} {BX : String → SX → State → Prop} {AX : Nat → Prop} (hr : vx_Run5 p l e R s m args below meth c H locs cells slots mc ms (F0 m pc ls st0) rest (va_Ql post B A1 a) (vx_X px BX AX) free) (hS : va_S A0 H0 H locs) (hA : ∀ q, q < H.size → A1 q → A0 q) (hf : ∀ q, free q → A0 q) (hAX : ∀ q, q < H.size → AX q → A0 q)
    (kx : ∀ (E : String) (ce : Cell) (q9 : Addr) (u : SX) (t : State) (H1 : Heap) (locs1 : List Loc), t.heap = H1 → s.vm.Alike t.vm → px u → BX E u t → H.size ≤ H1.size → (∀ q : Nat, q < H.size → ¬ AX q → H1[q]? = H[q]?) → va_S A0 H0 H1 locs1 → H1[q9]? = some ce → ce.vm = .none → s.vm.findClass E = some ce.cls → vx_W p l e R s m args below meth c H1 locs1 (cells + mc) (slots + ms) Q (F0 m pc ls rest) q9)
    (kk : ∀ (r : Int64) (u : S) (t : State) (H1 : Heap) (locs1 : List Loc), t.heap = H1 → s.vm.Alike t.vm → post r u → B u t → H.size ≤ H1.size → (∀ q : Nat, q < H.size → ¬ A1 q → H1[q]? = H[q]?) → va_S A0 H0 H1 locs1 → W p l e R s m args below meth c H1 locs1 (cells + mc) (slots + ms) Q (F0 m (pc + 5) ls (.long r :: rest))) : W p l e R s m args below meth c H locs cells slots Q (F0 m pc ls st0) := by
  intro T hT X
  rcases hr T hT X with ⟨v, st₀, t, T', L, h0, X', hL, e1, e2, ⟨⟨r, u, hv, hp, hb⟩, hF⟩, st⟩ | ⟨q, st₀, t, T', L, E, ce, h0, X', hL, e1, e2, ⟨u, hp, hb, hF⟩, hce, hcv, hcl, st⟩
  · cases hv
    obtain ⟨k1, k2, k3⟩ := vx_keep h0 e1 hS hA hf hL hF
    obtain ⟨t2, a1, b1⟩ := kk r u t T'.heap (locs ++ L) e1.symm (by rw [← e2]; exact X'.warmed.alike) hp hb k1 k2 k3 T' rfl X'
    exact ⟨t2, st t2 a1, b1⟩
  · obtain ⟨k1, k2, k3⟩ := vx_keep h0 e1 hS hAX hf hL hF
    obtain ⟨t2, a1, b1⟩ := kx E ce q u t T'.heap (locs ++ L) e1.symm (by rw [← e2]; exact X'.warmed.alike) hp hb k1 k2 k3 (by rw [e1]; exact hce) hcv hcl T' rfl X'
    exact ⟨t2, st.trans a1, b1⟩
theorem vx_callFf {S SX : Type} {post : UInt32 → S → Prop} {px : SX → Prop} {B : S → State → Prop} {BX : String → SX → State → Prop} {AX : Nat → Prop} (hr : vx_Run5 p l e R s m args below meth c H locs cells slots mc ms (F0 m pc ls st0) rest (va_Qf post B A1 a) (vx_X px BX AX) free) (hS : va_S A0 H0 H locs) (hA : ∀ q, q < H.size → A1 q → A0 q) (hf : ∀ q, free q → A0 q) (hAX : ∀ q, q < H.size → AX q → A0 q)
    (kx : ∀ (E : String) (ce : Cell) (q9 : Addr) (u : SX) (t : State) (H1 : Heap) (locs1 : List Loc), t.heap = H1 → s.vm.Alike t.vm → px u → BX E u t → H.size ≤ H1.size → (∀ q : Nat, q < H.size → ¬ AX q → H1[q]? = H[q]?) → va_S A0 H0 H1 locs1 → H1[q9]? = some ce → ce.vm = .none → s.vm.findClass E = some ce.cls → vx_W p l e R s m args below meth c H1 locs1 (cells + mc) (slots + ms) Q (F0 m pc ls rest) q9)
    (kk : ∀ (r : UInt32) (u : S) (t : State) (H1 : Heap) (locs1 : List Loc), t.heap = H1 → s.vm.Alike t.vm → post r u → B u t → H.size ≤ H1.size → (∀ q : Nat, q < H.size → ¬ A1 q → H1[q]? = H[q]?) → va_S A0 H0 H1 locs1 → W p l e R s m args below meth c H1 locs1 (cells + mc) (slots + ms) Q (F0 m (pc + 5) ls (.float r :: rest))) : W p l e R s m args below meth c H locs cells slots Q (F0 m pc ls st0) := by
  intro T hT X
  rcases hr T hT X with ⟨v, st₀, t, T', L, h0, X', hL, e1, e2, ⟨⟨r, u, hv, hp, hb⟩, hF⟩, st⟩ | ⟨q, st₀, t, T', L, E, ce, h0, X', hL, e1, e2, ⟨u, hp, hb, hF⟩, hce, hcv, hcl, st⟩
  · cases hv
    obtain ⟨k1, k2, k3⟩ := vx_keep h0 e1 hS hA hf hL hF
    obtain ⟨t2, a1, b1⟩ := kk r u t T'.heap (locs ++ L) e1.symm (by rw [← e2]; exact X'.warmed.alike) hp hb k1 k2 k3 T' rfl X'
    exact ⟨t2, st t2 a1, b1⟩
  · obtain ⟨k1, k2, k3⟩ := vx_keep h0 e1 hS hAX hf hL hF
    obtain ⟨t2, a1, b1⟩ := kx E ce q u t T'.heap (locs ++ L) e1.symm (by rw [← e2]; exact X'.warmed.alike) hp hb k1 k2 k3 (by rw [e1]; exact hce) hcv hcl T' rfl X'
    exact ⟨t2, st.trans a1, b1⟩
theorem vx_callFd {S SX : Type} {post : UInt64 → S → Prop} {px : SX → Prop} {B : S → State → Prop} {BX : String → SX → State → Prop} {AX : Nat → Prop} (hr : vx_Run5 p l e R s m args below meth c H locs cells slots mc ms (F0 m pc ls st0) rest (va_Qd post B A1 a) (vx_X px BX AX) free) (hS : va_S A0 H0 H locs) (hA : ∀ q, q < H.size → A1 q → A0 q) (hf : ∀ q, free q → A0 q) (hAX : ∀ q, q < H.size → AX q → A0 q)
    (kx : ∀ (E : String) (ce : Cell) (q9 : Addr) (u : SX) (t : State) (H1 : Heap) (locs1 : List Loc), t.heap = H1 → s.vm.Alike t.vm → px u → BX E u t → H.size ≤ H1.size → (∀ q : Nat, q < H.size → ¬ AX q → H1[q]? = H[q]?) → va_S A0 H0 H1 locs1 → H1[q9]? = some ce → ce.vm = .none → s.vm.findClass E = some ce.cls → vx_W p l e R s m args below meth c H1 locs1 (cells + mc) (slots + ms) Q (F0 m pc ls rest) q9)
    (kk : ∀ (r : UInt64) (u : S) (t : State) (H1 : Heap) (locs1 : List Loc), t.heap = H1 → s.vm.Alike t.vm → post r u → B u t → H.size ≤ H1.size → (∀ q : Nat, q < H.size → ¬ A1 q → H1[q]? = H[q]?) → va_S A0 H0 H1 locs1 → W p l e R s m args below meth c H1 locs1 (cells + mc) (slots + ms) Q (F0 m (pc + 5) ls (.double r :: rest))) : W p l e R s m args below meth c H locs cells slots Q (F0 m pc ls st0) := by
  intro T hT X
  rcases hr T hT X with ⟨v, st₀, t, T', L, h0, X', hL, e1, e2, ⟨⟨r, u, hv, hp, hb⟩, hF⟩, st⟩ | ⟨q, st₀, t, T', L, E, ce, h0, X', hL, e1, e2, ⟨u, hp, hb, hF⟩, hce, hcv, hcl, st⟩
  · cases hv
    obtain ⟨k1, k2, k3⟩ := vx_keep h0 e1 hS hA hf hL hF
    obtain ⟨t2, a1, b1⟩ := kk r u t T'.heap (locs ++ L) e1.symm (by rw [← e2]; exact X'.warmed.alike) hp hb k1 k2 k3 T' rfl X'
    exact ⟨t2, st t2 a1, b1⟩
  · obtain ⟨k1, k2, k3⟩ := vx_keep h0 e1 hS hAX hf hL hF
    obtain ⟨t2, a1, b1⟩ := kx E ce q u t T'.heap (locs ++ L) e1.symm (by rw [← e2]; exact X'.warmed.alike) hp hb k1 k2 k3 (by rw [e1]; exact hce) hcv hcl T' rfl X'
    exact ⟨t2, st.trans a1, b1⟩
end
/-! ===== END ===== -/
/-! ===== BEGIN by an interface, a method with a table of its own that may throw (follows va_callIFW, va_runFW) ===== -/
section
variable {p : Program} {l : Launch} {e : Env} {R : Room} {s : State} {m : MethodId} {args : Array Value} {below : List Frame} {meth : Method} {c : Code} {H : Heap} {locs : List Loc} {cells slots : Nat}
theorem vx_callIFW {T : State} (X : Stand p l e R s m args below meth c T locs cells slots) (hexec : p.tables.exec = Jvm.exec) {own C : String} {index count : Nat} {x y : MethodName} {bytes : ByteArray} {maxL : Nat} {ret : Option FieldType} {hh : List (Nat × Nat × Nat × Nat)}
    (hown : s.vm.findClass own = some m.cls) (hlink : (Cond.methodLink own index x).before args s = true) (hdecl : (Cond.declares x).before args s = true) (hface : (Cond.interfaceMethod x.cls x.cls x.name x.desc).before args s = true)
    (hsel : (Cond.selects C x y).before args s = true) (hinst : (Cond.instanceMethod y).before args s = true) (hpub : (Cond.publicMethod y).before args s = true) (hunh : (Cond.unhidden C x.name x.desc).before args s = true)
    (hcast : (Cond.castable C x.cls).before args s = true) (hcode : (Cond.codeWith y bytes maxL ret hh).before args s = true) (hx : x.cls ≠ "java/lang/invoke/MethodHandle" ∧ x.cls ≠ "java/lang/invoke/VarHandle")
    {W : Nat} {Pre : Pt → Array Value → Prop} {Post : Pt → Array Value → Option Value → Pt → Prop} {PostX : Pt → Array Value → Addr → Pt → Prop} (hK : vx_Back l R p e below s args y 5 W Pre Post PostX)
    {b : Addr} {cellB : Cell} {kB : Class} (hcell : T.heap[b]? = some cellB) (hobj : cellB.vm.isStatics = false) (hcls : s.vm.findClass C = some cellB.cls) (hkB : s.vm.classes[cellB.cls]? = some kB)
    {g : JFrame} (hg : g.method = m) (hsize : g.locals.size = c.maxLocals) {argsL rest : List Value} (hlen : ∀ sig, parseMethodDescriptor x.desc = some sig → argsL.length = sig.parameters.length)
    (hstack : g.stack = argsL.reverse ++ .ref b :: rest) (hW : 2 * g.monitorRoom + (rest.map fun v => v.category).sum ≤ W) (hdg : decode c.code g.pc = .ok (.invokeinterface index count, 5))
    (hpre : ∀ vm₁, s.WarmedH vm₁ → Pre ⟨T.setVm vm₁, locs, cells, slots⟩ (Value.ref b :: argsL).toArray) :
    (∃ (v : Option Value) (vm₁ : Vm) (B : Pt), s.WarmedH vm₁ ∧ Stand p l e R s m args below meth c B.U B.locs B.cells B.slots ∧ Post ⟨T.setVm vm₁, locs, cells, slots⟩ (Value.ref b :: argsL).toArray v B ∧
      ∀ target, Steps p.tables e below (B.U.setTop { g with pc := g.pc + 5, stack := v.toList ++ rest }) target → Steps p.tables e below (T.setTop g) target) ∨
    (∃ (q : Addr) (vm₁ : Vm) (B : Pt), s.WarmedH vm₁ ∧ Stand p l e R s m args below meth c B.U B.locs B.cells B.slots ∧ PostX ⟨T.setVm vm₁, locs, cells, slots⟩ (Value.ref b :: argsL).toArray q B ∧
      Steps p.tables e below (T.setTop g) ((B.U.setTop { g with stack := rest }).pushFrame (.throwing q))) := by
  obtain ⟨r0, r, hn, hrm, hstR, hsigR⟩ := Cond.declares_spec hdecl
  obtain ⟨cL, kL, r1, hcL, hkL, hiL, hfoundL, hn1⟩ := Cond.interfaceMethod_spec hface
  cases hn.symm.trans hn1
  have hr0cls : r0.cls = cL := Option.some.inj ((findClass_of_methodNamed hn).symm.trans hcL)
  obtain ⟨hnameR, hdescR⟩ := name_of_methodNamed hn hrm
  obtain ⟨mk, methM, hnamed, hmethM, -, habM⟩ := Cond.instanceMethod_spec hinst
  obtain ⟨c2, r2, m2, q1, q2, q3, q4, -⟩ := Cond.selects_spec hsel
  cases hcls.symm.trans q1
  cases hfoundL.symm.trans q2
  cases hnamed.symm.trans q3
  have hselP : selectMethod e.platform s.vm cellB.cls r0 = .method mk := by rw [Launch.admits_selectMethod X.admits]; exact q4
  have hpubM : hasFlag methM.accessFlags Acc.public_ = true := Cond.publicMethod_spec hnamed hmethM hpub
  have hway : ((cellB.cls :: s.vm.superclasses cellB.cls).any fun k => (declaredIn s.vm r.name r.desc k).any fun (_, z) => z.isPrivate || z.isStatic) = false := by
    rw [hnameR, hdescR]; exact Cond.unhidden_spec hcls hunh
  obtain ⟨c3, t3, w1, w2, w3⟩ := Cond.castable_spec hcast
  cases hcls.symm.trans w1
  cases hcL.symm.trans w2
  obtain ⟨vm₁, X₁, hstep₁⟩ := X.invokeinterface hexec hown hlink hn hrm hstR (by rw [hr0cls]; exact hkL) hiL hx (a := b) (cell := cellB) (kcell := kB) hcell
    (fun z h => by rw [h] at hobj; cases hobj) hkB (by rw [hr0cls]; exact w3) hselP hmethM hway hpubM habM (g := g) hg (argsL := argsL) (rest := rest) (hlen _ hsigR) hstack hdg
  rcases hK m meth c ⟨T.setVm vm₁, locs, cells, slots⟩ { g with stack := rest } (.invokeinterface index count) mk (Value.ref b :: argsL).toArray X₁ hg hsize hdg hW (X₁.named hnamed) (hpre vm₁ X₁.warmed) with ⟨v, B, X', hpost, hsteps⟩ | ⟨q, B, X', hpost, hsteps⟩
  · exact Or.inl ⟨v, vm₁, B, X₁.warmed, X', hpost, fun target h => hstep₁ _ fun acts => by rw [doInvoke_state]; exact hsteps.trans h⟩
  · exact Or.inr ⟨q, vm₁, B, X₁.warmed, X', hpost, hstep₁ _ fun acts => by rw [doInvoke_state]; exact hsteps⟩
theorem vx_runFW {x y : MethodName} {bytes cc : ByteArray} {maxL nL mc ms n index count : Nat} {ret : Option FieldType} {hh : List (Nat × Nat × Nat × Nat)} {ws : List Cond} {rm : Room} {Pc : Array Value → State → Prop} {Qc : Array Value → State → Outcome → State → Prop} {XC : String → State → State → Prop} {free : Addr → Prop} {Ts : List Cond} {own C : String} {cC : ClassId} {b : Addr} {As rest : List Value} {g : JFrame}
    (hat : ClassAt s C cC) (S : CallFix p m c cc nL s args Ts own) (hM : vx_Met l y ws rm Pc Qc XC mc ms free) (cw : va_CIW R s args own C index x y bytes maxL ret hh ws rm mc ms n) (hp : PreV s H C b Pc As)
    (hg : g.method = m) (hn : As.length = n) (hsize : g.locals.size = nL) (hstack : g.stack = As.reverse ++ .ref b :: rest) (hW : 2 * g.monitorRoom + (rest.map fun v => v.category).sum ≤ 8) (hdg : decode cc g.pc = .ok (.invokeinterface index count, 5)) (hf : cells + mc ≤ R.cells ∧ slots + ms ≤ R.slots) :
    vx_Run5 p l e R s m args below meth c H locs cells slots mc ms g rest (Qc (Value.ref b :: As).toArray) XC free := by
  obtain ⟨hrc, hrs, hfr, hlo, hws, hcw⟩ := cw.back
  have hini := cw.init
  have hK : vx_Back l R p e below s args y 5 8 (PreOf R mc ms Pc) (PostOf Qc mc ms free) (vx_Post XC mc ms free) := vx_backW (hh := hh) (bytes := bytes) (maxL := maxL) (ret := ret) hM hp.1 hrc hrs hfr hlo hws hcw (fun a' U hW => word_at hW (Or.inl (by first | rfl | simp [Cond.onTables, Cond.keeps, Cond.steady])) hini)
  obtain ⟨hx, hb, hml, ho, -⟩ := S
  obtain ⟨-, ⟨cellB, hcB, hoB, hclB⟩, hPc⟩ := hp
  obtain ⟨hfc, kB, hkB, -⟩ := hat
  cases hfc.symm.trans hclB
  intro T hT X
  rcases vx_callIFW X hx (C := C) (hh := hh) (bytes := bytes) (maxL := maxL) (ret := ret) ho cw.link cw.decl cw.face cw.sel cw.inst cw.pub cw.unh cw.cast cw.code cw.notMH hK (by rw [hT]; exact hcB) hoB hclB hkB hg (hsize.trans hml.symm) (argsL := As) (rest := rest) (fun sig h => hn.trans (cw.len sig h)) hstack hW (by rw [hb]; exact hdg)
    (fun vm₁ hW₁ => ⟨hf.1, hf.2, hPc (T.setVm vm₁) hT hW₁⟩) with ⟨v, vm₁, ⟨U', l2, c2, s2⟩, hW₁, X', ⟨g', mk, t, L, e1, e2, hq, h1, hL, h2, h3⟩, st⟩ | ⟨q, vm₁, ⟨U', l2, c2, s2⟩, hW₁, X', ⟨g', mk, t, L, E, ce, e1, e2, hq, hce, hcv, hcl, h1, hL, h2, h3⟩, st⟩
  · dsimp only [Pt.U, Pt.locs, Pt.cells, Pt.slots] at X' e1 e2 h1 h2 h3 st
    subst h1; subst h2; subst h3
    exact Or.inl ⟨v, (T.setVm vm₁).calling g' mk (Value.ref b :: As).toArray, t, U', L, hT, X', hL, e1, e2, hq, st⟩
  · dsimp only [Pt.U, Pt.locs, Pt.cells, Pt.slots] at X' e1 e2 h1 h2 h3 st hcl
    subst h1; subst h2; subst h3
    exact Or.inr ⟨q, (T.setVm vm₁).calling g' mk (Value.ref b :: As).toArray, t, U', L, E, ce, hT, X', hL, e1, e2, hq, hce, hcv, vx_cls hW₁ hcl, st⟩
end
/-! ===== END ===== -/
/-! ===== BEGIN .. of methods that hand back an object of the pool ===== -/
section
variable {p : Program} {l : Launch} {e : Env} {R : Room} {s : State} {m : MethodId} {args : Array Value} {below : List Frame} {meth : Method} {c : Code} {H : Heap} {locs : List Loc} {cells slots : Nat} {Q : State → Prop}
variable {mc ms : Nat} {free : Addr → Prop} {A0 A1 : Nat → Prop} {H0 : Heap} {a : Array Value} {pc : Nat} {ls : Array Slot} {st0 rest : List Value}
theorem vx_callq {S SX : Type} {post : Option Nat → S → Prop} {px : SX → Prop} {B : S → State → Prop} {BX : String → SX → State → Prop} {AX : Nat → Prop} (hr : vx_Run p l e R s m args below meth c H locs cells slots mc ms (F0 m pc ls st0) rest (va_Qq post B A1 a) (vx_X px BX AX) free) (hS : va_S A0 H0 H locs) (hA : ∀ q, q < H.size → A1 q → A0 q) (hf : ∀ q, free q → A0 q) (hAX : ∀ q, q < H.size → AX q → A0 q)
    (kx : ∀ (E : String) (ce : Cell) (q9 : Addr) (u : SX) (t : State) (H1 : Heap) (locs1 : List Loc), t.heap = H1 → s.vm.Alike t.vm → px u → BX E u t → H.size ≤ H1.size → (∀ q : Nat, q < H.size → ¬ AX q → H1[q]? = H[q]?) → va_S A0 H0 H1 locs1 → H1[q9]? = some ce → ce.vm = .none → s.vm.findClass E = some ce.cls → vx_W p l e R s m args below meth c H1 locs1 (cells + mc) (slots + ms) Q (F0 m pc ls rest) q9)
    (kk : ∀ (r : Option Nat) (u : S) (t : State) (H1 : Heap) (locs1 : List Loc), t.heap = H1 → s.vm.Alike t.vm → post r u → B u t → H.size ≤ H1.size → (∀ q : Nat, q < H.size → ¬ A1 q → H1[q]? = H[q]?) → va_S A0 H0 H1 locs1 → W p l e R s m args below meth c H1 locs1 (cells + mc) (slots + ms) Q (F0 m (pc + 3) ls (va_rf r :: rest))) : W p l e R s m args below meth c H locs cells slots Q (F0 m pc ls st0) := by
  intro T hT X
  rcases hr T hT X with ⟨v, st₀, t, T', L, h0, X', hL, e1, e2, ⟨⟨r, u, hv, hp, hb⟩, hF⟩, st⟩ | ⟨q, st₀, t, T', L, E, ce, h0, X', hL, e1, e2, ⟨u, hp, hb, hF⟩, hce, hcv, hcl, st⟩
  · cases hv
    obtain ⟨k1, k2, k3⟩ := vx_keep h0 e1 hS hA hf hL hF
    obtain ⟨t2, a1, b1⟩ := kk r u t T'.heap (locs ++ L) e1.symm (by rw [← e2]; exact X'.warmed.alike) hp hb k1 k2 k3 T' rfl X'
    exact ⟨t2, st t2 a1, b1⟩
  · obtain ⟨k1, k2, k3⟩ := vx_keep h0 e1 hS hAX hf hL hF
    obtain ⟨t2, a1, b1⟩ := kx E ce q u t T'.heap (locs ++ L) e1.symm (by rw [← e2]; exact X'.warmed.alike) hp hb k1 k2 k3 (by rw [e1]; exact hce) hcv hcl T' rfl X'
    exact ⟨t2, st.trans a1, b1⟩
end
/-! ===== END ===== -/
/-! ===== BEGIN .. a constant ===== -/
section
variable {p : Program} {l : Launch} {e : Env} {R : Room} {s : State} {m : MethodId} {args : Array Value} {below : List Frame} {meth : Method} {c : Code} {H : Heap} {locs : List Loc} {cells slots : Nat} {Q : State → Prop}
variable {mc ms : Nat} {free : Addr → Prop} {A0 A1 : Nat → Prop} {H0 : Heap} {a : Array Value} {pc : Nat} {ls : Array Slot} {st0 rest : List Value}
theorem vx_calle {ad : Nat → Nat} {S SX : Type} {post : Option Nat → S → Prop} {px : SX → Prop} {B : S → State → Prop} {BX : String → SX → State → Prop} {AX : Nat → Prop} (hr : vx_Run p l e R s m args below meth c H locs cells slots mc ms (F0 m pc ls st0) rest (va_Qe ad post B A1 a) (vx_X px BX AX) free) (hS : va_S A0 H0 H locs) (hA : ∀ q, q < H.size → A1 q → A0 q) (hf : ∀ q, free q → A0 q) (hAX : ∀ q, q < H.size → AX q → A0 q)
    (kx : ∀ (E : String) (ce : Cell) (q9 : Addr) (u : SX) (t : State) (H1 : Heap) (locs1 : List Loc), t.heap = H1 → s.vm.Alike t.vm → px u → BX E u t → H.size ≤ H1.size → (∀ q : Nat, q < H.size → ¬ AX q → H1[q]? = H[q]?) → va_S A0 H0 H1 locs1 → H1[q9]? = some ce → ce.vm = .none → s.vm.findClass E = some ce.cls → vx_W p l e R s m args below meth c H1 locs1 (cells + mc) (slots + ms) Q (F0 m pc ls rest) q9)
    (kk : ∀ (r : Option Nat) (u : S) (t : State) (H1 : Heap) (locs1 : List Loc), t.heap = H1 → s.vm.Alike t.vm → post r u → B u t → H.size ≤ H1.size → (∀ q : Nat, q < H.size → ¬ A1 q → H1[q]? = H[q]?) → va_S A0 H0 H1 locs1 → W p l e R s m args below meth c H1 locs1 (cells + mc) (slots + ms) Q (F0 m (pc + 3) ls (va_re ad r :: rest))) : W p l e R s m args below meth c H locs cells slots Q (F0 m pc ls st0) := by
  intro T hT X
  rcases hr T hT X with ⟨v, st₀, t, T', L, h0, X', hL, e1, e2, ⟨⟨r, u, hv, hp, hb⟩, hF⟩, st⟩ | ⟨q, st₀, t, T', L, E, ce, h0, X', hL, e1, e2, ⟨u, hp, hb, hF⟩, hce, hcv, hcl, st⟩
  · cases hv
    obtain ⟨k1, k2, k3⟩ := vx_keep h0 e1 hS hA hf hL hF
    obtain ⟨t2, a1, b1⟩ := kk r u t T'.heap (locs ++ L) e1.symm (by rw [← e2]; exact X'.warmed.alike) hp hb k1 k2 k3 T' rfl X'
    exact ⟨t2, st t2 a1, b1⟩
  · obtain ⟨k1, k2, k3⟩ := vx_keep h0 e1 hS hAX hf hL hF
    obtain ⟨t2, a1, b1⟩ := kx E ce q u t T'.heap (locs ++ L) e1.symm (by rw [← e2]; exact X'.warmed.alike) hp hb k1 k2 k3 (by rw [e1]; exact hce) hcv hcl T' rfl X'
    exact ⟨t2, st.trans a1, b1⟩
end
/-! ===== END ===== -/
/-! ===== BEGIN .. by an interface, an object ===== -/
section
variable {p : Program} {l : Launch} {e : Env} {R : Room} {s : State} {m : MethodId} {args : Array Value} {below : List Frame} {meth : Method} {c : Code} {H : Heap} {locs : List Loc} {cells slots : Nat} {Q : State → Prop}
variable {mc ms : Nat} {free : Addr → Prop} {A0 A1 : Nat → Prop} {H0 : Heap} {a : Array Value} {pc : Nat} {ls : Array Slot} {st0 rest : List Value}
theorem vx_callFq {S SX : Type} {post : Option Nat → S → Prop} {px : SX → Prop} {B : S → State → Prop} {BX : String → SX → State → Prop} {AX : Nat → Prop} (hr : vx_Run5 p l e R s m args below meth c H locs cells slots mc ms (F0 m pc ls st0) rest (va_Qq post B A1 a) (vx_X px BX AX) free) (hS : va_S A0 H0 H locs) (hA : ∀ q, q < H.size → A1 q → A0 q) (hf : ∀ q, free q → A0 q) (hAX : ∀ q, q < H.size → AX q → A0 q)
    (kx : ∀ (E : String) (ce : Cell) (q9 : Addr) (u : SX) (t : State) (H1 : Heap) (locs1 : List Loc), t.heap = H1 → s.vm.Alike t.vm → px u → BX E u t → H.size ≤ H1.size → (∀ q : Nat, q < H.size → ¬ AX q → H1[q]? = H[q]?) → va_S A0 H0 H1 locs1 → H1[q9]? = some ce → ce.vm = .none → s.vm.findClass E = some ce.cls → vx_W p l e R s m args below meth c H1 locs1 (cells + mc) (slots + ms) Q (F0 m pc ls rest) q9)
    (kk : ∀ (r : Option Nat) (u : S) (t : State) (H1 : Heap) (locs1 : List Loc), t.heap = H1 → s.vm.Alike t.vm → post r u → B u t → H.size ≤ H1.size → (∀ q : Nat, q < H.size → ¬ A1 q → H1[q]? = H[q]?) → va_S A0 H0 H1 locs1 → W p l e R s m args below meth c H1 locs1 (cells + mc) (slots + ms) Q (F0 m (pc + 5) ls (va_rf r :: rest))) : W p l e R s m args below meth c H locs cells slots Q (F0 m pc ls st0) := by
  intro T hT X
  rcases hr T hT X with ⟨v, st₀, t, T', L, h0, X', hL, e1, e2, ⟨⟨r, u, hv, hp, hb⟩, hF⟩, st⟩ | ⟨q, st₀, t, T', L, E, ce, h0, X', hL, e1, e2, ⟨u, hp, hb, hF⟩, hce, hcv, hcl, st⟩
  · cases hv
    obtain ⟨k1, k2, k3⟩ := vx_keep h0 e1 hS hA hf hL hF
    obtain ⟨t2, a1, b1⟩ := kk r u t T'.heap (locs ++ L) e1.symm (by rw [← e2]; exact X'.warmed.alike) hp hb k1 k2 k3 T' rfl X'
    exact ⟨t2, st t2 a1, b1⟩
  · obtain ⟨k1, k2, k3⟩ := vx_keep h0 e1 hS hAX hf hL hF
    obtain ⟨t2, a1, b1⟩ := kx E ce q u t T'.heap (locs ++ L) e1.symm (by rw [← e2]; exact X'.warmed.alike) hp hb k1 k2 k3 (by rw [e1]; exact hce) hcv hcl T' rfl X'
    exact ⟨t2, st.trans a1, b1⟩
end
/-! ===== END ===== -/
/-! ===== BEGIN .. by an interface, a constant ===== -/
section
variable {p : Program} {l : Launch} {e : Env} {R : Room} {s : State} {m : MethodId} {args : Array Value} {below : List Frame} {meth : Method} {c : Code} {H : Heap} {locs : List Loc} {cells slots : Nat} {Q : State → Prop}
variable {mc ms : Nat} {free : Addr → Prop} {A0 A1 : Nat → Prop} {H0 : Heap} {a : Array Value} {pc : Nat} {ls : Array Slot} {st0 rest : List Value}
theorem vx_callFe {ad : Nat → Nat} {S SX : Type} {post : Option Nat → S → Prop} {px : SX → Prop} {B : S → State → Prop} {BX : String → SX → State → Prop} {AX : Nat → Prop} (hr : vx_Run5 p l e R s m args below meth c H locs cells slots mc ms (F0 m pc ls st0) rest (va_Qe ad post B A1 a) (vx_X px BX AX) free) (hS : va_S A0 H0 H locs) (hA : ∀ q, q < H.size → A1 q → A0 q) (hf : ∀ q, free q → A0 q) (hAX : ∀ q, q < H.size → AX q → A0 q)
    (kx : ∀ (E : String) (ce : Cell) (q9 : Addr) (u : SX) (t : State) (H1 : Heap) (locs1 : List Loc), t.heap = H1 → s.vm.Alike t.vm → px u → BX E u t → H.size ≤ H1.size → (∀ q : Nat, q < H.size → ¬ AX q → H1[q]? = H[q]?) → va_S A0 H0 H1 locs1 → H1[q9]? = some ce → ce.vm = .none → s.vm.findClass E = some ce.cls → vx_W p l e R s m args below meth c H1 locs1 (cells + mc) (slots + ms) Q (F0 m pc ls rest) q9)
    (kk : ∀ (r : Option Nat) (u : S) (t : State) (H1 : Heap) (locs1 : List Loc), t.heap = H1 → s.vm.Alike t.vm → post r u → B u t → H.size ≤ H1.size → (∀ q : Nat, q < H.size → ¬ A1 q → H1[q]? = H[q]?) → va_S A0 H0 H1 locs1 → W p l e R s m args below meth c H1 locs1 (cells + mc) (slots + ms) Q (F0 m (pc + 5) ls (va_re ad r :: rest))) : W p l e R s m args below meth c H locs cells slots Q (F0 m pc ls st0) := by
  intro T hT X
  rcases hr T hT X with ⟨v, st₀, t, T', L, h0, X', hL, e1, e2, ⟨⟨r, u, hv, hp, hb⟩, hF⟩, st⟩ | ⟨q, st₀, t, T', L, E, ce, h0, X', hL, e1, e2, ⟨u, hp, hb, hF⟩, hce, hcv, hcl, st⟩
  · cases hv
    obtain ⟨k1, k2, k3⟩ := vx_keep h0 e1 hS hA hf hL hF
    obtain ⟨t2, a1, b1⟩ := kk r u t T'.heap (locs ++ L) e1.symm (by rw [← e2]; exact X'.warmed.alike) hp hb k1 k2 k3 T' rfl X'
    exact ⟨t2, st t2 a1, b1⟩
  · obtain ⟨k1, k2, k3⟩ := vx_keep h0 e1 hS hAX hf hL hF
    obtain ⟨t2, a1, b1⟩ := kx E ce q u t T'.heap (locs ++ L) e1.symm (by rw [← e2]; exact X'.warmed.alike) hp hb k1 k2 k3 (by rw [e1]; exact hce) hcv hcl T' rfl X'
    exact ⟨t2, st.trans a1, b1⟩
end
/-! ===== END ===== -/
/-! ===== BEGIN what the machine throws by itself: null at a field, at athrow ===== -/
section VXM2
variable {p : Program} {l : Launch} {e : Env} {R : Room} {s : State} {m : MethodId} {args : Array Value} {below : List Frame} {meth : Method} {c : Code} {H : Heap} {locs : List Loc} {cells slots : Nat}
variable {Q : State → Prop} {cc : ByteArray} {pc : Nat} {ls : Array Slot} {rest : List Value}
theorem vx_getfN {D cl tys} {own ref C : String} {T : u_T} {N ci index : Nat} {Ts : List Cond} (hexec : p.tables.exec = Jvm.exec) (hb : c.code = cc) (hts : ∀ w ∈ Ts, w.before args s = true) (hin : ∀ w ∈ u_ws C T N, w ∈ Ts) (hown : s.vm.findClass own = some m.cls) (hK : va_K D cl tys s) (hc : cl[ci]? = some (C, T, N)) (k : Nat) (hk : k < N) (hlink : (Cond.fieldLink own index ref (T k).2.1 (T k).2.2.1).before args s = true) (hsame : ∀ x, s.fieldFound? (T k).1 (T k).2.1 (T k).2.2.1 = some x → s.fieldFound? ref (T k).2.1 (T k).2.2.1 = some x) (hdg : decode cc pc = .ok (.getfield index, 3)) (kk : vx_NoteN p l e R s m args below meth c H locs cells slots Q (F0 m pc ls rest)) : W p l e R s m args below meth c H locs cells slots Q (F0 m pc ls (.null :: rest)) := by
  obtain ⟨hS, hfc, kC, hkC, -⟩ := hK.1 ci _ hc
  obtain ⟨cf, kf, fi, f, hi, -⟩ := hS k hk
  intro U hU X
  obtain ⟨vm', X1, st1⟩ := X.getfieldNull hexec hown hlink (hsame _ hi) (u_facts hfc hkC (u_lays hts hin hk) hi).1 (g := F0 m pc ls (.null :: rest)) rfl (rest := rest) rfl (by rw [hb]; exact hdg)
  obtain ⟨t, st, q⟩ := kk (U.setVm vm') hU X1
  exact ⟨t, st1 t st, q⟩
theorem vx_getfNN {D cl tys} {own ref C host : String} {T : u_T} {N ci index : Nat} {Ts : List Cond} (hexec : p.tables.exec = Jvm.exec) (hb : c.code = cc) (hts : ∀ w ∈ Ts, w.before args s = true) (hin : ∀ w ∈ u_ws C T N, w ∈ Ts) (hown : s.vm.findClass own = some m.cls) (hK : va_K D cl tys s) (hc : cl[ci]? = some (C, T, N)) (k : Nat) (hk : k < N) (hlink : (Cond.fieldLinkNest own index ref (T k).2.1 (T k).2.2.1 host).before args s = true) (hsame : ∀ x, s.fieldFound? (T k).1 (T k).2.1 (T k).2.2.1 = some x → s.fieldFound? ref (T k).2.1 (T k).2.2.1 = some x) (hdg : decode cc pc = .ok (.getfield index, 3)) (kk : vx_NoteN p l e R s m args below meth c H locs cells slots Q (F0 m pc ls rest)) : W p l e R s m args below meth c H locs cells slots Q (F0 m pc ls (.null :: rest)) := by
  obtain ⟨hS, hfc, kC, hkC, -⟩ := hK.1 ci _ hc
  obtain ⟨cf, kf, fi, f, hi, -⟩ := hS k hk
  intro U hU X
  obtain ⟨vm', X1, st1⟩ := X.getfieldNullNest hexec hown hlink (hsame _ hi) (u_facts hfc hkC (u_lays hts hin hk) hi).1 (g := F0 m pc ls (.null :: rest)) rfl (rest := rest) rfl (by rw [hb]; exact hdg)
  obtain ⟨t, st, q⟩ := kk (U.setVm vm') hU X1
  exact ⟨t, st1 t st, q⟩
theorem vx_putfN {D cl tys} {own ref C : String} {T : u_T} {N ci index : Nat} {Ts : List Cond} (hexec : p.tables.exec = Jvm.exec) (hb : c.code = cc) (hts : ∀ w ∈ Ts, w.before args s = true) (hin : ∀ w ∈ u_ws C T N, w ∈ Ts) (hown : s.vm.findClass own = some m.cls) (hK : va_K D cl tys s) (hc : cl[ci]? = some (C, T, N)) (k : Nat) (hk : k < N) (hlink : (Cond.fieldLink own index ref (T k).2.1 (T k).2.2.1).before args s = true) (hsame : ∀ x, s.fieldFound? (T k).1 (T k).2.1 (T k).2.2.1 = some x → s.fieldFound? ref (T k).2.1 (T k).2.2.1 = some x) (hfin : (T k).2.2.2 = false) {v : Value} (hdg : decode cc pc = .ok (.putfield index, 3)) (kk : vx_NoteN p l e R s m args below meth c H locs cells slots Q (F0 m pc ls rest)) : W p l e R s m args below meth c H locs cells slots Q (F0 m pc ls (v :: .null :: rest)) := by
  obtain ⟨hS, hfc, kC, hkC, -⟩ := hK.1 ci _ hc
  obtain ⟨cf, kf, fi, f, hi, -⟩ := hS k hk
  have hlay := hts _ (hin _ (u_in_lay hk))
  unfold u_lay at hlay
  rw [if_neg (by rw [hfin]; decide)] at hlay
  obtain ⟨c9, k9, cf9, kf9, fi9, f9, -, -, hi9, hst9, hnf9, -⟩ := Cond.lays_spec hlay
  cases hi.symm.trans hi9
  intro U hU X
  obtain ⟨vm', X1, st1⟩ := X.putfieldNull hexec hown hlink (hsame _ hi) hst9 hnf9 (g := F0 m pc ls (v :: .null :: rest)) rfl (v := v) (rest := rest) rfl (by rw [hb]; exact hdg)
  obtain ⟨t, st, q⟩ := kk (U.setVm vm') hU X1
  exact ⟨t, st1 t st, q⟩
theorem vx_putfNN {D cl tys} {own ref C host : String} {T : u_T} {N ci index : Nat} {Ts : List Cond} (hexec : p.tables.exec = Jvm.exec) (hb : c.code = cc) (hts : ∀ w ∈ Ts, w.before args s = true) (hin : ∀ w ∈ u_ws C T N, w ∈ Ts) (hown : s.vm.findClass own = some m.cls) (hK : va_K D cl tys s) (hc : cl[ci]? = some (C, T, N)) (k : Nat) (hk : k < N) (hlink : (Cond.fieldLinkNest own index ref (T k).2.1 (T k).2.2.1 host).before args s = true) (hsame : ∀ x, s.fieldFound? (T k).1 (T k).2.1 (T k).2.2.1 = some x → s.fieldFound? ref (T k).2.1 (T k).2.2.1 = some x) (hfin : (T k).2.2.2 = false) {v : Value} (hdg : decode cc pc = .ok (.putfield index, 3)) (kk : vx_NoteN p l e R s m args below meth c H locs cells slots Q (F0 m pc ls rest)) : W p l e R s m args below meth c H locs cells slots Q (F0 m pc ls (v :: .null :: rest)) := by
  obtain ⟨hS, hfc, kC, hkC, -⟩ := hK.1 ci _ hc
  obtain ⟨cf, kf, fi, f, hi, -⟩ := hS k hk
  have hlay := hts _ (hin _ (u_in_lay hk))
  unfold u_lay at hlay
  rw [if_neg (by rw [hfin]; decide)] at hlay
  obtain ⟨c9, k9, cf9, kf9, fi9, f9, -, -, hi9, hst9, hnf9, -⟩ := Cond.lays_spec hlay
  cases hi.symm.trans hi9
  intro U hU X
  obtain ⟨vm', X1, st1⟩ := X.putfieldNullNest hexec hown hlink (hsame _ hi) hst9 hnf9 (g := F0 m pc ls (v :: .null :: rest)) rfl (v := v) (rest := rest) rfl (by rw [hb]; exact hdg)
  obtain ⟨t, st, q⟩ := kk (U.setVm vm') hU X1
  exact ⟨t, st1 t st, q⟩
theorem vx_athrowN (hexec : p.tables.exec = Jvm.exec) (hb : c.code = cc) (hdg : decode cc pc = .ok (.athrow, 1)) (k : vx_NoteN p l e R s m args below meth c H locs cells slots Q (F0 m pc ls rest)) : W p l e R s m args below meth c H locs cells slots Q (F0 m pc ls (.null :: rest)) := by
  intro T hT X
  obtain ⟨t, st, q⟩ := k T hT X
  exact ⟨t, X.athrowNull hexec (g := F0 m pc ls (.null :: rest)) rfl (rest := rest) rfl (by rw [hb]; exact hdg) t st, q⟩
end VXM2
/-! ===== END ===== -/
end
section
/-! One world for the whole heap above the law's entry: a map from addresses to cells. -/
abbrev gM : Type := Nat → Option va_E
def gw_up (M : gM) (a : Nat) (e : va_E) : gM := fun j => if j = a then some e else M j
theorem gw_hit {M : gM} {a : Nat} {e : va_E} : gw_up M a e a = some e := if_pos rfl
theorem gw_miss {M : gM} {a b : Nat} {e : va_E} (h : b ≠ a) : gw_up M a e b = M b := if_neg h
theorem gw_ne {M : gM} {a b : Nat} {e f : va_E} (h1 : M a = some e) (h2 : M b = some f) (h : e ≠ f) : a ≠ b := fun z => h (by rw [z, h2] at h1; exact (Option.some.inj h1).symm)
theorem gw_neO {M : gM} {a b i j : Nat} {x y : List Value} (h1 : M a = some (.inr (i, x))) (h2 : M b = some (.inr (j, y))) (h : i ≠ j) : a ≠ b := gw_ne h1 h2 (fun z => h (by injection z with z; injection z))
theorem gw_neA {M : gM} {a b j : Nat} {x : ClassId × vp_A} {y : List Value} (h1 : M a = some (.inl x)) (h2 : M b = some (.inr (j, y))) : a ≠ b := gw_ne h1 h2 (fun z => by injection z)
theorem gw_neF {M : gM} {a b : Nat} {e : va_E} (h1 : M a = none) (h2 : M b = some e) : b ≠ a := fun z => by rw [z, h1] at h2; cases h2
theorem gw_same {M : gM} {a : Nat} {e : va_E} (h : M a = some e) : gw_up M a e = M := by
  funext j
  by_cases hj : j = a
  · subst hj; rw [gw_hit, h]
  · rw [gw_miss hj]
theorem gw_twice {M : gM} {a : Nat} {e f : va_E} : gw_up (gw_up M a e) a f = gw_up M a f := by
  funext j
  by_cases hj : j = a
  · subst hj; rw [gw_hit, gw_hit]
  · rw [gw_miss hj, gw_miss hj, gw_miss hj]
def gw_P (D : va_G) (M : gM) (H : Heap) : Prop := ∀ (a : Nat) (e : va_E), M a = some e → va_at D classes (a, e) H
def gw_E (E : Nat) (M : gM) : Prop := ∀ (a : Nat) (e : va_E), M a = some e → E ≤ a
abbrev gw_A (E : Nat) : Nat → Prop := fun q => E ≤ q
abbrev gw_ty (cI cO cZ : ClassId) : List (ClassId × FieldType) := [(cI, .int), (cO, .object "java/lang/Object"), (cZ, .boolean)]
/-- the world over the heap, in a walk -/
def gw_H (E : Nat) (D : va_G) (M : gM) (s : State) (H : Heap) (locs : List Loc) : Prop := gw_P D M H ∧ gw_E E M ∧ va_S (gw_A E) s.heap H locs
def gw_B (E : Nat) (D : va_G) (M : gM) (t : State) : Prop := gw_P D M t.heap ∧ gw_E E M
theorem gw_nm {E : Nat} {D : va_G} {X Y : gM} {s : State} {H : Heap} {locs : List Loc} (h0 : X = Y) (h : gw_H E D Y s H locs) : gw_H E D X s H locs := by rw [h0]; exact h
theorem gw_list {E : Nat} {D : va_G} {M : gM} {H : Heap} (hP : gw_P D M H) (hE : gw_E E M) : ∃ ws : va_W, va_P D classes ws H ∧ va_D (gw_A E) ws ∧ ∀ (a : Nat) (e : va_E), M a = some e ↔ ∃ i : Nat, ws[i]? = some (a, e) := by
  have hmem : ∀ (a : Nat) (e : va_E), M a = some e ↔ (a, e) ∈ (List.range H.size).filterMap (fun a => (M a).map (fun e => (a, e))) := by
    intro a e
    rw [List.mem_filterMap]
    constructor
    · intro h
      exact ⟨a, List.mem_range.mpr (hP a e h).lt, by rw [h]; rfl⟩
    · rintro ⟨b, -, hb⟩
      cases hM : M b with
      | none => rw [hM] at hb; cases hb
      | some f => rw [hM] at hb; cases hb; exact hM
  have hpw : ((List.range H.size).filterMap (fun a => (M a).map (fun e => (a, e)))).Pairwise (fun p q => p.1 < q.1) := by
    rw [List.pairwise_filterMap]
    refine List.pairwise_lt_range.imp ?_
    intro a b hab p hp q hq
    cases hMa : M a with
    | none => rw [hMa] at hp; cases hp
    | some f =>
      cases hMb : M b with
      | none => rw [hMb] at hq; cases hq
      | some g => rw [hMa] at hp; rw [hMb] at hq; cases hp; cases hq; exact hab
  refine ⟨_, fun k q hk => ?_, ⟨fun i j p q hi hj hpq => ?_, fun k q hk => ?_⟩, fun a e => (hmem a e).trans List.mem_iff_getElem?⟩
  · obtain ⟨a, e⟩ := q
    exact hP a e ((hmem a e).mpr (List.mem_of_getElem? hk))
  · obtain ⟨li, ei⟩ := List.getElem?_eq_some_iff.mp hi
    obtain ⟨lj, ej⟩ := List.getElem?_eq_some_iff.mp hj
    rcases Nat.lt_trichotomy i j with h | h | h
    · have := List.pairwise_iff_getElem.mp hpw i j li lj h
      rw [ei, ej] at this
      omega
    · exact h
    · have := List.pairwise_iff_getElem.mp hpw j i lj li h
      rw [ei, ej] at this
      omega
  · obtain ⟨a, e⟩ := q
    exact hE a e ((hmem a e).mpr (List.mem_of_getElem? hk))
theorem gw_one {E : Nat} {D : va_G} {M : gM} {s : State} {H : Heap} {locs : List Loc} (h : gw_H E D M s H locs) {a : Nat} {e : va_E} (he : M a = some e) : va_P D classes [(a, e)] H := by
  intro k q hk
  cases k with
  | zero => cases hk; exact h.1 a e he
  | succ k => simp at hk
theorem gw_set {E : Nat} {D : va_G} {M : gM} {H H1 : Heap} {ws : va_W} {i a : Nat} {e e' : va_E} (hm : ∀ (a : Nat) (e : va_E), M a = some e ↔ ∃ i : Nat, ws[i]? = some (a, e)) (hi : ws[i]? = some (a, e)) (hP : va_P D classes (ws.set i (a, e')) H1) : gw_P D (gw_up M a e') H1 := by
  have hl := (List.getElem?_eq_some_iff.mp hi).1
  intro b f hb
  by_cases hba : b = a
  · subst hba
    rw [gw_hit] at hb
    cases hb
    exact hP i _ (List.getElem?_set_self hl)
  · rw [gw_miss hba] at hb
    obtain ⟨j, hj⟩ := (hm b f).mp hb
    refine hP j (b, f) ?_
    rw [List.getElem?_set_ne ?_]
    · exact hj
    · intro hij
      subst hij
      rw [hi] at hj
      cases hj
      exact hba rfl
theorem gw_setE {E : Nat} {M : gM} {a : Nat} {e e' : va_E} (hE : gw_E E M) (h : M a = some e) : gw_E E (gw_up M a e') := by
  intro b f hb
  by_cases hba : b = a
  · subst hba; exact hE b e h
  · rw [gw_miss hba] at hb; exact hE b f hb
theorem gw_app {E : Nat} {D : va_G} {M : gM} {H1 : Heap} {ws : va_W} {q : Nat} {e : va_E} (hm : ∀ (a : Nat) (e : va_E), M a = some e ↔ ∃ i : Nat, ws[i]? = some (a, e)) (hP : va_P D classes (ws ++ [(q, e)]) H1) (hD : va_D (gw_A E) (ws ++ [(q, e)])) : gw_P D (gw_up M q e) H1 ∧ gw_E E (gw_up M q e) ∧ M q = none := by
  have hlast : (ws ++ [(q, e)])[ws.length]? = some (q, e) := by simp
  have hold : ∀ (b : Nat) (f : va_E), M b = some f → ∃ j, j < ws.length ∧ (ws ++ [(q, e)])[j]? = some (b, f) := by
    intro b f hb
    obtain ⟨j, hj⟩ := (hm b f).mp hb
    have hl := (List.getElem?_eq_some_iff.mp hj).1
    exact ⟨j, hl, by rw [List.getElem?_append_left hl]; exact hj⟩
  refine ⟨fun b f hb => ?_, fun b f hb => ?_, ?_⟩
  · by_cases hba : b = q
    · subst hba; rw [gw_hit] at hb; cases hb; exact hP _ _ hlast
    · rw [gw_miss hba] at hb
      obtain ⟨j, -, hj⟩ := hold b f hb
      exact hP j _ hj
  · by_cases hba : b = q
    · subst hba; exact hD.2 _ _ hlast
    · rw [gw_miss hba] at hb
      obtain ⟨j, -, hj⟩ := hold b f hb
      exact hD.2 j _ hj
  · cases hq : M q with
    | none => rfl
    | some f =>
      obtain ⟨j, hl, hj⟩ := hold q f hq
      have := hD.1 j ws.length _ _ hj hlast rfl
      omega
section GW
variable {p : Program} {l : Launch} {e : Env} {R : Room} {s : State} {m : MethodId} {args : Array Value} {below : List Frame} {meth : Method} {c : Code} {H : Heap} {locs : List Loc} {cells slots : Nat} {Q : State → Prop}
variable {cc : ByteArray} {pc : Nat} {ls : Array Slot} {rest : List Value} {D : va_G} {a : Nat} {E : Nat} {M : gM} {cI cO cZ : ClassId}
theorem gw_get (hx : p.tables.exec = Jvm.exec) (hb : c.code = cc) {own ref C : String} {T : u_T} {N ci index : Nat} {Ts : List Cond} (hts : ∀ w ∈ Ts, w.before args s = true) (hin : ∀ w ∈ u_ws C T N, w ∈ Ts) (hown : s.vm.findClass own = some m.cls) (hK : va_K D classes (gw_ty cI cO cZ) s) (hG : gw_H E D M s H locs) {fs : List Value} (he : M a = some (.inr (ci, fs))) (hc : classes[ci]? = some (C, T, N)) (k : Nat) (hk : k < N) (hlink : (Cond.fieldLink own index ref (T k).2.1 (T k).2.2.1).before args s = true) (hsame : ∀ x, s.fieldFound? (T k).1 (T k).2.1 (T k).2.2.1 = some x → s.fieldFound? ref (T k).2.1 (T k).2.2.1 = some x) {v : Value} (hv : fs[k]? = some v) (hdg : decode cc pc = .ok (.getfield index, 3))
    (kk : W p l e R s m args below meth c H locs cells slots Q (F0 m (pc + 3) ls (v :: rest))) : W p l e R s m args below meth c H locs cells slots Q (F0 m pc ls (.ref a :: rest)) :=
  va_get hx hb hts hin hown hK (gw_one hG he) 0 rfl hc k hk hlink hsame hv hdg kk
theorem gw_put (hx : p.tables.exec = Jvm.exec) (hb : c.code = cc) {own ref C : String} {T : u_T} {N ci index : Nat} {Ts : List Cond} (hts : ∀ w ∈ Ts, w.before args s = true) (hin : ∀ w ∈ u_ws C T N, w ∈ Ts) (ty0 : Nat → FieldType) (hty : ∀ k, k < N → parseFieldDescriptor (T k).2.2.1 = some (ty0 k)) (hnm : ∀ a, a < N → ∀ b, b < N → a ≠ b → (T a).2.1 ≠ (T b).2.1) (hown : s.vm.findClass own = some m.cls) (hK : va_K D classes (gw_ty cI cO cZ) s) (hG : gw_H E D M s H locs) {fs : List Value} (he : M a = some (.inr (ci, fs))) (hc : classes[ci]? = some (C, T, N)) (k : Nat) (hk : k < N) (hlink : (Cond.fieldLink own index ref (T k).2.1 (T k).2.2.1).before args s = true) (hsame : ∀ x, s.fieldFound? (T k).1 (T k).2.1 (T k).2.2.1 = some x → s.fieldFound? ref (T k).2.1 (T k).2.2.1 = some x) (hfin : (T k).2.2.2 = false) {v : Value} (hn : narrow (ty0 k) v = v) (hfit : fits (ty0 k) v = true) (hl : k < fs.length) (hdg : decode cc pc = .ok (.putfield index, 3))
    (kk : ∀ (H1 : Heap) (locs1 : List Loc), gw_H E D (gw_up M a (.inr (ci, fs.set k v))) s H1 locs1 → W p l e R s m args below meth c H1 locs1 cells slots Q (F0 m (pc + 3) ls rest)) : W p l e R s m args below meth c H locs cells slots Q (F0 m pc ls (v :: .ref a :: rest)) := by
  obtain ⟨ws, hP, hD, hm⟩ := gw_list hG.1 hG.2.1
  obtain ⟨i, hi⟩ := (hm a _).mp he
  exact va_put hx hb hts hin ty0 hty hnm hown hK hP hD hG.2.2 i hi hc k hk hlink hsame hfin (hty k hk) hn hfit hl hdg (fun H1 locs1 h1 _ h3 => kk H1 locs1 ⟨gw_set (E := E) (H := H) hm hi h1, gw_setE hG.2.1 he, h3⟩)
theorem gw_putF (hx : p.tables.exec = Jvm.exec) (hb : c.code = cc) {own ref C : String} {T : u_T} {N ci index : Nat} {Ts : List Cond} (hts : ∀ w ∈ Ts, w.before args s = true) (hin : ∀ w ∈ u_ws C T N, w ∈ Ts) (ty0 : Nat → FieldType) (hty : ∀ k, k < N → parseFieldDescriptor (T k).2.2.1 = some (ty0 k)) (hnm : ∀ a, a < N → ∀ b, b < N → a ≠ b → (T a).2.1 ≠ (T b).2.1) (hown : s.vm.findClass own = some m.cls) (hK : va_K D classes (gw_ty cI cO cZ) s) (hG : gw_H E D M s H locs) {fs : List Value} (he : M a = some (.inr (ci, fs))) (hc : classes[ci]? = some (C, T, N)) (k : Nat) (hk : k < N) (hlink : (Cond.fieldLink own index ref (T k).2.1 (T k).2.2.1).before args s = true) (hsame : ∀ x, s.fieldFound? (T k).1 (T k).2.1 (T k).2.2.1 = some x → s.fieldFound? ref (T k).2.1 (T k).2.2.1 = some x) (hfin : (T k).2.2.2 = true) (hin2 : meth.name = "<init>") (hdecl : (T k).1 = own) {v : Value} (hn : narrow (ty0 k) v = v) (hfit : fits (ty0 k) v = true) (hl : k < fs.length) (hdg : decode cc pc = .ok (.putfield index, 3))
    (kk : ∀ (H1 : Heap) (locs1 : List Loc), gw_H E D (gw_up M a (.inr (ci, fs.set k v))) s H1 locs1 → W p l e R s m args below meth c H1 locs1 cells slots Q (F0 m (pc + 3) ls rest)) : W p l e R s m args below meth c H locs cells slots Q (F0 m pc ls (v :: .ref a :: rest)) := by
  obtain ⟨ws, hP, hD, hm⟩ := gw_list hG.1 hG.2.1
  obtain ⟨i, hi⟩ := (hm a _).mp he
  exact va_putF hx hb hts hin ty0 hty hnm hown hK hP hD hG.2.2 i hi hc k hk hlink hsame hfin hin2 hdecl (hty k hk) hn hfit hl hdg (fun H1 locs1 h1 _ h3 => kk H1 locs1 ⟨gw_set (E := E) (H := H) hm hi h1, gw_setE hG.2.1 he, h3⟩)
theorem gw_AE {E : Nat} {s : State} (hE : E ≤ s.heap.size) : ∀ q, s.heap.size ≤ q → gw_A E q := fun _ h => Nat.le_trans hE h
theorem gw_new (hx : p.tables.exec = Jvm.exec) (hb : c.code = cc) {own C : String} {T : u_T} {N ci index : Nat} {Ts : List Cond} (hts : ∀ w ∈ Ts, w.before args s = true) (hin : ∀ w ∈ u_ws C T N, w ∈ Ts) (ty : Nat → FieldType) (hty : ∀ k, k < N → parseFieldDescriptor (T k).2.2.1 = some (ty k)) (hown : s.vm.findClass own = some m.cls) (hcl : (Cond.classLink own index C).before args s = true) (hinst : (Cond.instantiable C N).before args s = true) (hini : (Cond.initialized C).before args s = true)
    (hK : va_K D classes (gw_ty cI cO cZ) s) (hE : E ≤ s.heap.size) (hG : gw_H E D M s H locs) (hc : classes[ci]? = some (C, T, N)) {fs : List Value} (hfs : ∀ j, j < N → defaultValue (ty j) = vp_V fs j) (hcells : cells + 1 ≤ R.cells) (hslots : slots + N ≤ R.slots) (hdg : decode cc pc = .ok (.new index, 3))
    (kk : ∀ (q : Nat) (H1 : Heap), M q = none → gw_H E D (gw_up M q (.inr (ci, fs))) s H1 locs → W p l e R s m args below meth c H1 locs (cells + 1) (slots + N) Q (F0 m (pc + 3) ls (.ref q :: rest))) : W p l e R s m args below meth c H locs cells slots Q (F0 m pc ls rest) := by
  obtain ⟨ws, hP, hD, hm⟩ := gw_list hG.1 hG.2.1
  refine va_new hx hb hts hin ty hty hown hcl hinst hini hK hP hD hG.2.2 (gw_AE hE) hc hfs hcells hslots hdg (fun q H1 h1 h2 h3 => ?_)
  obtain ⟨g1, g2, g3⟩ := gw_app hm h1 h2
  exact kk q H1 g3 ⟨g1, g2, h3⟩
theorem gw_newI (hx : p.tables.exec = Jvm.exec) (hb : c.code = cc) (harr : (Cond.arrayClass .int).before args s = true) (hK : va_K D classes (gw_ty cI cO cZ) s) (hE : E ≤ s.heap.size) (hG : gw_H E D M s H locs) {n : Int32} {N : Nat} (hn : ¬ n < 0) (hN : n.toNatClampNeg = N) (hbytes : N * 4 ≤ 536870912) (hcells : cells + 1 ≤ R.cells) (hslots : slots + N ≤ R.slots) (hdg : decode cc pc = .ok (.newarray .int, 2))
    (kk : ∀ (q : Nat) (H1 : Heap), M q = none → gw_H E D (gw_up M q (.inl (cI, N, .inl (fun _ => 0)))) s H1 locs → W p l e R s m args below meth c H1 locs (cells + 1) (slots + N) Q (F0 m (pc + 2) ls (.ref q :: rest))) : W p l e R s m args below meth c H locs cells slots Q (F0 m pc ls (.int n :: rest)) := by
  obtain ⟨ws, hP, hD, hm⟩ := gw_list hG.1 hG.2.1
  refine va_newa (atype := .int) (ty := .int) (a0 := (N, .inl (fun _ => 0))) (N' := N) hx hb harr rfl hK hP hD hG.2.2 (gw_AE hE) (fun _ => rfl) hn hN hbytes hcells hslots hdg (fun q cA H1 h0 h1 h2 h3 => ?_)
  have e1 : s.vm.findClass ("[" ++ FieldType.int.toString) = some cA := (h0.2 3 (cA, .int) rfl).2
  have e2 : s.vm.findClass ("[" ++ FieldType.int.toString) = some cI := (hK.2 0 (cI, .int) rfl).2
  cases e1.symm.trans e2
  obtain ⟨g1, g2, g3⟩ := gw_app hm h1 h2
  exact kk q H1 g3 ⟨g1, g2, h3⟩
theorem gw_newZ (hx : p.tables.exec = Jvm.exec) (hb : c.code = cc) (harr : (Cond.arrayClass .boolean).before args s = true) (hK : va_K D classes (gw_ty cI cO cZ) s) (hE : E ≤ s.heap.size) (hG : gw_H E D M s H locs) {n : Int32} {N : Nat} (hn : ¬ n < 0) (hN : n.toNatClampNeg = N) (hbytes : N * 1 ≤ 536870912) (hcells : cells + 1 ≤ R.cells) (hslots : slots + N ≤ R.slots) (hdg : decode cc pc = .ok (.newarray .boolean, 2))
    (kk : ∀ (q : Nat) (H1 : Heap), M q = none → gw_H E D (gw_up M q (.inl (cZ, N, .inl (fun _ => 0)))) s H1 locs → W p l e R s m args below meth c H1 locs (cells + 1) (slots + N) Q (F0 m (pc + 2) ls (.ref q :: rest))) : W p l e R s m args below meth c H locs cells slots Q (F0 m pc ls (.int n :: rest)) := by
  obtain ⟨ws, hP, hD, hm⟩ := gw_list hG.1 hG.2.1
  refine va_newa (atype := .boolean) (ty := .boolean) (a0 := (N, .inl (fun _ => 0))) (N' := N) hx hb harr rfl hK hP hD hG.2.2 (gw_AE hE) (fun _ => rfl) hn hN hbytes hcells hslots hdg (fun q cA H1 h0 h1 h2 h3 => ?_)
  have e1 : s.vm.findClass ("[" ++ FieldType.boolean.toString) = some cA := (h0.2 3 (cA, .boolean) rfl).2
  have e2 : s.vm.findClass ("[" ++ FieldType.boolean.toString) = some cZ := (hK.2 2 (cZ, .boolean) rfl).2
  cases e1.symm.trans e2
  obtain ⟨g1, g2, g3⟩ := gw_app hm h1 h2
  exact kk q H1 g3 ⟨g1, g2, h3⟩
theorem gw_iald (hx : p.tables.exec = Jvm.exec) (hb : c.code = cc) (hK : va_K D classes (gw_ty cI cO cZ) s) (hG : gw_H E D M s H locs) {n : Nat} {f : Nat → Int32} (he : M a = some (.inl (cI, n, .inl f))) {i : Int32} (hin : vp_in i n) (hdg : decode cc pc = .ok (.iaload, 1))
    (kk : W p l e R s m args below meth c H locs cells slots Q (F0 m (pc + 1) ls (.int (f i.toNatClampNeg) :: rest))) : W p l e R s m args below meth c H locs cells slots Q (F0 m pc ls (.int i :: .ref a :: rest)) :=
  va_iald hx hb hK (gw_one hG he) 0 0 rfl rfl hin hdg kk
theorem gw_iast (hx : p.tables.exec = Jvm.exec) (hb : c.code = cc) (hK : va_K D classes (gw_ty cI cO cZ) s) (hG : gw_H E D M s H locs) {n : Nat} {f : Nat → Int32} (he : M a = some (.inl (cI, n, .inl f))) {i x : Int32} (hin : vp_in i n) (hdg : decode cc pc = .ok (.iastore, 1))
    (kk : ∀ (H1 : Heap) (locs1 : List Loc), gw_H E D (gw_up M a (.inl (cI, n, .inl (upd f i.toNatClampNeg x)))) s H1 locs1 → W p l e R s m args below meth c H1 locs1 cells slots Q (F0 m (pc + 1) ls rest)) : W p l e R s m args below meth c H locs cells slots Q (F0 m pc ls (.int x :: .int i :: .ref a :: rest)) := by
  obtain ⟨ws, hP, hD, hm⟩ := gw_list hG.1 hG.2.1
  obtain ⟨i0, hi⟩ := (hm a _).mp he
  exact va_iast hx hb hK hP hD hG.2.2 i0 0 hi rfl hin hdg (fun H1 locs1 h1 _ h3 => kk H1 locs1 ⟨gw_set (E := E) (H := H) hm hi h1, gw_setE hG.2.1 he, h3⟩)
theorem gw_aldq (hx : p.tables.exec = Jvm.exec) (hb : c.code = cc) (hK : va_K D classes (gw_ty cI cO cZ) s) (hG : gw_H E D M s H locs) {n : Nat} {f : Nat → Option Nat} (he : M a = some (.inl (cO, n, .inr (.inr (.inr (.inr f)))))) {i : Int32} (hin : vp_in i n) (hdg : decode cc pc = .ok (.aaload, 1))
    (kk : W p l e R s m args below meth c H locs cells slots Q (F0 m (pc + 1) ls (va_rf (f i.toNatClampNeg) :: rest))) : W p l e R s m args below meth c H locs cells slots Q (F0 m pc ls (.int i :: .ref a :: rest)) :=
  va_aldq hx hb hK (gw_one hG he) 0 1 rfl rfl hin hdg kk
theorem gw_astqN (hx : p.tables.exec = Jvm.exec) (hb : c.code = cc) (hK : va_K D classes (gw_ty cI cO cZ) s) (hG : gw_H E D M s H locs) {n : Nat} {f : Nat → Option Nat} (he : M a = some (.inl (cO, n, .inr (.inr (.inr (.inr f)))))) {i : Int32} (hin : vp_in i n) (hdg : decode cc pc = .ok (.aastore, 1))
    (kk : ∀ (H1 : Heap) (locs1 : List Loc), gw_H E D (gw_up M a (.inl (cO, n, .inr (.inr (.inr (.inr (va_up f i.toNatClampNeg none))))))) s H1 locs1 → W p l e R s m args below meth c H1 locs1 cells slots Q (F0 m (pc + 1) ls rest)) : W p l e R s m args below meth c H locs cells slots Q (F0 m pc ls (.null :: .int i :: .ref a :: rest)) := by
  obtain ⟨ws, hP, hD, hm⟩ := gw_list hG.1 hG.2.1
  obtain ⟨i0, hi⟩ := (hm a _).mp he
  exact va_astqN hx hb hK hP hD hG.2.2 i0 1 hi rfl hin hdg (fun H1 locs1 h1 _ h3 => kk H1 locs1 ⟨gw_set (E := E) (H := H) hm hi h1, gw_setE hG.2.1 he, h3⟩)
theorem gw_alen (hx : p.tables.exec = Jvm.exec) (hb : c.code = cc) (hK : va_K D classes (gw_ty cI cO cZ) s) (hG : gw_H E D M s H locs) (t0 : Nat) {cA : ClassId} {x : vp_A} (he : M a = some (.inl (cA, x))) {ty : FieldType} (ht : (gw_ty cI cO cZ)[t0]? = some (cA, ty)) {v : Int32} (hv : Int32.ofNat x.1 = v) (hdg : decode cc pc = .ok (.arraylength, 1))
    (kk : W p l e R s m args below meth c H locs cells slots Q (F0 m (pc + 1) ls (.int v :: rest))) : W p l e R s m args below meth c H locs cells slots Q (F0 m pc ls (.ref a :: rest)) :=
  va_alen hx hb hK (gw_one hG he) 0 t0 rfl ht hv hdg kk
end GW
end
section
section GC
variable {p : Program} {l : Launch} {e : Env} {R : Room} {s : State} {m : MethodId} {args : Array Value} {below : List Frame} {meth : Method} {c : Code} {H : Heap} {locs : List Loc} {cells slots : Nat} {Q : State → Prop}
variable {cc : ByteArray} {pc : Nat} {ls : Array Slot} {rest : List Value} {D : va_G} {a : Nat} {E : Nat} {M : gM} {cI cO cZ : ClassId} {z0 : Nat}
/-- the texts of the class's own throws -/
def gw_texts : List (Nat × String) := [(379, "a number is out of range"), (385, "no such hand"), (110, "the hand stands in the gang, or is hurt"), (116, "there are 5 in the gang"), (122, "the hand does not stand in the gang"), (381, "fewer than two stand in the gang")]
/-- words that stay, though no call carries them on: what is castable, the nest mates' links, what is declared -/
def gw_wk : Cond → Bool
  | .castable .. => true
  | .methodLinkNest .. => true
  | .declares _ => true
  | _ => false
def gW : List Cond := lw_tbl.filter gw_wk
theorem gw_wk_on {w : Cond} (h : gw_wk w = true) : w.onTables = true := by
  cases w <;> first | rfl | (simp [gw_wk] at h)
theorem gw_wk_warm {w : Cond} (h : gw_wk w = true) {s U : State} (hW : s.WarmedH U.vm) (hZ : va_Nw w s) : va_Nw w U := by
  cases w <;> first | exact va_Nw.warmC hW hZ | exact va_Nw.warmM hW hZ | exact va_Nw.warmD hW hZ | (simp [gw_wk] at h)
/-- the classes of what is thrown: none can be cast to another -/
def gw_exc : List String := ["java/lang/IllegalArgumentException", "java/lang/IllegalStateException", "java/lang/IndexOutOfBoundsException", "java/lang/UnsupportedOperationException", "java/util/NoSuchElementException"]
def gw_N (U : State) : Prop := (∀ w ∈ gW, va_Nw w U) ∧ va_AO "java/lang/Object" U ∧ (∀ a ∈ gw_exc, ∀ b ∈ gw_exc, a ≠ b → va_Nc a b U) ∧ ∀ q ∈ gw_texts, ∃ sa : Nat, vk_R "ThresholdRow" q.1 q.2 sa U
theorem gw_N.warm {u U : State} (hW : u.WarmedH U.vm) (h : gw_N u) : gw_N U :=
  ⟨fun w hw => gw_wk_warm (List.mem_filter.mp hw).2 hW (h.1 w hw), h.2.1.moved hW.alike, fun a ha b hb hn => (h.2.2.1 a ha b hb hn).moved hW.alike, fun q hm => by obtain ⟨sa, hs⟩ := h.2.2.2 q hm; exact ⟨sa, hs.warm hW⟩⟩
theorem gw_N.same {u U : State} (hv : U.vm = u.vm) (h : gw_N u) : gw_N U :=
  ⟨fun w hw => va_Nw.same (gw_wk_on (List.mem_filter.mp hw).2) hv.symm (h.1 w hw), h.2.1.moved (by rw [hv]; exact Vm.Alike.refl _), fun a ha b hb hn => (h.2.2.1 a ha b hb hn).moved (by rw [hv]; exact Vm.Alike.refl _), fun q hm => by obtain ⟨sa, hs⟩ := h.2.2.2 q hm; exact ⟨sa, hs.same hv⟩⟩
theorem gW_m {w : Cond} {s : State} (h : gw_N s) (hm : w ∈ lw_tbl) (hg : gw_wk w = true) : va_Nw w s := h.1 w (List.mem_filter.mpr ⟨hm, hg⟩)
/-- what stands below the law's entry and stays: ArrayList's empty array, Throwable's two statics -/
def gw_T (E z0 : Nat) (U : State) (H : Heap) : Prop := va_Z "java/util/ArrayList" "DEFAULTCAPACITY_EMPTY_ELEMENTDATA" "[Ljava/lang/Object;" (.ref z0) (gw_A E) U H ∧ va_T (.object "java/lang/Object") z0 0 (fun _ => .null) (gw_A E) U H ∧ vx_Zq Bundle.tN "UNASSIGNED_STACK" Bundle.steD (gw_A E) U H ∧ vx_Zq Bundle.tN "SUPPRESSED_SENTINEL" Bundle.listD (gw_A E) U H ∧ gw_N U
theorem gw_T.warm {E z0 : Nat} {u U : State} {H H1 : Heap} (hW : u.WarmedH U.vm) (hq : ∀ a : Nat, a < H.size → ¬ gw_A E a → H1[a]? = H[a]?) (h : gw_T E z0 u H) : gw_T E z0 U H1 :=
  ⟨(h.1.moved hW.alike).kept hq, (h.2.1.moved hW.alike).kept hq, (h.2.2.1.moved hW.alike).kept hq, (h.2.2.2.1.moved hW.alike).kept hq, h.2.2.2.2.warm hW⟩
theorem gw_T.same {E z0 : Nat} {u U : State} {H : Heap} (hv : U.vm = u.vm) (h : gw_T E z0 u H) : gw_T E z0 U H :=
  ⟨h.1.moved (by rw [hv]; exact Vm.Alike.refl _), h.2.1.moved (by rw [hv]; exact Vm.Alike.refl _), h.2.2.1.moved (by rw [hv]; exact Vm.Alike.refl _), h.2.2.2.1.moved (by rw [hv]; exact Vm.Alike.refl _), h.2.2.2.2.same hv⟩
/-- what a walk has at hand of its start: the tables' classes, the boundary, what stands below it -/
def gw_F (E : Nat) (D : va_G) (cI cO cZ : ClassId) (z0 : Nat) (s : State) : Prop := va_K D classes (gw_ty cI cO cZ) s ∧ E ≤ s.heap.size ∧ gw_T E z0 s s.heap
def gw_Pc (E : Nat) (D : va_G) (cI cO cZ : ClassId) (z0 : Nat) (M : gM) (av : List Value) : Array Value → State → Prop := va_Pc av (fun U => gw_F E D cI cO cZ z0 U ∧ gw_B E D M U)
abbrev gw_Qi (E : Nat) (D : va_G) (post : Int32 → gM → Prop) : Array Value → State → Outcome → State → Prop := va_Qi post (fun M' t => gw_B E D M' t) (gw_A E)
abbrev gw_Qd (E : Nat) (D : va_G) (post : UInt64 → gM → Prop) : Array Value → State → Outcome → State → Prop := va_Qd post (fun M' t => gw_B E D M' t) (gw_A E)
abbrev gw_Qv (E : Nat) (D : va_G) (post : gM → Prop) : Array Value → State → Outcome → State → Prop := va_Qv post (fun M' t => gw_B E D M' t) (gw_A E)
abbrev gw_Qq (E : Nat) (D : va_G) (post : Option Nat → gM → Prop) : Array Value → State → Outcome → State → Prop := va_Qq post (fun M' t => gw_B E D M' t) (gw_A E)
theorem gw_blind {av : List Value} : FrameBlind (gw_Pc E D cI cO cZ z0 M av) := by
  rintro a U g mk ⟨h0, ⟨h1, h2, h3⟩, h4, h5⟩
  exact ⟨h0, ⟨va_K.moved (u := U) (U := U.calling g mk a) (Vm.Alike.refl U.vm) h1, h2, gw_T.same (u := U) (U := U.calling g mk a) rfl h3⟩, h4, h5⟩
theorem gw_pre {av : List Value} (hF : gw_F E D cI cO cZ z0 s) (hG : gw_H E D M s H locs) : ∀ U : State, U.heap = H → s.WarmedH U.vm → gw_Pc E D cI cO cZ z0 M av av.toArray U := by
  intro U hU hW
  refine ⟨rfl, ⟨va_K.moved hW.alike hF.1, ?_, ?_⟩, ?_, hG.2.1⟩
  · rw [hU]; exact Nat.le_trans hF.2.1 hG.2.2.1
  · rw [hU]; exact hF.2.2.warm hW hG.2.2.2.1
  · rw [hU]; exact hG.1
theorem gw_recv (hF : gw_F E D cI cO cZ z0 s) (hG : gw_H E D M s H locs) {b ci : Nat} {q : vw_C} {fs : List Value} (hc : classes[ci]? = some q) (he : M b = some (.inr (ci, fs))) : ∃ cell : Cell, H[b]? = some cell ∧ cell.vm.isStatics = false ∧ s.vm.findClass q.1 = some cell.cls :=
  va_recv (q0 := 0) (ci := ci) (fs := fs) hF.1 (gw_one hG he) hc rfl
theorem gw_back {M' : gM} {t : State} {H1 : Heap} {locs1 : List Loc} (ht : t.heap = H1) (hB : gw_B E D M' t) (hS : va_S (gw_A E) s.heap H1 locs1) : gw_H E D M' s H1 locs1 := ⟨by rw [← ht]; exact hB.1, hB.2, hS⟩
-- what is said of a call's answer, four kinds
theorem gw_calli {mc ms : Nat} {st0 : List Value} {aa : Array Value} {post : Int32 → gM → Prop} (hr : va_Run p l e R s m args below meth c H locs cells slots mc ms (F0 m pc ls st0) rest (gw_Qi E D post aa) (gw_A E)) (hG : gw_H E D M s H locs)
    (kk : ∀ (r : Int32) (M' : gM) (H1 : Heap) (locs1 : List Loc), post r M' → gw_H E D M' s H1 locs1 → W p l e R s m args below meth c H1 locs1 (cells + mc) (slots + ms) Q (F0 m (pc + 3) ls (.int r :: rest))) : W p l e R s m args below meth c H locs cells slots Q (F0 m pc ls st0) :=
  va_calli hr hG.2.2 (fun _ _ h => h) (fun _ h => h) (fun r u _ H1 locs1 ht _ hw hB _ _ hS1 => kk r u H1 locs1 hw (gw_back ht hB hS1))
theorem gw_calld {mc ms : Nat} {st0 : List Value} {aa : Array Value} {post : UInt64 → gM → Prop} (hr : va_Run p l e R s m args below meth c H locs cells slots mc ms (F0 m pc ls st0) rest (gw_Qd E D post aa) (gw_A E)) (hG : gw_H E D M s H locs)
    (kk : ∀ (r : UInt64) (M' : gM) (H1 : Heap) (locs1 : List Loc), post r M' → gw_H E D M' s H1 locs1 → W p l e R s m args below meth c H1 locs1 (cells + mc) (slots + ms) Q (F0 m (pc + 3) ls (.double r :: rest))) : W p l e R s m args below meth c H locs cells slots Q (F0 m pc ls st0) :=
  va_calld hr hG.2.2 (fun _ _ h => h) (fun _ h => h) (fun r u _ H1 locs1 ht _ hw hB _ _ hS1 => kk r u H1 locs1 hw (gw_back ht hB hS1))
theorem gw_callv {mc ms : Nat} {st0 : List Value} {aa : Array Value} {post : gM → Prop} (hr : va_Run p l e R s m args below meth c H locs cells slots mc ms (F0 m pc ls st0) rest (gw_Qv E D post aa) (gw_A E)) (hG : gw_H E D M s H locs)
    (kk : ∀ (M' : gM) (H1 : Heap) (locs1 : List Loc), post M' → gw_H E D M' s H1 locs1 → W p l e R s m args below meth c H1 locs1 (cells + mc) (slots + ms) Q (F0 m (pc + 3) ls rest)) : W p l e R s m args below meth c H locs cells slots Q (F0 m pc ls st0) :=
  va_callv hr hG.2.2 (fun _ _ h => h) (fun _ h => h) (fun u _ H1 locs1 ht _ hw hB _ _ hS1 => kk u H1 locs1 hw (gw_back ht hB hS1))
theorem gw_callq {mc ms : Nat} {st0 : List Value} {aa : Array Value} {post : Option Nat → gM → Prop} (hr : va_Run p l e R s m args below meth c H locs cells slots mc ms (F0 m pc ls st0) rest (gw_Qq E D post aa) (gw_A E)) (hG : gw_H E D M s H locs)
    (kk : ∀ (r : Option Nat) (M' : gM) (H1 : Heap) (locs1 : List Loc), post r M' → gw_H E D M' s H1 locs1 → W p l e R s m args below meth c H1 locs1 (cells + mc) (slots + ms) Q (F0 m (pc + 3) ls (va_rf r :: rest))) : W p l e R s m args below meth c H locs cells slots Q (F0 m pc ls st0) :=
  va_callq hr hG.2.2 (fun _ _ h => h) (fun _ h => h) (fun r u _ H1 locs1 ht _ hw hB _ _ hS1 => kk r u H1 locs1 hw (gw_back ht hB hS1))
-- how a call is run: virtual (own class, also private), static, constructor (also of a nest mate)
theorem gw_runV {y : MethodName} {bytes : ByteArray} {maxL nL mc ms n index ci N : Nat} {ret : Option FieldType} {ws : List Cond} {rm : Room} {Qc : Array Value → State → Outcome → State → Prop} {Ts : List Cond} {own C : String} {T : u_T} {b : Nat} {As rest st0 : List Value} {fs : List Value}
    (S : CallFix p m c cc nL s args Ts own) (hM : Met l y ws rm (gw_Pc E D cI cO cZ z0 M (.ref b :: As)) Qc mc ms (gw_A E)) (cw : CallW R s args own C index y bytes maxL ret ws rm mc ms n) (hF : gw_F E D cI cO cZ z0 s) (hG : gw_H E D M s H locs) (hc : classes[ci]? = some (C, T, N)) (he : M b = some (.inr (ci, fs)))
    (hn : As.length = n) (hsize : ls.size = nL) (hstack : st0 = As.reverse ++ .ref b :: rest) (hW : (rest.map fun v => v.category).sum ≤ 8) (hdg : decode cc pc = .ok (.invokevirtual index, 3)) (hf : cells + mc ≤ R.cells ∧ slots + ms ≤ R.slots) :
    va_Run p l e R s m args below meth c H locs cells slots mc ms (F0 m pc ls st0) rest (Qc (Value.ref b :: As).toArray) (gw_A E) :=
  va_runV S hM cw ⟨gw_blind, gw_recv hF hG hc he, gw_pre hF hG⟩ rfl hn hsize hstack (lv_room (rest := st0) hW) hdg hf
theorem gw_runS {y : MethodName} {bytes : ByteArray} {maxL nL mc ms n index : Nat} {ret : Option FieldType} {ws : List Cond} {rm : Room} {Qc : Array Value → State → Outcome → State → Prop} {Ts : List Cond} {own : String} {As rest st0 : List Value}
    (S : CallFix p m c cc nL s args Ts own) (hM : Met l y ws rm (gw_Pc E D cI cO cZ z0 M As) Qc mc ms (gw_A E)) (cw : CallB R s args own index y bytes maxL ret ws rm mc ms n ∧ (Cond.static y).before args s = true) (hF : gw_F E D cI cO cZ z0 s) (hG : gw_H E D M s H locs)
    (hn : As.length = n) (hsize : ls.size = nL) (hstack : st0 = As.reverse ++ rest) (hW : (rest.map fun v => v.category).sum ≤ 8) (hdg : decode cc pc = .ok (.invokestatic index, 3)) (hf : cells + mc ≤ R.cells ∧ slots + ms ≤ R.slots) :
    va_Run p l e R s m args below meth c H locs cells slots mc ms (F0 m pc ls st0) rest (Qc As.toArray) (gw_A E) :=
  va_runS S hM cw ⟨gw_blind, gw_pre hF hG⟩ rfl hn hsize hstack (lv_room (rest := st0) hW) hdg hf
theorem gw_runI {y : MethodName} {bytes : ByteArray} {maxL nL mc ms n index : Nat} {ws : List Cond} {rm : Room} {Qc : Array Value → State → Outcome → State → Prop} {Ts : List Cond} {own : String} {b : Nat} {As rest st0 : List Value}
    (S : CallFix p m c cc nL s args Ts own) (hM : Met l y ws rm (gw_Pc E D cI cO cZ z0 M (.ref b :: As)) Qc mc ms (gw_A E)) (cw : CallB R s args own index y bytes maxL none ws rm mc ms n ∧ y.name = "<init>" ∧ (Cond.instanceMethod y).before args s = true) (hF : gw_F E D cI cO cZ z0 s) (hG : gw_H E D M s H locs)
    (hn : As.length = n) (hsize : ls.size = nL) (hstack : st0 = As.reverse ++ .ref b :: rest) (hW : (rest.map fun v => v.category).sum ≤ 8) (hdg : decode cc pc = .ok (.invokespecial index, 3)) (hf : cells + mc ≤ R.cells ∧ slots + ms ≤ R.slots) :
    va_Run p l e R s m args below meth c H locs cells slots mc ms (F0 m pc ls st0) rest (Qc (Value.ref b :: As).toArray) (gw_A E) :=
  va_runI S hM cw ⟨gw_blind, gw_pre hF hG⟩ rfl hn hsize hstack (lv_room (rest := st0) hW) hdg hf
theorem gw_runIN {y : MethodName} {bytes : ByteArray} {maxL nL mc ms n index : Nat} {ws : List Cond} {rm : Room} {Qc : Array Value → State → Outcome → State → Prop} {Ts : List Cond} {own host : String} {b : Nat} {As rest st0 : List Value}
    (S : CallFix p m c cc nL s args Ts own) (hM : Met l y ws rm (gw_Pc E D cI cO cZ z0 M (.ref b :: As)) Qc mc ms (gw_A E)) (cw : va_CN R s args own index y host bytes maxL none ws rm mc ms n ∧ y.name = "<init>" ∧ (Cond.instanceMethod y).before args s = true) (hF : gw_F E D cI cO cZ z0 s) (hG : gw_H E D M s H locs)
    (hn : As.length = n) (hsize : ls.size = nL) (hstack : st0 = As.reverse ++ .ref b :: rest) (hW : (rest.map fun v => v.category).sum ≤ 8) (hdg : decode cc pc = .ok (.invokespecial index, 3)) (hf : cells + mc ≤ R.cells ∧ slots + ms ≤ R.slots) :
    va_Run p l e R s m args below meth c H locs cells slots mc ms (F0 m pc ls st0) rest (Qc (Value.ref b :: As).toArray) (gw_A E) :=
  va_runIN S hM cw ⟨gw_blind, gw_pre hF hG⟩ rfl hn hsize hstack (lv_room (rest := st0) hW) hdg hf
-- words of a call
theorem gw_cwV {own C : String} {index maxL mc ms : Nat} {y : MethodName} {bytes : ByteArray} {ret : Option FieldType} {Ts ws ws' : List Cond} {rm : Room} (n : Nat) (ht : ∀ w ∈ Ts, w.before args s = true) (hG : GoodIn Ts ws) (hw : ws = Cond.code y bytes maxL ret :: ws') (hrc : rm.cells = mc) (hrs : rm.slots = ms) (hini : (Cond.initialized y.cls).before args s = true) (hl : (Cond.methodLink own index y).before args s = true) (hin : (Cond.instanceMethod y).before args s = true) (hse : (Cond.selects C y y).before args s = true)
    (hd : y.cls ≠ "java/lang/invoke/MethodHandle" ∧ y.cls ≠ "java/lang/invoke/VarHandle" ∧ (parseMethodDescriptor y.desc).map (fun d => d.parameters.length) = some n) (hR : rm.frames + 1 ≤ R.frames ∧ 8 + (maxL + 11) + rm.locals ≤ R.locals) : CallW R s args own C index y bytes maxL ret ws rm mc ms n :=
  ⟨callB_of n ht hG hw hrc hrs hini hl hd hR, hin, hse⟩
theorem gw_cwS {own : String} {index maxL mc ms : Nat} {y : MethodName} {bytes : ByteArray} {ret : Option FieldType} {Ts ws ws' : List Cond} {rm : Room} (n : Nat) (ht : ∀ w ∈ Ts, w.before args s = true) (hG : GoodIn Ts ws) (hw : ws = Cond.code y bytes maxL ret :: ws') (hrc : rm.cells = mc) (hrs : rm.slots = ms) (hini : (Cond.initialized y.cls).before args s = true) (hl : (Cond.methodLink own index y).before args s = true) (hst : (Cond.static y).before args s = true)
    (hd : y.cls ≠ "java/lang/invoke/MethodHandle" ∧ y.cls ≠ "java/lang/invoke/VarHandle" ∧ (parseMethodDescriptor y.desc).map (fun d => d.parameters.length) = some n) (hR : rm.frames + 1 ≤ R.frames ∧ 8 + (maxL + 11) + rm.locals ≤ R.locals) : CallB R s args own index y bytes maxL ret ws rm mc ms n ∧ (Cond.static y).before args s = true :=
  ⟨callB_of n ht hG hw hrc hrs hini hl hd hR, hst⟩
-- a contract's proof from its walk; its ends
theorem gw_ofW {y : MethodName} {ws ws' : List Cond} {rm : Room} {av : List Value} {Qc : Array Value → State → Outcome → State → Prop} {mc ms : Nat} {cc : ByteArray} {maxL : Nat} {ret : Option FieldType} (hy : plainName y.cls = true) (hw : ws = Cond.code y cc maxL ret :: ws') (hlen : (lg_sl av).length ≤ maxL)
    (body : ∀ (p : Program) (e : Env) (s : State) (m : MethodId) (args : Array Value) (below : List Frame) (meth : Method) (c : Code), p.tables.exec = Jvm.exec → c.code = cc → meth.sig.returnType = ret → c.maxLocals = maxL → (∀ w ∈ ws, w.before args s = true) → s.vm.findClass y.cls = some m.cls → meth.locks = false → meth.name = y.name → gw_F E D cI cO cZ z0 s → gw_H E D M s s.heap [] → ∀ ls : Array Slot, lv_has ls maxL (lv_args 0 av) →
      W p l e rm s m args below meth c s.heap [] 0 0 (MQ below Qc args s mc ms (gw_A E)) (F0 m 0 ls [])) : Met l y ws rm (gw_Pc E D cI cO cZ z0 M av) Qc mc ms (gw_A E) := by
  refine Met.ofW (cc := cc) (maxL := maxL) (ret := ret) hy hw ?_
  intro p e s m args below meth c s₁ B hml hv
  obtain ⟨rfl, hF, hB⟩ := hv
  have hts := atoms_spec (ws := ws) B.pre
  have hown : s.vm.findClass y.cls = some m.cls := findClass_of_methodNamed B.named
  have hl := lv_entry av (n := maxL) hlen
  rw [lg_entry_eq]
  exact body p e s m _ below meth c B.exec B.bytes B.returns hml hts hown B.notSynchronized (name_of_methodNamed B.named B.method).1 hF ⟨hB.1, hB.2, va_S.rf⟩ _ hl
theorem gw_iret {post : Int32 → gM → Prop} {v : Int32} {mc ms : Nat} (hx : p.tables.exec = Jvm.exec) (hb : c.code = cc) (hr : meth.sig.returnType = some .int) (hlk : meth.locks = false) (hG : gw_H E D M s H locs) (hp : post v M) (hc : cells ≤ mc) (hs : slots ≤ ms) (hdg : decode cc pc = .ok (.ireturn, 1)) : W p l e R s m args below meth c H locs cells slots (MQ below (gw_Qi E D post) args s mc ms (gw_A E)) (F0 m pc ls [.int v]) :=
  W.widen hc hs (W.iret hx hb hr (fun t ht _ => ⟨⟨v, M, rfl, hp, ⟨by rw [ht]; exact hG.1, hG.2.1⟩⟩, hG.2.2.F ht⟩) hG.2.2.2.2 hdg hlk)
theorem gw_vret {post : gM → Prop} {mc ms : Nat} (hx : p.tables.exec = Jvm.exec) (hb : c.code = cc) (hr : meth.sig.returnType = none) (hlk : meth.locks = false) (hG : gw_H E D M s H locs) (hp : post M) (hc : cells ≤ mc) (hs : slots ≤ ms) (hdg : decode cc pc = .ok (.return_, 1)) : W p l e R s m args below meth c H locs cells slots (MQ below (gw_Qv E D post) args s mc ms (gw_A E)) (F0 m pc ls []) :=
  W.widen hc hs (W.vret hx hb hr (fun t ht _ => ⟨⟨M, rfl, hp, ⟨by rw [ht]; exact hG.1, hG.2.1⟩⟩, hG.2.2.F ht⟩) hG.2.2.2.2 hdg hlk)
theorem gw_aret {post : Option Nat → gM → Prop} {q : Nat} {mc ms : Nat} {rt : FieldType} (hx : p.tables.exec = Jvm.exec) (hb : c.code = cc) (hr : meth.sig.returnType = some rt) (hrt : (∃ n, rt = .object n) ∨ ∃ t, rt = .array t) (hlk : meth.locks = false) (hG : gw_H E D M s H locs) (hp : post (some q) M) (hc : cells ≤ mc) (hs : slots ≤ ms) (hdg : decode cc pc = .ok (.areturn, 1)) : W p l e R s m args below meth c H locs cells slots (MQ below (gw_Qq E D post) args s mc ms (gw_A E)) (F0 m pc ls [.ref q]) :=
  W.widen hc hs (W.aret hx hb hr hrt (Or.inr ⟨q, rfl⟩) (fun t ht _ => ⟨⟨some q, M, rfl, hp, ⟨by rw [ht]; exact hG.1, hG.2.1⟩⟩, hG.2.2.F ht⟩) hG.2.2.2.2 hdg hlk)
theorem gw_aretN {post : Option Nat → gM → Prop} {mc ms : Nat} {rt : FieldType} (hx : p.tables.exec = Jvm.exec) (hb : c.code = cc) (hr : meth.sig.returnType = some rt) (hrt : (∃ n, rt = .object n) ∨ ∃ t, rt = .array t) (hlk : meth.locks = false) (hG : gw_H E D M s H locs) (hp : post none M) (hc : cells ≤ mc) (hs : slots ≤ ms) (hdg : decode cc pc = .ok (.areturn, 1)) : W p l e R s m args below meth c H locs cells slots (MQ below (gw_Qq E D post) args s mc ms (gw_A E)) (F0 m pc ls [.null]) :=
  W.widen hc hs (W.aret hx hb hr hrt (Or.inl rfl) (fun t ht _ => ⟨⟨none, M, rfl, hp, ⟨by rw [ht]; exact hG.1, hG.2.1⟩⟩, hG.2.2.F ht⟩) hG.2.2.2.2 hdg hlk)
theorem gw_zret {post : Int32 → gM → Prop} {v : Int32} {mc ms : Nat} (hx : p.tables.exec = Jvm.exec) (hb : c.code = cc) (hr : meth.sig.returnType = some .boolean) (hlk : meth.locks = false) (hG : gw_H E D M s H locs) (hn : narrow .boolean (.int v) = .int v) (hp : post v M) (hc : cells ≤ mc) (hs : slots ≤ ms) (hdg : decode cc pc = .ok (.ireturn, 1)) : W p l e R s m args below meth c H locs cells slots (MQ below (gw_Qi E D post) args s mc ms (gw_A E)) (F0 m pc ls [.int v]) :=
  W.widen hc hs (W.zret hx hb hr hn (fun t ht _ => ⟨⟨v, M, rfl, hp, ⟨by rw [ht]; exact hG.1, hG.2.1⟩⟩, hG.2.2.F ht⟩) hG.2.2.2.2 hdg hlk)
theorem gw_dret {post : UInt64 → gM → Prop} {v : UInt64} {mc ms : Nat} (hx : p.tables.exec = Jvm.exec) (hb : c.code = cc) (hr : meth.sig.returnType = some .double) (hlk : meth.locks = false) (hG : gw_H E D M s H locs) (hp : post v M) (hc : cells ≤ mc) (hs : slots ≤ ms) (hdg : decode cc pc = .ok (.dreturn, 1)) : W p l e R s m args below meth c H locs cells slots (MQ below (gw_Qd E D post) args s mc ms (gw_A E)) (F0 m pc ls [.double v]) :=
  W.widen hc hs (W.dret hx hb hr (fun t ht _ => ⟨⟨v, M, rfl, hp, ⟨by rw [ht]; exact hG.1, hG.2.1⟩⟩, hG.2.2.F ht⟩) hG.2.2.2.2 hdg hlk)
theorem gw_objI (hx : p.tables.exec = Jvm.exec) (hb : c.code = cc) {own : String} (hown : s.vm.findClass own = some m.cls) {idx : Nat} (hml : c.maxLocals = ls.size) (hlink : (Cond.methodLink own idx Lib.objectInit).before args s = true) (hinst : (Cond.instanceMethod Lib.objectInit).before args s = true) (hcode : (Cond.code Lib.objectInit ⟨#[0xb1]⟩ 1 none).before args s = true) (hframes : 1 ≤ R.frames) (hlocals : (rest.map fun v => v.category).sum + 12 ≤ R.locals) (hdg : decode cc pc = .ok (.invokespecial idx, 3))
    (kk : W p l e R s m args below meth c H locs cells slots Q (F0 m (pc + 3) ls rest)) : W p l e R s m args below meth c H locs cells slots Q (F0 m pc ls (.ref a :: rest)) :=
  W.objInit hx hb hown hlink hinst hcode rfl hml.symm rfl hdg hframes (by simpa [JFrame.monitorRoom] using hlocals) kk
theorem gw_newQ (hx : p.tables.exec = Jvm.exec) (hb : c.code = cc) {own : String} {index : Nat} (hown : s.vm.findClass own = some m.cls) (hclink : (Cond.classLink own index "java/lang/Object").before args s = true) (hF : gw_F E D cI cO cZ z0 s) (hG : gw_H E D M s H locs) {n : Int32} {N : Nat} (hn : ¬ n < 0) (hN : n.toNatClampNeg = N) (hbytes : N * 4 ≤ 536870912) (hcells : cells + 1 ≤ R.cells) (hslots : slots + N ≤ R.slots) (hdg : decode cc pc = .ok (.anewarray index, 3))
    (kk : ∀ (q : Nat) (H1 : Heap), M q = none → gw_H E D (gw_up M q (.inl (cO, N, .inr (.inr (.inr (.inr (fun _ => none))))))) s H1 locs → W p l e R s m args below meth c H1 locs (cells + 1) (slots + N) Q (F0 m (pc + 3) ls (.ref q :: rest))) : W p l e R s m args below meth c H locs cells slots Q (F0 m pc ls (.int n :: rest)) := by
  obtain ⟨ws, hP, hD, hm⟩ := gw_list hG.1 hG.2.1
  refine va_newq (N' := N) hx hb hown hclink hF.2.2.2.2.2.2.2.1 hF.1 hP hD hG.2.2 (gw_AE hF.2.1) hn hN hbytes hcells hslots hdg (fun q cA H1 h0 h1 h2 h3 => ?_)
  obtain ⟨kA, comp, -, -, -, e1⟩ := (h0.2 3 (cA, .object "java/lang/Object") rfl).2
  obtain ⟨kA2, comp2, -, -, -, e2⟩ := (hF.1.2 1 (cO, .object "java/lang/Object") rfl).2
  cases e1.symm.trans e2
  obtain ⟨g1, g2, g3⟩ := gw_app hm h1 h2
  exact kk q H1 g3 ⟨g1, g2, h3⟩
theorem gw_two {M : gM} {H : Heap} {a b : Nat} {e f : va_E} (hP : gw_P D M H) (hE : gw_E E M) (ha : M a = some e) (hb : M b = some f) : ∃ (ws : va_W) (i j : Nat), va_P D classes ws H ∧ va_D (gw_A E) ws ∧ (∀ (a : Nat) (e : va_E), M a = some e ↔ ∃ i : Nat, ws[i]? = some (a, e)) ∧ ws[i]? = some (a, e) ∧ ws[j]? = some (b, f) := by
  obtain ⟨ws, h1, h2, h3⟩ := gw_list hP hE
  obtain ⟨i, hi⟩ := (h3 a e).mp ha
  obtain ⟨j, hj⟩ := (h3 b f).mp hb
  exact ⟨ws, i, j, h1, h2, h3, hi, hj⟩
/-- an object of ours into an array of Objects -/
theorem gw_astq (hx : p.tables.exec = Jvm.exec) (hb : c.code = cc) (hF : gw_F E D cI cO cZ z0 s) (hG : gw_H E D M s H locs) {n v ci : Nat} {r : vw_C} {vs : List Value} {f : Nat → Option Nat} (he : M a = some (.inl (cO, n, .inr (.inr (.inr (.inr f)))))) (hv : M v = some (.inr (ci, vs))) (hc : classes[ci]? = some r) (hca : va_Nw (.castable r.1 "java/lang/Object") s) {i : Int32} (hin : vp_in i n) (hdg : decode cc pc = .ok (.aastore, 1))
    (kk : ∀ (H1 : Heap) (locs1 : List Loc), gw_H E D (gw_up M a (.inl (cO, n, .inr (.inr (.inr (.inr (va_up f i.toNatClampNeg (some v)))))))) s H1 locs1 → W p l e R s m args below meth c H1 locs1 cells slots Q (F0 m (pc + 1) ls rest)) : W p l e R s m args below meth c H locs cells slots Q (F0 m pc ls (.ref v :: .int i :: .ref a :: rest)) := by
  obtain ⟨ws, i0, j0, hP, hD, hm, hi, hj⟩ := gw_two hG.1 hG.2.1 he hv
  exact va_astqO hx hb hF.1 hP hD hG.2.2 i0 1 j0 ci hi rfl hca hj hc hin hdg (fun H1 locs1 h1 _ h3 => kk H1 locs1 ⟨gw_set (E := E) (H := H) hm hi h1, gw_setE hG.2.1 he, h3⟩)
/-- System.arraycopy within one array of Objects, whose elements are of one class of ours -/
theorem gw_copyq (hx : p.tables.exec = Jvm.exec) (hb : c.code = cc) (hml : c.maxLocals = ls.size) {own : String} {index : Nat} (hown : s.vm.findClass own = some m.cls) (hlink : (Cond.methodLink own index arraycopyName).before args s = true) (hnat : (Cond.native arraycopyName).before args s = true) (hstat : (Cond.static arraycopyName).before args s = true) (hini : (Cond.initialized "java/lang/System").before args s = true)
    (hF : gw_F E D cI cO cZ z0 s) (hG : gw_H E D M s H locs) {n ci : Nat} {r : vw_C} {f : Nat → Option Nat} (he : M a = some (.inl (cO, n, .inr (.inr (.inr (.inr f)))))) (hc : classes[ci]? = some r) (hca : va_Nw (.castable r.1 "java/lang/Object") s)
    {sp dp k : Int32} (h1 : ¬ sp < 0) (h2 : ¬ dp < 0) (h3 : ¬ k < 0) (h4 : sp.toNatClampNeg + k.toNatClampNeg ≤ n) (h5 : dp.toNatClampNeg + k.toNatClampNeg ≤ n) (hel : ∀ i : Nat, i < k.toNatClampNeg → ∀ y : Nat, f (sp.toNatClampNeg + i) = some y → ∃ fs : List Value, M y = some (.inr (ci, fs)))
    (hframes : 1 ≤ R.frames) (hlocals : (rest.map fun v => v.category).sum + (nativeFrameWords "java/lang/System" "arraycopy" 5 + 11) ≤ R.locals) (hdg : decode cc pc = .ok (.invokestatic index, 3))
    (kk : ∀ (H1 : Heap) (locs1 : List Loc), gw_H E D (gw_up M a (.inl (cO, n, .inr (.inr (.inr (.inr (va_cpy f f sp.toNatClampNeg dp.toNatClampNeg k.toNatClampNeg))))))) s H1 locs1 → W p l e R s m args below meth c H1 locs1 cells slots Q (F0 m (pc + 3) ls rest)) : W p l e R s m args below meth c H locs cells slots Q (F0 m pc ls (.int k :: .int dp :: .ref a :: .int sp :: .ref a :: rest)) := by
  obtain ⟨ws, hP, hD, hm⟩ := gw_list hG.1 hG.2.1
  obtain ⟨i0, hi⟩ := (hm a _).mp he
  refine va_copyq (C := r.1) hx hb hml hown hlink hnat hstat hini hF.1 hP hD hG.2.2 i0 i0 1 1 hi hi rfl rfl h1 h2 h3 h4 h5 ?_ ?_ hframes hlocals hdg (fun H1 locs1 h1 _ h3 => kk H1 locs1 ⟨gw_set (E := E) (H := H) hm hi h1, gw_setE hG.2.1 he, h3⟩)
  · intro i hik y hy
    obtain ⟨fs, hfs⟩ := hel i hik y hy
    exact gw_recv hF hG hc hfs
  · intro comp c0 k1 k2
    obtain ⟨c1, t1, f1, f2, f3⟩ := Cond.castable_spec (va_Nw.use (A := #[]) rfl hca)
    cases f1.symm.trans k2
    cases f2.symm.trans k1
    exact f3
theorem gw_cast (hx : p.tables.exec = Jvm.exec) (hb : c.code = cc) {own : String} {index ci : Nat} {r : vw_C} {fs : List Value} (hown : s.vm.findClass own = some m.cls) (hlink : (Cond.classLink own index r.1).before args s = true) (hF : gw_F E D cI cO cZ z0 s) (hG : gw_H E D M s H locs) (hc : classes[ci]? = some r) (he : M a = some (.inr (ci, fs))) (hdg : decode cc pc = .ok (.checkcast index, 3))
    (kk : W p l e R s m args below meth c H locs cells slots Q (F0 m (pc + 3) ls (.ref a :: rest))) : W p l e R s m args below meth c H locs cells slots Q (F0 m pc ls (.ref a :: rest)) :=
  va_castS hx hb hown hlink (hF.1.1 ci r hc).2 (gw_recv hF hG hc he) hdg kk
end GC
end
section
theorem d_AbstractCollection_init_0 : decode b_AbstractCollection_init 0 = .ok (.aload_n 0, 1) := by decide +kernel
theorem wm_68 : Cond.methodLink "java/util/AbstractCollection" 1 ⟨"java/lang/Object", "<init>", "()V"⟩ ∈ gT := gT_m (List.mem_of_getElem? (i := 68) (by decide +kernel)) (by decide +kernel)
theorem wm_55 : Cond.instanceMethod ⟨"java/lang/Object", "<init>", "()V"⟩ ∈ gT := gT_m (List.mem_of_getElem? (i := 55) (by decide +kernel)) (by decide +kernel)
theorem wm_56 : Cond.code ⟨"java/lang/Object", "<init>", "()V"⟩ object_method_1_code 1 none ∈ gT := gT_m (List.mem_of_getElem? (i := 56) (by decide +kernel)) (by decide +kernel)
theorem d_AbstractCollection_init_1 : decode b_AbstractCollection_init 1 = .ok (.invokespecial 1, 3) := by decide +kernel
theorem d_AbstractCollection_init_4 : decode b_AbstractCollection_init 4 = .ok (.return_, 1) := by decide +kernel
theorem d_AbstractList_init_0 : decode b_AbstractList_init 0 = .ok (.aload_n 0, 1) := by decide +kernel
theorem wm_67 : Cond.code ⟨"java/util/AbstractCollection", "<init>", "()V"⟩ prog_28_method_1_code 1 none ∈ gT := gT_m (List.mem_of_getElem? (i := 67) (by decide +kernel)) (by decide +kernel)
theorem wm_24 : Cond.initialized "java/util/AbstractCollection" ∈ gT := gT_m (List.mem_of_getElem? (i := 24) (by decide +kernel)) (by decide +kernel)
theorem wm_65 : Cond.methodLink "java/util/AbstractList" 1 ⟨"java/util/AbstractCollection", "<init>", "()V"⟩ ∈ gT := gT_m (List.mem_of_getElem? (i := 65) (by decide +kernel)) (by decide +kernel)
theorem d_AbstractList_init_1 : decode b_AbstractList_init 1 = .ok (.invokespecial 1, 3) := by decide +kernel
theorem wm_66 : Cond.instanceMethod ⟨"java/util/AbstractCollection", "<init>", "()V"⟩ ∈ gT := gT_m (List.mem_of_getElem? (i := 66) (by decide +kernel)) (by decide +kernel)
theorem d_AbstractList_init_4 : decode b_AbstractList_init 4 = .ok (.aload_n 0, 1) := by decide +kernel
theorem d_AbstractList_init_5 : decode b_AbstractList_init 5 = .ok (.iconst 0, 1) := by decide +kernel
theorem wm_73 : Cond.fieldLink "java/util/AbstractList" 7 "java/util/AbstractList" "modCount" "I" ∈ gT := gT_m (List.mem_of_getElem? (i := 73) (by decide +kernel)) (by decide +kernel)
theorem d_AbstractList_init_6 : decode b_AbstractList_init 6 = .ok (.putfield 7, 3) := by decide +kernel
theorem d_AbstractList_init_9 : decode b_AbstractList_init 9 = .ok (.return_, 1) := by decide +kernel
theorem d_AL_init_0 : decode b_AL_init 0 = .ok (.aload_n 0, 1) := by decide +kernel
theorem wm_64 : Cond.code ⟨"java/util/AbstractList", "<init>", "()V"⟩ prog_29_method_1_code 1 none ∈ gT := gT_m (List.mem_of_getElem? (i := 64) (by decide +kernel)) (by decide +kernel)
theorem wm_25 : Cond.initialized "java/util/AbstractList" ∈ gT := gT_m (List.mem_of_getElem? (i := 25) (by decide +kernel)) (by decide +kernel)
theorem wm_62 : Cond.methodLink "java/util/ArrayList" 1 ⟨"java/util/AbstractList", "<init>", "()V"⟩ ∈ gT := gT_m (List.mem_of_getElem? (i := 62) (by decide +kernel)) (by decide +kernel)
theorem d_AL_init_1 : decode b_AL_init 1 = .ok (.invokespecial 1, 3) := by decide +kernel
theorem wm_63 : Cond.instanceMethod ⟨"java/util/AbstractList", "<init>", "()V"⟩ ∈ gT := gT_m (List.mem_of_getElem? (i := 63) (by decide +kernel)) (by decide +kernel)
theorem d_AL_init_4 : decode b_AL_init 4 = .ok (.aload_n 0, 1) := by decide +kernel
theorem wm_69 : Cond.fieldLink "java/util/ArrayList" 39 "java/util/ArrayList" "DEFAULTCAPACITY_EMPTY_ELEMENTDATA" "[Ljava/lang/Object;" ∈ gT := gT_m (List.mem_of_getElem? (i := 69) (by decide +kernel)) (by decide +kernel)
theorem d_AL_init_5 : decode b_AL_init 5 = .ok (.getstatic 39, 3) := by decide +kernel
theorem wm_71 : Cond.fieldLink "java/util/ArrayList" 9 "java/util/ArrayList" "elementData" "[Ljava/lang/Object;" ∈ gT := gT_m (List.mem_of_getElem? (i := 71) (by decide +kernel)) (by decide +kernel)
theorem d_AL_init_8 : decode b_AL_init 8 = .ok (.putfield 9, 3) := by decide +kernel
theorem d_AL_init_11 : decode b_AL_init 11 = .ok (.return_, 1) := by decide +kernel
theorem d_AL_size_0 : decode b_AL_size 0 = .ok (.aload_n 0, 1) := by decide +kernel
theorem wm_72 : Cond.fieldLink "java/util/ArrayList" 48 "java/util/ArrayList" "size" "I" ∈ gT := gT_m (List.mem_of_getElem? (i := 72) (by decide +kernel)) (by decide +kernel)
theorem d_AL_size_1 : decode b_AL_size 1 = .ok (.getfield 48, 3) := by decide +kernel
theorem d_AL_size_4 : decode b_AL_size 4 = .ok (.ireturn, 1) := by decide +kernel
theorem d_Preconditions_checkIndex_0 : decode b_Preconditions_checkIndex 0 = .ok (.iload_n 0, 1) := by decide +kernel
theorem d_Preconditions_checkIndex_1 : decode b_Preconditions_checkIndex 1 = .ok (.ifCond .lt 8, 3) := by decide +kernel
theorem d_Preconditions_checkIndex_4 : decode b_Preconditions_checkIndex 4 = .ok (.iload_n 0, 1) := by decide +kernel
theorem d_Preconditions_checkIndex_5 : decode b_Preconditions_checkIndex 5 = .ok (.iload_n 1, 1) := by decide +kernel
theorem d_Preconditions_checkIndex_6 : decode b_Preconditions_checkIndex 6 = .ok (.if_icmp .lt 10, 3) := by decide +kernel
theorem d_Preconditions_checkIndex_16 : decode b_Preconditions_checkIndex 16 = .ok (.iload_n 0, 1) := by decide +kernel
theorem d_Preconditions_checkIndex_17 : decode b_Preconditions_checkIndex 17 = .ok (.ireturn, 1) := by decide +kernel
theorem d_Objects_checkIndex_0 : decode b_Objects_checkIndex 0 = .ok (.iload_n 0, 1) := by decide +kernel
theorem d_Objects_checkIndex_1 : decode b_Objects_checkIndex 1 = .ok (.iload_n 1, 1) := by decide +kernel
theorem d_Objects_checkIndex_2 : decode b_Objects_checkIndex 2 = .ok (.aconst_null, 1) := by decide +kernel
theorem wm_368 : Cond.code ⟨"jdk/internal/util/Preconditions", "checkIndex", "(IILjava/util/function/BiFunction;)I"⟩ prog_39_method_11_code 3 (some .int) ∈ gT := gT_m (List.mem_of_getElem? (i := 368) (by decide +kernel)) (by decide +kernel)
theorem wm_45 : Cond.initialized "jdk/internal/util/Preconditions" ∈ gT := gT_m (List.mem_of_getElem? (i := 45) (by decide +kernel)) (by decide +kernel)
theorem wm_366 : Cond.methodLink "java/util/Objects" 105 ⟨"jdk/internal/util/Preconditions", "checkIndex", "(IILjava/util/function/BiFunction;)I"⟩ ∈ gT := gT_m (List.mem_of_getElem? (i := 366) (by decide +kernel)) (by decide +kernel)
theorem d_Objects_checkIndex_3 : decode b_Objects_checkIndex 3 = .ok (.invokestatic 105, 3) := by decide +kernel
theorem wm_367 : Cond.static ⟨"jdk/internal/util/Preconditions", "checkIndex", "(IILjava/util/function/BiFunction;)I"⟩ ∈ gT := gT_m (List.mem_of_getElem? (i := 367) (by decide +kernel)) (by decide +kernel)
theorem d_Objects_checkIndex_6 : decode b_Objects_checkIndex 6 = .ok (.ireturn, 1) := by decide +kernel
theorem d_AL_elementData_0 : decode b_AL_elementData 0 = .ok (.aload_n 0, 1) := by decide +kernel
theorem d_AL_elementData_1 : decode b_AL_elementData 1 = .ok (.getfield 9, 3) := by decide +kernel
theorem d_AL_elementData_4 : decode b_AL_elementData 4 = .ok (.iload_n 1, 1) := by decide +kernel
theorem d_AL_elementData_5 : decode b_AL_elementData 5 = .ok (.aaload, 1) := by decide +kernel
theorem d_AL_elementData_6 : decode b_AL_elementData 6 = .ok (.areturn, 1) := by decide +kernel
theorem d_AL_get_0 : decode b_AL_get 0 = .ok (.iload_n 1, 1) := by decide +kernel
theorem d_AL_get_1 : decode b_AL_get 1 = .ok (.aload_n 0, 1) := by decide +kernel
theorem d_AL_get_2 : decode b_AL_get 2 = .ok (.getfield 48, 3) := by decide +kernel
theorem wm_365 : Cond.code ⟨"java/util/Objects", "checkIndex", "(II)I"⟩ prog_35_method_17_code 2 (some .int) ∈ gT := gT_m (List.mem_of_getElem? (i := 365) (by decide +kernel)) (by decide +kernel)
theorem wm_44 : Cond.initialized "java/util/Objects" ∈ gT := gT_m (List.mem_of_getElem? (i := 44) (by decide +kernel)) (by decide +kernel)
theorem wm_363 : Cond.methodLink "java/util/ArrayList" 118 ⟨"java/util/Objects", "checkIndex", "(II)I"⟩ ∈ gT := gT_m (List.mem_of_getElem? (i := 363) (by decide +kernel)) (by decide +kernel)
theorem d_AL_get_5 : decode b_AL_get 5 = .ok (.invokestatic 118, 3) := by decide +kernel
theorem wm_364 : Cond.static ⟨"java/util/Objects", "checkIndex", "(II)I"⟩ ∈ gT := gT_m (List.mem_of_getElem? (i := 364) (by decide +kernel)) (by decide +kernel)
theorem d_AL_get_8 : decode b_AL_get 8 = .ok (.pop, 1) := by decide +kernel
theorem d_AL_get_9 : decode b_AL_get 9 = .ok (.aload_n 0, 1) := by decide +kernel
theorem d_AL_get_10 : decode b_AL_get 10 = .ok (.iload_n 1, 1) := by decide +kernel
theorem wm_372 : Cond.code ⟨"java/util/ArrayList", "elementData", "(I)Ljava/lang/Object;"⟩ prog_30_method_18_code 2 (some (.object "java/lang/Object")) ∈ gT := gT_m (List.mem_of_getElem? (i := 372) (by decide +kernel)) (by decide +kernel)
theorem wm_26 : Cond.initialized "java/util/ArrayList" ∈ gT := gT_m (List.mem_of_getElem? (i := 26) (by decide +kernel)) (by decide +kernel)
theorem wm_369 : Cond.methodLink "java/util/ArrayList" 123 ⟨"java/util/ArrayList", "elementData", "(I)Ljava/lang/Object;"⟩ ∈ gT := gT_m (List.mem_of_getElem? (i := 369) (by decide +kernel)) (by decide +kernel)
theorem d_AL_get_11 : decode b_AL_get 11 = .ok (.invokevirtual 123, 3) := by decide +kernel
theorem wm_370 : Cond.instanceMethod ⟨"java/util/ArrayList", "elementData", "(I)Ljava/lang/Object;"⟩ ∈ gT := gT_m (List.mem_of_getElem? (i := 370) (by decide +kernel)) (by decide +kernel)
theorem wm_371 : Cond.selects "java/util/ArrayList" ⟨"java/util/ArrayList", "elementData", "(I)Ljava/lang/Object;"⟩ ⟨"java/util/ArrayList", "elementData", "(I)Ljava/lang/Object;"⟩ ∈ gT := gT_m (List.mem_of_getElem? (i := 371) (by decide +kernel)) (by decide +kernel)
theorem d_AL_get_14 : decode b_AL_get 14 = .ok (.areturn, 1) := by decide +kernel
theorem d_AL_grow_2_0 : decode b_AL_grow_2 0 = .ok (.aload_n 0, 1) := by decide +kernel
theorem d_AL_grow_2_1 : decode b_AL_grow_2 1 = .ok (.getfield 9, 3) := by decide +kernel
theorem d_AL_grow_2_4 : decode b_AL_grow_2 4 = .ok (.arraylength, 1) := by decide +kernel
theorem d_AL_grow_2_5 : decode b_AL_grow_2 5 = .ok (.istore_n 2, 1) := by decide +kernel
theorem d_AL_grow_2_6 : decode b_AL_grow_2 6 = .ok (.iload_n 2, 1) := by decide +kernel
theorem d_AL_grow_2_7 : decode b_AL_grow_2 7 = .ok (.ifCond .gt 13, 3) := by decide +kernel
theorem d_AL_grow_2_10 : decode b_AL_grow_2 10 = .ok (.aload_n 0, 1) := by decide +kernel
theorem d_AL_grow_2_11 : decode b_AL_grow_2 11 = .ok (.getfield 9, 3) := by decide +kernel
theorem d_AL_grow_2_14 : decode b_AL_grow_2 14 = .ok (.getstatic 39, 3) := by decide +kernel
theorem d_AL_grow_2_17 : decode b_AL_grow_2 17 = .ok (.if_acmp .eq 28, 3) := by decide +kernel
theorem d_AL_grow_2_45 : decode b_AL_grow_2 45 = .ok (.aload_n 0, 1) := by decide +kernel
theorem d_AL_grow_2_46 : decode b_AL_grow_2 46 = .ok (.bipush 10, 2) := by decide +kernel
theorem d_AL_grow_2_48 : decode b_AL_grow_2 48 = .ok (.iload_n 1, 1) := by decide +kernel
theorem wm_234 : Cond.methodLink "java/util/ArrayList" 79 ⟨"java/lang/Math", "max", "(II)I"⟩ ∈ gT := gT_m (List.mem_of_getElem? (i := 234) (by decide +kernel)) (by decide +kernel)
theorem wm_195 : Cond.static ⟨"java/lang/Math", "max", "(II)I"⟩ ∈ gT := gT_m (List.mem_of_getElem? (i := 195) (by decide +kernel)) (by decide +kernel)
theorem wm_32 : Cond.initialized "java/lang/Math" ∈ gT := gT_m (List.mem_of_getElem? (i := 32) (by decide +kernel)) (by decide +kernel)
theorem wm_196 : Cond.code ⟨"java/lang/Math", "max", "(II)I"⟩ prog_22_method_65_code 2 (some .int) ∈ gT := gT_m (List.mem_of_getElem? (i := 196) (by decide +kernel)) (by decide +kernel)
theorem d_AL_grow_2_49 : decode b_AL_grow_2 49 = .ok (.invokestatic 79, 3) := by decide +kernel
theorem wm_235 : Cond.classLink "java/util/ArrayList" 7 "java/lang/Object" ∈ gT := gT_m (List.mem_of_getElem? (i := 235) (by decide +kernel)) (by decide +kernel)
theorem d_AL_grow_2_52 : decode b_AL_grow_2 52 = .ok (.anewarray 7, 3) := by decide +kernel
theorem d_AL_grow_2_55 : decode b_AL_grow_2 55 = .ok (.dup_x1, 1) := by decide +kernel
theorem d_AL_grow_2_56 : decode b_AL_grow_2 56 = .ok (.putfield 9, 3) := by decide +kernel
theorem d_AL_grow_2_59 : decode b_AL_grow_2 59 = .ok (.areturn, 1) := by decide +kernel
theorem d_AL_grow_0 : decode b_AL_grow 0 = .ok (.aload_n 0, 1) := by decide +kernel
theorem d_AL_grow_1 : decode b_AL_grow 1 = .ok (.aload_n 0, 1) := by decide +kernel
theorem d_AL_grow_2 : decode b_AL_grow 2 = .ok (.getfield 48, 3) := by decide +kernel
theorem d_AL_grow_5 : decode b_AL_grow 5 = .ok (.iconst 1, 1) := by decide +kernel
theorem d_AL_grow_6 : decode b_AL_grow 6 = .ok (.iadd, 1) := by decide +kernel
theorem wm_190 : Cond.code ⟨"java/util/ArrayList", "grow", "(I)[Ljava/lang/Object;"⟩ prog_30_method_6_code 4 (some (.array (.object "java/lang/Object"))) ∈ gT := gT_m (List.mem_of_getElem? (i := 190) (by decide +kernel)) (by decide +kernel)
theorem wm_187 : Cond.methodLink "java/util/ArrayList" 69 ⟨"java/util/ArrayList", "grow", "(I)[Ljava/lang/Object;"⟩ ∈ gT := gT_m (List.mem_of_getElem? (i := 187) (by decide +kernel)) (by decide +kernel)
theorem d_AL_grow_7 : decode b_AL_grow 7 = .ok (.invokevirtual 69, 3) := by decide +kernel
theorem wm_189 : Cond.instanceMethod ⟨"java/util/ArrayList", "grow", "(I)[Ljava/lang/Object;"⟩ ∈ gT := gT_m (List.mem_of_getElem? (i := 189) (by decide +kernel)) (by decide +kernel)
theorem wm_2 : Cond.selects "java/util/ArrayList" ⟨"java/util/ArrayList", "grow", "(I)[Ljava/lang/Object;"⟩ ⟨"java/util/ArrayList", "grow", "(I)[Ljava/lang/Object;"⟩ ∈ gT := gT_m (List.mem_of_getElem? (i := 2) (by decide +kernel)) (by decide +kernel)
theorem d_AL_grow_10 : decode b_AL_grow 10 = .ok (.areturn, 1) := by decide +kernel
theorem d_AL_add_2_0 : decode b_AL_add_2 0 = .ok (.iload_n 3, 1) := by decide +kernel
theorem d_AL_add_2_1 : decode b_AL_add_2 1 = .ok (.aload_n 2, 1) := by decide +kernel
theorem d_AL_add_2_2 : decode b_AL_add_2 2 = .ok (.arraylength, 1) := by decide +kernel
theorem d_AL_add_2_3 : decode b_AL_add_2 3 = .ok (.if_icmp .ne 8, 3) := by decide +kernel
theorem d_AL_add_2_11 : decode b_AL_add_2 11 = .ok (.aload_n 2, 1) := by decide +kernel
theorem d_AL_add_2_12 : decode b_AL_add_2 12 = .ok (.iload_n 3, 1) := by decide +kernel
theorem d_AL_add_2_13 : decode b_AL_add_2 13 = .ok (.aload_n 1, 1) := by decide +kernel
theorem d_AL_add_2_14 : decode b_AL_add_2 14 = .ok (.aastore, 1) := by decide +kernel
theorem d_AL_add_2_15 : decode b_AL_add_2 15 = .ok (.aload_n 0, 1) := by decide +kernel
theorem d_AL_add_2_16 : decode b_AL_add_2 16 = .ok (.iload_n 3, 1) := by decide +kernel
theorem d_AL_add_2_17 : decode b_AL_add_2 17 = .ok (.iconst 1, 1) := by decide +kernel
theorem d_AL_add_2_18 : decode b_AL_add_2 18 = .ok (.iadd, 1) := by decide +kernel
theorem d_AL_add_2_19 : decode b_AL_add_2 19 = .ok (.putfield 48, 3) := by decide +kernel
theorem d_AL_add_2_22 : decode b_AL_add_2 22 = .ok (.return_, 1) := by decide +kernel
theorem d_AL_add_2_6 : decode b_AL_add_2 6 = .ok (.aload_n 0, 1) := by decide +kernel
theorem wm_186 : Cond.code ⟨"java/util/ArrayList", "grow", "()[Ljava/lang/Object;"⟩ prog_30_method_7_code 1 (some (.array (.object "java/lang/Object"))) ∈ gT := gT_m (List.mem_of_getElem? (i := 186) (by decide +kernel)) (by decide +kernel)
theorem wm_183 : Cond.methodLink "java/util/ArrayList" 129 ⟨"java/util/ArrayList", "grow", "()[Ljava/lang/Object;"⟩ ∈ gT := gT_m (List.mem_of_getElem? (i := 183) (by decide +kernel)) (by decide +kernel)
theorem d_AL_add_2_7 : decode b_AL_add_2 7 = .ok (.invokevirtual 129, 3) := by decide +kernel
theorem wm_185 : Cond.instanceMethod ⟨"java/util/ArrayList", "grow", "()[Ljava/lang/Object;"⟩ ∈ gT := gT_m (List.mem_of_getElem? (i := 185) (by decide +kernel)) (by decide +kernel)
theorem wm_1 : Cond.selects "java/util/ArrayList" ⟨"java/util/ArrayList", "grow", "()[Ljava/lang/Object;"⟩ ⟨"java/util/ArrayList", "grow", "()[Ljava/lang/Object;"⟩ ∈ gT := gT_m (List.mem_of_getElem? (i := 1) (by decide +kernel)) (by decide +kernel)
theorem d_AL_add_2_10 : decode b_AL_add_2 10 = .ok (.astore_n 2, 1) := by decide +kernel
set_option maxHeartbeats 4000000 in
set_option maxRecDepth 100000 in
theorem c_AbstractCollection_init (l : Launch) (E : Nat) (D : va_G) (cI cO cZ : ClassId) (z0 : Nat) (M : gM) (a : Nat) : Met l y_AbstractCollection_init (Cond.code y_AbstractCollection_init b_AbstractCollection_init 1 none :: gT) ({ frames := 1, cells := 0, slots := 0, locals := 12 }) (gw_Pc E D cI cO cZ z0 M [.ref a]) (gw_Qv E D (fun M' => M' = M)) 0 0 (gw_A E) := by
  refine gw_ofW (cc := b_AbstractCollection_init) (maxL := 1) (ret := none) (by decide) rfl (Nat.le_of_ble_eq_true rfl) ?_
  intro p e s m args below meth c hx hb hr hml hts hown hlk hnm hF hG ls hl
  have hT : ∀ w ∈ gT, w.before args s = true := fun w h => hts w (List.mem_cons_of_mem _ h)
  have hK := hF.1
  have hl : lv_has ls 1 [(0, .ref a)] := hl
  refine lv_aload_n hx hb d_AbstractCollection_init_0 rfl (lv_at hl 0 rfl) ?_
  refine gw_objI hx hb hown (hml.trans hl.1.symm) (hT _ wm_68) (hT _ wm_55) (hT _ wm_56) (Nat.le_of_ble_eq_true rfl) (Nat.le_of_ble_eq_true rfl) d_AbstractCollection_init_1 ?_
  exact gw_vret hx hb hr hlk hG (rfl) (Nat.le_of_ble_eq_true rfl) (Nat.le_of_ble_eq_true rfl) d_AbstractCollection_init_4
set_option maxHeartbeats 4000000 in
set_option maxRecDepth 100000 in
theorem c_AbstractList_init (l : Launch) (E : Nat) (D : va_G) (cI cO cZ : ClassId) (z0 : Nat) (M : gM) {a : Nat} {k : Int32} {x y : Value} (ha : M a = some (.inr (1, [.int k, x, y]))) : Met l y_AbstractList_init (Cond.code y_AbstractList_init b_AbstractList_init 1 none :: gT) ({ frames := 2, cells := 0, slots := 0, locals := 32 }) (gw_Pc E D cI cO cZ z0 M [.ref a]) (gw_Qv E D (fun M' => M' = gw_up M a (.inr (1, [.int 0, x, y])))) 0 0 (gw_A E) := by
  refine gw_ofW (cc := b_AbstractList_init) (maxL := 1) (ret := none) (by decide) rfl (Nat.le_of_ble_eq_true rfl) ?_
  intro p e s m args below meth c hx hb hr hml hts hown hlk hnm hF hG ls hl
  have hT : ∀ w ∈ gT, w.before args s = true := fun w h => hts w (List.mem_cons_of_mem _ h)
  have hK := hF.1
  have hl : lv_has ls 1 [(0, .ref a)] := hl
  refine lv_aload_n hx hb d_AbstractList_init_0 rfl (lv_at hl 0 rfl) ?_
  refine gw_callv (gw_runI (As := []) (rest := []) ⟨hx, hb, hml, hown, hts⟩ (c_AbstractCollection_init l E D cI cO cZ z0 M a) (cwI 0 hts (gT_gi wm_67) rfl rfl rfl (hT _ wm_24) (hT _ wm_65) (hT _ wm_66) rfl (by decide +kernel) ⟨Nat.le_of_ble_eq_true rfl, Nat.le_of_ble_eq_true rfl⟩) hF hG rfl hl.1 rfl (Nat.le_of_ble_eq_true rfl) d_AbstractList_init_1 ⟨Nat.le_of_ble_eq_true rfl, Nat.le_of_ble_eq_true rfl⟩) hG (fun M1 H locs hp hG => ?_)
  replace hG := gw_nm hp.symm hG
  refine lv_aload_n hx hb d_AbstractList_init_4 rfl (lv_at hl 0 rfl) ?_
  refine lv_iconst (v := 0) hx hb d_AbstractList_init_5 (by decide) ?_
  refine gw_put (v := .int 0) hx hb hT i_List t_List t_List_ok n_List hown hK hG ha rfl 0 (by decide) (hT _ wm_73) (fun _ h => h) rfl rfl rfl (Nat.le_of_ble_eq_true rfl) d_AbstractList_init_6 (fun H locs hG => ?_)
  obtain ⟨M2, e_M2⟩ : ∃ Y_ : gM, Y_ = gw_up M a (.inr (1, [.int 0, x, y])) := ⟨_, rfl⟩
  replace hG := gw_nm e_M2 hG
  have hM2_a := (congrFun e_M2 a).trans gw_hit
  exact gw_vret hx hb hr hlk hG (e_M2) (Nat.le_of_ble_eq_true rfl) (Nat.le_of_ble_eq_true rfl) d_AbstractList_init_9
set_option maxHeartbeats 4000000 in
set_option maxRecDepth 100000 in
theorem c_AL_init (l : Launch) (E : Nat) (D : va_G) (cI cO cZ : ClassId) (z0 : Nat) (M : gM) {a : Nat} (ha : M a = some (.inr (1, [.int 0, .null, .int 0]))) : Met l y_AL_init (Cond.code y_AL_init b_AL_init 1 none :: gT) ({ frames := 3, cells := 0, slots := 0, locals := 52 }) (gw_Pc E D cI cO cZ z0 M [.ref a]) (gw_Qv E D (fun M' => M' = gw_up M a (.inr (1, [.int 0, .ref z0, .int 0])))) 0 0 (gw_A E) := by
  refine gw_ofW (cc := b_AL_init) (maxL := 1) (ret := none) (by decide) rfl (Nat.le_of_ble_eq_true rfl) ?_
  intro p e s m args below meth c hx hb hr hml hts hown hlk hnm hF hG ls hl
  have hT : ∀ w ∈ gT, w.before args s = true := fun w h => hts w (List.mem_cons_of_mem _ h)
  have hK := hF.1
  have hl : lv_has ls 1 [(0, .ref a)] := hl
  refine lv_aload_n hx hb d_AL_init_0 rfl (lv_at hl 0 rfl) ?_
  refine gw_callv (gw_runI (As := []) (rest := []) ⟨hx, hb, hml, hown, hts⟩ (c_AbstractList_init l E D cI cO cZ z0 M ha) (cwI 0 hts (gT_gi wm_64) rfl rfl rfl (hT _ wm_25) (hT _ wm_62) (hT _ wm_63) rfl (by decide +kernel) ⟨Nat.le_of_ble_eq_true rfl, Nat.le_of_ble_eq_true rfl⟩) hF hG rfl hl.1 rfl (Nat.le_of_ble_eq_true rfl) d_AL_init_1 ⟨Nat.le_of_ble_eq_true rfl, Nat.le_of_ble_eq_true rfl⟩) hG (fun M1 H locs hp hG => ?_)
  have hM1_a := (congrFun hp a).trans gw_hit
  refine lv_aload_n hx hb d_AL_init_4 rfl (lv_at hl 0 rfl) ?_
  refine va_gets hx hb hF.2.2.1 hG.2.2 hown (hT _ wm_69) (fun _ h => h) d_AL_init_5 ?_
  refine gw_put (v := .ref z0) hx hb hT i_List t_List t_List_ok n_List hown hK hG hM1_a rfl 1 (by decide) (hT _ wm_71) (fun _ h => h) rfl rfl rfl (Nat.le_of_ble_eq_true rfl) d_AL_init_8 (fun H locs hG => ?_)
  obtain ⟨M2, e_M2⟩ : ∃ Y_ : gM, Y_ = gw_up M1 a (.inr (1, [.int 0, .ref z0, .int 0])) := ⟨_, rfl⟩
  replace hG := gw_nm e_M2 hG
  have hM2_a := (congrFun e_M2 a).trans gw_hit
  exact gw_vret hx hb hr hlk hG (by rw [e_M2, hp, gw_twice]) (Nat.le_of_ble_eq_true rfl) (Nat.le_of_ble_eq_true rfl) d_AL_init_11
set_option maxHeartbeats 4000000 in
set_option maxRecDepth 100000 in
theorem c_AL_size (l : Launch) (E : Nat) (D : va_G) (cI cO cZ : ClassId) (z0 : Nat) (M : gM) {a : Nat} {k n : Int32} {x : Value} (ha : M a = some (.inr (1, [.int k, x, .int n]))) : Met l y_AL_size (Cond.code y_AL_size b_AL_size 1 (some .int) :: gT) ({ frames := 0, cells := 0, slots := 0, locals := 0 }) (gw_Pc E D cI cO cZ z0 M [.ref a]) (gw_Qi E D (fun r M' => r = n ∧ M' = M)) 0 0 (gw_A E) := by
  refine gw_ofW (cc := b_AL_size) (maxL := 1) (ret := (some .int)) (by decide) rfl (Nat.le_of_ble_eq_true rfl) ?_
  intro p e s m args below meth c hx hb hr hml hts hown hlk hnm hF hG ls hl
  have hT : ∀ w ∈ gT, w.before args s = true := fun w h => hts w (List.mem_cons_of_mem _ h)
  have hK := hF.1
  have hl : lv_has ls 1 [(0, .ref a)] := hl
  refine lv_aload_n hx hb d_AL_size_0 rfl (lv_at hl 0 rfl) ?_
  refine gw_get hx hb hT i_List hown hK hG ha rfl 2 (by decide) (hT _ wm_72) (fun _ h => h) rfl d_AL_size_1 ?_
  exact gw_iret (v := n) hx hb hr hlk hG (⟨rfl, rfl⟩) (Nat.le_of_ble_eq_true rfl) (Nat.le_of_ble_eq_true rfl) d_AL_size_4
set_option maxHeartbeats 4000000 in
set_option maxRecDepth 100000 in
theorem c_Preconditions_checkIndex (l : Launch) (E : Nat) (D : va_G) (cI cO cZ : ClassId) (z0 : Nat) (M : gM) {i n : Int32} (h0 : ¬ i < 0) (h1 : i < n) : Met l y_Preconditions_checkIndex (Cond.code y_Preconditions_checkIndex b_Preconditions_checkIndex 3 (some .int) :: gT) ({ frames := 0, cells := 0, slots := 0, locals := 0 }) (gw_Pc E D cI cO cZ z0 M [.int i, .int n, .null]) (gw_Qi E D (fun r M' => r = i ∧ M' = M)) 0 0 (gw_A E) := by
  refine gw_ofW (cc := b_Preconditions_checkIndex) (maxL := 3) (ret := (some .int)) (by decide) rfl (Nat.le_of_ble_eq_true rfl) ?_
  intro p e s m args below meth c hx hb hr hml hts hown hlk hnm hF hG ls hl
  have hT : ∀ w ∈ gT, w.before args s = true := fun w h => hts w (List.mem_cons_of_mem _ h)
  have hK := hF.1
  have hl : lv_has ls 3 [(0, .int i), (1, .int n), (2, .null)] := hl
  refine lv_iload_n hx hb d_Preconditions_checkIndex_0 rfl (lv_at hl 0 rfl) ?_
  refine lv_if_lt (tgt := 9) hx hb d_Preconditions_checkIndex_1 (by decide) (fun z_ => absurd z_ (h0)) (fun c_1 => ?_)
  refine lv_iload_n hx hb d_Preconditions_checkIndex_4 rfl (lv_at hl 0 rfl) ?_
  refine lv_iload_n hx hb d_Preconditions_checkIndex_5 rfl (lv_at hl 1 rfl) ?_
  refine lv_icmp_lt (tgt := 16) hx hb d_Preconditions_checkIndex_6 (by decide) (fun c_6 => ?_) (fun z_ => absurd (h1) z_)
  refine lv_iload_n hx hb d_Preconditions_checkIndex_16 rfl (lv_at hl 0 rfl) ?_
  exact gw_iret (v := i) hx hb hr hlk hG (⟨rfl, rfl⟩) (Nat.le_of_ble_eq_true rfl) (Nat.le_of_ble_eq_true rfl) d_Preconditions_checkIndex_17
set_option maxHeartbeats 4000000 in
set_option maxRecDepth 100000 in
theorem c_Objects_checkIndex (l : Launch) (E : Nat) (D : va_G) (cI cO cZ : ClassId) (z0 : Nat) (M : gM) {i n : Int32} (h0 : ¬ i < 0) (h1 : i < n) : Met l y_Objects_checkIndex (Cond.code y_Objects_checkIndex b_Objects_checkIndex 2 (some .int) :: gT) ({ frames := 1, cells := 0, slots := 0, locals := 22 }) (gw_Pc E D cI cO cZ z0 M [.int i, .int n]) (gw_Qi E D (fun r M' => r = i ∧ M' = M)) 0 0 (gw_A E) := by
  refine gw_ofW (cc := b_Objects_checkIndex) (maxL := 2) (ret := (some .int)) (by decide) rfl (Nat.le_of_ble_eq_true rfl) ?_
  intro p e s m args below meth c hx hb hr hml hts hown hlk hnm hF hG ls hl
  have hT : ∀ w ∈ gT, w.before args s = true := fun w h => hts w (List.mem_cons_of_mem _ h)
  have hK := hF.1
  have hl : lv_has ls 2 [(0, .int i), (1, .int n)] := hl
  refine lv_iload_n hx hb d_Objects_checkIndex_0 rfl (lv_at hl 0 rfl) ?_
  refine lv_iload_n hx hb d_Objects_checkIndex_1 rfl (lv_at hl 1 rfl) ?_
  refine lv_null hx hb d_Objects_checkIndex_2 ?_
  refine gw_calli (gw_runS (As := [.int i, .int n, .null]) (rest := []) ⟨hx, hb, hml, hown, hts⟩ (c_Preconditions_checkIndex l E D cI cO cZ z0 M h0 h1) (gw_cwS 3 hts (gT_gi wm_368) rfl rfl rfl (hT _ wm_45) (hT _ wm_366) (hT _ wm_367) (by decide +kernel) ⟨Nat.le_of_ble_eq_true rfl, Nat.le_of_ble_eq_true rfl⟩) hF hG rfl hl.1 rfl (Nat.le_of_ble_eq_true rfl) d_Objects_checkIndex_3 ⟨Nat.le_of_ble_eq_true rfl, Nat.le_of_ble_eq_true rfl⟩) hG (fun r M1 H locs hp hG => ?_)
  rw [hp.1]
  replace hG := gw_nm hp.2.symm hG
  exact gw_iret (v := i) hx hb hr hlk hG (⟨rfl, rfl⟩) (Nat.le_of_ble_eq_true rfl) (Nat.le_of_ble_eq_true rfl) d_Objects_checkIndex_6
set_option maxHeartbeats 4000000 in
set_option maxRecDepth 100000 in
theorem c_AL_elementData (l : Launch) (E : Nat) (D : va_G) (cI cO cZ : ClassId) (z0 : Nat) (M : gM) {a t q cap : Nat} {k n i : Int32} {g : Nat → Option Nat} (ha : M a = some (.inr (1, [.int k, .ref t, .int n]))) (ht : M t = some (.inl (cO, cap, .inr (.inr (.inr (.inr g)))))) (hi : vp_in i cap) (hg : g i.toNatClampNeg = some q) : Met l y_AL_elementData (Cond.code y_AL_elementData b_AL_elementData 2 (some (.object "java/lang/Object")) :: gT) ({ frames := 0, cells := 0, slots := 0, locals := 0 }) (gw_Pc E D cI cO cZ z0 M [.ref a, .int i]) (gw_Qq E D (fun r M' => r = some q ∧ M' = M)) 0 0 (gw_A E) := by
  refine gw_ofW (cc := b_AL_elementData) (maxL := 2) (ret := (some (.object "java/lang/Object"))) (by decide) rfl (Nat.le_of_ble_eq_true rfl) ?_
  intro p e s m args below meth c hx hb hr hml hts hown hlk hnm hF hG ls hl
  have hT : ∀ w ∈ gT, w.before args s = true := fun w h => hts w (List.mem_cons_of_mem _ h)
  have hK := hF.1
  have hl : lv_has ls 2 [(0, .ref a), (1, .int i)] := hl
  refine lv_aload_n hx hb d_AL_elementData_0 rfl (lv_at hl 0 rfl) ?_
  refine gw_get hx hb hT i_List hown hK hG ha rfl 1 (by decide) (hT _ wm_71) (fun _ h => h) rfl d_AL_elementData_1 ?_
  refine lv_iload_n hx hb d_AL_elementData_4 rfl (lv_at hl 1 rfl) ?_
  refine gw_aldq hx hb hK hG ht hi d_AL_elementData_5 ?_
  rw [hg]
  exact gw_aret hx hb hr (Or.inl ⟨_, rfl⟩) hlk hG (⟨rfl, rfl⟩) (Nat.le_of_ble_eq_true rfl) (Nat.le_of_ble_eq_true rfl) d_AL_elementData_6
set_option maxHeartbeats 4000000 in
set_option maxRecDepth 100000 in
theorem c_AL_get (l : Launch) (E : Nat) (D : va_G) (cI cO cZ : ClassId) (z0 : Nat) (M : gM) {a t q cap : Nat} {k n i : Int32} {g : Nat → Option Nat} (ha : M a = some (.inr (1, [.int k, .ref t, .int n]))) (ht : M t = some (.inl (cO, cap, .inr (.inr (.inr (.inr g)))))) (hi : vp_in i cap) (hg : g i.toNatClampNeg = some q) (h0 : ¬ i < 0) (h1 : i < n) : Met l y_AL_get (Cond.code y_AL_get b_AL_get 2 (some (.object "java/lang/Object")) :: gT) ({ frames := 2, cells := 0, slots := 0, locals := 43 }) (gw_Pc E D cI cO cZ z0 M [.ref a, .int i]) (gw_Qq E D (fun r M' => r = some q ∧ M' = M)) 0 0 (gw_A E) := by
  refine gw_ofW (cc := b_AL_get) (maxL := 2) (ret := (some (.object "java/lang/Object"))) (by decide) rfl (Nat.le_of_ble_eq_true rfl) ?_
  intro p e s m args below meth c hx hb hr hml hts hown hlk hnm hF hG ls hl
  have hT : ∀ w ∈ gT, w.before args s = true := fun w h => hts w (List.mem_cons_of_mem _ h)
  have hK := hF.1
  have hl : lv_has ls 2 [(0, .ref a), (1, .int i)] := hl
  refine lv_iload_n hx hb d_AL_get_0 rfl (lv_at hl 1 rfl) ?_
  refine lv_aload_n hx hb d_AL_get_1 rfl (lv_at hl 0 rfl) ?_
  refine gw_get hx hb hT i_List hown hK hG ha rfl 2 (by decide) (hT _ wm_72) (fun _ h => h) rfl d_AL_get_2 ?_
  refine gw_calli (gw_runS (As := [.int i, .int n]) (rest := []) ⟨hx, hb, hml, hown, hts⟩ (c_Objects_checkIndex l E D cI cO cZ z0 M h0 h1) (gw_cwS 2 hts (gT_gi wm_365) rfl rfl rfl (hT _ wm_44) (hT _ wm_363) (hT _ wm_364) (by decide +kernel) ⟨Nat.le_of_ble_eq_true rfl, Nat.le_of_ble_eq_true rfl⟩) hF hG rfl hl.1 rfl (Nat.le_of_ble_eq_true rfl) d_AL_get_5 ⟨Nat.le_of_ble_eq_true rfl, Nat.le_of_ble_eq_true rfl⟩) hG (fun r M1 H locs hp hG => ?_)
  rw [hp.1]
  replace hG := gw_nm hp.2.symm hG
  refine lv_pop hx hb d_AL_get_8 rfl ?_
  refine lv_aload_n hx hb d_AL_get_9 rfl (lv_at hl 0 rfl) ?_
  refine lv_iload_n hx hb d_AL_get_10 rfl (lv_at hl 1 rfl) ?_
  refine gw_callq (gw_runV (As := [.int i]) (rest := []) ⟨hx, hb, hml, hown, hts⟩ (c_AL_elementData l E D cI cO cZ z0 M ha ht hi hg) (gw_cwV 1 hts (gT_gi wm_372) rfl rfl rfl (hT _ wm_26) (hT _ wm_369) (hT _ wm_370) (hT _ wm_371) (by decide +kernel) ⟨Nat.le_of_ble_eq_true rfl, Nat.le_of_ble_eq_true rfl⟩) hF hG rfl ha rfl hl.1 rfl (Nat.le_of_ble_eq_true rfl) d_AL_get_11 ⟨Nat.le_of_ble_eq_true rfl, Nat.le_of_ble_eq_true rfl⟩) hG (fun r M2 H locs hp hG => ?_)
  rw [hp.1]
  replace hG := gw_nm hp.2.symm hG
  exact gw_aret hx hb hr (Or.inl ⟨_, rfl⟩) hlk hG (⟨rfl, rfl⟩) (Nat.le_of_ble_eq_true rfl) (Nat.le_of_ble_eq_true rfl) d_AL_get_14
set_option maxHeartbeats 4000000 in
set_option maxRecDepth 100000 in
theorem c_AL_grow_2 (l : Launch) (E : Nat) (D : va_G) (cI cO cZ : ClassId) (z0 : Nat) (M : gM) {a : Nat} {k : Int32} (ha : M a = some (.inr (1, [.int k, .ref z0, .int 0]))) : Met l y_AL_grow_2 (Cond.code y_AL_grow_2 b_AL_grow_2 4 (some (.array (.object "java/lang/Object"))) :: gT) ({ frames := 1, cells := 1, slots := 10, locals := 14 }) (gw_Pc E D cI cO cZ z0 M [.ref a, .int 1]) (gw_Qq E D (fun r M' => ∃ q : Nat, r = some q ∧ M q = none ∧ M' = gw_up (gw_up M q (.inl (cO, 10, .inr (.inr (.inr (.inr (fun _ => none))))))) a (.inr (1, [.int k, .ref q, .int 0])))) 1 10 (gw_A E) := by
  refine gw_ofW (cc := b_AL_grow_2) (maxL := 4) (ret := (some (.array (.object "java/lang/Object")))) (by decide) rfl (Nat.le_of_ble_eq_true rfl) ?_
  intro p e s m args below meth c hx hb hr hml hts hown hlk hnm hF hG ls hl
  have hT : ∀ w ∈ gT, w.before args s = true := fun w h => hts w (List.mem_cons_of_mem _ h)
  have hK := hF.1
  have hl : lv_has ls 4 [(0, .ref a), (1, .int 1)] := hl
  refine lv_aload_n hx hb d_AL_grow_2_0 rfl (lv_at hl 0 rfl) ?_
  refine gw_get hx hb hT i_List hown hK hG ha rfl 1 (by decide) (hT _ wm_71) (fun _ h => h) rfl d_AL_grow_2_1 ?_
  refine va_tlen (v := 0) hx hb hF.2.2.2.1 hG.2.2 rfl d_AL_grow_2_4 ?_
  refine lv_istore_n (lv' := [(2, .int 0), (0, .ref a), (1, .int 1)]) hx hb d_AL_grow_2_5 rfl hl (by decide) rfl (fun ls hl => ?_)
  refine lv_iload_n hx hb d_AL_grow_2_6 rfl (lv_at hl 0 rfl) ?_
  refine lv_if_gt (tgt := 20) hx hb d_AL_grow_2_7 (by decide) (fun z_ => absurd z_ (by decide)) (fun c_7 => ?_)
  refine lv_aload_n hx hb d_AL_grow_2_10 rfl (lv_at hl 1 rfl) ?_
  refine gw_get hx hb hT i_List hown hK hG ha rfl 1 (by decide) (hT _ wm_71) (fun _ h => h) rfl d_AL_grow_2_11 ?_
  refine va_gets hx hb hF.2.2.1 hG.2.2 hown (hT _ wm_69) (fun _ h => h) d_AL_grow_2_14 ?_
  refine lv_acmp_eq (rx := some z0) (ry := some z0) (tgt := 45) hx hb d_AL_grow_2_17 (by decide) (fun _ => ?_) (fun z_ => absurd rfl z_)
  refine lv_aload_n hx hb d_AL_grow_2_45 rfl (lv_at hl 1 rfl) ?_
  refine lv_bipush (v := 10) hx hb d_AL_grow_2_46 (by decide) ?_
  refine lv_iload_n hx hb d_AL_grow_2_48 rfl (lv_at hl 2 rfl) ?_
  refine va_mmax hx hb (hml.trans hl.1.symm) hown (hT _ wm_234) (hT _ wm_195) (hT _ wm_32) (hT _ wm_196) (Nat.le_of_ble_eq_true rfl) (Nat.le_of_ble_eq_true rfl) (Nat.le_of_ble_eq_true rfl) (Nat.le_of_ble_eq_true rfl) d_AL_grow_2_49 ?_
  rw [show (if (10 : Int32) < 1 then (1 : Int32) else 10) = 10 by decide]
  refine gw_newQ (N := 10) hx hb hown (hT _ wm_235) hF hG (by decide) (by decide) (Nat.le_of_ble_eq_true rfl) (Nat.le_of_ble_eq_true rfl) (Nat.le_of_ble_eq_true rfl) d_AL_grow_2_52 (fun q H hq hG => ?_)
  obtain ⟨M1, e_M1⟩ : ∃ Y_ : gM, Y_ = gw_up M q (.inl (cO, 10, .inr (.inr (.inr (.inr (fun _ => none)))))) := ⟨_, rfl⟩
  replace hG := gw_nm e_M1 hG
  have hM1_a := (congrFun e_M1 a).trans ((gw_miss (gw_neF hq ha)).trans ha)
  have hM1_q := (congrFun e_M1 q).trans gw_hit
  refine lv_dup_x1 hx hb d_AL_grow_2_55 rfl rfl ?_
  refine gw_put (v := .ref q) hx hb hT i_List t_List t_List_ok n_List hown hK hG hM1_a rfl 1 (by decide) (hT _ wm_71) (fun _ h => h) rfl rfl rfl (Nat.le_of_ble_eq_true rfl) d_AL_grow_2_56 (fun H locs hG => ?_)
  obtain ⟨M2, e_M2⟩ : ∃ Y_ : gM, Y_ = gw_up M1 a (.inr (1, [.int k, .ref q, .int 0])) := ⟨_, rfl⟩
  replace hG := gw_nm e_M2 hG
  have hM2_q := (congrFun e_M2 q).trans ((gw_miss (gw_neA hM1_q hM1_a)).trans hM1_q)
  have hM2_a := (congrFun e_M2 a).trans gw_hit
  exact gw_aret hx hb hr (Or.inr ⟨_, rfl⟩) hlk hG (⟨q, rfl, hq, by rw [e_M2, e_M1]⟩) (Nat.le_of_ble_eq_true rfl) (Nat.le_of_ble_eq_true rfl) d_AL_grow_2_59
set_option maxHeartbeats 4000000 in
set_option maxRecDepth 100000 in
theorem c_AL_grow (l : Launch) (E : Nat) (D : va_G) (cI cO cZ : ClassId) (z0 : Nat) (M : gM) {a : Nat} {k : Int32} (ha : M a = some (.inr (1, [.int k, .ref z0, .int 0]))) : Met l y_AL_grow (Cond.code y_AL_grow b_AL_grow 1 (some (.array (.object "java/lang/Object"))) :: gT) ({ frames := 2, cells := 1, slots := 10, locals := 37 }) (gw_Pc E D cI cO cZ z0 M [.ref a]) (gw_Qq E D (fun r M' => ∃ q : Nat, r = some q ∧ M q = none ∧ M' = gw_up (gw_up M q (.inl (cO, 10, .inr (.inr (.inr (.inr (fun _ => none))))))) a (.inr (1, [.int k, .ref q, .int 0])))) 1 10 (gw_A E) := by
  refine gw_ofW (cc := b_AL_grow) (maxL := 1) (ret := (some (.array (.object "java/lang/Object")))) (by decide) rfl (Nat.le_of_ble_eq_true rfl) ?_
  intro p e s m args below meth c hx hb hr hml hts hown hlk hnm hF hG ls hl
  have hT : ∀ w ∈ gT, w.before args s = true := fun w h => hts w (List.mem_cons_of_mem _ h)
  have hK := hF.1
  have hl : lv_has ls 1 [(0, .ref a)] := hl
  refine lv_aload_n hx hb d_AL_grow_0 rfl (lv_at hl 0 rfl) ?_
  refine lv_aload_n hx hb d_AL_grow_1 rfl (lv_at hl 0 rfl) ?_
  refine gw_get hx hb hT i_List hown hK hG ha rfl 2 (by decide) (hT _ wm_72) (fun _ h => h) rfl d_AL_grow_2 ?_
  refine lv_iconst (v := 1) hx hb d_AL_grow_5 (by decide) ?_
  refine lv_iadd hx hb d_AL_grow_6 ?_
  rw [show (0 : Int32) + 1 = 1 by decide]
  refine gw_callq (gw_runV (As := [.int 1]) (rest := []) ⟨hx, hb, hml, hown, hts⟩ (c_AL_grow_2 l E D cI cO cZ z0 M ha) (gw_cwV 1 hts (gT_gi wm_190) rfl rfl rfl (hT _ wm_26) (hT _ wm_187) (hT _ wm_189) (hT _ wm_2) (by decide +kernel) ⟨Nat.le_of_ble_eq_true rfl, Nat.le_of_ble_eq_true rfl⟩) hF hG rfl ha rfl hl.1 rfl (Nat.le_of_ble_eq_true rfl) d_AL_grow_7 ⟨Nat.le_of_ble_eq_true rfl, Nat.le_of_ble_eq_true rfl⟩) hG (fun r M1 H locs hp hG => ?_)
  obtain ⟨q, rfl, hq, e_M1⟩ := hp
  exact gw_aret hx hb hr (Or.inr ⟨_, rfl⟩) hlk hG (⟨q, rfl, hq, e_M1⟩) (Nat.le_of_ble_eq_true rfl) (Nat.le_of_ble_eq_true rfl) d_AL_grow_10
set_option maxHeartbeats 4000000 in
set_option maxRecDepth 100000 in
theorem c_AL_add_2 (l : Launch) (E : Nat) (D : va_G) (cI cO cZ : ClassId) (z0 : Nat) (M : gM) {a t v cap cv : Nat} {k n : Int32} {g : Nat → Option Nat} {r : vw_C} {vs : List Value} (ha : M a = some (.inr (1, [.int k, .ref t, .int n]))) (ht : M t = some (.inl (cO, cap, .inr (.inr (.inr (.inr g)))))) (hv : M v = some (.inr (cv, vs))) (hc : classes[cv]? = some r) (hca : Cond.castable r.1 "java/lang/Object" ∈ lw_tbl) (hne : n ≠ Int32.ofNat cap) (hin : vp_in n cap) : Met l y_AL_add_2 (Cond.code y_AL_add_2 b_AL_add_2 4 none :: gT) ({ frames := 0, cells := 0, slots := 0, locals := 0 }) (gw_Pc E D cI cO cZ z0 M [.ref a, .ref v, .ref t, .int n]) (gw_Qv E D (fun M' => M' = gw_up (gw_up M t (.inl (cO, cap, .inr (.inr (.inr (.inr (va_up g n.toNatClampNeg (some v)))))))) a (.inr (1, [.int k, .ref t, .int (n + 1)])))) 0 0 (gw_A E) := by
  refine gw_ofW (cc := b_AL_add_2) (maxL := 4) (ret := none) (by decide) rfl (Nat.le_of_ble_eq_true rfl) ?_
  intro p e s m args below meth c hx hb hr hml hts hown hlk hnm hF hG ls hl
  have hT : ∀ w ∈ gT, w.before args s = true := fun w h => hts w (List.mem_cons_of_mem _ h)
  have hK := hF.1
  have hl : lv_has ls 4 [(0, .ref a), (1, .ref v), (2, .ref t), (3, .int n)] := hl
  refine lv_iload_n hx hb d_AL_add_2_0 rfl (lv_at hl 3 rfl) ?_
  refine lv_aload_n hx hb d_AL_add_2_1 rfl (lv_at hl 2 rfl) ?_
  refine gw_alen hx hb hK hG 1 ht rfl rfl d_AL_add_2_2 ?_
  refine lv_icmp_ne (tgt := 11) hx hb d_AL_add_2_3 (by decide) (fun c_3 => ?_) (fun z_ => absurd z_ (hne))
  refine lv_aload_n hx hb d_AL_add_2_11 rfl (lv_at hl 2 rfl) ?_
  refine lv_iload_n hx hb d_AL_add_2_12 rfl (lv_at hl 3 rfl) ?_
  refine lv_aload_n hx hb d_AL_add_2_13 rfl (lv_at hl 1 rfl) ?_
  refine gw_astq hx hb hF hG ht hv hc (gW_m hF.2.2.2.2.2.2 hca rfl) hin d_AL_add_2_14 (fun H locs hG => ?_)
  obtain ⟨M1, e_M1⟩ : ∃ Y_ : gM, Y_ = gw_up M t (.inl (cO, cap, .inr (.inr (.inr (.inr (va_up g n.toNatClampNeg (some v))))))) := ⟨_, rfl⟩
  replace hG := gw_nm e_M1 hG
  have hM1_a := (congrFun e_M1 a).trans ((gw_miss (gw_neA ht ha).symm).trans ha)
  have hM1_t := (congrFun e_M1 t).trans gw_hit
  refine lv_aload_n hx hb d_AL_add_2_15 rfl (lv_at hl 0 rfl) ?_
  refine lv_iload_n hx hb d_AL_add_2_16 rfl (lv_at hl 3 rfl) ?_
  refine lv_iconst (v := 1) hx hb d_AL_add_2_17 (by decide) ?_
  refine lv_iadd hx hb d_AL_add_2_18 ?_
  refine gw_put (v := .int (n + 1)) hx hb hT i_List t_List t_List_ok n_List hown hK hG hM1_a rfl 2 (by decide) (hT _ wm_72) (fun _ h => h) rfl rfl rfl (Nat.le_of_ble_eq_true rfl) d_AL_add_2_19 (fun H locs hG => ?_)
  obtain ⟨M2, e_M2⟩ : ∃ Y_ : gM, Y_ = gw_up M1 a (.inr (1, [.int k, .ref t, .int (n + 1)])) := ⟨_, rfl⟩
  replace hG := gw_nm e_M2 hG
  have hM2_t := (congrFun e_M2 t).trans ((gw_miss (gw_neA hM1_t hM1_a)).trans hM1_t)
  have hM2_a := (congrFun e_M2 a).trans gw_hit
  exact gw_vret hx hb hr hlk hG (by rw [e_M2, e_M1]) (Nat.le_of_ble_eq_true rfl) (Nat.le_of_ble_eq_true rfl) d_AL_add_2_22
set_option maxHeartbeats 4000000 in
set_option maxRecDepth 100000 in
theorem c_AL_add_2_e (l : Launch) (E : Nat) (D : va_G) (cI cO cZ : ClassId) (z0 : Nat) (M : gM) {a v cv : Nat} {k : Int32} {r : vw_C} {vs : List Value} (ha : M a = some (.inr (1, [.int k, .ref z0, .int 0]))) (hv : M v = some (.inr (cv, vs))) (hc : classes[cv]? = some r) (hca : Cond.castable r.1 "java/lang/Object" ∈ lw_tbl) (hva : v ≠ a) : Met l y_AL_add_2 (Cond.code y_AL_add_2 b_AL_add_2 4 none :: gT) ({ frames := 3, cells := 1, slots := 10, locals := 57 }) (gw_Pc E D cI cO cZ z0 M [.ref a, .ref v, .ref z0, .int 0]) (gw_Qv E D (fun M' => ∃ q : Nat, M q = none ∧ M' = gw_up (gw_up M q (.inl (cO, 10, .inr (.inr (.inr (.inr (va_up (fun _ => none) 0 (some v)))))))) a (.inr (1, [.int k, .ref q, .int 1])))) 1 10 (gw_A E) := by
  refine gw_ofW (cc := b_AL_add_2) (maxL := 4) (ret := none) (by decide) rfl (Nat.le_of_ble_eq_true rfl) ?_
  intro p e s m args below meth c hx hb hr hml hts hown hlk hnm hF hG ls hl
  have hT : ∀ w ∈ gT, w.before args s = true := fun w h => hts w (List.mem_cons_of_mem _ h)
  have hK := hF.1
  have hl : lv_has ls 4 [(0, .ref a), (1, .ref v), (2, .ref z0), (3, .int 0)] := hl
  refine lv_iload_n hx hb d_AL_add_2_0 rfl (lv_at hl 3 rfl) ?_
  refine lv_aload_n hx hb d_AL_add_2_1 rfl (lv_at hl 2 rfl) ?_
  refine va_tlen (v := 0) hx hb hF.2.2.2.1 hG.2.2 rfl d_AL_add_2_2 ?_
  refine lv_icmp_ne (tgt := 11) hx hb d_AL_add_2_3 (by decide) (fun z_ => absurd (rfl) z_) (fun c_3 => ?_)
  refine lv_aload_n hx hb d_AL_add_2_6 rfl (lv_at hl 0 rfl) ?_
  refine gw_callq (gw_runV (As := []) (rest := []) ⟨hx, hb, hml, hown, hts⟩ (c_AL_grow l E D cI cO cZ z0 M ha) (gw_cwV 0 hts (gT_gi wm_186) rfl rfl rfl (hT _ wm_26) (hT _ wm_183) (hT _ wm_185) (hT _ wm_1) (by decide +kernel) ⟨Nat.le_of_ble_eq_true rfl, Nat.le_of_ble_eq_true rfl⟩) hF hG rfl ha rfl hl.1 rfl (Nat.le_of_ble_eq_true rfl) d_AL_add_2_7 ⟨Nat.le_of_ble_eq_true rfl, Nat.le_of_ble_eq_true rfl⟩) hG (fun r M1 H locs hp hG => ?_)
  obtain ⟨q, rfl, hq, e_M1⟩ := hp
  have hqa : a ≠ q := gw_neF hq ha
  have hqv : v ≠ q := gw_neF hq hv
  have hM1_a := (congrFun e_M1 a).trans gw_hit
  have hM1_q := (congrFun e_M1 q).trans ((gw_miss hqa.symm).trans gw_hit)
  have hM1_v := (congrFun e_M1 v).trans ((gw_miss hva).trans ((gw_miss hqv).trans hv))
  refine lv_astore_n (lv' := [(2, .ref q), (0, .ref a), (1, .ref v), (3, .int 0)]) hx hb d_AL_add_2_10 rfl hl (by decide) rfl (fun ls hl => ?_)
  refine lv_aload_n hx hb d_AL_add_2_11 rfl (lv_at hl 0 rfl) ?_
  refine lv_iload_n hx hb d_AL_add_2_12 rfl (lv_at hl 3 rfl) ?_
  refine lv_aload_n hx hb d_AL_add_2_13 rfl (lv_at hl 2 rfl) ?_
  refine gw_astq hx hb hF hG hM1_q hM1_v hc (gW_m hF.2.2.2.2.2.2 hca rfl) (by unfold vp_in; decide) d_AL_add_2_14 (fun H locs hG => ?_)
  obtain ⟨M2, e_M2⟩ : ∃ Y_ : gM, Y_ = gw_up M1 q (.inl (cO, 10, .inr (.inr (.inr (.inr (va_up (fun _ => none) 0 (some v))))))) := ⟨_, rfl⟩
  replace hG := gw_nm e_M2 hG
  have hM2_a := (congrFun e_M2 a).trans ((gw_miss hqa).trans hM1_a)
  refine lv_aload_n hx hb d_AL_add_2_15 rfl (lv_at hl 1 rfl) ?_
  refine lv_iload_n hx hb d_AL_add_2_16 rfl (lv_at hl 3 rfl) ?_
  refine lv_iconst (v := 1) hx hb d_AL_add_2_17 (by decide) ?_
  refine lv_iadd hx hb d_AL_add_2_18 ?_
  rw [show (0 : Int32) + 1 = 1 by decide]
  refine gw_put (v := .int 1) hx hb hT i_List t_List t_List_ok n_List hown hK hG hM2_a rfl 2 (by decide) (hT _ wm_72) (fun _ h => h) rfl rfl rfl (Nat.le_of_ble_eq_true rfl) d_AL_add_2_19 (fun H locs hG => ?_)
  obtain ⟨M3, e_M3⟩ : ∃ Y_ : gM, Y_ = gw_up M2 a (.inr (1, [.int k, .ref q, .int 1])) := ⟨_, rfl⟩
  replace hG := gw_nm e_M3 hG
  have hM3_a := (congrFun e_M3 a).trans gw_hit
  exact gw_vret hx hb hr hlk hG (⟨q, hq, by rw [e_M3, e_M2, e_M1]; funext j; by_cases h1 : j = a; (subst h1; rw [gw_hit, gw_hit]); (rw [gw_miss h1, gw_miss h1]; by_cases h2 : j = q; (subst h2; rw [gw_hit, gw_hit]); (rw [gw_miss h2, gw_miss h1, gw_miss h2, gw_miss h2]))⟩) (Nat.le_of_ble_eq_true rfl) (Nat.le_of_ble_eq_true rfl) d_AL_add_2_22
end
section
theorem d_Hand_init_0 : decode b_Hand_init 0 = .ok (.aload_n 0, 1) := by decide +kernel
theorem wm_462 : Cond.methodLink "ThresholdRow$Hand" 3 ⟨"java/lang/Object", "<init>", "()V"⟩ ∈ gT := gT_m (List.mem_of_getElem? (i := 462) (by decide +kernel)) (by decide +kernel)
theorem d_Hand_init_1 : decode b_Hand_init 1 = .ok (.invokespecial 3, 3) := by decide +kernel
theorem d_Hand_init_4 : decode b_Hand_init 4 = .ok (.aload_n 0, 1) := by decide +kernel
theorem d_Hand_init_5 : decode b_Hand_init 5 = .ok (.iconst 0, 1) := by decide +kernel
theorem wm_465 : Cond.fieldLink "ThresholdRow$Hand" 9 "ThresholdRow$Hand" "fatigue" "I" ∈ gT := gT_m (List.mem_of_getElem? (i := 465) (by decide +kernel)) (by decide +kernel)
theorem d_Hand_init_6 : decode b_Hand_init 6 = .ok (.putfield 9, 3) := by decide +kernel
theorem d_Hand_init_9 : decode b_Hand_init 9 = .ok (.aload_n 0, 1) := by decide +kernel
theorem d_Hand_init_10 : decode b_Hand_init 10 = .ok (.iconst 0, 1) := by decide +kernel
theorem wm_468 : Cond.fieldLink "ThresholdRow$Hand" 15 "ThresholdRow$Hand" "hurt" "I" ∈ gT := gT_m (List.mem_of_getElem? (i := 468) (by decide +kernel)) (by decide +kernel)
theorem d_Hand_init_11 : decode b_Hand_init 11 = .ok (.putfield 15, 3) := by decide +kernel
theorem d_Hand_init_14 : decode b_Hand_init 14 = .ok (.aload_n 0, 1) := by decide +kernel
theorem d_Hand_init_15 : decode b_Hand_init 15 = .ok (.iconst 0, 1) := by decide +kernel
theorem wm_471 : Cond.fieldLink "ThresholdRow$Hand" 18 "ThresholdRow$Hand" "lost" "I" ∈ gT := gT_m (List.mem_of_getElem? (i := 471) (by decide +kernel)) (by decide +kernel)
theorem d_Hand_init_16 : decode b_Hand_init 16 = .ok (.putfield 18, 3) := by decide +kernel
theorem d_Hand_init_19 : decode b_Hand_init 19 = .ok (.aload_n 0, 1) := by decide +kernel
theorem d_Hand_init_20 : decode b_Hand_init 20 = .ok (.iconst 0, 1) := by decide +kernel
theorem wm_474 : Cond.fieldLink "ThresholdRow$Hand" 21 "ThresholdRow$Hand" "error" "I" ∈ gT := gT_m (List.mem_of_getElem? (i := 474) (by decide +kernel)) (by decide +kernel)
theorem d_Hand_init_21 : decode b_Hand_init 21 = .ok (.putfield 21, 3) := by decide +kernel
theorem d_Hand_init_24 : decode b_Hand_init 24 = .ok (.aload_n 0, 1) := by decide +kernel
theorem d_Hand_init_25 : decode b_Hand_init 25 = .ok (.bipush 32, 2) := by decide +kernel
theorem wm_477 : Cond.fieldLink "ThresholdRow$Hand" 24 "ThresholdRow$Hand" "way" "C" ∈ gT := gT_m (List.mem_of_getElem? (i := 477) (by decide +kernel)) (by decide +kernel)
theorem d_Hand_init_27 : decode b_Hand_init 27 = .ok (.putfield 24, 3) := by decide +kernel
theorem d_Hand_init_30 : decode b_Hand_init 30 = .ok (.aload_n 0, 1) := by decide +kernel
theorem d_Hand_init_31 : decode b_Hand_init 31 = .ok (.iconst 0, 1) := by decide +kernel
theorem wm_478 : Cond.fieldLink "ThresholdRow$Hand" 28 "ThresholdRow$Hand" "rate" "I" ∈ gT := gT_m (List.mem_of_getElem? (i := 478) (by decide +kernel)) (by decide +kernel)
theorem d_Hand_init_32 : decode b_Hand_init 32 = .ok (.putfield 28, 3) := by decide +kernel
theorem d_Hand_init_35 : decode b_Hand_init 35 = .ok (.aload_n 0, 1) := by decide +kernel
theorem d_Hand_init_36 : decode b_Hand_init 36 = .ok (.iconst 0, 1) := by decide +kernel
theorem wm_479 : Cond.fieldLink "ThresholdRow$Hand" 31 "ThresholdRow$Hand" "owed" "I" ∈ gT := gT_m (List.mem_of_getElem? (i := 479) (by decide +kernel)) (by decide +kernel)
theorem d_Hand_init_37 : decode b_Hand_init 37 = .ok (.putfield 31, 3) := by decide +kernel
theorem d_Hand_init_40 : decode b_Hand_init 40 = .ok (.aload_n 0, 1) := by decide +kernel
theorem d_Hand_init_41 : decode b_Hand_init 41 = .ok (.iconst (-1), 1) := by decide +kernel
theorem wm_480 : Cond.fieldLink "ThresholdRow$Hand" 34 "ThresholdRow$Hand" "workedOn" "I" ∈ gT := gT_m (List.mem_of_getElem? (i := 480) (by decide +kernel)) (by decide +kernel)
theorem d_Hand_init_42 : decode b_Hand_init 42 = .ok (.putfield 34, 3) := by decide +kernel
theorem d_Hand_init_45 : decode b_Hand_init 45 = .ok (.aload_n 0, 1) := by decide +kernel
theorem d_Hand_init_46 : decode b_Hand_init 46 = .ok (.iload_n 1, 1) := by decide +kernel
theorem wm_463 : Cond.fieldLink "ThresholdRow$Hand" 37 "ThresholdRow$Hand" "strength" "I" ∈ gT := gT_m (List.mem_of_getElem? (i := 463) (by decide +kernel)) (by decide +kernel)
theorem d_Hand_init_47 : decode b_Hand_init 47 = .ok (.putfield 37, 3) := by decide +kernel
theorem d_Hand_init_50 : decode b_Hand_init 50 = .ok (.aload_n 0, 1) := by decide +kernel
theorem d_Hand_init_51 : decode b_Hand_init 51 = .ok (.iload_n 2, 1) := by decide +kernel
theorem wm_464 : Cond.fieldLink "ThresholdRow$Hand" 40 "ThresholdRow$Hand" "habit" "I" ∈ gT := gT_m (List.mem_of_getElem? (i := 464) (by decide +kernel)) (by decide +kernel)
theorem d_Hand_init_52 : decode b_Hand_init 52 = .ok (.putfield 40, 3) := by decide +kernel
theorem d_Hand_init_55 : decode b_Hand_init 55 = .ok (.return_, 1) := by decide +kernel
theorem d_Hand_drift_0 : decode b_Hand_drift 0 = .ok (.aload_n 0, 1) := by decide +kernel
theorem d_Hand_drift_1 : decode b_Hand_drift 1 = .ok (.getfield 40, 3) := by decide +kernel
theorem d_Hand_drift_4 : decode b_Hand_drift 4 = .ok (.ifCond .ne 5, 3) := by decide +kernel
theorem d_Hand_drift_9 : decode b_Hand_drift 9 = .ok (.aload_n 0, 1) := by decide +kernel
theorem d_Hand_drift_10 : decode b_Hand_drift 10 = .ok (.getfield 9, 3) := by decide +kernel
theorem d_Hand_drift_13 : decode b_Hand_drift 13 = .ok (.bipush 20, 2) := by decide +kernel
theorem d_Hand_drift_15 : decode b_Hand_drift 15 = .ok (.idiv, 1) := by decide +kernel
theorem d_Hand_drift_16 : decode b_Hand_drift 16 = .ok (.istore_n 1, 1) := by decide +kernel
theorem d_Hand_drift_17 : decode b_Hand_drift 17 = .ok (.aload_n 0, 1) := by decide +kernel
theorem d_Hand_drift_18 : decode b_Hand_drift 18 = .ok (.getfield 40, 3) := by decide +kernel
theorem d_Hand_drift_21 : decode b_Hand_drift 21 = .ok (.ifCond .le 12, 3) := by decide +kernel
theorem d_Hand_drift_33 : decode b_Hand_drift 33 = .ok (.aload_n 0, 1) := by decide +kernel
theorem d_Hand_drift_34 : decode b_Hand_drift 34 = .ok (.getfield 40, 3) := by decide +kernel
theorem d_Hand_drift_37 : decode b_Hand_drift 37 = .ok (.iload_n 1, 1) := by decide +kernel
theorem d_Hand_drift_38 : decode b_Hand_drift 38 = .ok (.isub, 1) := by decide +kernel
theorem d_Hand_drift_39 : decode b_Hand_drift 39 = .ok (.ireturn, 1) := by decide +kernel
theorem d_Hand_drift_24 : decode b_Hand_drift 24 = .ok (.aload_n 0, 1) := by decide +kernel
theorem d_Hand_drift_25 : decode b_Hand_drift 25 = .ok (.getfield 40, 3) := by decide +kernel
theorem d_Hand_drift_28 : decode b_Hand_drift 28 = .ok (.iload_n 1, 1) := by decide +kernel
theorem d_Hand_drift_29 : decode b_Hand_drift 29 = .ok (.iadd, 1) := by decide +kernel
theorem d_Hand_drift_30 : decode b_Hand_drift 30 = .ok (.goto 9, 3) := by decide +kernel
theorem d_Hand_drift_7 : decode b_Hand_drift 7 = .ok (.iconst 0, 1) := by decide +kernel
theorem d_Hand_drift_8 : decode b_Hand_drift 8 = .ok (.ireturn, 1) := by decide +kernel
theorem d_Hand_tire_0 : decode b_Hand_tire 0 = .ok (.aload_n 0, 1) := by decide +kernel
theorem d_Hand_tire_1 : decode b_Hand_tire 1 = .ok (.aload_n 0, 1) := by decide +kernel
theorem d_Hand_tire_2 : decode b_Hand_tire 2 = .ok (.getfield 9, 3) := by decide +kernel
theorem d_Hand_tire_5 : decode b_Hand_tire 5 = .ok (.iconst 2, 1) := by decide +kernel
theorem d_Hand_tire_6 : decode b_Hand_tire 6 = .ok (.iadd, 1) := by decide +kernel
theorem d_Hand_tire_7 : decode b_Hand_tire 7 = .ok (.bipush 100, 2) := by decide +kernel
theorem wm_715 : Cond.methodLink "ThresholdRow$Hand" 43 ⟨"java/lang/Math", "min", "(II)I"⟩ ∈ gT := gT_m (List.mem_of_getElem? (i := 715) (by decide +kernel)) (by decide +kernel)
theorem wm_229 : Cond.static ⟨"java/lang/Math", "min", "(II)I"⟩ ∈ gT := gT_m (List.mem_of_getElem? (i := 229) (by decide +kernel)) (by decide +kernel)
theorem wm_230 : Cond.code ⟨"java/lang/Math", "min", "(II)I"⟩ prog_22_method_69_code 2 (some .int) ∈ gT := gT_m (List.mem_of_getElem? (i := 230) (by decide +kernel)) (by decide +kernel)
theorem d_Hand_tire_9 : decode b_Hand_tire 9 = .ok (.invokestatic 43, 3) := by decide +kernel
theorem d_Hand_tire_12 : decode b_Hand_tire 12 = .ok (.putfield 9, 3) := by decide +kernel
theorem d_Hand_tire_15 : decode b_Hand_tire 15 = .ok (.return_, 1) := by decide +kernel
theorem d_Hand_rest_0 : decode b_Hand_rest 0 = .ok (.aload_n 0, 1) := by decide +kernel
theorem d_Hand_rest_1 : decode b_Hand_rest 1 = .ok (.aload_n 0, 1) := by decide +kernel
theorem d_Hand_rest_2 : decode b_Hand_rest 2 = .ok (.getfield 9, 3) := by decide +kernel
theorem d_Hand_rest_5 : decode b_Hand_rest 5 = .ok (.bipush 30, 2) := by decide +kernel
theorem d_Hand_rest_7 : decode b_Hand_rest 7 = .ok (.isub, 1) := by decide +kernel
theorem d_Hand_rest_8 : decode b_Hand_rest 8 = .ok (.iconst 0, 1) := by decide +kernel
theorem wm_737 : Cond.methodLink "ThresholdRow$Hand" 49 ⟨"java/lang/Math", "max", "(II)I"⟩ ∈ gT := gT_m (List.mem_of_getElem? (i := 737) (by decide +kernel)) (by decide +kernel)
theorem d_Hand_rest_9 : decode b_Hand_rest 9 = .ok (.invokestatic 49, 3) := by decide +kernel
theorem d_Hand_rest_12 : decode b_Hand_rest 12 = .ok (.putfield 9, 3) := by decide +kernel
theorem d_Hand_rest_15 : decode b_Hand_rest 15 = .ok (.aload_n 0, 1) := by decide +kernel
theorem d_Hand_rest_16 : decode b_Hand_rest 16 = .ok (.aload_n 0, 1) := by decide +kernel
theorem d_Hand_rest_17 : decode b_Hand_rest 17 = .ok (.getfield 15, 3) := by decide +kernel
theorem d_Hand_rest_20 : decode b_Hand_rest 20 = .ok (.iconst 1, 1) := by decide +kernel
theorem d_Hand_rest_21 : decode b_Hand_rest 21 = .ok (.isub, 1) := by decide +kernel
theorem d_Hand_rest_22 : decode b_Hand_rest 22 = .ok (.iconst 0, 1) := by decide +kernel
theorem d_Hand_rest_23 : decode b_Hand_rest 23 = .ok (.invokestatic 49, 3) := by decide +kernel
theorem d_Hand_rest_26 : decode b_Hand_rest 26 = .ok (.putfield 15, 3) := by decide +kernel
theorem d_Hand_rest_29 : decode b_Hand_rest 29 = .ok (.return_, 1) := by decide +kernel
theorem d_Gang_worseOf_0 : decode b_Gang_worseOf 0 = .ok (.aload_n 0, 1) := by decide +kernel
theorem wm_475 : Cond.fieldLink "ThresholdRow$Gang" 26 "ThresholdRow$Hand" "error" "I" ∈ gT := gT_m (List.mem_of_getElem? (i := 475) (by decide +kernel)) (by decide +kernel)
theorem d_Gang_worseOf_1 : decode b_Gang_worseOf 1 = .ok (.getfield 26, 3) := by decide +kernel
theorem wm_704 : Cond.methodLink "ThresholdRow$Gang" 80 ⟨"java/lang/Math", "abs", "(I)I"⟩ ∈ gT := gT_m (List.mem_of_getElem? (i := 704) (by decide +kernel)) (by decide +kernel)
theorem wm_705 : Cond.static ⟨"java/lang/Math", "abs", "(I)I"⟩ ∈ gT := gT_m (List.mem_of_getElem? (i := 705) (by decide +kernel)) (by decide +kernel)
theorem wm_706 : Cond.code ⟨"java/lang/Math", "abs", "(I)I"⟩ prog_22_method_59_code 1 (some .int) ∈ gT := gT_m (List.mem_of_getElem? (i := 706) (by decide +kernel)) (by decide +kernel)
theorem d_Gang_worseOf_4 : decode b_Gang_worseOf 4 = .ok (.invokestatic 80, 3) := by decide +kernel
theorem d_Gang_worseOf_7 : decode b_Gang_worseOf 7 = .ok (.aload_n 1, 1) := by decide +kernel
theorem d_Gang_worseOf_8 : decode b_Gang_worseOf 8 = .ok (.getfield 26, 3) := by decide +kernel
theorem d_Gang_worseOf_11 : decode b_Gang_worseOf 11 = .ok (.invokestatic 80, 3) := by decide +kernel
theorem d_Gang_worseOf_14 : decode b_Gang_worseOf 14 = .ok (.if_icmp .le 7, 3) := by decide +kernel
theorem d_Gang_worseOf_21 : decode b_Gang_worseOf 21 = .ok (.aload_n 1, 1) := by decide +kernel
theorem d_Gang_worseOf_22 : decode b_Gang_worseOf 22 = .ok (.areturn, 1) := by decide +kernel
theorem d_Gang_worseOf_17 : decode b_Gang_worseOf 17 = .ok (.aload_n 0, 1) := by decide +kernel
theorem d_Gang_worseOf_18 : decode b_Gang_worseOf 18 = .ok (.goto 4, 3) := by decide +kernel
theorem d_AL_add_0 : decode b_AL_add 0 = .ok (.aload_n 0, 1) := by decide +kernel
theorem d_AL_add_1 : decode b_AL_add 1 = .ok (.dup, 1) := by decide +kernel
theorem wm_75 : Cond.sameField "java/util/ArrayList" "java/util/AbstractList" "modCount" "I" ∈ gT := gT_m (List.mem_of_getElem? (i := 75) (by decide +kernel)) (by decide +kernel)
theorem wm_74 : Cond.fieldLink "java/util/ArrayList" 63 "java/util/ArrayList" "modCount" "I" ∈ gT := gT_m (List.mem_of_getElem? (i := 74) (by decide +kernel)) (by decide +kernel)
theorem d_AL_add_2 : decode b_AL_add 2 = .ok (.getfield 63, 3) := by decide +kernel
theorem d_AL_add_5 : decode b_AL_add 5 = .ok (.iconst 1, 1) := by decide +kernel
theorem d_AL_add_6 : decode b_AL_add 6 = .ok (.iadd, 1) := by decide +kernel
theorem d_AL_add_7 : decode b_AL_add 7 = .ok (.putfield 63, 3) := by decide +kernel
theorem d_AL_add_10 : decode b_AL_add 10 = .ok (.aload_n 0, 1) := by decide +kernel
theorem d_AL_add_11 : decode b_AL_add 11 = .ok (.aload_n 1, 1) := by decide +kernel
theorem d_AL_add_12 : decode b_AL_add 12 = .ok (.aload_n 0, 1) := by decide +kernel
theorem d_AL_add_13 : decode b_AL_add 13 = .ok (.getfield 9, 3) := by decide +kernel
theorem d_AL_add_16 : decode b_AL_add 16 = .ok (.aload_n 0, 1) := by decide +kernel
theorem d_AL_add_17 : decode b_AL_add 17 = .ok (.getfield 48, 3) := by decide +kernel
theorem wm_182 : Cond.code ⟨"java/util/ArrayList", "add", "(Ljava/lang/Object;[Ljava/lang/Object;I)V"⟩ prog_30_method_24_code 4 none ∈ gT := gT_m (List.mem_of_getElem? (i := 182) (by decide +kernel)) (by decide +kernel)
theorem wm_179 : Cond.methodLink "java/util/ArrayList" 131 ⟨"java/util/ArrayList", "add", "(Ljava/lang/Object;[Ljava/lang/Object;I)V"⟩ ∈ gT := gT_m (List.mem_of_getElem? (i := 179) (by decide +kernel)) (by decide +kernel)
theorem d_AL_add_20 : decode b_AL_add 20 = .ok (.invokevirtual 131, 3) := by decide +kernel
theorem wm_181 : Cond.instanceMethod ⟨"java/util/ArrayList", "add", "(Ljava/lang/Object;[Ljava/lang/Object;I)V"⟩ ∈ gT := gT_m (List.mem_of_getElem? (i := 181) (by decide +kernel)) (by decide +kernel)
theorem wm_0 : Cond.selects "java/util/ArrayList" ⟨"java/util/ArrayList", "add", "(Ljava/lang/Object;[Ljava/lang/Object;I)V"⟩ ⟨"java/util/ArrayList", "add", "(Ljava/lang/Object;[Ljava/lang/Object;I)V"⟩ ∈ gT := gT_m (List.mem_of_getElem? (i := 0) (by decide +kernel)) (by decide +kernel)
theorem d_AL_add_23 : decode b_AL_add 23 = .ok (.iconst 1, 1) := by decide +kernel
theorem d_AL_add_24 : decode b_AL_add 24 = .ok (.ireturn, 1) := by decide +kernel
abbrev gH : Type := Int32 × Int32 × Int32 × Int32 × Int32 × Int32
/-- a hand: strength, habit, fatigue, hurt, lost, error; never hired, never at day's work -/
abbrev gw_hd (v : gH) : va_E := .inr (6, [.int v.1, .int v.2.1, .int v.2.2.1, .int v.2.2.2.1, .int v.2.2.2.2.1, .int v.2.2.2.2.2, .int 32, .int 0, .int 0, .int (-1)])
abbrev hFa (v : gH) (x : Int32) : gH := (v.1, v.2.1, x, v.2.2.2.1, v.2.2.2.2.1, v.2.2.2.2.2)
abbrev hHu (v : gH) (x : Int32) : gH := (v.1, v.2.1, v.2.2.1, x, v.2.2.2.2.1, v.2.2.2.2.2)
abbrev hLo (v : gH) (x : Int32) : gH := (v.1, v.2.1, v.2.2.1, v.2.2.2.1, x, v.2.2.2.2.2)
abbrev hEr (v : gH) (x : Int32) : gH := (v.1, v.2.1, v.2.2.1, v.2.2.2.1, v.2.2.2.2.1, x)
def p_drift (v : gH) : Int32 := if v.2.1 = 0 then 0 else if v.2.1 ≤ 0 then v.2.1 - v.2.2.1 / 20 else v.2.1 + v.2.2.1 / 20
def p_tire (v : gH) : gH := hFa v (if 100 < v.2.2.1 + 2 then 100 else v.2.2.1 + 2)
def p_rest (v : gH) : gH := hHu (hFa v (if v.2.2.1 - 30 < 0 then 0 else v.2.2.1 - 30)) (if v.2.2.2.1 - 1 < 0 then 0 else v.2.2.2.1 - 1)
def p_abs (x : Int32) : Int32 := if 0 ≤ x then x else 0 - x
/-- a list of objects: at a, its array at t, its count, the addresses -/
def gw_L (z0 : Nat) (cO : ClassId) (M : gM) (a t n : Nat) (g : Nat → Nat) : Prop := ∃ k : Int32, M a = some (.inr (1, [.int k, .ref t, .int (nI n)])) ∧ n ≤ 10 ∧ ((n = 0 ∧ t = z0) ∨ ∃ f : Nat → Option Nat, M t = some (.inl (cO, 10, .inr (.inr (.inr (.inr f))))) ∧ ∀ p, p < n → f p = some (g p))
theorem gw_L.kept {z0 : Nat} {cO : ClassId} {M M' : gM} {a t n : Nat} {g : Nat → Nat} (h : gw_L z0 cO M a t n g) (h1 : M' a = M a) (h2 : ∀ f, M t = some (.inl (cO, 10, .inr (.inr (.inr (.inr f))))) → M' t = M t) : gw_L z0 cO M' a t n g := by
  obtain ⟨k, ha, h10, hf⟩ := h
  refine ⟨k, h1.trans ha, h10, ?_⟩
  rcases hf with h0 | ⟨f, ht, hp⟩
  · exact Or.inl h0
  · exact Or.inr ⟨f, (h2 f ht).trans ht, hp⟩
set_option maxHeartbeats 4000000 in
set_option maxRecDepth 100000 in
theorem c_Hand_init (l : Launch) (E : Nat) (D : va_G) (cI cO cZ : ClassId) (z0 : Nat) (M : gM) {a : Nat} {x y : Int32} (ha : M a = some (.inr (6, [.int 0, .int 0, .int 0, .int 0, .int 0, .int 0, .int 0, .int 0, .int 0, .int 0]))) : Met l y_Hand_init (Cond.code y_Hand_init b_Hand_init 3 none :: gT) ({ frames := 1, cells := 0, slots := 0, locals := 12 }) (gw_Pc E D cI cO cZ z0 M [.ref a, .int x, .int y]) (gw_Qv E D (fun M' => M' = gw_up M a (gw_hd (x, y, 0, 0, 0, 0)))) 0 0 (gw_A E) := by
  refine gw_ofW (cc := b_Hand_init) (maxL := 3) (ret := none) (by decide) rfl (Nat.le_of_ble_eq_true rfl) ?_
  intro p e s m args below meth c hx hb hr hml hts hown hlk hnm hF hG ls hl
  have hT : ∀ w ∈ gT, w.before args s = true := fun w h => hts w (List.mem_cons_of_mem _ h)
  have hK := hF.1
  have hl : lv_has ls 3 [(0, .ref a), (1, .int x), (2, .int y)] := hl
  refine lv_aload_n hx hb d_Hand_init_0 rfl (lv_at hl 0 rfl) ?_
  refine gw_objI hx hb hown (hml.trans hl.1.symm) (hT _ wm_462) (hT _ wm_55) (hT _ wm_56) (Nat.le_of_ble_eq_true rfl) (Nat.le_of_ble_eq_true rfl) d_Hand_init_1 ?_
  refine lv_aload_n hx hb d_Hand_init_4 rfl (lv_at hl 0 rfl) ?_
  refine lv_iconst (v := 0) hx hb d_Hand_init_5 (by decide) ?_
  refine gw_put (v := .int 0) hx hb hT i_Hand t_Hand t_Hand_ok n_Hand hown hK hG ha rfl 2 (by decide) (hT _ wm_465) (fun _ h => h) rfl rfl rfl (Nat.le_of_ble_eq_true rfl) d_Hand_init_6 (fun H locs hG => ?_)
  obtain ⟨M1, e_M1⟩ : ∃ Y_ : gM, Y_ = gw_up M a (.inr (6, [.int 0, .int 0, .int 0, .int 0, .int 0, .int 0, .int 0, .int 0, .int 0, .int 0])) := ⟨_, rfl⟩
  replace hG := gw_nm e_M1 hG
  have hM1_a := (congrFun e_M1 a).trans gw_hit
  refine lv_aload_n hx hb d_Hand_init_9 rfl (lv_at hl 0 rfl) ?_
  refine lv_iconst (v := 0) hx hb d_Hand_init_10 (by decide) ?_
  refine gw_put (v := .int 0) hx hb hT i_Hand t_Hand t_Hand_ok n_Hand hown hK hG hM1_a rfl 3 (by decide) (hT _ wm_468) (fun _ h => h) rfl rfl rfl (Nat.le_of_ble_eq_true rfl) d_Hand_init_11 (fun H locs hG => ?_)
  obtain ⟨M2, e_M2⟩ : ∃ Y_ : gM, Y_ = gw_up M1 a (.inr (6, [.int 0, .int 0, .int 0, .int 0, .int 0, .int 0, .int 0, .int 0, .int 0, .int 0])) := ⟨_, rfl⟩
  replace hG := gw_nm e_M2 hG
  have hM2_a := (congrFun e_M2 a).trans gw_hit
  refine lv_aload_n hx hb d_Hand_init_14 rfl (lv_at hl 0 rfl) ?_
  refine lv_iconst (v := 0) hx hb d_Hand_init_15 (by decide) ?_
  refine gw_put (v := .int 0) hx hb hT i_Hand t_Hand t_Hand_ok n_Hand hown hK hG hM2_a rfl 4 (by decide) (hT _ wm_471) (fun _ h => h) rfl rfl rfl (Nat.le_of_ble_eq_true rfl) d_Hand_init_16 (fun H locs hG => ?_)
  obtain ⟨M3, e_M3⟩ : ∃ Y_ : gM, Y_ = gw_up M2 a (.inr (6, [.int 0, .int 0, .int 0, .int 0, .int 0, .int 0, .int 0, .int 0, .int 0, .int 0])) := ⟨_, rfl⟩
  replace hG := gw_nm e_M3 hG
  have hM3_a := (congrFun e_M3 a).trans gw_hit
  refine lv_aload_n hx hb d_Hand_init_19 rfl (lv_at hl 0 rfl) ?_
  refine lv_iconst (v := 0) hx hb d_Hand_init_20 (by decide) ?_
  refine gw_put (v := .int 0) hx hb hT i_Hand t_Hand t_Hand_ok n_Hand hown hK hG hM3_a rfl 5 (by decide) (hT _ wm_474) (fun _ h => h) rfl rfl rfl (Nat.le_of_ble_eq_true rfl) d_Hand_init_21 (fun H locs hG => ?_)
  obtain ⟨M4, e_M4⟩ : ∃ Y_ : gM, Y_ = gw_up M3 a (.inr (6, [.int 0, .int 0, .int 0, .int 0, .int 0, .int 0, .int 0, .int 0, .int 0, .int 0])) := ⟨_, rfl⟩
  replace hG := gw_nm e_M4 hG
  have hM4_a := (congrFun e_M4 a).trans gw_hit
  refine lv_aload_n hx hb d_Hand_init_24 rfl (lv_at hl 0 rfl) ?_
  refine lv_bipush (v := 32) hx hb d_Hand_init_25 (by decide) ?_
  refine gw_put (v := .int 32) hx hb hT i_Hand t_Hand t_Hand_ok n_Hand hown hK hG hM4_a rfl 6 (by decide) (hT _ wm_477) (fun _ h => h) rfl rfl rfl (Nat.le_of_ble_eq_true rfl) d_Hand_init_27 (fun H locs hG => ?_)
  obtain ⟨M5, e_M5⟩ : ∃ Y_ : gM, Y_ = gw_up M4 a (.inr (6, [.int 0, .int 0, .int 0, .int 0, .int 0, .int 0, .int 32, .int 0, .int 0, .int 0])) := ⟨_, rfl⟩
  replace hG := gw_nm e_M5 hG
  have hM5_a := (congrFun e_M5 a).trans gw_hit
  refine lv_aload_n hx hb d_Hand_init_30 rfl (lv_at hl 0 rfl) ?_
  refine lv_iconst (v := 0) hx hb d_Hand_init_31 (by decide) ?_
  refine gw_put (v := .int 0) hx hb hT i_Hand t_Hand t_Hand_ok n_Hand hown hK hG hM5_a rfl 7 (by decide) (hT _ wm_478) (fun _ h => h) rfl rfl rfl (Nat.le_of_ble_eq_true rfl) d_Hand_init_32 (fun H locs hG => ?_)
  obtain ⟨M6, e_M6⟩ : ∃ Y_ : gM, Y_ = gw_up M5 a (.inr (6, [.int 0, .int 0, .int 0, .int 0, .int 0, .int 0, .int 32, .int 0, .int 0, .int 0])) := ⟨_, rfl⟩
  replace hG := gw_nm e_M6 hG
  have hM6_a := (congrFun e_M6 a).trans gw_hit
  refine lv_aload_n hx hb d_Hand_init_35 rfl (lv_at hl 0 rfl) ?_
  refine lv_iconst (v := 0) hx hb d_Hand_init_36 (by decide) ?_
  refine gw_put (v := .int 0) hx hb hT i_Hand t_Hand t_Hand_ok n_Hand hown hK hG hM6_a rfl 8 (by decide) (hT _ wm_479) (fun _ h => h) rfl rfl rfl (Nat.le_of_ble_eq_true rfl) d_Hand_init_37 (fun H locs hG => ?_)
  obtain ⟨M7, e_M7⟩ : ∃ Y_ : gM, Y_ = gw_up M6 a (.inr (6, [.int 0, .int 0, .int 0, .int 0, .int 0, .int 0, .int 32, .int 0, .int 0, .int 0])) := ⟨_, rfl⟩
  replace hG := gw_nm e_M7 hG
  have hM7_a := (congrFun e_M7 a).trans gw_hit
  refine lv_aload_n hx hb d_Hand_init_40 rfl (lv_at hl 0 rfl) ?_
  refine lv_iconst (v := (-1)) hx hb d_Hand_init_41 (by decide) ?_
  refine gw_put (v := .int (-1)) hx hb hT i_Hand t_Hand t_Hand_ok n_Hand hown hK hG hM7_a rfl 9 (by decide) (hT _ wm_480) (fun _ h => h) rfl rfl rfl (Nat.le_of_ble_eq_true rfl) d_Hand_init_42 (fun H locs hG => ?_)
  obtain ⟨M8, e_M8⟩ : ∃ Y_ : gM, Y_ = gw_up M7 a (.inr (6, [.int 0, .int 0, .int 0, .int 0, .int 0, .int 0, .int 32, .int 0, .int 0, .int (-1)])) := ⟨_, rfl⟩
  replace hG := gw_nm e_M8 hG
  have hM8_a := (congrFun e_M8 a).trans gw_hit
  refine lv_aload_n hx hb d_Hand_init_45 rfl (lv_at hl 0 rfl) ?_
  refine lv_iload_n hx hb d_Hand_init_46 rfl (lv_at hl 1 rfl) ?_
  refine gw_putF (v := .int x) hx hb hT i_Hand t_Hand t_Hand_ok n_Hand hown hK hG hM8_a rfl 0 (by decide) (hT _ wm_463) (fun _ h => h) rfl hnm rfl rfl rfl (Nat.le_of_ble_eq_true rfl) d_Hand_init_47 (fun H locs hG => ?_)
  obtain ⟨M9, e_M9⟩ : ∃ Y_ : gM, Y_ = gw_up M8 a (.inr (6, [.int x, .int 0, .int 0, .int 0, .int 0, .int 0, .int 32, .int 0, .int 0, .int (-1)])) := ⟨_, rfl⟩
  replace hG := gw_nm e_M9 hG
  have hM9_a := (congrFun e_M9 a).trans gw_hit
  refine lv_aload_n hx hb d_Hand_init_50 rfl (lv_at hl 0 rfl) ?_
  refine lv_iload_n hx hb d_Hand_init_51 rfl (lv_at hl 2 rfl) ?_
  refine gw_putF (v := .int y) hx hb hT i_Hand t_Hand t_Hand_ok n_Hand hown hK hG hM9_a rfl 1 (by decide) (hT _ wm_464) (fun _ h => h) rfl hnm rfl rfl rfl (Nat.le_of_ble_eq_true rfl) d_Hand_init_52 (fun H locs hG => ?_)
  obtain ⟨M10, e_M10⟩ : ∃ Y_ : gM, Y_ = gw_up M9 a (.inr (6, [.int x, .int y, .int 0, .int 0, .int 0, .int 0, .int 32, .int 0, .int 0, .int (-1)])) := ⟨_, rfl⟩
  replace hG := gw_nm e_M10 hG
  have hM10_a := (congrFun e_M10 a).trans gw_hit
  exact gw_vret hx hb hr hlk hG (by rw [e_M10, e_M9, e_M8, e_M7, e_M6, e_M5, e_M4, e_M3, e_M2, e_M1, gw_twice, gw_twice, gw_twice, gw_twice, gw_twice, gw_twice, gw_twice, gw_twice, gw_twice]) (Nat.le_of_ble_eq_true rfl) (Nat.le_of_ble_eq_true rfl) d_Hand_init_55
set_option maxHeartbeats 4000000 in
set_option maxRecDepth 100000 in
theorem c_Hand_drift (l : Launch) (E : Nat) (D : va_G) (cI cO cZ : ClassId) (z0 : Nat) (M : gM) {a : Nat} {v : gH} (ha : M a = some (gw_hd v)) : Met l y_Hand_drift (Cond.code y_Hand_drift b_Hand_drift 2 (some .int) :: gT) ({ frames := 0, cells := 0, slots := 0, locals := 0 }) (gw_Pc E D cI cO cZ z0 M [.ref a]) (gw_Qi E D (fun r M' => r = p_drift v ∧ M' = M)) 0 0 (gw_A E) := by
  refine gw_ofW (cc := b_Hand_drift) (maxL := 2) (ret := (some .int)) (by decide) rfl (Nat.le_of_ble_eq_true rfl) ?_
  intro p e s m args below meth c hx hb hr hml hts hown hlk hnm hF hG ls hl
  have hT : ∀ w ∈ gT, w.before args s = true := fun w h => hts w (List.mem_cons_of_mem _ h)
  have hK := hF.1
  have hl : lv_has ls 2 [(0, .ref a)] := hl
  refine lv_aload_n hx hb d_Hand_drift_0 rfl (lv_at hl 0 rfl) ?_
  refine gw_get hx hb hT i_Hand hown hK hG ha rfl 1 (by decide) (hT _ wm_464) (fun _ h => h) rfl d_Hand_drift_1 ?_
  refine lv_if_ne (tgt := 9) hx hb d_Hand_drift_4 (by decide) (fun c_4 => ?_) (fun c_4 => ?_)
  · skip
    refine lv_aload_n hx hb d_Hand_drift_9 rfl (lv_at hl 0 rfl) ?_
    refine gw_get hx hb hT i_Hand hown hK hG ha rfl 2 (by decide) (hT _ wm_465) (fun _ h => h) rfl d_Hand_drift_10 ?_
    refine lv_bipush (v := 20) hx hb d_Hand_drift_13 (by decide) ?_
    refine lv_idiv hx hb d_Hand_drift_15 (by decide) ?_
    refine lv_istore_n (lv' := [(1, .int (v.2.2.1 / 20)), (0, .ref a)]) hx hb d_Hand_drift_16 rfl hl (by decide) rfl (fun ls hl => ?_)
    refine lv_aload_n hx hb d_Hand_drift_17 rfl (lv_at hl 1 rfl) ?_
    refine gw_get hx hb hT i_Hand hown hK hG ha rfl 1 (by decide) (hT _ wm_464) (fun _ h => h) rfl d_Hand_drift_18 ?_
    refine lv_if_le (tgt := 33) hx hb d_Hand_drift_21 (by decide) (fun c_21 => ?_) (fun c_21 => ?_)
    · skip
      refine lv_aload_n hx hb d_Hand_drift_33 rfl (lv_at hl 1 rfl) ?_
      refine gw_get hx hb hT i_Hand hown hK hG ha rfl 1 (by decide) (hT _ wm_464) (fun _ h => h) rfl d_Hand_drift_34 ?_
      refine lv_iload_n hx hb d_Hand_drift_37 rfl (lv_at hl 0 rfl) ?_
      refine lv_isub hx hb d_Hand_drift_38 ?_
      exact gw_iret (v := (v.2.1 - (v.2.2.1 / 20))) hx hb hr hlk hG (⟨by unfold p_drift; rw [if_neg c_4, if_pos c_21], rfl⟩) (Nat.le_of_ble_eq_true rfl) (Nat.le_of_ble_eq_true rfl) d_Hand_drift_39
    · skip
      refine lv_aload_n hx hb d_Hand_drift_24 rfl (lv_at hl 1 rfl) ?_
      refine gw_get hx hb hT i_Hand hown hK hG ha rfl 1 (by decide) (hT _ wm_464) (fun _ h => h) rfl d_Hand_drift_25 ?_
      refine lv_iload_n hx hb d_Hand_drift_28 rfl (lv_at hl 0 rfl) ?_
      refine lv_iadd hx hb d_Hand_drift_29 ?_
      refine lv_goto (tgt := 39) hx hb d_Hand_drift_30 (by decide) ?_
      exact gw_iret (v := (v.2.1 + (v.2.2.1 / 20))) hx hb hr hlk hG (⟨by unfold p_drift; rw [if_neg c_4, if_neg c_21], rfl⟩) (Nat.le_of_ble_eq_true rfl) (Nat.le_of_ble_eq_true rfl) d_Hand_drift_39
  · skip
    refine lv_iconst (v := 0) hx hb d_Hand_drift_7 (by decide) ?_
    exact gw_iret (v := 0) hx hb hr hlk hG (⟨by unfold p_drift; rw [if_pos c_4], rfl⟩) (Nat.le_of_ble_eq_true rfl) (Nat.le_of_ble_eq_true rfl) d_Hand_drift_8
set_option maxHeartbeats 4000000 in
set_option maxRecDepth 100000 in
theorem c_Hand_tire (l : Launch) (E : Nat) (D : va_G) (cI cO cZ : ClassId) (z0 : Nat) (M : gM) {a : Nat} {v : gH} (ha : M a = some (gw_hd v)) : Met l y_Hand_tire (Cond.code y_Hand_tire b_Hand_tire 1 none :: gT) ({ frames := 1, cells := 0, slots := 0, locals := 15 }) (gw_Pc E D cI cO cZ z0 M [.ref a]) (gw_Qv E D (fun M' => M' = gw_up M a (gw_hd (p_tire v)))) 0 0 (gw_A E) := by
  refine gw_ofW (cc := b_Hand_tire) (maxL := 1) (ret := none) (by decide) rfl (Nat.le_of_ble_eq_true rfl) ?_
  intro p e s m args below meth c hx hb hr hml hts hown hlk hnm hF hG ls hl
  have hT : ∀ w ∈ gT, w.before args s = true := fun w h => hts w (List.mem_cons_of_mem _ h)
  have hK := hF.1
  have hl : lv_has ls 1 [(0, .ref a)] := hl
  refine lv_aload_n hx hb d_Hand_tire_0 rfl (lv_at hl 0 rfl) ?_
  refine lv_aload_n hx hb d_Hand_tire_1 rfl (lv_at hl 0 rfl) ?_
  refine gw_get hx hb hT i_Hand hown hK hG ha rfl 2 (by decide) (hT _ wm_465) (fun _ h => h) rfl d_Hand_tire_2 ?_
  refine lv_iconst (v := 2) hx hb d_Hand_tire_5 (by decide) ?_
  refine lv_iadd hx hb d_Hand_tire_6 ?_
  refine lv_bipush (v := 100) hx hb d_Hand_tire_7 (by decide) ?_
  refine va_mmin hx hb (hml.trans hl.1.symm) hown (hT _ wm_715) (hT _ wm_229) (hT _ wm_32) (hT _ wm_230) (Nat.le_of_ble_eq_true rfl) (Nat.le_of_ble_eq_true rfl) (Nat.le_of_ble_eq_true rfl) (Nat.le_of_ble_eq_true rfl) d_Hand_tire_9 ?_
  refine gw_put (v := .int (if 100 < v.2.2.1 + 2 then 100 else v.2.2.1 + 2)) hx hb hT i_Hand t_Hand t_Hand_ok n_Hand hown hK hG ha rfl 2 (by decide) (hT _ wm_465) (fun _ h => h) rfl rfl rfl (Nat.le_of_ble_eq_true rfl) d_Hand_tire_12 (fun H locs hG => ?_)
  obtain ⟨M1, e_M1⟩ : ∃ Y_ : gM, Y_ = gw_up M a (.inr (6, [.int v.1, .int v.2.1, .int (if 100 < v.2.2.1 + 2 then 100 else v.2.2.1 + 2), .int v.2.2.2.1, .int v.2.2.2.2.1, .int v.2.2.2.2.2, .int 32, .int 0, .int 0, .int (-1)])) := ⟨_, rfl⟩
  replace hG := gw_nm e_M1 hG
  have hM1_a := (congrFun e_M1 a).trans gw_hit
  exact gw_vret hx hb hr hlk hG (e_M1) (Nat.le_of_ble_eq_true rfl) (Nat.le_of_ble_eq_true rfl) d_Hand_tire_15
set_option maxHeartbeats 4000000 in
set_option maxRecDepth 100000 in
theorem c_Hand_rest (l : Launch) (E : Nat) (D : va_G) (cI cO cZ : ClassId) (z0 : Nat) (M : gM) {a : Nat} {v : gH} (ha : M a = some (gw_hd v)) : Met l y_Hand_rest (Cond.code y_Hand_rest b_Hand_rest 1 none :: gT) ({ frames := 1, cells := 0, slots := 0, locals := 15 }) (gw_Pc E D cI cO cZ z0 M [.ref a]) (gw_Qv E D (fun M' => M' = gw_up M a (gw_hd (p_rest v)))) 0 0 (gw_A E) := by
  refine gw_ofW (cc := b_Hand_rest) (maxL := 1) (ret := none) (by decide) rfl (Nat.le_of_ble_eq_true rfl) ?_
  intro p e s m args below meth c hx hb hr hml hts hown hlk hnm hF hG ls hl
  have hT : ∀ w ∈ gT, w.before args s = true := fun w h => hts w (List.mem_cons_of_mem _ h)
  have hK := hF.1
  have hl : lv_has ls 1 [(0, .ref a)] := hl
  refine lv_aload_n hx hb d_Hand_rest_0 rfl (lv_at hl 0 rfl) ?_
  refine lv_aload_n hx hb d_Hand_rest_1 rfl (lv_at hl 0 rfl) ?_
  refine gw_get hx hb hT i_Hand hown hK hG ha rfl 2 (by decide) (hT _ wm_465) (fun _ h => h) rfl d_Hand_rest_2 ?_
  refine lv_bipush (v := 30) hx hb d_Hand_rest_5 (by decide) ?_
  refine lv_isub hx hb d_Hand_rest_7 ?_
  refine lv_iconst (v := 0) hx hb d_Hand_rest_8 (by decide) ?_
  refine va_mmax hx hb (hml.trans hl.1.symm) hown (hT _ wm_737) (hT _ wm_195) (hT _ wm_32) (hT _ wm_196) (Nat.le_of_ble_eq_true rfl) (Nat.le_of_ble_eq_true rfl) (Nat.le_of_ble_eq_true rfl) (Nat.le_of_ble_eq_true rfl) d_Hand_rest_9 ?_
  refine gw_put (v := .int (if v.2.2.1 - 30 < 0 then 0 else v.2.2.1 - 30)) hx hb hT i_Hand t_Hand t_Hand_ok n_Hand hown hK hG ha rfl 2 (by decide) (hT _ wm_465) (fun _ h => h) rfl rfl rfl (Nat.le_of_ble_eq_true rfl) d_Hand_rest_12 (fun H locs hG => ?_)
  obtain ⟨M1, e_M1⟩ : ∃ Y_ : gM, Y_ = gw_up M a (.inr (6, [.int v.1, .int v.2.1, .int (if v.2.2.1 - 30 < 0 then 0 else v.2.2.1 - 30), .int v.2.2.2.1, .int v.2.2.2.2.1, .int v.2.2.2.2.2, .int 32, .int 0, .int 0, .int (-1)])) := ⟨_, rfl⟩
  replace hG := gw_nm e_M1 hG
  have hM1_a := (congrFun e_M1 a).trans gw_hit
  refine lv_aload_n hx hb d_Hand_rest_15 rfl (lv_at hl 0 rfl) ?_
  refine lv_aload_n hx hb d_Hand_rest_16 rfl (lv_at hl 0 rfl) ?_
  refine gw_get hx hb hT i_Hand hown hK hG hM1_a rfl 3 (by decide) (hT _ wm_468) (fun _ h => h) rfl d_Hand_rest_17 ?_
  refine lv_iconst (v := 1) hx hb d_Hand_rest_20 (by decide) ?_
  refine lv_isub hx hb d_Hand_rest_21 ?_
  refine lv_iconst (v := 0) hx hb d_Hand_rest_22 (by decide) ?_
  refine va_mmax hx hb (hml.trans hl.1.symm) hown (hT _ wm_737) (hT _ wm_195) (hT _ wm_32) (hT _ wm_196) (Nat.le_of_ble_eq_true rfl) (Nat.le_of_ble_eq_true rfl) (Nat.le_of_ble_eq_true rfl) (Nat.le_of_ble_eq_true rfl) d_Hand_rest_23 ?_
  refine gw_put (v := .int (if v.2.2.2.1 - 1 < 0 then 0 else v.2.2.2.1 - 1)) hx hb hT i_Hand t_Hand t_Hand_ok n_Hand hown hK hG hM1_a rfl 3 (by decide) (hT _ wm_468) (fun _ h => h) rfl rfl rfl (Nat.le_of_ble_eq_true rfl) d_Hand_rest_26 (fun H locs hG => ?_)
  obtain ⟨M2, e_M2⟩ : ∃ Y_ : gM, Y_ = gw_up M1 a (.inr (6, [.int v.1, .int v.2.1, .int (if v.2.2.1 - 30 < 0 then 0 else v.2.2.1 - 30), .int (if v.2.2.2.1 - 1 < 0 then 0 else v.2.2.2.1 - 1), .int v.2.2.2.2.1, .int v.2.2.2.2.2, .int 32, .int 0, .int 0, .int (-1)])) := ⟨_, rfl⟩
  replace hG := gw_nm e_M2 hG
  have hM2_a := (congrFun e_M2 a).trans gw_hit
  exact gw_vret hx hb hr hlk hG (by rw [e_M2, e_M1, gw_twice]; rfl) (Nat.le_of_ble_eq_true rfl) (Nat.le_of_ble_eq_true rfl) d_Hand_rest_29
set_option maxHeartbeats 4000000 in
set_option maxRecDepth 100000 in
theorem c_Gang_worseOf (l : Launch) (E : Nat) (D : va_G) (cI cO cZ : ClassId) (z0 : Nat) (M : gM) {a b : Nat} {v u : gH} (ha : M a = some (gw_hd v)) (hb0 : M b = some (gw_hd u)) : Met l y_Gang_worseOf (Cond.code y_Gang_worseOf b_Gang_worseOf 2 (some (.object "ThresholdRow$Hand")) :: gT) ({ frames := 1, cells := 0, slots := 0, locals := 15 }) (gw_Pc E D cI cO cZ z0 M [.ref a, .ref b]) (gw_Qq E D (fun r M' => r = some (if p_abs v.2.2.2.2.2 ≤ p_abs u.2.2.2.2.2 then b else a) ∧ M' = M)) 0 0 (gw_A E) := by
  refine gw_ofW (cc := b_Gang_worseOf) (maxL := 2) (ret := (some (.object "ThresholdRow$Hand"))) (by decide) rfl (Nat.le_of_ble_eq_true rfl) ?_
  intro p e s m args below meth c hx hb hr hml hts hown hlk hnm hF hG ls hl
  have hT : ∀ w ∈ gT, w.before args s = true := fun w h => hts w (List.mem_cons_of_mem _ h)
  have hK := hF.1
  have hl : lv_has ls 2 [(0, .ref a), (1, .ref b)] := hl
  refine lv_aload_n hx hb d_Gang_worseOf_0 rfl (lv_at hl 0 rfl) ?_
  refine gw_get hx hb hT i_Hand hown hK hG ha rfl 5 (by decide) (hT _ wm_475) (fun _ h => h) rfl d_Gang_worseOf_1 ?_
  refine va_mabs hx hb (hml.trans hl.1.symm) hown (hT _ wm_704) (hT _ wm_705) (hT _ wm_32) (hT _ wm_706) (Nat.le_of_ble_eq_true rfl) (Nat.le_of_ble_eq_true rfl) (Nat.le_of_ble_eq_true rfl) (Nat.le_of_ble_eq_true rfl) d_Gang_worseOf_4 ?_
  refine lv_aload_n hx hb d_Gang_worseOf_7 rfl (lv_at hl 1 rfl) ?_
  refine gw_get hx hb hT i_Hand hown hK hG hb0 rfl 5 (by decide) (hT _ wm_475) (fun _ h => h) rfl d_Gang_worseOf_8 ?_
  refine va_mabs hx hb (hml.trans hl.1.symm) hown (hT _ wm_704) (hT _ wm_705) (hT _ wm_32) (hT _ wm_706) (Nat.le_of_ble_eq_true rfl) (Nat.le_of_ble_eq_true rfl) (Nat.le_of_ble_eq_true rfl) (Nat.le_of_ble_eq_true rfl) d_Gang_worseOf_11 ?_
  refine lv_icmp_le (tgt := 21) hx hb d_Gang_worseOf_14 (by decide) (fun c_14 => ?_) (fun c_14 => ?_)
  · skip
    refine lv_aload_n hx hb d_Gang_worseOf_21 rfl (lv_at hl 1 rfl) ?_
    exact gw_aret hx hb hr (Or.inl ⟨_, rfl⟩) hlk hG (⟨congrArg some (if_pos c_14).symm, rfl⟩) (Nat.le_of_ble_eq_true rfl) (Nat.le_of_ble_eq_true rfl) d_Gang_worseOf_22
  · skip
    refine lv_aload_n hx hb d_Gang_worseOf_17 rfl (lv_at hl 0 rfl) ?_
    refine lv_goto (tgt := 22) hx hb d_Gang_worseOf_18 (by decide) ?_
    exact gw_aret hx hb hr (Or.inl ⟨_, rfl⟩) hlk hG (⟨congrArg some (if_neg c_14).symm, rfl⟩) (Nat.le_of_ble_eq_true rfl) (Nat.le_of_ble_eq_true rfl) d_Gang_worseOf_22
theorem c_L_size (l : Launch) (E : Nat) (D : va_G) (cI cO cZ : ClassId) (z0 : Nat) (M : gM) {a t n : Nat} {g : Nat → Nat} (hL : gw_L z0 cO M a t n g) : Met l y_AL_size (Cond.code y_AL_size b_AL_size 1 (some .int) :: gT) ({ frames := 0, cells := 0, slots := 0, locals := 0 }) (gw_Pc E D cI cO cZ z0 M [.ref a]) (gw_Qi E D (fun r M' => r = nI n ∧ M' = M)) 0 0 (gw_A E) := by
  obtain ⟨k, ha, -⟩ := hL
  exact c_AL_size l E D cI cO cZ z0 M ha
theorem c_L_get (l : Launch) (E : Nat) (D : va_G) (cI cO cZ : ClassId) (z0 : Nat) (M : gM) {a t n : Nat} {g : Nat → Nat} (hL : gw_L z0 cO M a t n g) {p : Nat} (hp : p < n) : Met l y_AL_get (Cond.code y_AL_get b_AL_get 2 (some (.object "java/lang/Object")) :: gT) ({ frames := 2, cells := 0, slots := 0, locals := 43 }) (gw_Pc E D cI cO cZ z0 M [.ref a, .int (nI p)]) (gw_Qq E D (fun r M' => r = some (g p) ∧ M' = M)) 0 0 (gw_A E) := by
  obtain ⟨k, ha, h10, hf⟩ := hL
  rcases hf with ⟨h0, -⟩ | ⟨f, ht, hfp⟩
  · omega
  · exact c_AL_get l E D cI cO cZ z0 M ha ht (vp_in_nI (by omega) (by decide)) (by rw [nI_clamp (by omega)]; exact hfp p hp) (nI_pos (by omega)) (nI_lt hp (by omega))
set_option maxHeartbeats 4000000 in
set_option maxRecDepth 100000 in
theorem c_AL_add (l : Launch) (E : Nat) (D : va_G) (cI cO cZ : ClassId) (z0 : Nat) (M : gM) {a t n : Nat} {g : Nat → Nat} (hL : gw_L z0 cO M a t n g) {v cv : Nat} {r : vw_C} {vs : List Value} (hv : M v = some (.inr (cv, vs))) (hc : classes[cv]? = some r) (hca : Cond.castable r.1 "java/lang/Object" ∈ lw_tbl) (hn : n < 10) (hva : v ≠ a) : Met l y_AL_add (Cond.code y_AL_add b_AL_add 2 (some .boolean) :: gT) ({ frames := 4, cells := 1, slots := 10, locals := 80 }) (gw_Pc E D cI cO cZ z0 M [.ref a, .ref v]) (gw_Qi E D (fun r M' => r = 1 ∧ ∃ t' : Nat, (t' = t ∨ M t' = none) ∧ gw_L z0 cO M' a t' (n + 1) (va_up g n v) ∧ ∀ b, b ≠ a → b ≠ t' → M' b = M b)) 1 10 (gw_A E) := by
  refine gw_ofW (cc := b_AL_add) (maxL := 2) (ret := (some .boolean)) (by decide) rfl (Nat.le_of_ble_eq_true rfl) ?_
  intro p e s m args below meth c hx hb hr hml hts hown hlk hnm hF hG ls hl
  have hT : ∀ w ∈ gT, w.before args s = true := fun w h => hts w (List.mem_cons_of_mem _ h)
  have hK := hF.1
  have hl : lv_has ls 2 [(0, .ref a), (1, .ref v)] := hl
  obtain ⟨k, ha, h10, hf⟩ := hL
  have hta : ∀ f, M t = some (.inl (cO, 10, .inr (.inr (.inr (.inr f))))) → t ≠ a := fun f h => gw_neA h ha
  have htv : ∀ f, M t = some (.inl (cO, 10, .inr (.inr (.inr (.inr f))))) → t ≠ v := fun f h => gw_neA h hv
  refine lv_aload_n hx hb d_AL_add_0 rfl (lv_at hl 0 rfl) ?_
  refine lv_dup hx hb d_AL_add_1 rfl ?_
  refine gw_get hx hb hT i_List hown hK hG ha rfl 0 (by decide) (hT _ wm_74) (fun x h => u_same (hT _ wm_75) x h) rfl d_AL_add_2 ?_
  refine lv_iconst (v := 1) hx hb d_AL_add_5 (by decide) ?_
  refine lv_iadd hx hb d_AL_add_6 ?_
  refine gw_put (v := .int (k + 1)) hx hb hT i_List t_List t_List_ok n_List hown hK hG ha rfl 0 (by decide) (hT _ wm_74) (fun x h => u_same (hT _ wm_75) x h) rfl rfl rfl (Nat.le_of_ble_eq_true rfl) d_AL_add_7 (fun H locs hG => ?_)
  obtain ⟨M1, e_M1⟩ : ∃ Y_ : gM, Y_ = gw_up M a (.inr (1, [.int (k + 1), .ref t, .int (nI n)])) := ⟨_, rfl⟩
  replace hG := gw_nm e_M1 hG
  have hM1_v := (congrFun e_M1 v).trans ((gw_miss hva).trans hv)
  have hM1_a := (congrFun e_M1 a).trans gw_hit
  refine lv_aload_n hx hb d_AL_add_10 rfl (lv_at hl 0 rfl) ?_
  refine lv_aload_n hx hb d_AL_add_11 rfl (lv_at hl 1 rfl) ?_
  refine lv_aload_n hx hb d_AL_add_12 rfl (lv_at hl 0 rfl) ?_
  refine gw_get hx hb hT i_List hown hK hG hM1_a rfl 1 (by decide) (hT _ wm_71) (fun _ h => h) rfl d_AL_add_13 ?_
  refine lv_aload_n hx hb d_AL_add_16 rfl (lv_at hl 0 rfl) ?_
  refine gw_get hx hb hT i_List hown hK hG hM1_a rfl 2 (by decide) (hT _ wm_72) (fun _ h => h) rfl d_AL_add_17 ?_
  rcases hf with ⟨h0, hz⟩ | ⟨f, ht, hfp⟩
  · skip
    subst h0
    have hz := hz.symm
    subst hz
    refine gw_callv (gw_runV (As := [.ref v, .ref z0, .int 0]) (rest := []) ⟨hx, hb, hml, hown, hts⟩ (c_AL_add_2_e l E D cI cO cZ z0 M1 (hM1_a) hM1_v hc hca hva) (gw_cwV 3 hts (gT_gi wm_182) rfl rfl rfl (hT _ wm_26) (hT _ wm_179) (hT _ wm_181) (hT _ wm_0) (by decide +kernel) ⟨Nat.le_of_ble_eq_true rfl, Nat.le_of_ble_eq_true rfl⟩) hF hG rfl hM1_a rfl hl.1 rfl (Nat.le_of_ble_eq_true rfl) d_AL_add_20 ⟨Nat.le_of_ble_eq_true rfl, Nat.le_of_ble_eq_true rfl⟩) hG (fun M2 H locs hp hG => ?_)
    obtain ⟨q, hq, e_M2⟩ := hp
    have hqa : q ≠ a := fun z => by rw [z, hM1_a] at hq; cases hq
    have hqn : M q = none := by rw [e_M1, gw_miss hqa] at hq; exact hq
    refine lv_iconst (v := 1) hx hb d_AL_add_23 (by decide) ?_
    refine gw_zret (v := 1) hx hb hr hlk hG rfl ⟨rfl, q, Or.inr hqn, ⟨k + 1, (by rw [e_M2]; exact gw_hit), by omega, Or.inr ⟨_, (by rw [e_M2, gw_miss hqa]; exact gw_hit), fun p hp => ?_⟩⟩, fun b h1 h2 => (by rw [e_M2, gw_miss h1, gw_miss h2, e_M1, gw_miss h1])⟩ (Nat.le_of_ble_eq_true rfl) (Nat.le_of_ble_eq_true rfl) d_AL_add_24
    have hp0 : p = 0 := by omega
    subst hp0
    rfl
  · skip
    have hM1_t := (congrFun e_M1 t).trans ((gw_miss (hta f ht)).trans ht)
    refine gw_callv (gw_runV (As := [.ref v, .ref t, .int (nI n)]) (rest := []) ⟨hx, hb, hml, hown, hts⟩ (c_AL_add_2 l E D cI cO cZ z0 M1 hM1_a hM1_t hM1_v hc hca (fun z => absurd ((nI_eq (by omega) (by decide)).mp (show nI n = nI 10 from z)) (by omega)) (vp_in_nI hn (by decide))) (gw_cwV 3 hts (gT_gi wm_182) rfl rfl rfl (hT _ wm_26) (hT _ wm_179) (hT _ wm_181) (hT _ wm_0) (by decide +kernel) ⟨Nat.le_of_ble_eq_true rfl, Nat.le_of_ble_eq_true rfl⟩) hF hG rfl hM1_a rfl hl.1 rfl (Nat.le_of_ble_eq_true rfl) d_AL_add_20 ⟨Nat.le_of_ble_eq_true rfl, Nat.le_of_ble_eq_true rfl⟩) hG (fun M2 H locs hp hG => ?_)
    have e_M2 := hp
    refine lv_iconst (v := 1) hx hb d_AL_add_23 (by decide) ?_
    refine gw_zret (v := 1) hx hb hr hlk hG rfl ⟨rfl, t, Or.inl rfl, ⟨k + 1, by rw [e_M2, gw_hit, nI_succ], by omega, Or.inr ⟨_, by rw [e_M2, gw_miss (hta f ht)]; exact gw_hit, fun p hp => ?_⟩⟩, fun b h1 h2 => by rw [e_M2, gw_miss h1, gw_miss h2, e_M1, gw_miss h1]⟩ (Nat.le_of_ble_eq_true rfl) (Nat.le_of_ble_eq_true rfl) d_AL_add_24
    rw [nI_clamp (by omega)]
    unfold va_up
    by_cases hpn : p = n
    · rw [if_pos hpn, if_pos hpn]
    · rw [if_neg hpn, if_neg hpn]; exact hfp p (by omega)
end
section
theorem d_AL_fastRemove_0 : decode b_AL_fastRemove 0 = .ok (.aload_n 0, 1) := by decide +kernel
theorem d_AL_fastRemove_1 : decode b_AL_fastRemove 1 = .ok (.dup, 1) := by decide +kernel
theorem d_AL_fastRemove_2 : decode b_AL_fastRemove 2 = .ok (.getfield 63, 3) := by decide +kernel
theorem d_AL_fastRemove_5 : decode b_AL_fastRemove 5 = .ok (.iconst 1, 1) := by decide +kernel
theorem d_AL_fastRemove_6 : decode b_AL_fastRemove 6 = .ok (.iadd, 1) := by decide +kernel
theorem d_AL_fastRemove_7 : decode b_AL_fastRemove 7 = .ok (.putfield 63, 3) := by decide +kernel
theorem d_AL_fastRemove_10 : decode b_AL_fastRemove 10 = .ok (.aload_n 0, 1) := by decide +kernel
theorem d_AL_fastRemove_11 : decode b_AL_fastRemove 11 = .ok (.getfield 48, 3) := by decide +kernel
theorem d_AL_fastRemove_14 : decode b_AL_fastRemove 14 = .ok (.iconst 1, 1) := by decide +kernel
theorem d_AL_fastRemove_15 : decode b_AL_fastRemove 15 = .ok (.isub, 1) := by decide +kernel
theorem d_AL_fastRemove_16 : decode b_AL_fastRemove 16 = .ok (.dup, 1) := by decide +kernel
theorem d_AL_fastRemove_17 : decode b_AL_fastRemove 17 = .ok (.istore_n 3, 1) := by decide +kernel
theorem d_AL_fastRemove_18 : decode b_AL_fastRemove 18 = .ok (.iload_n 2, 1) := by decide +kernel
theorem d_AL_fastRemove_19 : decode b_AL_fastRemove 19 = .ok (.if_icmp .le 15, 3) := by decide +kernel
theorem d_AL_fastRemove_34 : decode b_AL_fastRemove 34 = .ok (.aload_n 1, 1) := by decide +kernel
theorem d_AL_fastRemove_35 : decode b_AL_fastRemove 35 = .ok (.aload_n 0, 1) := by decide +kernel
theorem d_AL_fastRemove_36 : decode b_AL_fastRemove 36 = .ok (.iload_n 3, 1) := by decide +kernel
theorem d_AL_fastRemove_37 : decode b_AL_fastRemove 37 = .ok (.dup_x1, 1) := by decide +kernel
theorem d_AL_fastRemove_38 : decode b_AL_fastRemove 38 = .ok (.putfield 48, 3) := by decide +kernel
theorem d_AL_fastRemove_41 : decode b_AL_fastRemove 41 = .ok (.aconst_null, 1) := by decide +kernel
theorem d_AL_fastRemove_42 : decode b_AL_fastRemove 42 = .ok (.aastore, 1) := by decide +kernel
theorem d_AL_fastRemove_43 : decode b_AL_fastRemove 43 = .ok (.return_, 1) := by decide +kernel
theorem d_AL_fastRemove_22 : decode b_AL_fastRemove 22 = .ok (.aload_n 1, 1) := by decide +kernel
theorem d_AL_fastRemove_23 : decode b_AL_fastRemove 23 = .ok (.iload_n 2, 1) := by decide +kernel
theorem d_AL_fastRemove_24 : decode b_AL_fastRemove 24 = .ok (.iconst 1, 1) := by decide +kernel
theorem d_AL_fastRemove_25 : decode b_AL_fastRemove 25 = .ok (.iadd, 1) := by decide +kernel
theorem d_AL_fastRemove_26 : decode b_AL_fastRemove 26 = .ok (.aload_n 1, 1) := by decide +kernel
theorem d_AL_fastRemove_27 : decode b_AL_fastRemove 27 = .ok (.iload_n 2, 1) := by decide +kernel
theorem d_AL_fastRemove_28 : decode b_AL_fastRemove 28 = .ok (.iload_n 3, 1) := by decide +kernel
theorem d_AL_fastRemove_29 : decode b_AL_fastRemove 29 = .ok (.iload_n 2, 1) := by decide +kernel
theorem d_AL_fastRemove_30 : decode b_AL_fastRemove 30 = .ok (.isub, 1) := by decide +kernel
theorem wm_605 : Cond.methodLink "java/util/ArrayList" 112 ⟨"java/lang/System", "arraycopy", "(Ljava/lang/Object;ILjava/lang/Object;II)V"⟩ ∈ gT := gT_m (List.mem_of_getElem? (i := 605) (by decide +kernel)) (by decide +kernel)
theorem wm_233 : Cond.native ⟨"java/lang/System", "arraycopy", "(Ljava/lang/Object;ILjava/lang/Object;II)V"⟩ ∈ gT := gT_m (List.mem_of_getElem? (i := 233) (by decide +kernel)) (by decide +kernel)
theorem wm_232 : Cond.static ⟨"java/lang/System", "arraycopy", "(Ljava/lang/Object;ILjava/lang/Object;II)V"⟩ ∈ gT := gT_m (List.mem_of_getElem? (i := 232) (by decide +kernel)) (by decide +kernel)
theorem wm_34 : Cond.initialized "java/lang/System" ∈ gT := gT_m (List.mem_of_getElem? (i := 34) (by decide +kernel)) (by decide +kernel)
theorem d_AL_fastRemove_31 : decode b_AL_fastRemove 31 = .ok (.invokestatic 112, 3) := by decide +kernel
theorem d_AL_remove_0 : decode b_AL_remove 0 = .ok (.iload_n 1, 1) := by decide +kernel
theorem d_AL_remove_1 : decode b_AL_remove 1 = .ok (.aload_n 0, 1) := by decide +kernel
theorem d_AL_remove_2 : decode b_AL_remove 2 = .ok (.getfield 48, 3) := by decide +kernel
theorem d_AL_remove_5 : decode b_AL_remove 5 = .ok (.invokestatic 118, 3) := by decide +kernel
theorem d_AL_remove_8 : decode b_AL_remove 8 = .ok (.pop, 1) := by decide +kernel
theorem d_AL_remove_9 : decode b_AL_remove 9 = .ok (.aload_n 0, 1) := by decide +kernel
theorem d_AL_remove_10 : decode b_AL_remove 10 = .ok (.getfield 9, 3) := by decide +kernel
theorem d_AL_remove_13 : decode b_AL_remove 13 = .ok (.astore_n 2, 1) := by decide +kernel
theorem d_AL_remove_14 : decode b_AL_remove 14 = .ok (.aload_n 2, 1) := by decide +kernel
theorem d_AL_remove_15 : decode b_AL_remove 15 = .ok (.iload_n 1, 1) := by decide +kernel
theorem d_AL_remove_16 : decode b_AL_remove 16 = .ok (.aaload, 1) := by decide +kernel
theorem d_AL_remove_17 : decode b_AL_remove 17 = .ok (.astore_n 3, 1) := by decide +kernel
theorem d_AL_remove_18 : decode b_AL_remove 18 = .ok (.aload_n 0, 1) := by decide +kernel
theorem d_AL_remove_19 : decode b_AL_remove 19 = .ok (.aload_n 2, 1) := by decide +kernel
theorem d_AL_remove_20 : decode b_AL_remove 20 = .ok (.iload_n 1, 1) := by decide +kernel
theorem wm_604 : Cond.code ⟨"java/util/ArrayList", "fastRemove", "([Ljava/lang/Object;I)V"⟩ prog_30_method_39_code 4 none ∈ gT := gT_m (List.mem_of_getElem? (i := 604) (by decide +kernel)) (by decide +kernel)
theorem wm_601 : Cond.methodLink "java/util/ArrayList" 144 ⟨"java/util/ArrayList", "fastRemove", "([Ljava/lang/Object;I)V"⟩ ∈ gT := gT_m (List.mem_of_getElem? (i := 601) (by decide +kernel)) (by decide +kernel)
theorem d_AL_remove_21 : decode b_AL_remove 21 = .ok (.invokevirtual 144, 3) := by decide +kernel
theorem wm_603 : Cond.instanceMethod ⟨"java/util/ArrayList", "fastRemove", "([Ljava/lang/Object;I)V"⟩ ∈ gT := gT_m (List.mem_of_getElem? (i := 603) (by decide +kernel)) (by decide +kernel)
theorem wm_11 : Cond.selects "java/util/ArrayList" ⟨"java/util/ArrayList", "fastRemove", "([Ljava/lang/Object;I)V"⟩ ⟨"java/util/ArrayList", "fastRemove", "([Ljava/lang/Object;I)V"⟩ ∈ gT := gT_m (List.mem_of_getElem? (i := 11) (by decide +kernel)) (by decide +kernel)
theorem d_AL_remove_24 : decode b_AL_remove 24 = .ok (.aload_n 3, 1) := by decide +kernel
theorem d_AL_remove_25 : decode b_AL_remove 25 = .ok (.areturn, 1) := by decide +kernel
theorem gw_weakQ {l : Launch} {y : MethodName} {ws : List Cond} {rm : Room} {Pc : Array Value → State → Prop} {E : Nat} {D : va_G} {post post' : Option Nat → gM → Prop} {mc ms : Nat} {free : Addr → Prop} (h : Met l y ws rm Pc (gw_Qq E D post) mc ms free) (hw : ∀ r M', post r M' → post' r M') : Met l y ws rm Pc (gw_Qq E D post') mc ms free := by
  intro p e ha hc hk s m args below hf happ hP hK
  obtain ⟨n, o, h1, h2, h3, ⟨⟨r, u, e1, e2, e3⟩, e4⟩, h5⟩ := h p e ha hc hk s m args below hf happ hP hK
  exact ⟨n, o, h1, h2, h3, ⟨⟨r, u, e1, hw r u e2, e3⟩, e4⟩, h5⟩
theorem gw_weakI {l : Launch} {y : MethodName} {ws : List Cond} {rm : Room} {Pc : Array Value → State → Prop} {E : Nat} {D : va_G} {post post' : Int32 → gM → Prop} {mc ms : Nat} {free : Addr → Prop} (h : Met l y ws rm Pc (gw_Qi E D post) mc ms free) (hw : ∀ r M', post r M' → post' r M') : Met l y ws rm Pc (gw_Qi E D post') mc ms free := by
  intro p e ha hc hk s m args below hf happ hP hK
  obtain ⟨n, o, h1, h2, h3, ⟨⟨r, u, e1, e2, e3⟩, e4⟩, h5⟩ := h p e ha hc hk s m args below hf happ hP hK
  exact ⟨n, o, h1, h2, h3, ⟨⟨r, u, e1, hw r u e2, e3⟩, e4⟩, h5⟩
theorem gw_weakV {l : Launch} {y : MethodName} {ws : List Cond} {rm : Room} {Pc : Array Value → State → Prop} {E : Nat} {D : va_G} {post post' : gM → Prop} {mc ms : Nat} {free : Addr → Prop} (h : Met l y ws rm Pc (gw_Qv E D post) mc ms free) (hw : ∀ M', post M' → post' M') : Met l y ws rm Pc (gw_Qv E D post') mc ms free := by
  intro p e ha hc hk s m args below hf happ hP hK
  obtain ⟨n, o, h1, h2, h3, ⟨⟨u, e1, e2, e3⟩, e4⟩, h5⟩ := h p e ha hc hk s m args below hf happ hP hK
  exact ⟨n, o, h1, h2, h3, ⟨⟨u, e1, hw u e2, e3⟩, e4⟩, h5⟩
set_option maxHeartbeats 4000000 in
set_option maxRecDepth 100000 in
theorem c_AL_fastRemove (l : Launch) (E : Nat) (D : va_G) (cI cO cZ : ClassId) (z0 : Nat) (M : gM) {a t n j ci : Nat} {k : Int32} {f : Nat → Option Nat} {r : vw_C} (ha : M a = some (.inr (1, [.int k, .ref t, .int (nI (n + 1))]))) (ht : M t = some (.inl (cO, 10, .inr (.inr (.inr (.inr f)))))) (hj : j ≤ n) (h10 : n < 10) (hc : classes[ci]? = some r) (hca : Cond.castable r.1 "java/lang/Object" ∈ lw_tbl) (hel : ∀ p, p ≤ n → ∀ y, f p = some y → ∃ fs, M y = some (.inr (ci, fs))) : Met l y_AL_fastRemove (Cond.code y_AL_fastRemove b_AL_fastRemove 4 none :: gT) ({ frames := 1, cells := 0, slots := 0, locals := 60 }) (gw_Pc E D cI cO cZ z0 M [.ref a, .ref t, .int (nI j)]) (gw_Qv E D (fun M' => ∃ f' : Nat → Option Nat, M' t = some (.inl (cO, 10, .inr (.inr (.inr (.inr f'))))) ∧ (∀ p, p < n → f' p = if p < j then f p else f (p + 1)) ∧ M' a = some (.inr (1, [.int (k + 1), .ref t, .int (nI n)])) ∧ ∀ b, b ≠ a → b ≠ t → M' b = M b)) 0 0 (gw_A E) := by
  refine gw_ofW (cc := b_AL_fastRemove) (maxL := 4) (ret := none) (by decide) rfl (Nat.le_of_ble_eq_true rfl) ?_
  intro p e s m args below meth c hx hb hr hml hts hown hlk hnm hF hG ls hl
  have hT : ∀ w ∈ gT, w.before args s = true := fun w h => hts w (List.mem_cons_of_mem _ h)
  have hK := hF.1
  have hl : lv_has ls 4 [(0, .ref a), (1, .ref t), (2, .int (nI j))] := hl
  have hta : t ≠ a := gw_neA ht ha
  refine lv_aload_n hx hb d_AL_fastRemove_0 rfl (lv_at hl 0 rfl) ?_
  refine lv_dup hx hb d_AL_fastRemove_1 rfl ?_
  refine gw_get hx hb hT i_List hown hK hG ha rfl 0 (by decide) (hT _ wm_74) (fun x h => u_same (hT _ wm_75) x h) rfl d_AL_fastRemove_2 ?_
  refine lv_iconst (v := 1) hx hb d_AL_fastRemove_5 (by decide) ?_
  refine lv_iadd hx hb d_AL_fastRemove_6 ?_
  refine gw_put (v := .int (k + 1)) hx hb hT i_List t_List t_List_ok n_List hown hK hG ha rfl 0 (by decide) (hT _ wm_74) (fun x h => u_same (hT _ wm_75) x h) rfl rfl rfl (Nat.le_of_ble_eq_true rfl) d_AL_fastRemove_7 (fun H locs hG => ?_)
  obtain ⟨M1, e_M1⟩ : ∃ Y_ : gM, Y_ = gw_up M a (.inr (1, [.int (k + 1), .ref t, .int (nI (n + 1))])) := ⟨_, rfl⟩
  replace hG := gw_nm e_M1 hG
  have hM1_t := (congrFun e_M1 t).trans ((gw_miss (gw_neA ht ha)).trans ht)
  have hM1_a := (congrFun e_M1 a).trans gw_hit
  refine lv_aload_n hx hb d_AL_fastRemove_10 rfl (lv_at hl 0 rfl) ?_
  refine gw_get hx hb hT i_List hown hK hG hM1_a rfl 2 (by decide) (hT _ wm_72) (fun _ h => h) rfl d_AL_fastRemove_11 ?_
  refine lv_iconst (v := 1) hx hb d_AL_fastRemove_14 (by decide) ?_
  refine lv_isub hx hb d_AL_fastRemove_15 ?_
  rw [show nI (n + 1) - 1 = (nI n) from nI_pred n]
  refine lv_dup hx hb d_AL_fastRemove_16 rfl ?_
  refine lv_istore_n (lv' := [(3, .int (nI n)), (0, .ref a), (1, .ref t), (2, .int (nI j))]) hx hb d_AL_fastRemove_17 rfl hl (by decide) rfl (fun ls hl => ?_)
  refine lv_iload_n hx hb d_AL_fastRemove_18 rfl (lv_at hl 3 rfl) ?_
  refine lv_icmp_le (tgt := 34) hx hb d_AL_fastRemove_19 (by decide) (fun c_19 => ?_) (fun c_19 => ?_)
  · skip
    have hjn : j = n := by have := mt (fun h => nI_ge (a := j) (b := n) h (by omega)) (fun z => z c_19); omega
    refine lv_aload_n hx hb d_AL_fastRemove_34 rfl (lv_at hl 2 rfl) ?_
    refine lv_aload_n hx hb d_AL_fastRemove_35 rfl (lv_at hl 1 rfl) ?_
    refine lv_iload_n hx hb d_AL_fastRemove_36 rfl (lv_at hl 0 rfl) ?_
    refine lv_dup_x1 hx hb d_AL_fastRemove_37 rfl rfl ?_
    refine gw_put (v := .int (nI n)) hx hb hT i_List t_List t_List_ok n_List hown hK hG hM1_a rfl 2 (by decide) (hT _ wm_72) (fun _ h => h) rfl rfl rfl (Nat.le_of_ble_eq_true rfl) d_AL_fastRemove_38 (fun H locs hG => ?_)
    obtain ⟨M2, e_M2⟩ : ∃ Y_ : gM, Y_ = gw_up M1 a (.inr (1, [.int (k + 1), .ref t, .int (nI n)])) := ⟨_, rfl⟩
    replace hG := gw_nm e_M2 hG
    have hM2_t := (congrFun e_M2 t).trans ((gw_miss (gw_neA hM1_t hM1_a)).trans hM1_t)
    have hM2_a := (congrFun e_M2 a).trans gw_hit
    refine lv_null hx hb d_AL_fastRemove_41 ?_
    refine gw_astqN hx hb hK hG hM2_t (vp_in_nI (by omega) (by decide)) d_AL_fastRemove_42 (fun H locs hG => ?_)
    obtain ⟨M3, e_M3⟩ : ∃ Y_ : gM, Y_ = gw_up M2 t (.inl (cO, 10, .inr (.inr (.inr (.inr (va_up f (nI n).toNatClampNeg none)))))) := ⟨_, rfl⟩
    replace hG := gw_nm e_M3 hG
    refine gw_vret hx hb hr hlk hG ⟨_, (by rw [e_M3]; exact gw_hit), fun p hp => ?_, (by rw [e_M3, gw_miss hta.symm]; exact hM2_a), fun b h1 h2 => ?_⟩ (Nat.le_of_ble_eq_true rfl) (Nat.le_of_ble_eq_true rfl) d_AL_fastRemove_43
    · rw [nI_clamp (n := n) (by omega)]
      unfold va_up
      rw [if_neg (by omega)]
      rw [if_pos (by omega)]
    · rw [e_M3, gw_miss h2, e_M2, gw_miss h1, e_M1, gw_miss h1]
  · skip
    have hjn : j < n := by have := mt (fun h => nI_le (a := n) (b := j) h (by omega)) c_19; omega
    refine lv_aload_n hx hb d_AL_fastRemove_22 rfl (lv_at hl 2 rfl) ?_
    refine lv_iload_n hx hb d_AL_fastRemove_23 rfl (lv_at hl 3 rfl) ?_
    refine lv_iconst (v := 1) hx hb d_AL_fastRemove_24 (by decide) ?_
    refine lv_iadd hx hb d_AL_fastRemove_25 ?_
    rw [show nI j + 1 = (nI (j + 1)) from (nI_succ j).symm]
    refine lv_aload_n hx hb d_AL_fastRemove_26 rfl (lv_at hl 2 rfl) ?_
    refine lv_iload_n hx hb d_AL_fastRemove_27 rfl (lv_at hl 3 rfl) ?_
    refine lv_iload_n hx hb d_AL_fastRemove_28 rfl (lv_at hl 0 rfl) ?_
    refine lv_iload_n hx hb d_AL_fastRemove_29 rfl (lv_at hl 3 rfl) ?_
    refine lv_isub hx hb d_AL_fastRemove_30 ?_
    rw [show nI n - nI j = (nI (n - j)) from pk_sub hj]
    refine gw_copyq hx hb (hml.trans hl.1.symm) hown (hT _ wm_605) (hT _ wm_233) (hT _ wm_232) (hT _ wm_34) hF hG hM1_t hc (gW_m hF.2.2.2.2.2.2 hca rfl) (nI_pos (by omega)) (nI_pos (by omega)) (nI_pos (by omega)) (by rw [nI_clamp (by omega), nI_clamp (by omega)]; omega) (by rw [nI_clamp (by omega), nI_clamp (by omega)]; omega) ?_ (Nat.le_of_ble_eq_true rfl) (by decide) d_AL_fastRemove_31 (fun H locs hG => ?_)
    · rw [nI_clamp (by omega), nI_clamp (by omega)]
      intro i hi y hy
      obtain ⟨fs, hfs⟩ := hel (j + 1 + i) (by omega) y hy
      by_cases hya : y = a
      · subst hya; exact ⟨_, by rw [hM1_a]; rw [ha] at hfs; have e := Option.some.inj hfs; injection e with e; injection e with e1 e2; subst e1; rfl⟩
      · exact ⟨fs, by rw [e_M1, gw_miss hya]; exact hfs⟩
    obtain ⟨M4, e_M4⟩ : ∃ Y_ : gM, Y_ = gw_up M1 t (.inl (cO, 10, .inr (.inr (.inr (.inr (va_cpy f f (nI (j + 1)).toNatClampNeg (nI j).toNatClampNeg (nI (n - j)).toNatClampNeg)))))) := ⟨_, rfl⟩
    replace hG := gw_nm e_M4 hG
    have hM4_a := (congrFun e_M4 a).trans ((gw_miss (gw_neA hM1_t hM1_a).symm).trans hM1_a)
    have hM4_t := (congrFun e_M4 t).trans gw_hit
    refine lv_aload_n hx hb d_AL_fastRemove_34 rfl (lv_at hl 2 rfl) ?_
    refine lv_aload_n hx hb d_AL_fastRemove_35 rfl (lv_at hl 1 rfl) ?_
    refine lv_iload_n hx hb d_AL_fastRemove_36 rfl (lv_at hl 0 rfl) ?_
    refine lv_dup_x1 hx hb d_AL_fastRemove_37 rfl rfl ?_
    refine gw_put (v := .int (nI n)) hx hb hT i_List t_List t_List_ok n_List hown hK hG hM4_a rfl 2 (by decide) (hT _ wm_72) (fun _ h => h) rfl rfl rfl (Nat.le_of_ble_eq_true rfl) d_AL_fastRemove_38 (fun H locs hG => ?_)
    obtain ⟨M5, e_M5⟩ : ∃ Y_ : gM, Y_ = gw_up M4 a (.inr (1, [.int (k + 1), .ref t, .int (nI n)])) := ⟨_, rfl⟩
    replace hG := gw_nm e_M5 hG
    have hM5_t := (congrFun e_M5 t).trans ((gw_miss (gw_neA hM4_t hM4_a)).trans hM4_t)
    have hM5_a := (congrFun e_M5 a).trans gw_hit
    refine lv_null hx hb d_AL_fastRemove_41 ?_
    refine gw_astqN hx hb hK hG hM5_t (vp_in_nI (by omega) (by decide)) d_AL_fastRemove_42 (fun H locs hG => ?_)
    obtain ⟨M6, e_M6⟩ : ∃ Y_ : gM, Y_ = gw_up M5 t (.inl (cO, 10, .inr (.inr (.inr (.inr (va_up (va_cpy f f (nI (j + 1)).toNatClampNeg (nI j).toNatClampNeg (nI (n - j)).toNatClampNeg) (nI n).toNatClampNeg none)))))) := ⟨_, rfl⟩
    replace hG := gw_nm e_M6 hG
    refine gw_vret hx hb hr hlk hG ⟨_, (by rw [e_M6]; exact gw_hit), fun p hp => ?_, (by rw [e_M6, gw_miss hta.symm]; exact hM5_a), fun b h1 h2 => ?_⟩ (Nat.le_of_ble_eq_true rfl) (Nat.le_of_ble_eq_true rfl) d_AL_fastRemove_43
    · rw [nI_clamp (n := n) (by omega)]
      unfold va_up
      rw [if_neg (by omega)]
      rw [nI_clamp (n := j + 1) (by omega), nI_clamp (n := j) (by omega), nI_clamp (n := n - j) (by omega)]
      unfold va_cpy
      by_cases hpj : p < j
      · rw [if_pos hpj, if_neg (by omega)]
      · rw [if_neg hpj, if_pos (by omega)]; congr 1; omega
    · rw [e_M6, gw_miss h2, e_M5, gw_miss h1, e_M4, gw_miss h2, e_M1, gw_miss h1]
set_option maxHeartbeats 4000000 in
set_option maxRecDepth 100000 in
theorem c_AL_remove (l : Launch) (E : Nat) (D : va_G) (cI cO cZ : ClassId) (z0 : Nat) (M : gM) {a t n j ci : Nat} {k : Int32} {f : Nat → Option Nat} {r : vw_C} (ha : M a = some (.inr (1, [.int k, .ref t, .int (nI (n + 1))]))) (ht : M t = some (.inl (cO, 10, .inr (.inr (.inr (.inr f)))))) (hj : j ≤ n) (h10 : n < 10) (hc : classes[ci]? = some r) (hca : Cond.castable r.1 "java/lang/Object" ∈ lw_tbl) (hel : ∀ p, p ≤ n → ∀ y, f p = some y → ∃ fs, M y = some (.inr (ci, fs))) {q : Nat} (hq : f j = some q) : Met l y_AL_remove (Cond.code y_AL_remove b_AL_remove 4 (some (.object "java/lang/Object")) :: gT) ({ frames := 2, cells := 0, slots := 0, locals := 83 }) (gw_Pc E D cI cO cZ z0 M [.ref a, .int (nI j)]) (gw_Qq E D (fun r M' => r = some q ∧ ∃ f' : Nat → Option Nat, M' t = some (.inl (cO, 10, .inr (.inr (.inr (.inr f'))))) ∧ (∀ p, p < n → f' p = if p < j then f p else f (p + 1)) ∧ M' a = some (.inr (1, [.int (k + 1), .ref t, .int (nI n)])) ∧ ∀ b, b ≠ a → b ≠ t → M' b = M b)) 0 0 (gw_A E) := by
  refine gw_ofW (cc := b_AL_remove) (maxL := 4) (ret := (some (.object "java/lang/Object"))) (by decide) rfl (Nat.le_of_ble_eq_true rfl) ?_
  intro p e s m args below meth c hx hb hr hml hts hown hlk hnm hF hG ls hl
  have hT : ∀ w ∈ gT, w.before args s = true := fun w h => hts w (List.mem_cons_of_mem _ h)
  have hK := hF.1
  have hl : lv_has ls 4 [(0, .ref a), (1, .int (nI j))] := hl
  refine lv_iload_n hx hb d_AL_remove_0 rfl (lv_at hl 1 rfl) ?_
  refine lv_aload_n hx hb d_AL_remove_1 rfl (lv_at hl 0 rfl) ?_
  refine gw_get hx hb hT i_List hown hK hG ha rfl 2 (by decide) (hT _ wm_72) (fun _ h => h) rfl d_AL_remove_2 ?_
  refine gw_calli (gw_runS (As := [.int (nI j), .int (nI (n + 1))]) (rest := []) ⟨hx, hb, hml, hown, hts⟩ (c_Objects_checkIndex l E D cI cO cZ z0 M (nI_pos (by omega)) (nI_lt (Nat.lt_succ_of_le hj) (by omega))) (gw_cwS 2 hts (gT_gi wm_365) rfl rfl rfl (hT _ wm_44) (hT _ wm_363) (hT _ wm_364) (by decide +kernel) ⟨Nat.le_of_ble_eq_true rfl, Nat.le_of_ble_eq_true rfl⟩) hF hG rfl hl.1 rfl (Nat.le_of_ble_eq_true rfl) d_AL_remove_5 ⟨Nat.le_of_ble_eq_true rfl, Nat.le_of_ble_eq_true rfl⟩) hG (fun r M1 H locs hp hG => ?_)
  rw [hp.1]
  replace hG := gw_nm hp.2.symm hG
  refine lv_pop hx hb d_AL_remove_8 rfl ?_
  refine lv_aload_n hx hb d_AL_remove_9 rfl (lv_at hl 0 rfl) ?_
  refine gw_get hx hb hT i_List hown hK hG ha rfl 1 (by decide) (hT _ wm_71) (fun _ h => h) rfl d_AL_remove_10 ?_
  refine lv_astore_n (lv' := [(2, .ref t), (0, .ref a), (1, .int (nI j))]) hx hb d_AL_remove_13 rfl hl (by decide) rfl (fun ls hl => ?_)
  refine lv_aload_n hx hb d_AL_remove_14 rfl (lv_at hl 0 rfl) ?_
  refine lv_iload_n hx hb d_AL_remove_15 rfl (lv_at hl 2 rfl) ?_
  refine gw_aldq hx hb hK hG ht (vp_in_nI (by omega) (by decide)) d_AL_remove_16 ?_
  rw [nI_clamp (by omega), hq]
  refine lv_astore_n (lv' := [(3, .ref q), (2, .ref t), (0, .ref a), (1, .int (nI j))]) hx hb d_AL_remove_17 rfl hl (by decide) rfl (fun ls hl => ?_)
  refine lv_aload_n hx hb d_AL_remove_18 rfl (lv_at hl 2 rfl) ?_
  refine lv_aload_n hx hb d_AL_remove_19 rfl (lv_at hl 1 rfl) ?_
  refine lv_iload_n hx hb d_AL_remove_20 rfl (lv_at hl 3 rfl) ?_
  refine gw_callv (gw_runV (As := [.ref t, .int (nI j)]) (rest := []) ⟨hx, hb, hml, hown, hts⟩ (c_AL_fastRemove l E D cI cO cZ z0 M ha ht hj h10 hc hca hel) (gw_cwV 2 hts (gT_gi wm_604) rfl rfl rfl (hT _ wm_26) (hT _ wm_601) (hT _ wm_603) (hT _ wm_11) (by decide +kernel) ⟨Nat.le_of_ble_eq_true rfl, Nat.le_of_ble_eq_true rfl⟩) hF hG rfl ha rfl hl.1 rfl (Nat.le_of_ble_eq_true rfl) d_AL_remove_21 ⟨Nat.le_of_ble_eq_true rfl, Nat.le_of_ble_eq_true rfl⟩) hG (fun M2 H locs hp hG => ?_)
  refine lv_aload_n hx hb d_AL_remove_24 rfl (lv_at hl 0 rfl) ?_
  exact gw_aret hx hb hr (Or.inl ⟨_, rfl⟩) hlk hG (⟨rfl, hp⟩) (Nat.le_of_ble_eq_true rfl) (Nat.le_of_ble_eq_true rfl) d_AL_remove_25
theorem c_L_remove (l : Launch) (E : Nat) (D : va_G) (cI cO cZ : ClassId) (z0 : Nat) (M : gM) {a t n j ci : Nat} {g : Nat → Nat} {r : vw_C} (hL : gw_L z0 cO M a t (n + 1) g) (hj : j ≤ n) (hc : classes[ci]? = some r) (hca : Cond.castable r.1 "java/lang/Object" ∈ lw_tbl) (hel : ∀ p, p ≤ n → ∃ fs, M (g p) = some (.inr (ci, fs))) : Met l y_AL_remove (Cond.code y_AL_remove b_AL_remove 4 (some (.object "java/lang/Object")) :: gT) ({ frames := 2, cells := 0, slots := 0, locals := 83 }) (gw_Pc E D cI cO cZ z0 M [.ref a, .int (nI j)]) (gw_Qq E D (fun r M' => r = some (g j) ∧ gw_L z0 cO M' a t n (fun p => if p < j then g p else g (p + 1)) ∧ ∀ b, b ≠ a → b ≠ t → M' b = M b)) 0 0 (gw_A E) := by
  obtain ⟨k, ha, h10, hf⟩ := hL
  rcases hf with ⟨h0, -⟩ | ⟨f, ht, hfp⟩
  · omega
  · refine gw_weakQ (c_AL_remove l E D cI cO cZ z0 M ha ht hj (by omega) hc hca (fun p hp y hy => by rw [hfp p (by omega)] at hy; cases hy; exact hel p hp) (hfp j (by omega))) ?_
    rintro r M' ⟨h1, f', h2, h3, h4, h5⟩
    refine ⟨h1, ⟨k + 1, h4, by omega, Or.inr ⟨f', h2, fun p hp => ?_⟩⟩, h5⟩
    rw [h3 p hp]
    show _ = some (if p < j then g p else g (p + 1))
    by_cases hpj : p < j
    · rw [if_pos hpj, if_pos hpj]; exact hfp p (by omega)
    · rw [if_neg hpj, if_neg hpj]; exact hfp (p + 1) (by omega)
end
section
theorem d_Gang_init_0 : decode b_Gang_init 0 = .ok (.aload_n 0, 1) := by decide +kernel
theorem wm_88 : Cond.methodLink "ThresholdRow$Gang" 3 ⟨"java/lang/Object", "<init>", "()V"⟩ ∈ gT := gT_m (List.mem_of_getElem? (i := 88) (by decide +kernel)) (by decide +kernel)
theorem d_Gang_init_1 : decode b_Gang_init 1 = .ok (.invokespecial 3, 3) := by decide +kernel
theorem d_Gang_init_4 : decode b_Gang_init 4 = .ok (.aload_n 0, 1) := by decide +kernel
theorem wm_89 : Cond.classLink "ThresholdRow$Gang" 9 "java/util/ArrayList" ∈ gT := gT_m (List.mem_of_getElem? (i := 89) (by decide +kernel)) (by decide +kernel)
theorem wm_58 : Cond.instantiable "java/util/ArrayList" 3 ∈ gT := gT_m (List.mem_of_getElem? (i := 58) (by decide +kernel)) (by decide +kernel)
theorem d_Gang_init_5 : decode b_Gang_init 5 = .ok (.new 9, 3) := by decide +kernel
theorem d_Gang_init_8 : decode b_Gang_init 8 = .ok (.dup, 1) := by decide +kernel
theorem wm_61 : Cond.code ⟨"java/util/ArrayList", "<init>", "()V"⟩ prog_30_method_2_code 1 none ∈ gT := gT_m (List.mem_of_getElem? (i := 61) (by decide +kernel)) (by decide +kernel)
theorem wm_90 : Cond.methodLink "ThresholdRow$Gang" 11 ⟨"java/util/ArrayList", "<init>", "()V"⟩ ∈ gT := gT_m (List.mem_of_getElem? (i := 90) (by decide +kernel)) (by decide +kernel)
theorem d_Gang_init_9 : decode b_Gang_init 9 = .ok (.invokespecial 11, 3) := by decide +kernel
theorem wm_60 : Cond.instanceMethod ⟨"java/util/ArrayList", "<init>", "()V"⟩ ∈ gT := gT_m (List.mem_of_getElem? (i := 60) (by decide +kernel)) (by decide +kernel)
theorem wm_91 : Cond.fieldLink "ThresholdRow$Gang" 12 "ThresholdRow$Gang" "order" "Ljava/util/ArrayList;" ∈ gT := gT_m (List.mem_of_getElem? (i := 91) (by decide +kernel)) (by decide +kernel)
theorem d_Gang_init_12 : decode b_Gang_init 12 = .ok (.putfield 12, 3) := by decide +kernel
theorem d_Gang_init_15 : decode b_Gang_init 15 = .ok (.return_, 1) := by decide +kernel
theorem d_Gang_count_0 : decode b_Gang_count 0 = .ok (.aload_n 0, 1) := by decide +kernel
theorem d_Gang_count_1 : decode b_Gang_count 1 = .ok (.getfield 12, 3) := by decide +kernel
theorem wm_286 : Cond.code ⟨"java/util/ArrayList", "size", "()I"⟩ prog_30_method_8_code 1 (some .int) ∈ gT := gT_m (List.mem_of_getElem? (i := 286) (by decide +kernel)) (by decide +kernel)
theorem wm_411 : Cond.methodLink "ThresholdRow$Gang" 18 ⟨"java/util/ArrayList", "size", "()I"⟩ ∈ gT := gT_m (List.mem_of_getElem? (i := 411) (by decide +kernel)) (by decide +kernel)
theorem d_Gang_count_4 : decode b_Gang_count 4 = .ok (.invokevirtual 18, 3) := by decide +kernel
theorem wm_284 : Cond.instanceMethod ⟨"java/util/ArrayList", "size", "()I"⟩ ∈ gT := gT_m (List.mem_of_getElem? (i := 284) (by decide +kernel)) (by decide +kernel)
theorem wm_285 : Cond.selects "java/util/ArrayList" ⟨"java/util/ArrayList", "size", "()I"⟩ ⟨"java/util/ArrayList", "size", "()I"⟩ ∈ gT := gT_m (List.mem_of_getElem? (i := 285) (by decide +kernel)) (by decide +kernel)
theorem d_Gang_count_7 : decode b_Gang_count 7 = .ok (.ireturn, 1) := by decide +kernel
theorem d_Gang_placeFor_0 : decode b_Gang_placeFor 0 = .ok (.iconst 0, 1) := by decide +kernel
theorem d_Gang_placeFor_1 : decode b_Gang_placeFor 1 = .ok (.istore_n 2, 1) := by decide +kernel
theorem d_Gang_placeFor_2 : decode b_Gang_placeFor 2 = .ok (.iload_n 2, 1) := by decide +kernel
theorem d_Gang_placeFor_3 : decode b_Gang_placeFor 3 = .ok (.aload_n 0, 1) := by decide +kernel
theorem d_Gang_placeFor_4 : decode b_Gang_placeFor 4 = .ok (.getfield 12, 3) := by decide +kernel
theorem d_Gang_placeFor_7 : decode b_Gang_placeFor 7 = .ok (.invokevirtual 18, 3) := by decide +kernel
theorem d_Gang_placeFor_10 : decode b_Gang_placeFor 10 = .ok (.if_icmp .ge 23, 3) := by decide +kernel
theorem d_Gang_placeFor_33 : decode b_Gang_placeFor 33 = .ok (.iconst (-1), 1) := by decide +kernel
theorem d_Gang_placeFor_34 : decode b_Gang_placeFor 34 = .ok (.ireturn, 1) := by decide +kernel
theorem d_Gang_placeFor_13 : decode b_Gang_placeFor 13 = .ok (.aload_n 0, 1) := by decide +kernel
theorem d_Gang_placeFor_14 : decode b_Gang_placeFor 14 = .ok (.getfield 12, 3) := by decide +kernel
theorem d_Gang_placeFor_17 : decode b_Gang_placeFor 17 = .ok (.iload_n 2, 1) := by decide +kernel
theorem wm_362 : Cond.code ⟨"java/util/ArrayList", "get", "(I)Ljava/lang/Object;"⟩ prog_30_method_20_code 2 (some (.object "java/lang/Object")) ∈ gT := gT_m (List.mem_of_getElem? (i := 362) (by decide +kernel)) (by decide +kernel)
theorem wm_412 : Cond.methodLink "ThresholdRow$Gang" 22 ⟨"java/util/ArrayList", "get", "(I)Ljava/lang/Object;"⟩ ∈ gT := gT_m (List.mem_of_getElem? (i := 412) (by decide +kernel)) (by decide +kernel)
theorem d_Gang_placeFor_18 : decode b_Gang_placeFor 18 = .ok (.invokevirtual 22, 3) := by decide +kernel
theorem wm_360 : Cond.instanceMethod ⟨"java/util/ArrayList", "get", "(I)Ljava/lang/Object;"⟩ ∈ gT := gT_m (List.mem_of_getElem? (i := 360) (by decide +kernel)) (by decide +kernel)
theorem wm_361 : Cond.selects "java/util/ArrayList" ⟨"java/util/ArrayList", "get", "(I)Ljava/lang/Object;"⟩ ⟨"java/util/ArrayList", "get", "(I)Ljava/lang/Object;"⟩ ∈ gT := gT_m (List.mem_of_getElem? (i := 361) (by decide +kernel)) (by decide +kernel)
theorem d_Gang_placeFor_21 : decode b_Gang_placeFor 21 = .ok (.aload_n 1, 1) := by decide +kernel
theorem d_Gang_placeFor_22 : decode b_Gang_placeFor 22 = .ok (.if_acmp .ne 5, 3) := by decide +kernel
theorem d_Gang_placeFor_27 : decode b_Gang_placeFor 27 = .ok (.iinc 2 1, 3) := by decide +kernel
theorem d_Gang_placeFor_30 : decode b_Gang_placeFor 30 = .ok (.goto (-28), 3) := by decide +kernel
theorem d_Gang_placeFor_25 : decode b_Gang_placeFor 25 = .ok (.iload_n 2, 1) := by decide +kernel
theorem d_Gang_placeFor_26 : decode b_Gang_placeFor 26 = .ok (.ireturn, 1) := by decide +kernel
/-- the gang: its object, its list, its hands' values by their places -/
def gw_Gg (z0 : Nat) (cO : ClassId) (M : gM) (gg gl gt n : Nat) (g : Nat → Nat) (v : Nat → gH) : Prop := M gg = some (.inr (2, [.ref gl])) ∧ gw_L z0 cO M gl gt n g ∧ (∀ p, p < n → M (g p) = some (gw_hd (v p))) ∧ ∀ p q, p < n → q < n → g p = g q → p = q
/-- only the hands have changed -/
def gw_ch (M M' : gM) (n : Nat) (g : Nat → Nat) (v' : Nat → gH) : Prop := (∀ b, (∀ p, p < n → b ≠ g p) → M' b = M b) ∧ ∀ p, p < n → M' (g p) = some (gw_hd (v' p))
theorem gw_ch.obj {M M' : gM} {n : Nat} {g : Nat → Nat} {v v' : Nat → gH} (hh : ∀ p, p < n → M (g p) = some (gw_hd (v p))) (h : gw_ch M M' n g v') {b i : Nat} {fs : List Value} (hb : M b = some (.inr (i, fs))) (hi : i ≠ 6) : M' b = M b := h.1 b (fun p hp => gw_neO hb (hh p hp) hi)
theorem gw_ch.arr {M M' : gM} {n : Nat} {g : Nat → Nat} {v v' : Nat → gH} (hh : ∀ p, p < n → M (g p) = some (gw_hd (v p))) (h : gw_ch M M' n g v') {b : Nat} {x : ClassId × vp_A} (hb : M b = some (.inl x)) : M' b = M b := h.1 b (fun p hp => gw_neA hb (hh p hp))
theorem gw_ch.L {M M' : gM} {n : Nat} {g : Nat → Nat} {v v' : Nat → gH} (hh : ∀ p, p < n → M (g p) = some (gw_hd (v p))) (h : gw_ch M M' n g v') {z0 a t k : Nat} {cO : ClassId} {f : Nat → Nat} (hL : gw_L z0 cO M a t k f) : gw_L z0 cO M' a t k f := by
  have hL2 := hL
  obtain ⟨k, ha, -⟩ := hL2
  exact hL.kept (h.obj hh ha (by decide)) (fun f hf => h.arr hh hf)
theorem gw_Gg.ch {z0 : Nat} {cO : ClassId} {M M' : gM} {gg gl gt n : Nat} {g : Nat → Nat} {v v' : Nat → gH} (h : gw_Gg z0 cO M gg gl gt n g v) (hc : gw_ch M M' n g v') : gw_Gg z0 cO M' gg gl gt n g v' :=
  ⟨(hc.obj h.2.2.1 h.1 (by decide)).trans h.1, hc.L h.2.2.1 h.2.1, hc.2, h.2.2.2⟩
theorem gw_ch.trans {M M1 M2 : gM} {n : Nat} {g : Nat → Nat} {v1 v2 : Nat → gH} (h1 : gw_ch M M1 n g v1) (h2 : gw_ch M1 M2 n g v2) : gw_ch M M2 n g v2 := ⟨fun b hb => (h2.1 b hb).trans (h1.1 b hb), h2.2⟩
theorem gw_ch.to {M M1 : gM} {n : Nat} {g : Nat → Nat} {v1 v2 : Nat → gH} (h1 : gw_ch M M1 n g v1) (h2 : ∀ p, p < n → v1 p = v2 p) : gw_ch M M1 n g v2 := ⟨h1.1, fun p hp => by rw [← h2 p hp]; exact h1.2 p hp⟩
theorem gw_ch.refl {M : gM} {n : Nat} {g : Nat → Nat} {v : Nat → gH} (hh : ∀ p, p < n → M (g p) = some (gw_hd (v p))) : gw_ch M M n g v := ⟨fun _ _ => rfl, hh⟩
theorem gw_ch.one {M X : gM} {n : Nat} {g : Nat → Nat} {v : Nat → gH} {i : Nat} {u : gH} (hd : ∀ p q, p < n → q < n → g p = g q → p = q) (hi : i < n) (h : gw_ch M X n g v) : gw_ch M (gw_up X (g i) (gw_hd u)) n g (fun p => if p = i then u else v p) := by
  refine ⟨fun b hb => ?_, fun p hp => ?_⟩
  · rw [gw_miss (hb i hi)]; exact h.1 b hb
  · by_cases hpi : p = i
    · subst hpi
      rw [gw_hit]
      show _ = some (gw_hd (if p = p then u else v p))
      rw [if_pos rfl]
    · rw [gw_miss (fun z => hpi (hd p i hp hi z))]
      show _ = some (gw_hd (if p = i then u else v p))
      rw [if_neg hpi]
      exact h.2 p hp
theorem gw_ch.step {M X : gM} {n : Nat} {g : Nat → Nat} {v w : Nat → gH} {i : Nat} (hd : ∀ p q, p < n → q < n → g p = g q → p = q) (hi : i < n) (h : gw_ch M X n g (fun p => if p < i then w p else v p)) : gw_ch M (gw_up X (g i) (gw_hd (w i))) n g (fun p => if p < i + 1 then w p else v p) := by
  refine (h.one (u := w i) hd hi).to (fun p _ => ?_)
  show (if p = i then w i else if p < i then w p else v p) = if p < i + 1 then w p else v p
  by_cases h1 : p = i
  · subst h1; rw [if_pos rfl, if_pos (Nat.lt_succ_self p)]
  · rw [if_neg h1]
    by_cases h2 : p < i
    · rw [if_pos h2, if_pos (by omega)]
    · rw [if_neg h2, if_neg (by omega)]
theorem gw_ch.at {M X : gM} {n : Nat} {g : Nat → Nat} {v w : Nat → gH} {i : Nat} (hi : i < n) (h : gw_ch M X n g (fun p => if p < i then w p else v p)) : X (g i) = some (gw_hd (v i)) := (h.2 i hi).trans (by
  show some (gw_hd (if i < i then w i else v i)) = _
  rw [if_neg (Nat.lt_irrefl i)])
theorem gw_ch.zero {M : gM} {n : Nat} {g : Nat → Nat} {v w : Nat → gH} (hh : ∀ p, p < n → M (g p) = some (gw_hd (v p))) : gw_ch M M n g (fun p => if p < 0 then w p else v p) := (gw_ch.refl hh).to (fun p _ => (if_neg (Nat.not_lt_zero p)).symm)
theorem gw_ch.all {M X : gM} {n : Nat} {g : Nat → Nat} {v w : Nat → gH} (h : gw_ch M X n g (fun p => if p < n then w p else v p)) : gw_ch M X n g w := h.to (fun _ hp => if_pos hp)
set_option maxHeartbeats 4000000 in
set_option maxRecDepth 100000 in
theorem c_Gang_init (l : Launch) (E : Nat) (D : va_G) (cI cO cZ : ClassId) (z0 : Nat) (M : gM) {a : Nat} (ha : M a = some (.inr (2, [.null]))) : Met l y_Gang_init (Cond.code y_Gang_init b_Gang_init 1 none :: gT) ({ frames := 4, cells := 1, slots := 3, locals := 72 }) (gw_Pc E D cI cO cZ z0 M [.ref a]) (gw_Qv E D (fun M' => ∃ q : Nat, M q = none ∧ M' = gw_up (gw_up M q (.inr (1, [.int 0, .ref z0, .int 0]))) a (.inr (2, [.ref q])))) 1 3 (gw_A E) := by
  refine gw_ofW (cc := b_Gang_init) (maxL := 1) (ret := none) (by decide) rfl (Nat.le_of_ble_eq_true rfl) ?_
  intro p e s m args below meth c hx hb hr hml hts hown hlk hnm hF hG ls hl
  have hT : ∀ w ∈ gT, w.before args s = true := fun w h => hts w (List.mem_cons_of_mem _ h)
  have hK := hF.1
  have hl : lv_has ls 1 [(0, .ref a)] := hl
  refine lv_aload_n hx hb d_Gang_init_0 rfl (lv_at hl 0 rfl) ?_
  refine gw_objI hx hb hown (hml.trans hl.1.symm) (hT _ wm_88) (hT _ wm_55) (hT _ wm_56) (Nat.le_of_ble_eq_true rfl) (Nat.le_of_ble_eq_true rfl) d_Gang_init_1 ?_
  refine lv_aload_n hx hb d_Gang_init_4 rfl (lv_at hl 0 rfl) ?_
  refine gw_new (fs := [.int 0, .null, .int 0]) (C := R_List) (T := F_List) (N := 3) (ci := 1) hx hb hT i_List t_List t_List_ok hown (hT _ wm_89) (hT _ wm_58) (hT _ wm_26) hK hF.2.1 hG rfl (fun j hj => by rcases (show j = 0 ∨ j = 1 ∨ j = 2 by omega) with rfl | rfl | rfl <;> rfl) (Nat.le_of_ble_eq_true rfl) (Nat.le_of_ble_eq_true rfl) d_Gang_init_5 (fun q H hq hG => ?_)
  have haq : a ≠ q := gw_neF hq ha
  obtain ⟨M1, e_M1⟩ : ∃ Y_ : gM, Y_ = gw_up M q (.inr (1, [.int 0, .null, .int 0])) := ⟨_, rfl⟩
  replace hG := gw_nm e_M1 hG
  have hM1_a := (congrFun e_M1 a).trans ((gw_miss haq).trans ha)
  have hM1_q := (congrFun e_M1 q).trans gw_hit
  refine lv_dup hx hb d_Gang_init_8 rfl ?_
  refine gw_callv (gw_runI (As := []) (rest := [.ref q, .ref a]) ⟨hx, hb, hml, hown, hts⟩ (c_AL_init l E D cI cO cZ z0 M1 hM1_q) (cwI 0 hts (gT_gi wm_61) rfl rfl rfl (hT _ wm_26) (hT _ wm_90) (hT _ wm_60) rfl (by decide +kernel) ⟨Nat.le_of_ble_eq_true rfl, Nat.le_of_ble_eq_true rfl⟩) hF hG rfl hl.1 rfl (Nat.le_of_ble_eq_true rfl) d_Gang_init_9 ⟨Nat.le_of_ble_eq_true rfl, Nat.le_of_ble_eq_true rfl⟩) hG (fun M2 H locs hp hG => ?_)
  have hM2_a := (congrFun hp a).trans ((gw_miss haq).trans hM1_a)
  have hM2_q := (congrFun hp q).trans gw_hit
  refine gw_putF (v := .ref q) hx hb hT i_Gang t_Gang t_Gang_ok n_Gang hown hK hG hM2_a rfl 0 (by decide) (hT _ wm_91) (fun _ h => h) rfl hnm rfl rfl rfl (Nat.le_of_ble_eq_true rfl) d_Gang_init_12 (fun H locs hG => ?_)
  obtain ⟨M3, e_M3⟩ : ∃ Y_ : gM, Y_ = gw_up M2 a (.inr (2, [.ref q])) := ⟨_, rfl⟩
  replace hG := gw_nm e_M3 hG
  have hM3_q := (congrFun e_M3 q).trans ((gw_miss haq.symm).trans hM2_q)
  have hM3_a := (congrFun e_M3 a).trans gw_hit
  exact gw_vret hx hb hr hlk hG (⟨q, hq, by rw [e_M3, hp, e_M1, gw_twice]⟩) (Nat.le_of_ble_eq_true rfl) (Nat.le_of_ble_eq_true rfl) d_Gang_init_15
set_option maxHeartbeats 4000000 in
set_option maxRecDepth 100000 in
theorem c_Gang_count (l : Launch) (E : Nat) (D : va_G) (cI cO cZ : ClassId) (z0 : Nat) (M : gM) {gg gl gt n : Nat} {g : Nat → Nat} {v : Nat → gH} (hg : gw_Gg z0 cO M gg gl gt n g v) : Met l y_Gang_count (Cond.code y_Gang_count b_Gang_count 1 (some .int) :: gT) ({ frames := 1, cells := 0, slots := 0, locals := 20 }) (gw_Pc E D cI cO cZ z0 M [.ref gg]) (gw_Qi E D (fun r M' => r = nI n ∧ M' = M)) 0 0 (gw_A E) := by
  refine gw_ofW (cc := b_Gang_count) (maxL := 1) (ret := (some .int)) (by decide) rfl (Nat.le_of_ble_eq_true rfl) ?_
  intro p e s m args below meth c hx hb hr hml hts hown hlk hnm hF hG ls hl
  have hT : ∀ w ∈ gT, w.before args s = true := fun w h => hts w (List.mem_cons_of_mem _ h)
  have hK := hF.1
  have hl : lv_has ls 1 [(0, .ref gg)] := hl
  obtain ⟨hgg, hL, hh, hd⟩ := id hg
  obtain ⟨k, hgl, h10, -⟩ := id hL
  refine lv_aload_n hx hb d_Gang_count_0 rfl (lv_at hl 0 rfl) ?_
  refine gw_get hx hb hT i_Gang hown hK hG hgg rfl 0 (by decide) (hT _ wm_91) (fun _ h => h) rfl d_Gang_count_1 ?_
  refine gw_calli (gw_runV (As := []) (rest := []) ⟨hx, hb, hml, hown, hts⟩ (c_L_size l E D cI cO cZ z0 M hL) (gw_cwV 0 hts (gT_gi wm_286) rfl rfl rfl (hT _ wm_26) (hT _ wm_411) (hT _ wm_284) (hT _ wm_285) (by decide +kernel) ⟨Nat.le_of_ble_eq_true rfl, Nat.le_of_ble_eq_true rfl⟩) hF hG rfl hgl rfl hl.1 rfl (Nat.le_of_ble_eq_true rfl) d_Gang_count_4 ⟨Nat.le_of_ble_eq_true rfl, Nat.le_of_ble_eq_true rfl⟩) hG (fun r M1 H locs hp hG => ?_)
  rw [hp.1]
  replace hG := gw_nm hp.2.symm hG
  exact gw_iret (v := (nI n)) hx hb hr hlk hG (⟨rfl, rfl⟩) (Nat.le_of_ble_eq_true rfl) (Nat.le_of_ble_eq_true rfl) d_Gang_count_7
set_option maxHeartbeats 4000000 in
set_option maxRecDepth 100000 in
theorem c_Gang_placeFor (l : Launch) (E : Nat) (D : va_G) (cI cO cZ : ClassId) (z0 : Nat) (M : gM) {gg gl gt n : Nat} {g : Nat → Nat} {v : Nat → gH} (hg : gw_Gg z0 cO M gg gl gt n g v) {h J : Nat} (hJ1 : J ≤ n) (hJ2 : ∀ p, p < J → g p ≠ h) (hJ3 : J < n → g J = h) : Met l y_Gang_placeFor (Cond.code y_Gang_placeFor b_Gang_placeFor 3 (some .int) :: gT) ({ frames := 3, cells := 0, slots := 0, locals := 64 }) (gw_Pc E D cI cO cZ z0 M [.ref gg, .ref h]) (gw_Qi E D (fun r M' => r = (if J < n then nI J else -1) ∧ M' = M)) 0 0 (gw_A E) := by
  refine gw_ofW (cc := b_Gang_placeFor) (maxL := 3) (ret := (some .int)) (by decide) rfl (Nat.le_of_ble_eq_true rfl) ?_
  intro p e s m args below meth c hx hb hr hml hts hown hlk hnm hF hG ls hl
  have hT : ∀ w ∈ gT, w.before args s = true := fun w h => hts w (List.mem_cons_of_mem _ h)
  have hK := hF.1
  have hl : lv_has ls 3 [(0, .ref gg), (1, .ref h)] := hl
  obtain ⟨hgg, hL, hh, hd⟩ := id hg
  obtain ⟨k, hgl, h10, -⟩ := id hL
  refine lv_iconst (v := 0) hx hb d_Gang_placeFor_0 (by decide) ?_
  refine lv_istore_n (lv' := [(2, .int 0), (0, .ref gg), (1, .ref h)]) hx hb d_Gang_placeFor_1 rfl hl (by decide) rfl (fun ls hl => ?_)
  have loop : ∀ (d i : Nat), i + d = n → ∀ (X : gM) (H : Heap) (locs : List Loc) (ls : Array Slot), (i ≤ J ∧ X = M) → gw_H E D X s H locs → lv_has ls 3 [(2, .int (nI i)), (0, .ref gg), (1, .ref h)] → W p l e ({ frames := 3, cells := 0, slots := 0, locals := 64 } : Room) s m args below meth c H locs 0 0 (MQ below (gw_Qi E D (fun r M' => r = (if J < n then nI J else -1) ∧ M' = M)) args s 0 0 (gw_A E)) (F0 m 2 ls []) := by
    intro d
    induction d with
    | zero =>
      intro i hi X H locs ls hI hG hl
      obtain ⟨hI, hX⟩ := hI
      replace hG := gw_nm hX.symm hG
      refine lv_iload_n hx hb d_Gang_placeFor_2 rfl (lv_at hl 0 rfl) ?_
      refine lv_aload_n hx hb d_Gang_placeFor_3 rfl (lv_at hl 1 rfl) ?_
      refine gw_get hx hb hT i_Gang hown hK hG hgg rfl 0 (by decide) (hT _ wm_91) (fun _ h => h) rfl d_Gang_placeFor_4 ?_
      refine gw_calli (gw_runV (As := []) (rest := [.int (nI i)]) ⟨hx, hb, hml, hown, hts⟩ (c_L_size l E D cI cO cZ z0 M hL) (gw_cwV 0 hts (gT_gi wm_286) rfl rfl rfl (hT _ wm_26) (hT _ wm_411) (hT _ wm_284) (hT _ wm_285) (by decide +kernel) ⟨Nat.le_of_ble_eq_true rfl, Nat.le_of_ble_eq_true rfl⟩) hF hG rfl hgl rfl hl.1 rfl (Nat.le_of_ble_eq_true rfl) d_Gang_placeFor_7 ⟨Nat.le_of_ble_eq_true rfl, Nat.le_of_ble_eq_true rfl⟩) hG (fun r M1 H locs hp hG => ?_)
      rw [hp.1]
      replace hG := gw_nm hp.2.symm hG
      refine lv_icmp_ge (tgt := 33) hx hb d_Gang_placeFor_10 (by decide) (fun c_10 => ?_) (fun z_ => absurd (nI_le (by omega) (by omega)) z_)
      refine lv_iconst (v := (-1)) hx hb d_Gang_placeFor_33 (by decide) ?_
      exact gw_iret (v := (-1)) hx hb hr hlk hG (⟨by rw [if_neg (by omega)], rfl⟩) (Nat.le_of_ble_eq_true rfl) (Nat.le_of_ble_eq_true rfl) d_Gang_placeFor_34
    | succ d ih =>
      intro i hi X H locs ls hI hG hl
      obtain ⟨hI, hX⟩ := hI
      replace hG := gw_nm hX.symm hG
      refine lv_iload_n hx hb d_Gang_placeFor_2 rfl (lv_at hl 0 rfl) ?_
      refine lv_aload_n hx hb d_Gang_placeFor_3 rfl (lv_at hl 1 rfl) ?_
      refine gw_get hx hb hT i_Gang hown hK hG hgg rfl 0 (by decide) (hT _ wm_91) (fun _ h => h) rfl d_Gang_placeFor_4 ?_
      refine gw_calli (gw_runV (As := []) (rest := [.int (nI i)]) ⟨hx, hb, hml, hown, hts⟩ (c_L_size l E D cI cO cZ z0 M hL) (gw_cwV 0 hts (gT_gi wm_286) rfl rfl rfl (hT _ wm_26) (hT _ wm_411) (hT _ wm_284) (hT _ wm_285) (by decide +kernel) ⟨Nat.le_of_ble_eq_true rfl, Nat.le_of_ble_eq_true rfl⟩) hF hG rfl hgl rfl hl.1 rfl (Nat.le_of_ble_eq_true rfl) d_Gang_placeFor_7 ⟨Nat.le_of_ble_eq_true rfl, Nat.le_of_ble_eq_true rfl⟩) hG (fun r M2 H locs hp hG => ?_)
      rw [hp.1]
      replace hG := gw_nm hp.2.symm hG
      refine lv_icmp_ge (tgt := 33) hx hb d_Gang_placeFor_10 (by decide) (fun z_ => absurd z_ (nI_ge (by omega) (by omega))) (fun c_10 => ?_)
      refine lv_aload_n hx hb d_Gang_placeFor_13 rfl (lv_at hl 1 rfl) ?_
      refine gw_get hx hb hT i_Gang hown hK hG hgg rfl 0 (by decide) (hT _ wm_91) (fun _ h => h) rfl d_Gang_placeFor_14 ?_
      refine lv_iload_n hx hb d_Gang_placeFor_17 rfl (lv_at hl 0 rfl) ?_
      refine gw_callq (gw_runV (As := [.int (nI i)]) (rest := []) ⟨hx, hb, hml, hown, hts⟩ (c_L_get l E D cI cO cZ z0 M hL (p := i) (by omega)) (gw_cwV 1 hts (gT_gi wm_362) rfl rfl rfl (hT _ wm_26) (hT _ wm_412) (hT _ wm_360) (hT _ wm_361) (by decide +kernel) ⟨Nat.le_of_ble_eq_true rfl, Nat.le_of_ble_eq_true rfl⟩) hF hG rfl hgl rfl hl.1 rfl (Nat.le_of_ble_eq_true rfl) d_Gang_placeFor_18 ⟨Nat.le_of_ble_eq_true rfl, Nat.le_of_ble_eq_true rfl⟩) hG (fun r M3 H locs hp hG => ?_)
      rw [hp.1]
      replace hG := gw_nm hp.2.symm hG
      refine lv_aload_n hx hb d_Gang_placeFor_21 rfl (lv_at hl 2 rfl) ?_
      refine lv_acmp_ne (rx := some (g i)) (ry := some h) (tgt := 27) hx hb d_Gang_placeFor_22 (by decide) (fun c_ => ?_) (fun c_ => ?_)
      · skip
        have hne : g i ≠ h := fun z => c_ (congrArg some z)
        refine lv_iinc (v := nI (i + 1)) (lv' := [(2, .int (nI (i + 1))), (0, .ref gg), (1, .ref h)]) hx hb d_Gang_placeFor_27 hl (k := 0) rfl (nI_succ i).symm (by decide) rfl (fun ls hl => ?_)
        refine lv_goto (tgt := 2) hx hb d_Gang_placeFor_30 (by decide) ?_
        exact ih (i + 1) (by omega) M _ _ _ ⟨by rcases Nat.lt_or_eq_of_le hI with h1 | h1; (omega); (subst h1; exact absurd (hJ3 (by omega)) hne), rfl⟩ hG (lv_sub hl [0, 1, 2] rfl)
      · skip
        have heq : g i = h := Option.some.inj c_
        have hJi : J = i := by rcases Nat.lt_or_eq_of_le hI with h1 | h1; (exact absurd heq (hJ2 i h1)); (exact h1.symm)
        refine lv_iload_n hx hb d_Gang_placeFor_25 rfl (lv_at hl 0 rfl) ?_
        exact gw_iret (v := (nI i)) hx hb hr hlk hG (⟨by rw [hJi, if_pos (by omega)], rfl⟩) (Nat.le_of_ble_eq_true rfl) (Nat.le_of_ble_eq_true rfl) d_Gang_placeFor_26
  exact loop _ _ (Nat.zero_add n) M _ _ _ ⟨Nat.zero_le J, rfl⟩ hG (lv_sub hl [0, 1, 2] rfl)
end
section
theorem d_Gang_takeIn_0 : decode b_Gang_takeIn 0 = .ok (.aload_n 1, 1) := by decide +kernel
theorem d_Gang_takeIn_1 : decode b_Gang_takeIn 1 = .ok (.iconst 0, 1) := by decide +kernel
theorem d_Gang_takeIn_2 : decode b_Gang_takeIn 2 = .ok (.putfield 26, 3) := by decide +kernel
theorem d_Gang_takeIn_5 : decode b_Gang_takeIn 5 = .ok (.aload_n 0, 1) := by decide +kernel
theorem d_Gang_takeIn_6 : decode b_Gang_takeIn 6 = .ok (.getfield 12, 3) := by decide +kernel
theorem d_Gang_takeIn_9 : decode b_Gang_takeIn 9 = .ok (.aload_n 1, 1) := by decide +kernel
theorem wq_796 : Cond.castable "ThresholdRow$Hand" "java/lang/Object" ∈ lw_tbl := List.mem_of_getElem? (i := 796) (by decide +kernel)
theorem wm_178 : Cond.code ⟨"java/util/ArrayList", "add", "(Ljava/lang/Object;)Z"⟩ prog_30_method_25_code 2 (some .boolean) ∈ gT := gT_m (List.mem_of_getElem? (i := 178) (by decide +kernel)) (by decide +kernel)
theorem wm_582 : Cond.methodLink "ThresholdRow$Gang" 32 ⟨"java/util/ArrayList", "add", "(Ljava/lang/Object;)Z"⟩ ∈ gT := gT_m (List.mem_of_getElem? (i := 582) (by decide +kernel)) (by decide +kernel)
theorem d_Gang_takeIn_10 : decode b_Gang_takeIn 10 = .ok (.invokevirtual 32, 3) := by decide +kernel
theorem wm_176 : Cond.instanceMethod ⟨"java/util/ArrayList", "add", "(Ljava/lang/Object;)Z"⟩ ∈ gT := gT_m (List.mem_of_getElem? (i := 176) (by decide +kernel)) (by decide +kernel)
theorem wm_177 : Cond.selects "java/util/ArrayList" ⟨"java/util/ArrayList", "add", "(Ljava/lang/Object;)Z"⟩ ⟨"java/util/ArrayList", "add", "(Ljava/lang/Object;)Z"⟩ ∈ gT := gT_m (List.mem_of_getElem? (i := 177) (by decide +kernel)) (by decide +kernel)
theorem d_Gang_takeIn_13 : decode b_Gang_takeIn 13 = .ok (.pop, 1) := by decide +kernel
theorem d_Gang_takeIn_14 : decode b_Gang_takeIn 14 = .ok (.return_, 1) := by decide +kernel
theorem d_Gang_letGo_0 : decode b_Gang_letGo 0 = .ok (.aload_n 0, 1) := by decide +kernel
theorem d_Gang_letGo_1 : decode b_Gang_letGo 1 = .ok (.aload_n 1, 1) := by decide +kernel
theorem wm_556 : Cond.code ⟨"ThresholdRow$Gang", "placeFor", "(LThresholdRow$Hand;)I"⟩ prog_4_method_3_code 3 (some .int) ∈ gT := gT_m (List.mem_of_getElem? (i := 556) (by decide +kernel)) (by decide +kernel)
theorem wm_27 : Cond.initialized "ThresholdRow$Gang" ∈ gT := gT_m (List.mem_of_getElem? (i := 27) (by decide +kernel)) (by decide +kernel)
theorem wm_596 : Cond.methodLink "ThresholdRow$Gang" 36 ⟨"ThresholdRow$Gang", "placeFor", "(LThresholdRow$Hand;)I"⟩ ∈ gT := gT_m (List.mem_of_getElem? (i := 596) (by decide +kernel)) (by decide +kernel)
theorem d_Gang_letGo_2 : decode b_Gang_letGo 2 = .ok (.invokevirtual 36, 3) := by decide +kernel
theorem wm_554 : Cond.instanceMethod ⟨"ThresholdRow$Gang", "placeFor", "(LThresholdRow$Hand;)I"⟩ ∈ gT := gT_m (List.mem_of_getElem? (i := 554) (by decide +kernel)) (by decide +kernel)
theorem wm_555 : Cond.selects "ThresholdRow$Gang" ⟨"ThresholdRow$Gang", "placeFor", "(LThresholdRow$Hand;)I"⟩ ⟨"ThresholdRow$Gang", "placeFor", "(LThresholdRow$Hand;)I"⟩ ∈ gT := gT_m (List.mem_of_getElem? (i := 555) (by decide +kernel)) (by decide +kernel)
theorem d_Gang_letGo_5 : decode b_Gang_letGo 5 = .ok (.istore_n 2, 1) := by decide +kernel
theorem d_Gang_letGo_6 : decode b_Gang_letGo 6 = .ok (.iload_n 2, 1) := by decide +kernel
theorem d_Gang_letGo_7 : decode b_Gang_letGo 7 = .ok (.ifCond .lt 12, 3) := by decide +kernel
theorem d_Gang_letGo_10 : decode b_Gang_letGo 10 = .ok (.aload_n 0, 1) := by decide +kernel
theorem d_Gang_letGo_11 : decode b_Gang_letGo 11 = .ok (.getfield 12, 3) := by decide +kernel
theorem d_Gang_letGo_14 : decode b_Gang_letGo 14 = .ok (.iload_n 2, 1) := by decide +kernel
theorem wm_600 : Cond.code ⟨"java/util/ArrayList", "remove", "(I)Ljava/lang/Object;"⟩ prog_30_method_29_code 4 (some (.object "java/lang/Object")) ∈ gT := gT_m (List.mem_of_getElem? (i := 600) (by decide +kernel)) (by decide +kernel)
theorem wm_597 : Cond.methodLink "ThresholdRow$Gang" 40 ⟨"java/util/ArrayList", "remove", "(I)Ljava/lang/Object;"⟩ ∈ gT := gT_m (List.mem_of_getElem? (i := 597) (by decide +kernel)) (by decide +kernel)
theorem d_Gang_letGo_15 : decode b_Gang_letGo 15 = .ok (.invokevirtual 40, 3) := by decide +kernel
theorem wm_598 : Cond.instanceMethod ⟨"java/util/ArrayList", "remove", "(I)Ljava/lang/Object;"⟩ ∈ gT := gT_m (List.mem_of_getElem? (i := 598) (by decide +kernel)) (by decide +kernel)
theorem wm_599 : Cond.selects "java/util/ArrayList" ⟨"java/util/ArrayList", "remove", "(I)Ljava/lang/Object;"⟩ ⟨"java/util/ArrayList", "remove", "(I)Ljava/lang/Object;"⟩ ∈ gT := gT_m (List.mem_of_getElem? (i := 599) (by decide +kernel)) (by decide +kernel)
theorem d_Gang_letGo_18 : decode b_Gang_letGo 18 = .ok (.pop, 1) := by decide +kernel
theorem d_Gang_letGo_19 : decode b_Gang_letGo 19 = .ok (.return_, 1) := by decide +kernel
theorem d_Gang_tickAt_0 : decode b_Gang_tickAt 0 = .ok (.aload_n 0, 1) := by decide +kernel
theorem d_Gang_tickAt_1 : decode b_Gang_tickAt 1 = .ok (.getfield 12, 3) := by decide +kernel
theorem d_Gang_tickAt_4 : decode b_Gang_tickAt 4 = .ok (.invokevirtual 18, 3) := by decide +kernel
theorem d_Gang_tickAt_7 : decode b_Gang_tickAt 7 = .ok (.istore_n 2, 1) := by decide +kernel
theorem d_Gang_tickAt_8 : decode b_Gang_tickAt 8 = .ok (.iload_n 1, 1) := by decide +kernel
theorem d_Gang_tickAt_9 : decode b_Gang_tickAt 9 = .ok (.ifCond .lt 8, 3) := by decide +kernel
theorem d_Gang_tickAt_12 : decode b_Gang_tickAt 12 = .ok (.iload_n 1, 1) := by decide +kernel
theorem d_Gang_tickAt_13 : decode b_Gang_tickAt 13 = .ok (.iload_n 2, 1) := by decide +kernel
theorem d_Gang_tickAt_14 : decode b_Gang_tickAt 14 = .ok (.if_icmp .lt 5, 3) := by decide +kernel
theorem d_Gang_tickAt_19 : decode b_Gang_tickAt 19 = .ok (.bipush 60, 2) := by decide +kernel
theorem d_Gang_tickAt_21 : decode b_Gang_tickAt 21 = .ok (.iload_n 1, 1) := by decide +kernel
theorem d_Gang_tickAt_22 : decode b_Gang_tickAt 22 = .ok (.imul, 1) := by decide +kernel
theorem d_Gang_tickAt_23 : decode b_Gang_tickAt 23 = .ok (.iload_n 2, 1) := by decide +kernel
theorem d_Gang_tickAt_24 : decode b_Gang_tickAt 24 = .ok (.idiv, 1) := by decide +kernel
theorem d_Gang_tickAt_25 : decode b_Gang_tickAt 25 = .ok (.aload_n 0, 1) := by decide +kernel
theorem d_Gang_tickAt_26 : decode b_Gang_tickAt 26 = .ok (.getfield 12, 3) := by decide +kernel
theorem d_Gang_tickAt_29 : decode b_Gang_tickAt 29 = .ok (.iload_n 1, 1) := by decide +kernel
theorem d_Gang_tickAt_30 : decode b_Gang_tickAt 30 = .ok (.invokevirtual 22, 3) := by decide +kernel
theorem wm_413 : Cond.classLink "ThresholdRow$Gang" 27 "ThresholdRow$Hand" ∈ gT := gT_m (List.mem_of_getElem? (i := 413) (by decide +kernel)) (by decide +kernel)
theorem d_Gang_tickAt_33 : decode b_Gang_tickAt 33 = .ok (.checkcast 27, 3) := by decide +kernel
theorem d_Gang_tickAt_36 : decode b_Gang_tickAt 36 = .ok (.getfield 26, 3) := by decide +kernel
theorem d_Gang_tickAt_39 : decode b_Gang_tickAt 39 = .ok (.iadd, 1) := by decide +kernel
theorem d_Gang_tickAt_40 : decode b_Gang_tickAt 40 = .ok (.ireturn, 1) := by decide +kernel
theorem d_Gang_tireAll_0 : decode b_Gang_tireAll 0 = .ok (.iconst 0, 1) := by decide +kernel
theorem d_Gang_tireAll_1 : decode b_Gang_tireAll 1 = .ok (.istore_n 1, 1) := by decide +kernel
theorem d_Gang_tireAll_2 : decode b_Gang_tireAll 2 = .ok (.iload_n 1, 1) := by decide +kernel
theorem d_Gang_tireAll_3 : decode b_Gang_tireAll 3 = .ok (.aload_n 0, 1) := by decide +kernel
theorem d_Gang_tireAll_4 : decode b_Gang_tireAll 4 = .ok (.getfield 12, 3) := by decide +kernel
theorem d_Gang_tireAll_7 : decode b_Gang_tireAll 7 = .ok (.invokevirtual 18, 3) := by decide +kernel
theorem d_Gang_tireAll_10 : decode b_Gang_tireAll 10 = .ok (.if_icmp .ge 23, 3) := by decide +kernel
theorem d_Gang_tireAll_33 : decode b_Gang_tireAll 33 = .ok (.return_, 1) := by decide +kernel
theorem d_Gang_tireAll_13 : decode b_Gang_tireAll 13 = .ok (.aload_n 0, 1) := by decide +kernel
theorem d_Gang_tireAll_14 : decode b_Gang_tireAll 14 = .ok (.getfield 12, 3) := by decide +kernel
theorem d_Gang_tireAll_17 : decode b_Gang_tireAll 17 = .ok (.iload_n 1, 1) := by decide +kernel
theorem d_Gang_tireAll_18 : decode b_Gang_tireAll 18 = .ok (.invokevirtual 22, 3) := by decide +kernel
theorem d_Gang_tireAll_21 : decode b_Gang_tireAll 21 = .ok (.checkcast 27, 3) := by decide +kernel
theorem wm_714 : Cond.code ⟨"ThresholdRow$Hand", "tire", "()V"⟩ prog_5_method_3_code 1 none ∈ gT := gT_m (List.mem_of_getElem? (i := 714) (by decide +kernel)) (by decide +kernel)
theorem wm_40 : Cond.initialized "ThresholdRow$Hand" ∈ gT := gT_m (List.mem_of_getElem? (i := 40) (by decide +kernel)) (by decide +kernel)
theorem wm_711 : Cond.methodLink "ThresholdRow$Gang" 85 ⟨"ThresholdRow$Hand", "tire", "()V"⟩ ∈ gT := gT_m (List.mem_of_getElem? (i := 711) (by decide +kernel)) (by decide +kernel)
theorem d_Gang_tireAll_24 : decode b_Gang_tireAll 24 = .ok (.invokevirtual 85, 3) := by decide +kernel
theorem wm_712 : Cond.instanceMethod ⟨"ThresholdRow$Hand", "tire", "()V"⟩ ∈ gT := gT_m (List.mem_of_getElem? (i := 712) (by decide +kernel)) (by decide +kernel)
theorem wm_713 : Cond.selects "ThresholdRow$Hand" ⟨"ThresholdRow$Hand", "tire", "()V"⟩ ⟨"ThresholdRow$Hand", "tire", "()V"⟩ ∈ gT := gT_m (List.mem_of_getElem? (i := 713) (by decide +kernel)) (by decide +kernel)
theorem d_Gang_tireAll_27 : decode b_Gang_tireAll 27 = .ok (.iinc 1 1, 3) := by decide +kernel
theorem d_Gang_tireAll_30 : decode b_Gang_tireAll 30 = .ok (.goto (-28), 3) := by decide +kernel
theorem d_Gang_forgetErrors_0 : decode b_Gang_forgetErrors 0 = .ok (.iconst 0, 1) := by decide +kernel
theorem d_Gang_forgetErrors_1 : decode b_Gang_forgetErrors 1 = .ok (.istore_n 1, 1) := by decide +kernel
theorem d_Gang_forgetErrors_2 : decode b_Gang_forgetErrors 2 = .ok (.iload_n 1, 1) := by decide +kernel
theorem d_Gang_forgetErrors_3 : decode b_Gang_forgetErrors 3 = .ok (.aload_n 0, 1) := by decide +kernel
theorem d_Gang_forgetErrors_4 : decode b_Gang_forgetErrors 4 = .ok (.getfield 12, 3) := by decide +kernel
theorem d_Gang_forgetErrors_7 : decode b_Gang_forgetErrors 7 = .ok (.invokevirtual 18, 3) := by decide +kernel
theorem d_Gang_forgetErrors_10 : decode b_Gang_forgetErrors 10 = .ok (.if_icmp .ge 24, 3) := by decide +kernel
theorem d_Gang_forgetErrors_34 : decode b_Gang_forgetErrors 34 = .ok (.return_, 1) := by decide +kernel
theorem d_Gang_forgetErrors_13 : decode b_Gang_forgetErrors 13 = .ok (.aload_n 0, 1) := by decide +kernel
theorem d_Gang_forgetErrors_14 : decode b_Gang_forgetErrors 14 = .ok (.getfield 12, 3) := by decide +kernel
theorem d_Gang_forgetErrors_17 : decode b_Gang_forgetErrors 17 = .ok (.iload_n 1, 1) := by decide +kernel
theorem d_Gang_forgetErrors_18 : decode b_Gang_forgetErrors 18 = .ok (.invokevirtual 22, 3) := by decide +kernel
theorem d_Gang_forgetErrors_21 : decode b_Gang_forgetErrors 21 = .ok (.checkcast 27, 3) := by decide +kernel
theorem d_Gang_forgetErrors_24 : decode b_Gang_forgetErrors 24 = .ok (.iconst 0, 1) := by decide +kernel
theorem d_Gang_forgetErrors_25 : decode b_Gang_forgetErrors 25 = .ok (.putfield 26, 3) := by decide +kernel
theorem d_Gang_forgetErrors_28 : decode b_Gang_forgetErrors 28 = .ok (.iinc 1 1, 3) := by decide +kernel
theorem d_Gang_forgetErrors_31 : decode b_Gang_forgetErrors 31 = .ok (.goto (-29), 3) := by decide +kernel
theorem d_Gang_hasHurt_0 : decode b_Gang_hasHurt 0 = .ok (.iconst 0, 1) := by decide +kernel
theorem d_Gang_hasHurt_1 : decode b_Gang_hasHurt 1 = .ok (.istore_n 1, 1) := by decide +kernel
theorem d_Gang_hasHurt_2 : decode b_Gang_hasHurt 2 = .ok (.iload_n 1, 1) := by decide +kernel
theorem d_Gang_hasHurt_3 : decode b_Gang_hasHurt 3 = .ok (.aload_n 0, 1) := by decide +kernel
theorem d_Gang_hasHurt_4 : decode b_Gang_hasHurt 4 = .ok (.getfield 12, 3) := by decide +kernel
theorem d_Gang_hasHurt_7 : decode b_Gang_hasHurt 7 = .ok (.invokevirtual 18, 3) := by decide +kernel
theorem d_Gang_hasHurt_10 : decode b_Gang_hasHurt 10 = .ok (.if_icmp .ge 28, 3) := by decide +kernel
theorem d_Gang_hasHurt_38 : decode b_Gang_hasHurt 38 = .ok (.iconst 0, 1) := by decide +kernel
theorem d_Gang_hasHurt_39 : decode b_Gang_hasHurt 39 = .ok (.ireturn, 1) := by decide +kernel
theorem d_Gang_hasHurt_13 : decode b_Gang_hasHurt 13 = .ok (.aload_n 0, 1) := by decide +kernel
theorem d_Gang_hasHurt_14 : decode b_Gang_hasHurt 14 = .ok (.getfield 12, 3) := by decide +kernel
theorem d_Gang_hasHurt_17 : decode b_Gang_hasHurt 17 = .ok (.iload_n 1, 1) := by decide +kernel
theorem d_Gang_hasHurt_18 : decode b_Gang_hasHurt 18 = .ok (.invokevirtual 22, 3) := by decide +kernel
theorem d_Gang_hasHurt_21 : decode b_Gang_hasHurt 21 = .ok (.checkcast 27, 3) := by decide +kernel
theorem wm_470 : Cond.fieldLink "ThresholdRow$Gang" 62 "ThresholdRow$Hand" "hurt" "I" ∈ gT := gT_m (List.mem_of_getElem? (i := 470) (by decide +kernel)) (by decide +kernel)
theorem d_Gang_hasHurt_24 : decode b_Gang_hasHurt 24 = .ok (.getfield 62, 3) := by decide +kernel
theorem d_Gang_hasHurt_27 : decode b_Gang_hasHurt 27 = .ok (.ifCond .le 5, 3) := by decide +kernel
theorem d_Gang_hasHurt_32 : decode b_Gang_hasHurt 32 = .ok (.iinc 1 1, 3) := by decide +kernel
theorem d_Gang_hasHurt_35 : decode b_Gang_hasHurt 35 = .ok (.goto (-33), 3) := by decide +kernel
theorem d_Gang_leanOnOneAnother_0 : decode b_Gang_leanOnOneAnother 0 = .ok (.aload_n 0, 1) := by decide +kernel
theorem d_Gang_leanOnOneAnother_1 : decode b_Gang_leanOnOneAnother 1 = .ok (.getfield 12, 3) := by decide +kernel
theorem d_Gang_leanOnOneAnother_4 : decode b_Gang_leanOnOneAnother 4 = .ok (.invokevirtual 18, 3) := by decide +kernel
theorem d_Gang_leanOnOneAnother_7 : decode b_Gang_leanOnOneAnother 7 = .ok (.istore_n 1, 1) := by decide +kernel
theorem d_Gang_leanOnOneAnother_8 : decode b_Gang_leanOnOneAnother 8 = .ok (.iload_n 1, 1) := by decide +kernel
theorem d_Gang_leanOnOneAnother_9 : decode b_Gang_leanOnOneAnother 9 = .ok (.ifCond .le 22, 3) := by decide +kernel
theorem d_Gang_leanOnOneAnother_12 : decode b_Gang_leanOnOneAnother 12 = .ok (.aload_n 0, 1) := by decide +kernel
theorem d_Gang_leanOnOneAnother_13 : decode b_Gang_leanOnOneAnother 13 = .ok (.getfield 12, 3) := by decide +kernel
theorem d_Gang_leanOnOneAnother_16 : decode b_Gang_leanOnOneAnother 16 = .ok (.iload_n 1, 1) := by decide +kernel
theorem d_Gang_leanOnOneAnother_17 : decode b_Gang_leanOnOneAnother 17 = .ok (.iconst 1, 1) := by decide +kernel
theorem d_Gang_leanOnOneAnother_18 : decode b_Gang_leanOnOneAnother 18 = .ok (.isub, 1) := by decide +kernel
theorem d_Gang_leanOnOneAnother_19 : decode b_Gang_leanOnOneAnother 19 = .ok (.invokevirtual 22, 3) := by decide +kernel
theorem d_Gang_leanOnOneAnother_22 : decode b_Gang_leanOnOneAnother 22 = .ok (.checkcast 27, 3) := by decide +kernel
theorem d_Gang_leanOnOneAnother_25 : decode b_Gang_leanOnOneAnother 25 = .ok (.getfield 26, 3) := by decide +kernel
theorem d_Gang_leanOnOneAnother_28 : decode b_Gang_leanOnOneAnother 28 = .ok (.goto 4, 3) := by decide +kernel
theorem d_Gang_leanOnOneAnother_32 : decode b_Gang_leanOnOneAnother 32 = .ok (.istore_n 2, 1) := by decide +kernel
theorem d_Gang_leanOnOneAnother_33 : decode b_Gang_leanOnOneAnother 33 = .ok (.iconst 0, 1) := by decide +kernel
theorem d_Gang_leanOnOneAnother_34 : decode b_Gang_leanOnOneAnother 34 = .ok (.istore_n 3, 1) := by decide +kernel
theorem d_Gang_leanOnOneAnother_35 : decode b_Gang_leanOnOneAnother 35 = .ok (.iload_n 3, 1) := by decide +kernel
theorem d_Gang_leanOnOneAnother_36 : decode b_Gang_leanOnOneAnother 36 = .ok (.iload_n 1, 1) := by decide +kernel
theorem d_Gang_leanOnOneAnother_37 : decode b_Gang_leanOnOneAnother 37 = .ok (.if_icmp .ge 49, 3) := by decide +kernel
theorem d_Gang_leanOnOneAnother_86 : decode b_Gang_leanOnOneAnother 86 = .ok (.return_, 1) := by decide +kernel
theorem d_Gang_leanOnOneAnother_40 : decode b_Gang_leanOnOneAnother 40 = .ok (.aload_n 0, 1) := by decide +kernel
theorem d_Gang_leanOnOneAnother_41 : decode b_Gang_leanOnOneAnother 41 = .ok (.getfield 12, 3) := by decide +kernel
theorem d_Gang_leanOnOneAnother_44 : decode b_Gang_leanOnOneAnother 44 = .ok (.iload_n 3, 1) := by decide +kernel
theorem d_Gang_leanOnOneAnother_45 : decode b_Gang_leanOnOneAnother 45 = .ok (.invokevirtual 22, 3) := by decide +kernel
theorem d_Gang_leanOnOneAnother_48 : decode b_Gang_leanOnOneAnother 48 = .ok (.checkcast 27, 3) := by decide +kernel
theorem d_Gang_leanOnOneAnother_51 : decode b_Gang_leanOnOneAnother 51 = .ok (.astore 4, 2) := by decide +kernel
theorem d_Gang_leanOnOneAnother_53 : decode b_Gang_leanOnOneAnother 53 = .ok (.aload 4, 2) := by decide +kernel
theorem d_Gang_leanOnOneAnother_55 : decode b_Gang_leanOnOneAnother 55 = .ok (.getfield 26, 3) := by decide +kernel
theorem d_Gang_leanOnOneAnother_58 : decode b_Gang_leanOnOneAnother 58 = .ok (.istore 5, 2) := by decide +kernel
theorem d_Gang_leanOnOneAnother_60 : decode b_Gang_leanOnOneAnother 60 = .ok (.aload 4, 2) := by decide +kernel
theorem d_Gang_leanOnOneAnother_62 : decode b_Gang_leanOnOneAnother 62 = .ok (.iload 5, 2) := by decide +kernel
theorem d_Gang_leanOnOneAnother_64 : decode b_Gang_leanOnOneAnother 64 = .ok (.iload_n 2, 1) := by decide +kernel
theorem d_Gang_leanOnOneAnother_65 : decode b_Gang_leanOnOneAnother 65 = .ok (.iadd, 1) := by decide +kernel
theorem d_Gang_leanOnOneAnother_66 : decode b_Gang_leanOnOneAnother 66 = .ok (.iconst 2, 1) := by decide +kernel
theorem d_Gang_leanOnOneAnother_67 : decode b_Gang_leanOnOneAnother 67 = .ok (.idiv, 1) := by decide +kernel
theorem d_Gang_leanOnOneAnother_68 : decode b_Gang_leanOnOneAnother 68 = .ok (.aload 4, 2) := by decide +kernel
theorem wm_695 : Cond.code ⟨"ThresholdRow$Hand", "drift", "()I"⟩ prog_5_method_2_code 2 (some .int) ∈ gT := gT_m (List.mem_of_getElem? (i := 695) (by decide +kernel)) (by decide +kernel)
theorem wm_692 : Cond.methodLink "ThresholdRow$Gang" 69 ⟨"ThresholdRow$Hand", "drift", "()I"⟩ ∈ gT := gT_m (List.mem_of_getElem? (i := 692) (by decide +kernel)) (by decide +kernel)
theorem d_Gang_leanOnOneAnother_70 : decode b_Gang_leanOnOneAnother 70 = .ok (.invokevirtual 69, 3) := by decide +kernel
theorem wm_693 : Cond.instanceMethod ⟨"ThresholdRow$Hand", "drift", "()I"⟩ ∈ gT := gT_m (List.mem_of_getElem? (i := 693) (by decide +kernel)) (by decide +kernel)
theorem wm_694 : Cond.selects "ThresholdRow$Hand" ⟨"ThresholdRow$Hand", "drift", "()I"⟩ ⟨"ThresholdRow$Hand", "drift", "()I"⟩ ∈ gT := gT_m (List.mem_of_getElem? (i := 694) (by decide +kernel)) (by decide +kernel)
theorem d_Gang_leanOnOneAnother_73 : decode b_Gang_leanOnOneAnother 73 = .ok (.iadd, 1) := by decide +kernel
theorem d_Gang_leanOnOneAnother_74 : decode b_Gang_leanOnOneAnother 74 = .ok (.putfield 26, 3) := by decide +kernel
theorem d_Gang_leanOnOneAnother_77 : decode b_Gang_leanOnOneAnother 77 = .ok (.iload 5, 2) := by decide +kernel
theorem d_Gang_leanOnOneAnother_79 : decode b_Gang_leanOnOneAnother 79 = .ok (.istore_n 2, 1) := by decide +kernel
theorem d_Gang_leanOnOneAnother_80 : decode b_Gang_leanOnOneAnother 80 = .ok (.iinc 3 1, 3) := by decide +kernel
theorem d_Gang_leanOnOneAnother_83 : decode b_Gang_leanOnOneAnother 83 = .ok (.goto (-48), 3) := by decide +kernel
set_option maxHeartbeats 4000000 in
set_option maxRecDepth 100000 in
theorem c_Gang_takeIn (l : Launch) (E : Nat) (D : va_G) (cI cO cZ : ClassId) (z0 : Nat) (M : gM) {gg gl gt n : Nat} {g : Nat → Nat} {v : Nat → gH} (hg : gw_Gg z0 cO M gg gl gt n g v) {a : Nat} {u : gH} (ha : M a = some (gw_hd u)) (hn : n < 10) (hz : a ≠ z0) : Met l y_Gang_takeIn (Cond.code y_Gang_takeIn b_Gang_takeIn 2 none :: gT) ({ frames := 5, cells := 1, slots := 10, locals := 101 }) (gw_Pc E D cI cO cZ z0 M [.ref gg, .ref a]) (gw_Qv E D (fun M' => ∃ t' : Nat, (t' = gt ∨ M t' = none) ∧ M' a = some (gw_hd (hEr u 0)) ∧ gw_L z0 cO M' gl t' (n + 1) (va_up g n a) ∧ ∀ b, b ≠ a → b ≠ gl → b ≠ t' → M' b = M b)) 1 10 (gw_A E) := by
  refine gw_ofW (cc := b_Gang_takeIn) (maxL := 2) (ret := none) (by decide) rfl (Nat.le_of_ble_eq_true rfl) ?_
  intro p e s m args below meth c hx hb hr hml hts hown hlk hnm hF hG ls hl
  have hT : ∀ w ∈ gT, w.before args s = true := fun w h => hts w (List.mem_cons_of_mem _ h)
  have hK := hF.1
  have hl : lv_has ls 2 [(0, .ref gg), (1, .ref a)] := hl
  obtain ⟨hgg, hL, hh, hd⟩ := id hg
  obtain ⟨k, hgl, h10, -⟩ := id hL
  refine lv_aload_n hx hb d_Gang_takeIn_0 rfl (lv_at hl 1 rfl) ?_
  refine lv_iconst (v := 0) hx hb d_Gang_takeIn_1 (by decide) ?_
  refine gw_put (v := .int 0) hx hb hT i_Hand t_Hand t_Hand_ok n_Hand hown hK hG ha rfl 5 (by decide) (hT _ wm_475) (fun _ h => h) rfl rfl rfl (Nat.le_of_ble_eq_true rfl) d_Gang_takeIn_2 (fun H locs hG => ?_)
  obtain ⟨M1, e_M1⟩ : ∃ Y_ : gM, Y_ = gw_up M a (.inr (6, [.int u.1, .int u.2.1, .int u.2.2.1, .int u.2.2.2.1, .int u.2.2.2.2.1, .int 0, .int 32, .int 0, .int 0, .int (-1)])) := ⟨_, rfl⟩
  replace hG := gw_nm e_M1 hG
  have hM1_gg := (congrFun e_M1 gg).trans ((gw_miss (gw_neO hgg ha (by decide))).trans hgg)
  have hM1_gl := (congrFun e_M1 gl).trans ((gw_miss (gw_neO hgl ha (by decide))).trans hgl)
  have hM1_a := (congrFun e_M1 a).trans gw_hit
  refine lv_aload_n hx hb d_Gang_takeIn_5 rfl (lv_at hl 0 rfl) ?_
  refine gw_get hx hb hT i_Gang hown hK hG hM1_gg rfl 0 (by decide) (hT _ wm_91) (fun _ h => h) rfl d_Gang_takeIn_6 ?_
  refine lv_aload_n hx hb d_Gang_takeIn_9 rfl (lv_at hl 1 rfl) ?_
  have hL1 : gw_L z0 cO M1 gl gt n g := hL.kept (by rw [e_M1]; exact gw_miss (gw_neO hgl ha (by decide))) (fun f hf => by rw [e_M1]; exact gw_miss (gw_neA hf ha))
  refine gw_calli (gw_runV (As := [.ref a]) (rest := []) ⟨hx, hb, hml, hown, hts⟩ (c_AL_add l E D cI cO cZ z0 M1 hL1 hM1_a rfl wq_796 hn (gw_neO ha hgl (by decide))) (gw_cwV 1 hts (gT_gi wm_178) rfl rfl rfl (hT _ wm_26) (hT _ wm_582) (hT _ wm_176) (hT _ wm_177) (by decide +kernel) ⟨Nat.le_of_ble_eq_true rfl, Nat.le_of_ble_eq_true rfl⟩) hF hG rfl hM1_gl rfl hl.1 rfl (Nat.le_of_ble_eq_true rfl) d_Gang_takeIn_10 ⟨Nat.le_of_ble_eq_true rfl, Nat.le_of_ble_eq_true rfl⟩) hG (fun r M2 H locs hp hG => ?_)
  obtain ⟨rfl, t', h1, h2, h3⟩ := hp
  refine lv_pop hx hb d_Gang_takeIn_13 rfl ?_
  have hta : a ≠ t' := fun z => by
      obtain ⟨k2, -, -, q3⟩ := h2
      rcases h1 with h1 | h1
      · rcases q3 with ⟨q3, -⟩ | ⟨f, q3, -⟩
        · omega
        · obtain ⟨k3, -, -, q6⟩ := hL
          rcases q6 with ⟨-, q7⟩ | ⟨f6, q6, -⟩
          · exact hz (by rw [← q7, ← h1, ← z])
          · rw [← h1, ← z, ha] at q6; cases q6
      · rw [← z, hM1_a] at h1; cases h1
  exact gw_vret hx hb hr hlk hG (⟨t', (by rcases h1 with h1 | h1; exact Or.inl h1; exact Or.inr (by rw [e_M1] at h1; rwa [gw_miss hta.symm] at h1)), (by rw [h3 a (gw_neO ha hgl (by decide)) hta]; exact hM1_a), h2, fun b q1 q2 q3 => (by rw [h3 b q2 q3, e_M1, gw_miss q1])⟩) (Nat.le_of_ble_eq_true rfl) (Nat.le_of_ble_eq_true rfl) d_Gang_takeIn_14
set_option maxHeartbeats 4000000 in
set_option maxRecDepth 100000 in
theorem c_Gang_letGo (l : Launch) (E : Nat) (D : va_G) (cI cO cZ : ClassId) (z0 : Nat) (M : gM) {gg gl gt n : Nat} {g : Nat → Nat} {v : Nat → gH} (hg : gw_Gg z0 cO M gg gl gt (n + 1) g v) {h j : Nat} (hj : j ≤ n) (hgj : g j = h) : Met l y_Gang_letGo (Cond.code y_Gang_letGo b_Gang_letGo 3 none :: gT) ({ frames := 4, cells := 0, slots := 0, locals := 106 }) (gw_Pc E D cI cO cZ z0 M [.ref gg, .ref h]) (gw_Qv E D (fun M' => gw_L z0 cO M' gl gt n (fun p => if p < j then g p else g (p + 1)) ∧ ∀ b, b ≠ gl → b ≠ gt → M' b = M b)) 0 0 (gw_A E) := by
  refine gw_ofW (cc := b_Gang_letGo) (maxL := 3) (ret := none) (by decide) rfl (Nat.le_of_ble_eq_true rfl) ?_
  intro p e s m args below meth c hx hb hr hml hts hown hlk hnm hF hG ls hl
  have hT : ∀ w ∈ gT, w.before args s = true := fun w h => hts w (List.mem_cons_of_mem _ h)
  have hK := hF.1
  have hl : lv_has ls 3 [(0, .ref gg), (1, .ref h)] := hl
  obtain ⟨hgg, hL, hh, hd⟩ := id hg
  obtain ⟨k, hgl, h10, -⟩ := id hL
  refine lv_aload_n hx hb d_Gang_letGo_0 rfl (lv_at hl 0 rfl) ?_
  refine lv_aload_n hx hb d_Gang_letGo_1 rfl (lv_at hl 1 rfl) ?_
  refine gw_calli (gw_runV (As := [.ref h]) (rest := []) ⟨hx, hb, hml, hown, hts⟩ (c_Gang_placeFor l E D cI cO cZ z0 M hg (h := h) (J := j) (by omega) (fun p hp z => by have := hd p j (by omega) (by omega) (z.trans hgj.symm); omega) (fun _ => hgj)) (gw_cwV 1 hts (gT_gi wm_556) rfl rfl rfl (hT _ wm_27) (hT _ wm_596) (hT _ wm_554) (hT _ wm_555) (by decide +kernel) ⟨Nat.le_of_ble_eq_true rfl, Nat.le_of_ble_eq_true rfl⟩) hF hG rfl hgg rfl hl.1 rfl (Nat.le_of_ble_eq_true rfl) d_Gang_letGo_2 ⟨Nat.le_of_ble_eq_true rfl, Nat.le_of_ble_eq_true rfl⟩) hG (fun r M1 H locs hp hG => ?_)
  rw [hp.1]
  replace hG := gw_nm hp.2.symm hG
  rw [if_pos (show j < n + 1 by omega)]
  refine lv_istore_n (lv' := [(2, .int (nI j)), (0, .ref gg), (1, .ref h)]) hx hb d_Gang_letGo_5 rfl hl (by decide) rfl (fun ls hl => ?_)
  refine lv_iload_n hx hb d_Gang_letGo_6 rfl (lv_at hl 0 rfl) ?_
  refine lv_if_lt (tgt := 19) hx hb d_Gang_letGo_7 (by decide) (fun z_ => absurd z_ (nI_pos (by omega))) (fun c_7 => ?_)
  refine lv_aload_n hx hb d_Gang_letGo_10 rfl (lv_at hl 1 rfl) ?_
  refine gw_get hx hb hT i_Gang hown hK hG hgg rfl 0 (by decide) (hT _ wm_91) (fun _ h => h) rfl d_Gang_letGo_11 ?_
  refine lv_iload_n hx hb d_Gang_letGo_14 rfl (lv_at hl 0 rfl) ?_
  refine gw_callq (gw_runV (As := [.int (nI j)]) (rest := []) ⟨hx, hb, hml, hown, hts⟩ (c_L_remove l E D cI cO cZ z0 M hL hj rfl wq_796 (fun p hp => ⟨_, hh p (by omega)⟩)) (gw_cwV 1 hts (gT_gi wm_600) rfl rfl rfl (hT _ wm_26) (hT _ wm_597) (hT _ wm_598) (hT _ wm_599) (by decide +kernel) ⟨Nat.le_of_ble_eq_true rfl, Nat.le_of_ble_eq_true rfl⟩) hF hG rfl hgl rfl hl.1 rfl (Nat.le_of_ble_eq_true rfl) d_Gang_letGo_15 ⟨Nat.le_of_ble_eq_true rfl, Nat.le_of_ble_eq_true rfl⟩) hG (fun r M2 H locs hp hG => ?_)
  obtain ⟨rfl, h2, h3⟩ := hp
  refine lv_pop hx hb d_Gang_letGo_18 rfl ?_
  exact gw_vret hx hb hr hlk hG (⟨h2, h3⟩) (Nat.le_of_ble_eq_true rfl) (Nat.le_of_ble_eq_true rfl) d_Gang_letGo_19
def p_tick (n : Nat) (v : Nat → gH) (p : Nat) : Int32 := 60 * nI p / nI n + (v p).2.2.2.2.2
set_option maxHeartbeats 4000000 in
set_option maxRecDepth 100000 in
theorem c_Gang_tickAt (l : Launch) (E : Nat) (D : va_G) (cI cO cZ : ClassId) (z0 : Nat) (M : gM) {gg gl gt n : Nat} {g : Nat → Nat} {v : Nat → gH} (hg : gw_Gg z0 cO M gg gl gt n g v) {i : Nat} (hi : i < n) : Met l y_Gang_tickAt (Cond.code y_Gang_tickAt b_Gang_tickAt 3 (some .int) :: gT) ({ frames := 3, cells := 0, slots := 0, locals := 64 }) (gw_Pc E D cI cO cZ z0 M [.ref gg, .int (nI i)]) (gw_Qi E D (fun r M' => r = p_tick n v i ∧ M' = M)) 0 0 (gw_A E) := by
  refine gw_ofW (cc := b_Gang_tickAt) (maxL := 3) (ret := (some .int)) (by decide) rfl (Nat.le_of_ble_eq_true rfl) ?_
  intro p e s m args below meth c hx hb hr hml hts hown hlk hnm hF hG ls hl
  have hT : ∀ w ∈ gT, w.before args s = true := fun w h => hts w (List.mem_cons_of_mem _ h)
  have hK := hF.1
  have hl : lv_has ls 3 [(0, .ref gg), (1, .int (nI i))] := hl
  obtain ⟨hgg, hL, hh, hd⟩ := id hg
  obtain ⟨k, hgl, h10, -⟩ := id hL
  refine lv_aload_n hx hb d_Gang_tickAt_0 rfl (lv_at hl 0 rfl) ?_
  refine gw_get hx hb hT i_Gang hown hK hG hgg rfl 0 (by decide) (hT _ wm_91) (fun _ h => h) rfl d_Gang_tickAt_1 ?_
  refine gw_calli (gw_runV (As := []) (rest := []) ⟨hx, hb, hml, hown, hts⟩ (c_L_size l E D cI cO cZ z0 M hL) (gw_cwV 0 hts (gT_gi wm_286) rfl rfl rfl (hT _ wm_26) (hT _ wm_411) (hT _ wm_284) (hT _ wm_285) (by decide +kernel) ⟨Nat.le_of_ble_eq_true rfl, Nat.le_of_ble_eq_true rfl⟩) hF hG rfl hgl rfl hl.1 rfl (Nat.le_of_ble_eq_true rfl) d_Gang_tickAt_4 ⟨Nat.le_of_ble_eq_true rfl, Nat.le_of_ble_eq_true rfl⟩) hG (fun r M1 H locs hp hG => ?_)
  rw [hp.1]
  replace hG := gw_nm hp.2.symm hG
  refine lv_istore_n (lv' := [(2, .int (nI n)), (0, .ref gg), (1, .int (nI i))]) hx hb d_Gang_tickAt_7 rfl hl (by decide) rfl (fun ls hl => ?_)
  refine lv_iload_n hx hb d_Gang_tickAt_8 rfl (lv_at hl 2 rfl) ?_
  refine lv_if_lt (tgt := 17) hx hb d_Gang_tickAt_9 (by decide) (fun z_ => absurd z_ (nI_pos (by omega))) (fun c_9 => ?_)
  refine lv_iload_n hx hb d_Gang_tickAt_12 rfl (lv_at hl 2 rfl) ?_
  refine lv_iload_n hx hb d_Gang_tickAt_13 rfl (lv_at hl 0 rfl) ?_
  refine lv_icmp_lt (tgt := 19) hx hb d_Gang_tickAt_14 (by decide) (fun c_14 => ?_) (fun z_ => absurd (nI_lt hi (by omega)) z_)
  refine lv_bipush (v := 60) hx hb d_Gang_tickAt_19 (by decide) ?_
  refine lv_iload_n hx hb d_Gang_tickAt_21 rfl (lv_at hl 2 rfl) ?_
  refine lv_imul hx hb d_Gang_tickAt_22 ?_
  refine lv_iload_n hx hb d_Gang_tickAt_23 rfl (lv_at hl 0 rfl) ?_
  refine lv_idiv hx hb d_Gang_tickAt_24 (nI_ne0 (by omega) (by omega)) ?_
  refine lv_aload_n hx hb d_Gang_tickAt_25 rfl (lv_at hl 1 rfl) ?_
  refine gw_get hx hb hT i_Gang hown hK hG hgg rfl 0 (by decide) (hT _ wm_91) (fun _ h => h) rfl d_Gang_tickAt_26 ?_
  refine lv_iload_n hx hb d_Gang_tickAt_29 rfl (lv_at hl 2 rfl) ?_
  refine gw_callq (gw_runV (As := [.int (nI i)]) (rest := [.int (60 * nI i / nI n)]) ⟨hx, hb, hml, hown, hts⟩ (c_L_get l E D cI cO cZ z0 M hL (p := i) hi) (gw_cwV 1 hts (gT_gi wm_362) rfl rfl rfl (hT _ wm_26) (hT _ wm_412) (hT _ wm_360) (hT _ wm_361) (by decide +kernel) ⟨Nat.le_of_ble_eq_true rfl, Nat.le_of_ble_eq_true rfl⟩) hF hG rfl hgl rfl hl.1 rfl (Nat.le_of_ble_eq_true rfl) d_Gang_tickAt_30 ⟨Nat.le_of_ble_eq_true rfl, Nat.le_of_ble_eq_true rfl⟩) hG (fun r M2 H locs hp hG => ?_)
  rw [hp.1]
  replace hG := gw_nm hp.2.symm hG
  have hgi := hh i hi
  refine gw_cast (ci := 6) (r := (R_Hand, F_Hand, 10)) hx hb hown (hT _ wm_413) hF hG rfl hgi d_Gang_tickAt_33 ?_
  refine gw_get hx hb hT i_Hand hown hK hG hgi rfl 5 (by decide) (hT _ wm_475) (fun _ h => h) rfl d_Gang_tickAt_36 ?_
  refine lv_iadd hx hb d_Gang_tickAt_39 ?_
  exact gw_iret (v := ((60 * nI i / nI n) + ((v i).2.2.2.2.2))) hx hb hr hlk hG (⟨rfl, rfl⟩) (Nat.le_of_ble_eq_true rfl) (Nat.le_of_ble_eq_true rfl) d_Gang_tickAt_40
set_option maxHeartbeats 4000000 in
set_option maxRecDepth 100000 in
theorem c_Gang_tireAll (l : Launch) (E : Nat) (D : va_G) (cI cO cZ : ClassId) (z0 : Nat) (M : gM) {gg gl gt n : Nat} {g : Nat → Nat} {v : Nat → gH} (hg : gw_Gg z0 cO M gg gl gt n g v) : Met l y_Gang_tireAll (Cond.code y_Gang_tireAll b_Gang_tireAll 2 none :: gT) ({ frames := 3, cells := 0, slots := 0, locals := 64 }) (gw_Pc E D cI cO cZ z0 M [.ref gg]) (gw_Qv E D (fun M' => gw_ch M M' n g (fun p => p_tire (v p)))) 0 0 (gw_A E) := by
  refine gw_ofW (cc := b_Gang_tireAll) (maxL := 2) (ret := none) (by decide) rfl (Nat.le_of_ble_eq_true rfl) ?_
  intro p e s m args below meth c hx hb hr hml hts hown hlk hnm hF hG ls hl
  have hT : ∀ w ∈ gT, w.before args s = true := fun w h => hts w (List.mem_cons_of_mem _ h)
  have hK := hF.1
  have hl : lv_has ls 2 [(0, .ref gg)] := hl
  obtain ⟨hgg, hL, hh, hd⟩ := id hg
  obtain ⟨k, hgl, h10, -⟩ := id hL
  refine lv_iconst (v := 0) hx hb d_Gang_tireAll_0 (by decide) ?_
  refine lv_istore_n (lv' := [(1, .int 0), (0, .ref gg)]) hx hb d_Gang_tireAll_1 rfl hl (by decide) rfl (fun ls hl => ?_)
  have loop : ∀ (d i : Nat), i + d = n → ∀ (X : gM) (H : Heap) (locs : List Loc) (ls : Array Slot), (gw_ch M X n g (fun p => if p < i then p_tire (v p) else v p)) → gw_H E D X s H locs → lv_has ls 2 [(1, .int (nI i)), (0, .ref gg)] → W p l e ({ frames := 3, cells := 0, slots := 0, locals := 64 } : Room) s m args below meth c H locs 0 0 (MQ below (gw_Qv E D (fun M' => gw_ch M M' n g (fun p => p_tire (v p)))) args s 0 0 (gw_A E)) (F0 m 2 ls []) := by
    intro d
    induction d with
    | zero =>
      intro i hi X H locs ls hI hG hl
      obtain ⟨hgg, hL, hh, hd⟩ := hg.ch hI
      obtain ⟨k, hgl, h10, -⟩ := id hL
      refine lv_iload_n hx hb d_Gang_tireAll_2 rfl (lv_at hl 0 rfl) ?_
      refine lv_aload_n hx hb d_Gang_tireAll_3 rfl (lv_at hl 1 rfl) ?_
      refine gw_get hx hb hT i_Gang hown hK hG hgg rfl 0 (by decide) (hT _ wm_91) (fun _ h => h) rfl d_Gang_tireAll_4 ?_
      refine gw_calli (gw_runV (As := []) (rest := [.int (nI i)]) ⟨hx, hb, hml, hown, hts⟩ (c_L_size l E D cI cO cZ z0 X hL) (gw_cwV 0 hts (gT_gi wm_286) rfl rfl rfl (hT _ wm_26) (hT _ wm_411) (hT _ wm_284) (hT _ wm_285) (by decide +kernel) ⟨Nat.le_of_ble_eq_true rfl, Nat.le_of_ble_eq_true rfl⟩) hF hG rfl hgl rfl hl.1 rfl (Nat.le_of_ble_eq_true rfl) d_Gang_tireAll_7 ⟨Nat.le_of_ble_eq_true rfl, Nat.le_of_ble_eq_true rfl⟩) hG (fun r M1 H locs hp hG => ?_)
      rw [hp.1]
      replace hG := gw_nm hp.2.symm hG
      refine lv_icmp_ge (tgt := 33) hx hb d_Gang_tireAll_10 (by decide) (fun c_10 => ?_) (fun z_ => absurd (nI_le (by omega) (by omega)) z_)
      exact gw_vret hx hb hr hlk hG (hI.to (fun p hp => if_pos (by omega))) (Nat.le_of_ble_eq_true rfl) (Nat.le_of_ble_eq_true rfl) d_Gang_tireAll_33
    | succ d ih =>
      intro i hi X H locs ls hI hG hl
      obtain ⟨hgg, hL, hh, hd⟩ := hg.ch hI
      obtain ⟨k, hgl, h10, -⟩ := id hL
      refine lv_iload_n hx hb d_Gang_tireAll_2 rfl (lv_at hl 0 rfl) ?_
      refine lv_aload_n hx hb d_Gang_tireAll_3 rfl (lv_at hl 1 rfl) ?_
      refine gw_get hx hb hT i_Gang hown hK hG hgg rfl 0 (by decide) (hT _ wm_91) (fun _ h => h) rfl d_Gang_tireAll_4 ?_
      refine gw_calli (gw_runV (As := []) (rest := [.int (nI i)]) ⟨hx, hb, hml, hown, hts⟩ (c_L_size l E D cI cO cZ z0 X hL) (gw_cwV 0 hts (gT_gi wm_286) rfl rfl rfl (hT _ wm_26) (hT _ wm_411) (hT _ wm_284) (hT _ wm_285) (by decide +kernel) ⟨Nat.le_of_ble_eq_true rfl, Nat.le_of_ble_eq_true rfl⟩) hF hG rfl hgl rfl hl.1 rfl (Nat.le_of_ble_eq_true rfl) d_Gang_tireAll_7 ⟨Nat.le_of_ble_eq_true rfl, Nat.le_of_ble_eq_true rfl⟩) hG (fun r M2 H locs hp hG => ?_)
      rw [hp.1]
      replace hG := gw_nm hp.2.symm hG
      refine lv_icmp_ge (tgt := 33) hx hb d_Gang_tireAll_10 (by decide) (fun z_ => absurd z_ (nI_ge (by omega) (by omega))) (fun c_10 => ?_)
      refine lv_aload_n hx hb d_Gang_tireAll_13 rfl (lv_at hl 1 rfl) ?_
      refine gw_get hx hb hT i_Gang hown hK hG hgg rfl 0 (by decide) (hT _ wm_91) (fun _ h => h) rfl d_Gang_tireAll_14 ?_
      refine lv_iload_n hx hb d_Gang_tireAll_17 rfl (lv_at hl 0 rfl) ?_
      refine gw_callq (gw_runV (As := [.int (nI i)]) (rest := []) ⟨hx, hb, hml, hown, hts⟩ (c_L_get l E D cI cO cZ z0 X hL (p := i) (by omega)) (gw_cwV 1 hts (gT_gi wm_362) rfl rfl rfl (hT _ wm_26) (hT _ wm_412) (hT _ wm_360) (hT _ wm_361) (by decide +kernel) ⟨Nat.le_of_ble_eq_true rfl, Nat.le_of_ble_eq_true rfl⟩) hF hG rfl hgl rfl hl.1 rfl (Nat.le_of_ble_eq_true rfl) d_Gang_tireAll_18 ⟨Nat.le_of_ble_eq_true rfl, Nat.le_of_ble_eq_true rfl⟩) hG (fun r M3 H locs hp hG => ?_)
      rw [hp.1]
      replace hG := gw_nm hp.2.symm hG
      have hgi := hI.at (by omega : i < n)
      refine gw_cast (ci := 6) (r := (R_Hand, F_Hand, 10)) hx hb hown (hT _ wm_413) hF hG rfl hgi d_Gang_tireAll_21 ?_
      refine gw_callv (gw_runV (As := []) (rest := []) ⟨hx, hb, hml, hown, hts⟩ (c_Hand_tire l E D cI cO cZ z0 X hgi) (gw_cwV 0 hts (gT_gi wm_714) rfl rfl rfl (hT _ wm_40) (hT _ wm_711) (hT _ wm_712) (hT _ wm_713) (by decide +kernel) ⟨Nat.le_of_ble_eq_true rfl, Nat.le_of_ble_eq_true rfl⟩) hF hG rfl hgi rfl hl.1 rfl (Nat.le_of_ble_eq_true rfl) d_Gang_tireAll_24 ⟨Nat.le_of_ble_eq_true rfl, Nat.le_of_ble_eq_true rfl⟩) hG (fun M4 H locs hp hG => ?_)
      refine lv_iinc (v := nI (i + 1)) (lv' := [(1, .int (nI (i + 1))), (0, .ref gg)]) hx hb d_Gang_tireAll_27 hl (k := 0) rfl (nI_succ i).symm (by decide) rfl (fun ls hl => ?_)
      refine lv_goto (tgt := 2) hx hb d_Gang_tireAll_30 (by decide) ?_
      exact ih (i + 1) (by omega) M4 _ _ _ (by rw [hp]; exact gw_ch.step (w := fun p => p_tire (v p)) hg.2.2.2 (by omega) hI) hG (lv_sub hl [0, 1] rfl)
  exact loop _ _ (Nat.zero_add n) M _ _ _ (gw_ch.zero (w := fun p => p_tire (v p)) hg.2.2.1) hG (lv_sub hl [0, 1] rfl)
set_option maxHeartbeats 4000000 in
set_option maxRecDepth 100000 in
theorem c_Gang_forgetErrors (l : Launch) (E : Nat) (D : va_G) (cI cO cZ : ClassId) (z0 : Nat) (M : gM) {gg gl gt n : Nat} {g : Nat → Nat} {v : Nat → gH} (hg : gw_Gg z0 cO M gg gl gt n g v) : Met l y_Gang_forgetErrors (Cond.code y_Gang_forgetErrors b_Gang_forgetErrors 2 none :: gT) ({ frames := 3, cells := 0, slots := 0, locals := 64 }) (gw_Pc E D cI cO cZ z0 M [.ref gg]) (gw_Qv E D (fun M' => gw_ch M M' n g (fun p => hEr (v p) 0))) 0 0 (gw_A E) := by
  refine gw_ofW (cc := b_Gang_forgetErrors) (maxL := 2) (ret := none) (by decide) rfl (Nat.le_of_ble_eq_true rfl) ?_
  intro p e s m args below meth c hx hb hr hml hts hown hlk hnm hF hG ls hl
  have hT : ∀ w ∈ gT, w.before args s = true := fun w h => hts w (List.mem_cons_of_mem _ h)
  have hK := hF.1
  have hl : lv_has ls 2 [(0, .ref gg)] := hl
  obtain ⟨hgg, hL, hh, hd⟩ := id hg
  obtain ⟨k, hgl, h10, -⟩ := id hL
  refine lv_iconst (v := 0) hx hb d_Gang_forgetErrors_0 (by decide) ?_
  refine lv_istore_n (lv' := [(1, .int 0), (0, .ref gg)]) hx hb d_Gang_forgetErrors_1 rfl hl (by decide) rfl (fun ls hl => ?_)
  have loop : ∀ (d i : Nat), i + d = n → ∀ (X : gM) (H : Heap) (locs : List Loc) (ls : Array Slot), (gw_ch M X n g (fun p => if p < i then hEr (v p) 0 else v p)) → gw_H E D X s H locs → lv_has ls 2 [(1, .int (nI i)), (0, .ref gg)] → W p l e ({ frames := 3, cells := 0, slots := 0, locals := 64 } : Room) s m args below meth c H locs 0 0 (MQ below (gw_Qv E D (fun M' => gw_ch M M' n g (fun p => hEr (v p) 0))) args s 0 0 (gw_A E)) (F0 m 2 ls []) := by
    intro d
    induction d with
    | zero =>
      intro i hi X H locs ls hI hG hl
      obtain ⟨hgg, hL, hh, hd⟩ := hg.ch hI
      obtain ⟨k, hgl, h10, -⟩ := id hL
      refine lv_iload_n hx hb d_Gang_forgetErrors_2 rfl (lv_at hl 0 rfl) ?_
      refine lv_aload_n hx hb d_Gang_forgetErrors_3 rfl (lv_at hl 1 rfl) ?_
      refine gw_get hx hb hT i_Gang hown hK hG hgg rfl 0 (by decide) (hT _ wm_91) (fun _ h => h) rfl d_Gang_forgetErrors_4 ?_
      refine gw_calli (gw_runV (As := []) (rest := [.int (nI i)]) ⟨hx, hb, hml, hown, hts⟩ (c_L_size l E D cI cO cZ z0 X hL) (gw_cwV 0 hts (gT_gi wm_286) rfl rfl rfl (hT _ wm_26) (hT _ wm_411) (hT _ wm_284) (hT _ wm_285) (by decide +kernel) ⟨Nat.le_of_ble_eq_true rfl, Nat.le_of_ble_eq_true rfl⟩) hF hG rfl hgl rfl hl.1 rfl (Nat.le_of_ble_eq_true rfl) d_Gang_forgetErrors_7 ⟨Nat.le_of_ble_eq_true rfl, Nat.le_of_ble_eq_true rfl⟩) hG (fun r M1 H locs hp hG => ?_)
      rw [hp.1]
      replace hG := gw_nm hp.2.symm hG
      refine lv_icmp_ge (tgt := 34) hx hb d_Gang_forgetErrors_10 (by decide) (fun c_10 => ?_) (fun z_ => absurd (nI_le (by omega) (by omega)) z_)
      exact gw_vret hx hb hr hlk hG (hI.to (fun p hp => if_pos (by omega))) (Nat.le_of_ble_eq_true rfl) (Nat.le_of_ble_eq_true rfl) d_Gang_forgetErrors_34
    | succ d ih =>
      intro i hi X H locs ls hI hG hl
      obtain ⟨hgg, hL, hh, hd⟩ := hg.ch hI
      obtain ⟨k, hgl, h10, -⟩ := id hL
      refine lv_iload_n hx hb d_Gang_forgetErrors_2 rfl (lv_at hl 0 rfl) ?_
      refine lv_aload_n hx hb d_Gang_forgetErrors_3 rfl (lv_at hl 1 rfl) ?_
      refine gw_get hx hb hT i_Gang hown hK hG hgg rfl 0 (by decide) (hT _ wm_91) (fun _ h => h) rfl d_Gang_forgetErrors_4 ?_
      refine gw_calli (gw_runV (As := []) (rest := [.int (nI i)]) ⟨hx, hb, hml, hown, hts⟩ (c_L_size l E D cI cO cZ z0 X hL) (gw_cwV 0 hts (gT_gi wm_286) rfl rfl rfl (hT _ wm_26) (hT _ wm_411) (hT _ wm_284) (hT _ wm_285) (by decide +kernel) ⟨Nat.le_of_ble_eq_true rfl, Nat.le_of_ble_eq_true rfl⟩) hF hG rfl hgl rfl hl.1 rfl (Nat.le_of_ble_eq_true rfl) d_Gang_forgetErrors_7 ⟨Nat.le_of_ble_eq_true rfl, Nat.le_of_ble_eq_true rfl⟩) hG (fun r M2 H locs hp hG => ?_)
      rw [hp.1]
      replace hG := gw_nm hp.2.symm hG
      refine lv_icmp_ge (tgt := 34) hx hb d_Gang_forgetErrors_10 (by decide) (fun z_ => absurd z_ (nI_ge (by omega) (by omega))) (fun c_10 => ?_)
      refine lv_aload_n hx hb d_Gang_forgetErrors_13 rfl (lv_at hl 1 rfl) ?_
      refine gw_get hx hb hT i_Gang hown hK hG hgg rfl 0 (by decide) (hT _ wm_91) (fun _ h => h) rfl d_Gang_forgetErrors_14 ?_
      refine lv_iload_n hx hb d_Gang_forgetErrors_17 rfl (lv_at hl 0 rfl) ?_
      refine gw_callq (gw_runV (As := [.int (nI i)]) (rest := []) ⟨hx, hb, hml, hown, hts⟩ (c_L_get l E D cI cO cZ z0 X hL (p := i) (by omega)) (gw_cwV 1 hts (gT_gi wm_362) rfl rfl rfl (hT _ wm_26) (hT _ wm_412) (hT _ wm_360) (hT _ wm_361) (by decide +kernel) ⟨Nat.le_of_ble_eq_true rfl, Nat.le_of_ble_eq_true rfl⟩) hF hG rfl hgl rfl hl.1 rfl (Nat.le_of_ble_eq_true rfl) d_Gang_forgetErrors_18 ⟨Nat.le_of_ble_eq_true rfl, Nat.le_of_ble_eq_true rfl⟩) hG (fun r M3 H locs hp hG => ?_)
      rw [hp.1]
      replace hG := gw_nm hp.2.symm hG
      have hgi := hI.at (by omega : i < n)
      refine gw_cast (ci := 6) (r := (R_Hand, F_Hand, 10)) hx hb hown (hT _ wm_413) hF hG rfl hgi d_Gang_forgetErrors_21 ?_
      refine lv_iconst (v := 0) hx hb d_Gang_forgetErrors_24 (by decide) ?_
      refine gw_put (v := .int 0) hx hb hT i_Hand t_Hand t_Hand_ok n_Hand hown hK hG hgi rfl 5 (by decide) (hT _ wm_475) (fun _ h => h) rfl rfl rfl (Nat.le_of_ble_eq_true rfl) d_Gang_forgetErrors_25 (fun H locs hG => ?_)
      obtain ⟨M4, e_M4⟩ : ∃ Y_ : gM, Y_ = gw_up X (g i) (.inr (6, [.int (v i).1, .int (v i).2.1, .int (v i).2.2.1, .int (v i).2.2.2.1, .int (v i).2.2.2.2.1, .int 0, .int 32, .int 0, .int 0, .int (-1)])) := ⟨_, rfl⟩
      replace hG := gw_nm e_M4 hG
      have hM4_gg := (congrFun e_M4 gg).trans ((gw_miss (gw_neO hgg hgi (by decide))).trans hgg)
      have hM4_gl := (congrFun e_M4 gl).trans ((gw_miss (gw_neO hgl hgi (by decide))).trans hgl)
      have hM4__g_i_ := (congrFun e_M4 ((g i))).trans gw_hit
      refine lv_iinc (v := nI (i + 1)) (lv' := [(1, .int (nI (i + 1))), (0, .ref gg)]) hx hb d_Gang_forgetErrors_28 hl (k := 0) rfl (nI_succ i).symm (by decide) rfl (fun ls hl => ?_)
      refine lv_goto (tgt := 2) hx hb d_Gang_forgetErrors_31 (by decide) ?_
      exact ih (i + 1) (by omega) M4 _ _ _ (by rw [e_M4]; exact gw_ch.step (w := fun p => hEr (v p) 0) hg.2.2.2 (by omega) hI) hG (lv_sub hl [0, 1] rfl)
  exact loop _ _ (Nat.zero_add n) M _ _ _ (gw_ch.zero (w := fun p => hEr (v p) 0) hg.2.2.1) hG (lv_sub hl [0, 1] rfl)
set_option maxHeartbeats 4000000 in
set_option maxRecDepth 100000 in
theorem c_Gang_hasHurt (l : Launch) (E : Nat) (D : va_G) (cI cO cZ : ClassId) (z0 : Nat) (M : gM) {gg gl gt n : Nat} {g : Nat → Nat} {v : Nat → gH} (hg : gw_Gg z0 cO M gg gl gt n g v) (hu : ∀ p, p < n → (v p).2.2.2.1 = 0) : Met l y_Gang_hasHurt (Cond.code y_Gang_hasHurt b_Gang_hasHurt 2 (some .boolean) :: gT) ({ frames := 3, cells := 0, slots := 0, locals := 64 }) (gw_Pc E D cI cO cZ z0 M [.ref gg]) (gw_Qi E D (fun r M' => r = 0 ∧ M' = M)) 0 0 (gw_A E) := by
  refine gw_ofW (cc := b_Gang_hasHurt) (maxL := 2) (ret := (some .boolean)) (by decide) rfl (Nat.le_of_ble_eq_true rfl) ?_
  intro p e s m args below meth c hx hb hr hml hts hown hlk hnm hF hG ls hl
  have hT : ∀ w ∈ gT, w.before args s = true := fun w h => hts w (List.mem_cons_of_mem _ h)
  have hK := hF.1
  have hl : lv_has ls 2 [(0, .ref gg)] := hl
  obtain ⟨hgg, hL, hh, hd⟩ := id hg
  obtain ⟨k, hgl, h10, -⟩ := id hL
  refine lv_iconst (v := 0) hx hb d_Gang_hasHurt_0 (by decide) ?_
  refine lv_istore_n (lv' := [(1, .int 0), (0, .ref gg)]) hx hb d_Gang_hasHurt_1 rfl hl (by decide) rfl (fun ls hl => ?_)
  have loop : ∀ (d i : Nat), i + d = n → ∀ (X : gM) (H : Heap) (locs : List Loc) (ls : Array Slot), (X = M) → gw_H E D X s H locs → lv_has ls 2 [(1, .int (nI i)), (0, .ref gg)] → W p l e ({ frames := 3, cells := 0, slots := 0, locals := 64 } : Room) s m args below meth c H locs 0 0 (MQ below (gw_Qi E D (fun r M' => r = 0 ∧ M' = M)) args s 0 0 (gw_A E)) (F0 m 2 ls []) := by
    intro d
    induction d with
    | zero =>
      intro i hi X H locs ls hI hG hl
      replace hG := gw_nm hI.symm hG
      refine lv_iload_n hx hb d_Gang_hasHurt_2 rfl (lv_at hl 0 rfl) ?_
      refine lv_aload_n hx hb d_Gang_hasHurt_3 rfl (lv_at hl 1 rfl) ?_
      refine gw_get hx hb hT i_Gang hown hK hG hgg rfl 0 (by decide) (hT _ wm_91) (fun _ h => h) rfl d_Gang_hasHurt_4 ?_
      refine gw_calli (gw_runV (As := []) (rest := [.int (nI i)]) ⟨hx, hb, hml, hown, hts⟩ (c_L_size l E D cI cO cZ z0 M hL) (gw_cwV 0 hts (gT_gi wm_286) rfl rfl rfl (hT _ wm_26) (hT _ wm_411) (hT _ wm_284) (hT _ wm_285) (by decide +kernel) ⟨Nat.le_of_ble_eq_true rfl, Nat.le_of_ble_eq_true rfl⟩) hF hG rfl hgl rfl hl.1 rfl (Nat.le_of_ble_eq_true rfl) d_Gang_hasHurt_7 ⟨Nat.le_of_ble_eq_true rfl, Nat.le_of_ble_eq_true rfl⟩) hG (fun r M1 H locs hp hG => ?_)
      rw [hp.1]
      replace hG := gw_nm hp.2.symm hG
      refine lv_icmp_ge (tgt := 38) hx hb d_Gang_hasHurt_10 (by decide) (fun c_10 => ?_) (fun z_ => absurd (nI_le (by omega) (by omega)) z_)
      refine lv_iconst (v := 0) hx hb d_Gang_hasHurt_38 (by decide) ?_
      exact gw_zret (v := 0) hx hb hr hlk hG rfl ⟨rfl, rfl⟩ (Nat.le_of_ble_eq_true rfl) (Nat.le_of_ble_eq_true rfl) d_Gang_hasHurt_39
    | succ d ih =>
      intro i hi X H locs ls hI hG hl
      replace hG := gw_nm hI.symm hG
      refine lv_iload_n hx hb d_Gang_hasHurt_2 rfl (lv_at hl 0 rfl) ?_
      refine lv_aload_n hx hb d_Gang_hasHurt_3 rfl (lv_at hl 1 rfl) ?_
      refine gw_get hx hb hT i_Gang hown hK hG hgg rfl 0 (by decide) (hT _ wm_91) (fun _ h => h) rfl d_Gang_hasHurt_4 ?_
      refine gw_calli (gw_runV (As := []) (rest := [.int (nI i)]) ⟨hx, hb, hml, hown, hts⟩ (c_L_size l E D cI cO cZ z0 M hL) (gw_cwV 0 hts (gT_gi wm_286) rfl rfl rfl (hT _ wm_26) (hT _ wm_411) (hT _ wm_284) (hT _ wm_285) (by decide +kernel) ⟨Nat.le_of_ble_eq_true rfl, Nat.le_of_ble_eq_true rfl⟩) hF hG rfl hgl rfl hl.1 rfl (Nat.le_of_ble_eq_true rfl) d_Gang_hasHurt_7 ⟨Nat.le_of_ble_eq_true rfl, Nat.le_of_ble_eq_true rfl⟩) hG (fun r M2 H locs hp hG => ?_)
      rw [hp.1]
      replace hG := gw_nm hp.2.symm hG
      refine lv_icmp_ge (tgt := 38) hx hb d_Gang_hasHurt_10 (by decide) (fun z_ => absurd z_ (nI_ge (by omega) (by omega))) (fun c_10 => ?_)
      refine lv_aload_n hx hb d_Gang_hasHurt_13 rfl (lv_at hl 1 rfl) ?_
      refine gw_get hx hb hT i_Gang hown hK hG hgg rfl 0 (by decide) (hT _ wm_91) (fun _ h => h) rfl d_Gang_hasHurt_14 ?_
      refine lv_iload_n hx hb d_Gang_hasHurt_17 rfl (lv_at hl 0 rfl) ?_
      refine gw_callq (gw_runV (As := [.int (nI i)]) (rest := []) ⟨hx, hb, hml, hown, hts⟩ (c_L_get l E D cI cO cZ z0 M hL (p := i) (by omega)) (gw_cwV 1 hts (gT_gi wm_362) rfl rfl rfl (hT _ wm_26) (hT _ wm_412) (hT _ wm_360) (hT _ wm_361) (by decide +kernel) ⟨Nat.le_of_ble_eq_true rfl, Nat.le_of_ble_eq_true rfl⟩) hF hG rfl hgl rfl hl.1 rfl (Nat.le_of_ble_eq_true rfl) d_Gang_hasHurt_18 ⟨Nat.le_of_ble_eq_true rfl, Nat.le_of_ble_eq_true rfl⟩) hG (fun r M3 H locs hp hG => ?_)
      rw [hp.1]
      replace hG := gw_nm hp.2.symm hG
      have hgi := hh i (by omega)
      refine gw_cast (ci := 6) (r := (R_Hand, F_Hand, 10)) hx hb hown (hT _ wm_413) hF hG rfl hgi d_Gang_hasHurt_21 ?_
      refine gw_get hx hb hT i_Hand hown hK hG hgi rfl 3 (by decide) (hT _ wm_470) (fun _ h => h) rfl d_Gang_hasHurt_24 ?_
      refine lv_if_le (tgt := 32) hx hb d_Gang_hasHurt_27 (by decide) (fun c_27 => ?_) (fun z_ => absurd (by rw [hu i (by omega)]; decide) z_)
      refine lv_iinc (v := nI (i + 1)) (lv' := [(1, .int (nI (i + 1))), (0, .ref gg)]) hx hb d_Gang_hasHurt_32 hl (k := 0) rfl (nI_succ i).symm (by decide) rfl (fun ls hl => ?_)
      refine lv_goto (tgt := 2) hx hb d_Gang_hasHurt_35 (by decide) ?_
      exact ih (i + 1) (by omega) M _ _ _ rfl hG (lv_sub hl [0, 1] rfl)
  exact loop _ _ (Nat.zero_add n) M _ _ _ rfl hG (lv_sub hl [0, 1] rfl)
def pv (n i : Nat) : Nat := if i = 0 then n - 1 else i - 1
theorem pv_s (n i : Nat) : pv n (i + 1) = i := by unfold pv; rw [if_neg (by omega)]; rfl
def p_lean (n : Nat) (v : Nat → gH) (p : Nat) : gH := hEr (v p) (((v p).2.2.2.2.2 + (v (pv n p)).2.2.2.2.2) / 2 + p_drift (v p))
set_option maxHeartbeats 4000000 in
set_option maxRecDepth 100000 in
theorem c_Gang_leanOnOneAnother (l : Launch) (E : Nat) (D : va_G) (cI cO cZ : ClassId) (z0 : Nat) (M : gM) {gg gl gt n : Nat} {g : Nat → Nat} {v : Nat → gH} (hg : gw_Gg z0 cO M gg gl gt n g v) (hn : 0 < n) : Met l y_Gang_leanOnOneAnother (Cond.code y_Gang_leanOnOneAnother b_Gang_leanOnOneAnother 6 none :: gT) ({ frames := 3, cells := 0, slots := 0, locals := 64 }) (gw_Pc E D cI cO cZ z0 M [.ref gg]) (gw_Qv E D (fun M' => gw_ch M M' n g (p_lean n v))) 0 0 (gw_A E) := by
  refine gw_ofW (cc := b_Gang_leanOnOneAnother) (maxL := 6) (ret := none) (by decide) rfl (Nat.le_of_ble_eq_true rfl) ?_
  intro p e s m args below meth c hx hb hr hml hts hown hlk hnm hF hG ls hl
  have hT : ∀ w ∈ gT, w.before args s = true := fun w h => hts w (List.mem_cons_of_mem _ h)
  have hK := hF.1
  have hl : lv_has ls 6 [(0, .ref gg)] := hl
  obtain ⟨hgg, hL, hh, hd⟩ := id hg
  obtain ⟨k, hgl, h10, -⟩ := id hL
  refine lv_aload_n hx hb d_Gang_leanOnOneAnother_0 rfl (lv_at hl 0 rfl) ?_
  refine gw_get hx hb hT i_Gang hown hK hG hgg rfl 0 (by decide) (hT _ wm_91) (fun _ h => h) rfl d_Gang_leanOnOneAnother_1 ?_
  refine gw_calli (gw_runV (As := []) (rest := []) ⟨hx, hb, hml, hown, hts⟩ (c_L_size l E D cI cO cZ z0 M hL) (gw_cwV 0 hts (gT_gi wm_286) rfl rfl rfl (hT _ wm_26) (hT _ wm_411) (hT _ wm_284) (hT _ wm_285) (by decide +kernel) ⟨Nat.le_of_ble_eq_true rfl, Nat.le_of_ble_eq_true rfl⟩) hF hG rfl hgl rfl hl.1 rfl (Nat.le_of_ble_eq_true rfl) d_Gang_leanOnOneAnother_4 ⟨Nat.le_of_ble_eq_true rfl, Nat.le_of_ble_eq_true rfl⟩) hG (fun r M1 H locs hp hG => ?_)
  rw [hp.1]
  replace hG := gw_nm hp.2.symm hG
  refine lv_istore_n (lv' := [(1, .int (nI n)), (0, .ref gg)]) hx hb d_Gang_leanOnOneAnother_7 rfl hl (by decide) rfl (fun ls hl => ?_)
  refine lv_iload_n hx hb d_Gang_leanOnOneAnother_8 rfl (lv_at hl 0 rfl) ?_
  refine lv_if_le (tgt := 31) hx hb d_Gang_leanOnOneAnother_9 (by decide) (fun z_ => absurd z_ (nI_nle hn (by omega))) (fun c_9 => ?_)
  refine lv_aload_n hx hb d_Gang_leanOnOneAnother_12 rfl (lv_at hl 1 rfl) ?_
  refine gw_get hx hb hT i_Gang hown hK hG hgg rfl 0 (by decide) (hT _ wm_91) (fun _ h => h) rfl d_Gang_leanOnOneAnother_13 ?_
  refine lv_iload_n hx hb d_Gang_leanOnOneAnother_16 rfl (lv_at hl 0 rfl) ?_
  refine lv_iconst (v := 1) hx hb d_Gang_leanOnOneAnother_17 (by decide) ?_
  refine lv_isub hx hb d_Gang_leanOnOneAnother_18 ?_
  rw [show nI n - 1 = (nI (n - 1)) from (pk_sub (a := n) (b := 1) (by omega))]
  refine gw_callq (gw_runV (As := [.int (nI (n - 1))]) (rest := []) ⟨hx, hb, hml, hown, hts⟩ (c_L_get l E D cI cO cZ z0 M hL (p := (n - 1)) (by omega)) (gw_cwV 1 hts (gT_gi wm_362) rfl rfl rfl (hT _ wm_26) (hT _ wm_412) (hT _ wm_360) (hT _ wm_361) (by decide +kernel) ⟨Nat.le_of_ble_eq_true rfl, Nat.le_of_ble_eq_true rfl⟩) hF hG rfl hgl rfl hl.1 rfl (Nat.le_of_ble_eq_true rfl) d_Gang_leanOnOneAnother_19 ⟨Nat.le_of_ble_eq_true rfl, Nat.le_of_ble_eq_true rfl⟩) hG (fun r M2 H locs hp hG => ?_)
  rw [hp.1]
  replace hG := gw_nm hp.2.symm hG
  have hgi := hh (n - 1) (by omega)
  refine gw_cast (ci := 6) (r := (R_Hand, F_Hand, 10)) hx hb hown (hT _ wm_413) hF hG rfl hgi d_Gang_leanOnOneAnother_22 ?_
  refine gw_get hx hb hT i_Hand hown hK hG hgi rfl 5 (by decide) (hT _ wm_475) (fun _ h => h) rfl d_Gang_leanOnOneAnother_25 ?_
  refine lv_goto (tgt := 32) hx hb d_Gang_leanOnOneAnother_28 (by decide) ?_
  refine lv_istore_n (lv' := [(2, .int (v (n - 1)).2.2.2.2.2), (1, .int (nI n)), (0, .ref gg)]) hx hb d_Gang_leanOnOneAnother_32 rfl hl (by decide) rfl (fun ls hl => ?_)
  refine lv_iconst (v := 0) hx hb d_Gang_leanOnOneAnother_33 (by decide) ?_
  refine lv_istore_n (lv' := [(3, .int 0), (2, .int (v (n - 1)).2.2.2.2.2), (1, .int (nI n)), (0, .ref gg)]) hx hb d_Gang_leanOnOneAnother_34 rfl hl (by decide) rfl (fun ls hl => ?_)
  have loop : ∀ (d i : Nat), i + d = n → ∀ (X : gM) (H : Heap) (locs : List Loc) (ls : Array Slot), (gw_ch M X n g (fun p => if p < i then p_lean n v p else v p)) → gw_H E D X s H locs → lv_has ls 6 [(1, .int (nI n)), (2, .int (v (pv n i)).2.2.2.2.2), (3, .int (nI i)), (0, .ref gg)] → W p l e ({ frames := 3, cells := 0, slots := 0, locals := 64 } : Room) s m args below meth c H locs 0 0 (MQ below (gw_Qv E D (fun M' => gw_ch M M' n g (p_lean n v))) args s 0 0 (gw_A E)) (F0 m 35 ls []) := by
    intro d
    induction d with
    | zero =>
      intro i hi X H locs ls hI hG hl
      obtain ⟨hgg, hL, hh, hd⟩ := hg.ch hI
      have hL2 := hL.choose_spec.2.1
      refine lv_iload_n hx hb d_Gang_leanOnOneAnother_35 rfl (lv_at hl 2 rfl) ?_
      refine lv_iload_n hx hb d_Gang_leanOnOneAnother_36 rfl (lv_at hl 0 rfl) ?_
      refine lv_icmp_ge (tgt := 86) hx hb d_Gang_leanOnOneAnother_37 (by decide) (fun c_37 => ?_) (fun z_ => absurd (nI_le (by omega) (by omega)) z_)
      exact gw_vret hx hb hr hlk hG (hI.to (fun p hp => if_pos (by omega))) (Nat.le_of_ble_eq_true rfl) (Nat.le_of_ble_eq_true rfl) d_Gang_leanOnOneAnother_86
    | succ d ih =>
      intro i hi X H locs ls hI hG hl
      obtain ⟨hgg, hL, hh, hd⟩ := hg.ch hI
      obtain ⟨k, hgl, h10, -⟩ := id hL
      refine lv_iload_n hx hb d_Gang_leanOnOneAnother_35 rfl (lv_at hl 2 rfl) ?_
      refine lv_iload_n hx hb d_Gang_leanOnOneAnother_36 rfl (lv_at hl 0 rfl) ?_
      refine lv_icmp_ge (tgt := 86) hx hb d_Gang_leanOnOneAnother_37 (by decide) (fun z_ => absurd z_ (nI_ge (by omega) (by omega))) (fun c_37 => ?_)
      refine lv_aload_n hx hb d_Gang_leanOnOneAnother_40 rfl (lv_at hl 3 rfl) ?_
      refine gw_get hx hb hT i_Gang hown hK hG hgg rfl 0 (by decide) (hT _ wm_91) (fun _ h => h) rfl d_Gang_leanOnOneAnother_41 ?_
      refine lv_iload_n hx hb d_Gang_leanOnOneAnother_44 rfl (lv_at hl 2 rfl) ?_
      refine gw_callq (gw_runV (As := [.int (nI i)]) (rest := []) ⟨hx, hb, hml, hown, hts⟩ (c_L_get l E D cI cO cZ z0 X hL (p := i) (by omega)) (gw_cwV 1 hts (gT_gi wm_362) rfl rfl rfl (hT _ wm_26) (hT _ wm_412) (hT _ wm_360) (hT _ wm_361) (by decide +kernel) ⟨Nat.le_of_ble_eq_true rfl, Nat.le_of_ble_eq_true rfl⟩) hF hG rfl hgl rfl hl.1 rfl (Nat.le_of_ble_eq_true rfl) d_Gang_leanOnOneAnother_45 ⟨Nat.le_of_ble_eq_true rfl, Nat.le_of_ble_eq_true rfl⟩) hG (fun r M3 H locs hp hG => ?_)
      rw [hp.1]
      replace hG := gw_nm hp.2.symm hG
      have hgi := hI.at (by omega : i < n)
      refine gw_cast (ci := 6) (r := (R_Hand, F_Hand, 10)) hx hb hown (hT _ wm_413) hF hG rfl hgi d_Gang_leanOnOneAnother_48 ?_
      refine lv_astore (lv' := [(4, .ref (g i)), (1, .int (nI n)), (2, .int (v (pv n i)).2.2.2.2.2), (3, .int (nI i)), (0, .ref gg)]) hx hb d_Gang_leanOnOneAnother_51 hl (by decide) rfl (fun ls hl => ?_)
      refine lv_aload hx hb d_Gang_leanOnOneAnother_53 (lv_at hl 0 rfl) ?_
      refine gw_get hx hb hT i_Hand hown hK hG hgi rfl 5 (by decide) (hT _ wm_475) (fun _ h => h) rfl d_Gang_leanOnOneAnother_55 ?_
      refine lv_istore (lv' := [(5, .int (v i).2.2.2.2.2), (4, .ref (g i)), (1, .int (nI n)), (2, .int (v (pv n i)).2.2.2.2.2), (3, .int (nI i)), (0, .ref gg)]) hx hb d_Gang_leanOnOneAnother_58 hl (by decide) rfl (fun ls hl => ?_)
      refine lv_aload hx hb d_Gang_leanOnOneAnother_60 (lv_at hl 1 rfl) ?_
      refine lv_iload hx hb d_Gang_leanOnOneAnother_62 (lv_at hl 0 rfl) ?_
      refine lv_iload_n hx hb d_Gang_leanOnOneAnother_64 rfl (lv_at hl 3 rfl) ?_
      refine lv_iadd hx hb d_Gang_leanOnOneAnother_65 ?_
      refine lv_iconst (v := 2) hx hb d_Gang_leanOnOneAnother_66 (by decide) ?_
      refine lv_idiv hx hb d_Gang_leanOnOneAnother_67 (by decide) ?_
      refine lv_aload hx hb d_Gang_leanOnOneAnother_68 (lv_at hl 1 rfl) ?_
      refine gw_calli (gw_runV (As := []) (rest := [.int (((v i).2.2.2.2.2 + (v (pv n i)).2.2.2.2.2) / 2), .ref (g i)]) ⟨hx, hb, hml, hown, hts⟩ (c_Hand_drift l E D cI cO cZ z0 X hgi) (gw_cwV 0 hts (gT_gi wm_695) rfl rfl rfl (hT _ wm_40) (hT _ wm_692) (hT _ wm_693) (hT _ wm_694) (by decide +kernel) ⟨Nat.le_of_ble_eq_true rfl, Nat.le_of_ble_eq_true rfl⟩) hF hG rfl hgi rfl hl.1 rfl (Nat.le_of_ble_eq_true rfl) d_Gang_leanOnOneAnother_70 ⟨Nat.le_of_ble_eq_true rfl, Nat.le_of_ble_eq_true rfl⟩) hG (fun r M4 H locs hp hG => ?_)
      rw [hp.1]
      replace hG := gw_nm hp.2.symm hG
      refine lv_iadd hx hb d_Gang_leanOnOneAnother_73 ?_
      refine gw_put (v := .int ((((v i).2.2.2.2.2 + (v (pv n i)).2.2.2.2.2) / 2) + (p_drift (v i)))) hx hb hT i_Hand t_Hand t_Hand_ok n_Hand hown hK hG hgi rfl 5 (by decide) (hT _ wm_475) (fun _ h => h) rfl rfl rfl (Nat.le_of_ble_eq_true rfl) d_Gang_leanOnOneAnother_74 (fun H locs hG => ?_)
      obtain ⟨M5, e_M5⟩ : ∃ Y_ : gM, Y_ = gw_up X (g i) (.inr (6, [.int (v i).1, .int (v i).2.1, .int (v i).2.2.1, .int (v i).2.2.2.1, .int (v i).2.2.2.2.1, .int ((((v i).2.2.2.2.2 + (v (pv n i)).2.2.2.2.2) / 2) + (p_drift (v i))), .int 32, .int 0, .int 0, .int (-1)])) := ⟨_, rfl⟩
      replace hG := gw_nm e_M5 hG
      have hM5_gg := (congrFun e_M5 gg).trans ((gw_miss (gw_neO hgg hgi (by decide))).trans hgg)
      have hM5_gl := (congrFun e_M5 gl).trans ((gw_miss (gw_neO hgl hgi (by decide))).trans hgl)
      have hM5__g_i_ := (congrFun e_M5 ((g i))).trans gw_hit
      refine lv_iload hx hb d_Gang_leanOnOneAnother_77 (lv_at hl 0 rfl) ?_
      refine lv_istore_n (lv' := [(2, .int (v i).2.2.2.2.2), (5, .int (v i).2.2.2.2.2), (4, .ref (g i)), (1, .int (nI n)), (3, .int (nI i)), (0, .ref gg)]) hx hb d_Gang_leanOnOneAnother_79 rfl hl (by decide) rfl (fun ls hl => ?_)
      refine lv_iinc (v := nI (i + 1)) (lv' := [(3, .int (nI (i + 1))), (2, .int (v i).2.2.2.2.2), (5, .int (v i).2.2.2.2.2), (4, .ref (g i)), (1, .int (nI n)), (0, .ref gg)]) hx hb d_Gang_leanOnOneAnother_80 hl (k := 4) rfl (nI_succ i).symm (by decide) rfl (fun ls hl => ?_)
      refine lv_goto (tgt := 35) hx hb d_Gang_leanOnOneAnother_83 (by decide) ?_
      have hl2 : lv_has ls 6 [(1, .int (nI n)), (2, .int (v (pv n (i + 1))).2.2.2.2.2), (3, .int (nI (i + 1))), (0, .ref gg)] := by rw [pv_s]; exact lv_sub hl [4, 1, 0, 5] rfl
      exact ih (i + 1) (by omega) M5 _ _ _ (by rw [e_M5]; exact gw_ch.step (w := p_lean n v) hg.2.2.2 (by omega) hI) hG hl2
  exact loop _ _ (Nat.zero_add n) M _ _ _ (gw_ch.zero (w := p_lean n v) hg.2.2.1) hG (lv_sub hl [2, 1, 0, 3] rfl)
end
section
theorem d_Gang_findLoser_0 : decode b_Gang_findLoser 0 = .ok (.aload_n 0, 1) := by decide +kernel
theorem d_Gang_findLoser_1 : decode b_Gang_findLoser 1 = .ok (.getfield 12, 3) := by decide +kernel
theorem d_Gang_findLoser_4 : decode b_Gang_findLoser 4 = .ok (.invokevirtual 18, 3) := by decide +kernel
theorem d_Gang_findLoser_7 : decode b_Gang_findLoser 7 = .ok (.istore_n 1, 1) := by decide +kernel
theorem d_Gang_findLoser_8 : decode b_Gang_findLoser 8 = .ok (.iconst 0, 1) := by decide +kernel
theorem d_Gang_findLoser_9 : decode b_Gang_findLoser 9 = .ok (.istore_n 2, 1) := by decide +kernel
theorem d_Gang_findLoser_10 : decode b_Gang_findLoser 10 = .ok (.iload_n 2, 1) := by decide +kernel
theorem d_Gang_findLoser_11 : decode b_Gang_findLoser 11 = .ok (.iconst 1, 1) := by decide +kernel
theorem d_Gang_findLoser_12 : decode b_Gang_findLoser 12 = .ok (.iadd, 1) := by decide +kernel
theorem d_Gang_findLoser_13 : decode b_Gang_findLoser 13 = .ok (.iload_n 1, 1) := by decide +kernel
theorem d_Gang_findLoser_14 : decode b_Gang_findLoser 14 = .ok (.if_icmp .ge 54, 3) := by decide +kernel
theorem d_Gang_findLoser_68 : decode b_Gang_findLoser 68 = .ok (.iload_n 1, 1) := by decide +kernel
theorem d_Gang_findLoser_69 : decode b_Gang_findLoser 69 = .ok (.ifCond .le 51, 3) := by decide +kernel
theorem d_Gang_findLoser_72 : decode b_Gang_findLoser 72 = .ok (.aload_n 0, 1) := by decide +kernel
theorem d_Gang_findLoser_73 : decode b_Gang_findLoser 73 = .ok (.iconst 0, 1) := by decide +kernel
theorem wm_650 : Cond.code ⟨"ThresholdRow$Gang", "tickAt", "(I)I"⟩ prog_4_method_6_code 3 (some .int) ∈ gT := gT_m (List.mem_of_getElem? (i := 650) (by decide +kernel)) (by decide +kernel)
theorem wm_700 : Cond.methodLink "ThresholdRow$Gang" 72 ⟨"ThresholdRow$Gang", "tickAt", "(I)I"⟩ ∈ gT := gT_m (List.mem_of_getElem? (i := 700) (by decide +kernel)) (by decide +kernel)
theorem d_Gang_findLoser_74 : decode b_Gang_findLoser 74 = .ok (.invokevirtual 72, 3) := by decide +kernel
theorem wm_648 : Cond.instanceMethod ⟨"ThresholdRow$Gang", "tickAt", "(I)I"⟩ ∈ gT := gT_m (List.mem_of_getElem? (i := 648) (by decide +kernel)) (by decide +kernel)
theorem wm_649 : Cond.selects "ThresholdRow$Gang" ⟨"ThresholdRow$Gang", "tickAt", "(I)I"⟩ ⟨"ThresholdRow$Gang", "tickAt", "(I)I"⟩ ∈ gT := gT_m (List.mem_of_getElem? (i := 649) (by decide +kernel)) (by decide +kernel)
theorem d_Gang_findLoser_77 : decode b_Gang_findLoser 77 = .ok (.bipush 60, 2) := by decide +kernel
theorem d_Gang_findLoser_79 : decode b_Gang_findLoser 79 = .ok (.iadd, 1) := by decide +kernel
theorem d_Gang_findLoser_80 : decode b_Gang_findLoser 80 = .ok (.aload_n 0, 1) := by decide +kernel
theorem d_Gang_findLoser_81 : decode b_Gang_findLoser 81 = .ok (.iload_n 1, 1) := by decide +kernel
theorem d_Gang_findLoser_82 : decode b_Gang_findLoser 82 = .ok (.iconst 1, 1) := by decide +kernel
theorem d_Gang_findLoser_83 : decode b_Gang_findLoser 83 = .ok (.isub, 1) := by decide +kernel
theorem d_Gang_findLoser_84 : decode b_Gang_findLoser 84 = .ok (.invokevirtual 72, 3) := by decide +kernel
theorem d_Gang_findLoser_87 : decode b_Gang_findLoser 87 = .ok (.isub, 1) := by decide +kernel
theorem d_Gang_findLoser_88 : decode b_Gang_findLoser 88 = .ok (.iconst 4, 1) := by decide +kernel
theorem d_Gang_findLoser_89 : decode b_Gang_findLoser 89 = .ok (.if_icmp .ge 31, 3) := by decide +kernel
theorem d_Gang_findLoser_120 : decode b_Gang_findLoser 120 = .ok (.aconst_null, 1) := by decide +kernel
theorem d_Gang_findLoser_121 : decode b_Gang_findLoser 121 = .ok (.areturn, 1) := by decide +kernel
theorem d_Gang_findLoser_92 : decode b_Gang_findLoser 92 = .ok (.aload_n 0, 1) := by decide +kernel
theorem d_Gang_findLoser_93 : decode b_Gang_findLoser 93 = .ok (.getfield 12, 3) := by decide +kernel
theorem d_Gang_findLoser_96 : decode b_Gang_findLoser 96 = .ok (.iload_n 1, 1) := by decide +kernel
theorem d_Gang_findLoser_97 : decode b_Gang_findLoser 97 = .ok (.iconst 1, 1) := by decide +kernel
theorem d_Gang_findLoser_98 : decode b_Gang_findLoser 98 = .ok (.isub, 1) := by decide +kernel
theorem d_Gang_findLoser_99 : decode b_Gang_findLoser 99 = .ok (.invokevirtual 22, 3) := by decide +kernel
theorem d_Gang_findLoser_102 : decode b_Gang_findLoser 102 = .ok (.checkcast 27, 3) := by decide +kernel
theorem d_Gang_findLoser_105 : decode b_Gang_findLoser 105 = .ok (.aload_n 0, 1) := by decide +kernel
theorem d_Gang_findLoser_106 : decode b_Gang_findLoser 106 = .ok (.getfield 12, 3) := by decide +kernel
theorem d_Gang_findLoser_109 : decode b_Gang_findLoser 109 = .ok (.iconst 0, 1) := by decide +kernel
theorem d_Gang_findLoser_110 : decode b_Gang_findLoser 110 = .ok (.invokevirtual 22, 3) := by decide +kernel
theorem d_Gang_findLoser_113 : decode b_Gang_findLoser 113 = .ok (.checkcast 27, 3) := by decide +kernel
theorem wm_703 : Cond.code ⟨"ThresholdRow$Gang", "worseOf", "(LThresholdRow$Hand;LThresholdRow$Hand;)LThresholdRow$Hand;"⟩ prog_4_method_10_code 2 (some (.object "ThresholdRow$Hand")) ∈ gT := gT_m (List.mem_of_getElem? (i := 703) (by decide +kernel)) (by decide +kernel)
theorem wm_701 : Cond.methodLink "ThresholdRow$Gang" 76 ⟨"ThresholdRow$Gang", "worseOf", "(LThresholdRow$Hand;LThresholdRow$Hand;)LThresholdRow$Hand;"⟩ ∈ gT := gT_m (List.mem_of_getElem? (i := 701) (by decide +kernel)) (by decide +kernel)
theorem d_Gang_findLoser_116 : decode b_Gang_findLoser 116 = .ok (.invokestatic 76, 3) := by decide +kernel
theorem wm_702 : Cond.static ⟨"ThresholdRow$Gang", "worseOf", "(LThresholdRow$Hand;LThresholdRow$Hand;)LThresholdRow$Hand;"⟩ ∈ gT := gT_m (List.mem_of_getElem? (i := 702) (by decide +kernel)) (by decide +kernel)
theorem d_Gang_findLoser_119 : decode b_Gang_findLoser 119 = .ok (.areturn, 1) := by decide +kernel
theorem d_Gang_findLoser_17 : decode b_Gang_findLoser 17 = .ok (.aload_n 0, 1) := by decide +kernel
theorem d_Gang_findLoser_18 : decode b_Gang_findLoser 18 = .ok (.iload_n 2, 1) := by decide +kernel
theorem d_Gang_findLoser_19 : decode b_Gang_findLoser 19 = .ok (.iconst 1, 1) := by decide +kernel
theorem d_Gang_findLoser_20 : decode b_Gang_findLoser 20 = .ok (.iadd, 1) := by decide +kernel
theorem d_Gang_findLoser_21 : decode b_Gang_findLoser 21 = .ok (.invokevirtual 72, 3) := by decide +kernel
theorem d_Gang_findLoser_24 : decode b_Gang_findLoser 24 = .ok (.aload_n 0, 1) := by decide +kernel
theorem d_Gang_findLoser_25 : decode b_Gang_findLoser 25 = .ok (.iload_n 2, 1) := by decide +kernel
theorem d_Gang_findLoser_26 : decode b_Gang_findLoser 26 = .ok (.invokevirtual 72, 3) := by decide +kernel
theorem d_Gang_findLoser_29 : decode b_Gang_findLoser 29 = .ok (.isub, 1) := by decide +kernel
theorem d_Gang_findLoser_30 : decode b_Gang_findLoser 30 = .ok (.iconst 4, 1) := by decide +kernel
theorem d_Gang_findLoser_31 : decode b_Gang_findLoser 31 = .ok (.if_icmp .ge 31, 3) := by decide +kernel
theorem d_Gang_findLoser_62 : decode b_Gang_findLoser 62 = .ok (.iinc 2 1, 3) := by decide +kernel
theorem d_Gang_findLoser_65 : decode b_Gang_findLoser 65 = .ok (.goto (-55), 3) := by decide +kernel
theorem d_Gang_findLoser_34 : decode b_Gang_findLoser 34 = .ok (.aload_n 0, 1) := by decide +kernel
theorem d_Gang_findLoser_35 : decode b_Gang_findLoser 35 = .ok (.getfield 12, 3) := by decide +kernel
theorem d_Gang_findLoser_38 : decode b_Gang_findLoser 38 = .ok (.iload_n 2, 1) := by decide +kernel
theorem d_Gang_findLoser_39 : decode b_Gang_findLoser 39 = .ok (.invokevirtual 22, 3) := by decide +kernel
theorem d_Gang_findLoser_42 : decode b_Gang_findLoser 42 = .ok (.checkcast 27, 3) := by decide +kernel
theorem d_Gang_findLoser_45 : decode b_Gang_findLoser 45 = .ok (.aload_n 0, 1) := by decide +kernel
theorem d_Gang_findLoser_46 : decode b_Gang_findLoser 46 = .ok (.getfield 12, 3) := by decide +kernel
theorem d_Gang_findLoser_49 : decode b_Gang_findLoser 49 = .ok (.iload_n 2, 1) := by decide +kernel
theorem d_Gang_findLoser_50 : decode b_Gang_findLoser 50 = .ok (.iconst 1, 1) := by decide +kernel
theorem d_Gang_findLoser_51 : decode b_Gang_findLoser 51 = .ok (.iadd, 1) := by decide +kernel
theorem d_Gang_findLoser_52 : decode b_Gang_findLoser 52 = .ok (.invokevirtual 22, 3) := by decide +kernel
theorem d_Gang_findLoser_55 : decode b_Gang_findLoser 55 = .ok (.checkcast 27, 3) := by decide +kernel
theorem d_Gang_findLoser_58 : decode b_Gang_findLoser 58 = .ok (.invokestatic 76, 3) := by decide +kernel
theorem d_Gang_findLoser_61 : decode b_Gang_findLoser 61 = .ok (.areturn, 1) := by decide +kernel
theorem d_Gang_beatRound_0 : decode b_Gang_beatRound 0 = .ok (.aload_n 0, 1) := by decide +kernel
theorem wm_691 : Cond.code ⟨"ThresholdRow$Gang", "leanOnOneAnother", "()V"⟩ prog_4_method_8_code 6 none ∈ gT := gT_m (List.mem_of_getElem? (i := 691) (by decide +kernel)) (by decide +kernel)
theorem wm_688 : Cond.methodLink "ThresholdRow$Gang" 43 ⟨"ThresholdRow$Gang", "leanOnOneAnother", "()V"⟩ ∈ gT := gT_m (List.mem_of_getElem? (i := 688) (by decide +kernel)) (by decide +kernel)
theorem d_Gang_beatRound_1 : decode b_Gang_beatRound 1 = .ok (.invokevirtual 43, 3) := by decide +kernel
theorem wm_690 : Cond.instanceMethod ⟨"ThresholdRow$Gang", "leanOnOneAnother", "()V"⟩ ∈ gT := gT_m (List.mem_of_getElem? (i := 690) (by decide +kernel)) (by decide +kernel)
theorem wm_14 : Cond.selects "ThresholdRow$Gang" ⟨"ThresholdRow$Gang", "leanOnOneAnother", "()V"⟩ ⟨"ThresholdRow$Gang", "leanOnOneAnother", "()V"⟩ ∈ gT := gT_m (List.mem_of_getElem? (i := 14) (by decide +kernel)) (by decide +kernel)
theorem d_Gang_beatRound_4 : decode b_Gang_beatRound 4 = .ok (.aload_n 0, 1) := by decide +kernel
theorem wm_699 : Cond.code ⟨"ThresholdRow$Gang", "findLoser", "()LThresholdRow$Hand;"⟩ prog_4_method_9_code 3 (some (.object "ThresholdRow$Hand")) ∈ gT := gT_m (List.mem_of_getElem? (i := 699) (by decide +kernel)) (by decide +kernel)
theorem wm_696 : Cond.methodLink "ThresholdRow$Gang" 46 ⟨"ThresholdRow$Gang", "findLoser", "()LThresholdRow$Hand;"⟩ ∈ gT := gT_m (List.mem_of_getElem? (i := 696) (by decide +kernel)) (by decide +kernel)
theorem d_Gang_beatRound_5 : decode b_Gang_beatRound 5 = .ok (.invokevirtual 46, 3) := by decide +kernel
theorem wm_698 : Cond.instanceMethod ⟨"ThresholdRow$Gang", "findLoser", "()LThresholdRow$Hand;"⟩ ∈ gT := gT_m (List.mem_of_getElem? (i := 698) (by decide +kernel)) (by decide +kernel)
theorem wm_15 : Cond.selects "ThresholdRow$Gang" ⟨"ThresholdRow$Gang", "findLoser", "()LThresholdRow$Hand;"⟩ ⟨"ThresholdRow$Gang", "findLoser", "()LThresholdRow$Hand;"⟩ ∈ gT := gT_m (List.mem_of_getElem? (i := 15) (by decide +kernel)) (by decide +kernel)
theorem d_Gang_beatRound_8 : decode b_Gang_beatRound 8 = .ok (.astore_n 1, 1) := by decide +kernel
theorem d_Gang_beatRound_9 : decode b_Gang_beatRound 9 = .ok (.aload_n 1, 1) := by decide +kernel
theorem d_Gang_beatRound_10 : decode b_Gang_beatRound 10 = .ok (.ifnull 16, 3) := by decide +kernel
theorem d_Gang_beatRound_26 : decode b_Gang_beatRound 26 = .ok (.iconst 0, 1) := by decide +kernel
theorem d_Gang_beatRound_27 : decode b_Gang_beatRound 27 = .ok (.istore_n 2, 1) := by decide +kernel
theorem d_Gang_beatRound_28 : decode b_Gang_beatRound 28 = .ok (.aload_n 0, 1) := by decide +kernel
theorem wm_710 : Cond.code ⟨"ThresholdRow$Gang", "tireAll", "()V"⟩ prog_4_method_11_code 2 none ∈ gT := gT_m (List.mem_of_getElem? (i := 710) (by decide +kernel)) (by decide +kernel)
theorem wm_707 : Cond.methodLink "ThresholdRow$Gang" 53 ⟨"ThresholdRow$Gang", "tireAll", "()V"⟩ ∈ gT := gT_m (List.mem_of_getElem? (i := 707) (by decide +kernel)) (by decide +kernel)
theorem d_Gang_beatRound_29 : decode b_Gang_beatRound 29 = .ok (.invokevirtual 53, 3) := by decide +kernel
theorem wm_709 : Cond.instanceMethod ⟨"ThresholdRow$Gang", "tireAll", "()V"⟩ ∈ gT := gT_m (List.mem_of_getElem? (i := 709) (by decide +kernel)) (by decide +kernel)
theorem wm_16 : Cond.selects "ThresholdRow$Gang" ⟨"ThresholdRow$Gang", "tireAll", "()V"⟩ ⟨"ThresholdRow$Gang", "tireAll", "()V"⟩ ∈ gT := gT_m (List.mem_of_getElem? (i := 16) (by decide +kernel)) (by decide +kernel)
theorem d_Gang_beatRound_32 : decode b_Gang_beatRound 32 = .ok (.aload_n 1, 1) := by decide +kernel
theorem d_Gang_beatRound_33 : decode b_Gang_beatRound 33 = .ok (.ifnonnull 5, 3) := by decide +kernel
theorem d_Gang_beatRound_36 : decode b_Gang_beatRound 36 = .ok (.iconst 1, 1) := by decide +kernel
theorem d_Gang_beatRound_37 : decode b_Gang_beatRound 37 = .ok (.ireturn, 1) := by decide +kernel
theorem d_Gang_beatRound_13 : decode b_Gang_beatRound 13 = .ok (.aload_n 1, 1) := by decide +kernel
theorem wm_466 : Cond.fieldLink "ThresholdRow$Gang" 50 "ThresholdRow$Hand" "fatigue" "I" ∈ gT := gT_m (List.mem_of_getElem? (i := 466) (by decide +kernel)) (by decide +kernel)
theorem d_Gang_beatRound_14 : decode b_Gang_beatRound 14 = .ok (.getfield 50, 3) := by decide +kernel
theorem d_Gang_beatRound_17 : decode b_Gang_beatRound 17 = .ok (.bipush 50, 2) := by decide +kernel
theorem d_Gang_beatRound_19 : decode b_Gang_beatRound 19 = .ok (.if_icmp .lt 7, 3) := by decide +kernel
theorem d_Gang_beatRound_38 : decode b_Gang_beatRound 38 = .ok (.aload_n 1, 1) := by decide +kernel
theorem d_Gang_beatRound_39 : decode b_Gang_beatRound 39 = .ok (.dup, 1) := by decide +kernel
theorem wm_472 : Cond.fieldLink "ThresholdRow$Gang" 56 "ThresholdRow$Hand" "lost" "I" ∈ gT := gT_m (List.mem_of_getElem? (i := 472) (by decide +kernel)) (by decide +kernel)
theorem d_Gang_beatRound_40 : decode b_Gang_beatRound 40 = .ok (.getfield 56, 3) := by decide +kernel
theorem d_Gang_beatRound_43 : decode b_Gang_beatRound 43 = .ok (.iconst 1, 1) := by decide +kernel
theorem d_Gang_beatRound_44 : decode b_Gang_beatRound 44 = .ok (.iadd, 1) := by decide +kernel
theorem d_Gang_beatRound_45 : decode b_Gang_beatRound 45 = .ok (.putfield 56, 3) := by decide +kernel
theorem d_Gang_beatRound_48 : decode b_Gang_beatRound 48 = .ok (.aload_n 0, 1) := by decide +kernel
theorem wm_719 : Cond.code ⟨"ThresholdRow$Gang", "forgetErrors", "()V"⟩ prog_4_method_12_code 2 none ∈ gT := gT_m (List.mem_of_getElem? (i := 719) (by decide +kernel)) (by decide +kernel)
theorem wm_716 : Cond.methodLink "ThresholdRow$Gang" 59 ⟨"ThresholdRow$Gang", "forgetErrors", "()V"⟩ ∈ gT := gT_m (List.mem_of_getElem? (i := 716) (by decide +kernel)) (by decide +kernel)
theorem d_Gang_beatRound_49 : decode b_Gang_beatRound 49 = .ok (.invokevirtual 59, 3) := by decide +kernel
theorem wm_718 : Cond.instanceMethod ⟨"ThresholdRow$Gang", "forgetErrors", "()V"⟩ ∈ gT := gT_m (List.mem_of_getElem? (i := 718) (by decide +kernel)) (by decide +kernel)
theorem wm_17 : Cond.selects "ThresholdRow$Gang" ⟨"ThresholdRow$Gang", "forgetErrors", "()V"⟩ ⟨"ThresholdRow$Gang", "forgetErrors", "()V"⟩ ∈ gT := gT_m (List.mem_of_getElem? (i := 17) (by decide +kernel)) (by decide +kernel)
theorem d_Gang_beatRound_52 : decode b_Gang_beatRound 52 = .ok (.iload_n 2, 1) := by decide +kernel
theorem d_Gang_beatRound_53 : decode b_Gang_beatRound 53 = .ok (.ifCond .eq 14, 3) := by decide +kernel
theorem d_Gang_beatRound_67 : decode b_Gang_beatRound 67 = .ok (.iconst 0, 1) := by decide +kernel
theorem d_Gang_beatRound_68 : decode b_Gang_beatRound 68 = .ok (.ireturn, 1) := by decide +kernel
theorem d_Gang_beatRound_22 : decode b_Gang_beatRound 22 = .ok (.iconst 1, 1) := by decide +kernel
theorem d_Gang_beatRound_23 : decode b_Gang_beatRound 23 = .ok (.goto 4, 3) := by decide +kernel
theorem d_Gang_beatRound_56 : decode b_Gang_beatRound 56 = .ok (.aload_n 1, 1) := by decide +kernel
theorem d_Gang_beatRound_57 : decode b_Gang_beatRound 57 = .ok (.bipush 7, 2) := by decide +kernel
theorem d_Gang_beatRound_59 : decode b_Gang_beatRound 59 = .ok (.putfield 62, 3) := by decide +kernel
theorem d_Gang_beatRound_62 : decode b_Gang_beatRound 62 = .ok (.aload_n 0, 1) := by decide +kernel
theorem d_Gang_beatRound_63 : decode b_Gang_beatRound 63 = .ok (.aload_n 1, 1) := by decide +kernel
theorem wm_595 : Cond.code ⟨"ThresholdRow$Gang", "letGo", "(LThresholdRow$Hand;)V"⟩ prog_4_method_5_code 3 none ∈ gT := gT_m (List.mem_of_getElem? (i := 595) (by decide +kernel)) (by decide +kernel)
theorem wm_720 : Cond.methodLink "ThresholdRow$Gang" 65 ⟨"ThresholdRow$Gang", "letGo", "(LThresholdRow$Hand;)V"⟩ ∈ gT := gT_m (List.mem_of_getElem? (i := 720) (by decide +kernel)) (by decide +kernel)
theorem d_Gang_beatRound_64 : decode b_Gang_beatRound 64 = .ok (.invokevirtual 65, 3) := by decide +kernel
theorem wm_593 : Cond.instanceMethod ⟨"ThresholdRow$Gang", "letGo", "(LThresholdRow$Hand;)V"⟩ ∈ gT := gT_m (List.mem_of_getElem? (i := 593) (by decide +kernel)) (by decide +kernel)
theorem wm_594 : Cond.selects "ThresholdRow$Gang" ⟨"ThresholdRow$Gang", "letGo", "(LThresholdRow$Hand;)V"⟩ ⟨"ThresholdRow$Gang", "letGo", "(LThresholdRow$Hand;)V"⟩ ∈ gT := gT_m (List.mem_of_getElem? (i := 594) (by decide +kernel)) (by decide +kernel)
def p_worse (v : Nat → gH) (a b : Nat) : Nat := if p_abs (v a).2.2.2.2.2 ≤ p_abs (v b).2.2.2.2.2 then b else a
theorem p_worse_g {v : Nat → gH} {g : Nat → Nat} {a b : Nat} : (if p_abs (v a).2.2.2.2.2 ≤ p_abs (v b).2.2.2.2.2 then g b else g a) = g (p_worse v a b) := by unfold p_worse; split <;> rfl
/-- who loses the beat, of n + 1, looked for from place i on, d places before the last -/
def p_los (n : Nat) (v : Nat → gH) : Nat → Nat → Option Nat
  | 0, _ => if 4 ≤ p_tick (n + 1) v 0 + 60 - p_tick (n + 1) v n then none else some (p_worse v n 0)
  | d + 1, i => if 4 ≤ p_tick (n + 1) v (i + 1) - p_tick (n + 1) v i then p_los n v d (i + 1) else some (p_worse v i (i + 1))
theorem p_worse_le {v : Nat → gH} {a b n : Nat} (ha : a ≤ n) (hb : b ≤ n) : p_worse v a b ≤ n := by unfold p_worse; split <;> assumption
theorem p_los_le {n : Nat} {v : Nat → gH} {j : Nat} : ∀ (d i : Nat), i + d = n → p_los n v d i = some j → j ≤ n := by
  intro d
  induction d with
  | zero =>
    intro i hi h
    unfold p_los at h
    split at h
    · cases h
    · cases h; exact p_worse_le (Nat.le_refl n) (Nat.zero_le n)
  | succ d ih =>
    intro i hi h
    unfold p_los at h
    split at h
    · exact ih (i + 1) (by omega) h
    · cases h; exact p_worse_le (by omega) (by omega)
set_option maxHeartbeats 4000000 in
set_option maxRecDepth 100000 in
theorem c_Gang_findLoser (l : Launch) (E : Nat) (D : va_G) (cI cO cZ : ClassId) (z0 : Nat) (M : gM) {gg gl gt n : Nat} {g : Nat → Nat} {v : Nat → gH} (hg : gw_Gg z0 cO M gg gl gt (n + 1) g v) : Met l y_Gang_findLoser (Cond.code y_Gang_findLoser b_Gang_findLoser 3 (some (.object "ThresholdRow$Hand")) :: gT) ({ frames := 4, cells := 0, slots := 0, locals := 86 }) (gw_Pc E D cI cO cZ z0 M [.ref gg]) (gw_Qq E D (fun r M' => r = (p_los n v n 0).map g ∧ M' = M)) 0 0 (gw_A E) := by
  refine gw_ofW (cc := b_Gang_findLoser) (maxL := 3) (ret := (some (.object "ThresholdRow$Hand"))) (by decide) rfl (Nat.le_of_ble_eq_true rfl) ?_
  intro p e s m args below meth c hx hb hr hml hts hown hlk hnm hF hG ls hl
  have hT : ∀ w ∈ gT, w.before args s = true := fun w h => hts w (List.mem_cons_of_mem _ h)
  have hK := hF.1
  have hl : lv_has ls 3 [(0, .ref gg)] := hl
  obtain ⟨hgg, hL, hh, hd⟩ := id hg
  obtain ⟨k, hgl, h10, -⟩ := id hL
  refine lv_aload_n hx hb d_Gang_findLoser_0 rfl (lv_at hl 0 rfl) ?_
  refine gw_get hx hb hT i_Gang hown hK hG hgg rfl 0 (by decide) (hT _ wm_91) (fun _ h => h) rfl d_Gang_findLoser_1 ?_
  refine gw_calli (gw_runV (As := []) (rest := []) ⟨hx, hb, hml, hown, hts⟩ (c_L_size l E D cI cO cZ z0 M hL) (gw_cwV 0 hts (gT_gi wm_286) rfl rfl rfl (hT _ wm_26) (hT _ wm_411) (hT _ wm_284) (hT _ wm_285) (by decide +kernel) ⟨Nat.le_of_ble_eq_true rfl, Nat.le_of_ble_eq_true rfl⟩) hF hG rfl hgl rfl hl.1 rfl (Nat.le_of_ble_eq_true rfl) d_Gang_findLoser_4 ⟨Nat.le_of_ble_eq_true rfl, Nat.le_of_ble_eq_true rfl⟩) hG (fun r M1 H locs hp hG => ?_)
  rw [hp.1]
  replace hG := gw_nm hp.2.symm hG
  refine lv_istore_n (lv' := [(1, .int (nI (n + 1))), (0, .ref gg)]) hx hb d_Gang_findLoser_7 rfl hl (by decide) rfl (fun ls hl => ?_)
  refine lv_iconst (v := 0) hx hb d_Gang_findLoser_8 (by decide) ?_
  refine lv_istore_n (lv' := [(2, .int 0), (1, .int (nI (n + 1))), (0, .ref gg)]) hx hb d_Gang_findLoser_9 rfl hl (by decide) rfl (fun ls hl => ?_)
  have loop : ∀ (d i : Nat), i + d = n → ∀ (X : gM) (H : Heap) (locs : List Loc) (ls : Array Slot), (p_los n v n 0 = p_los n v d i ∧ X = M) → gw_H E D X s H locs → lv_has ls 3 [(1, .int (nI (n + 1))), (2, .int (nI i)), (0, .ref gg)] → W p l e ({ frames := 4, cells := 0, slots := 0, locals := 86 } : Room) s m args below meth c H locs 0 0 (MQ below (gw_Qq E D (fun r M' => r = (p_los n v n 0).map g ∧ M' = M)) args s 0 0 (gw_A E)) (F0 m 10 ls []) := by
    intro d
    induction d with
    | zero =>
      intro i hi X H locs ls hI hG hl
      obtain ⟨hI, hX⟩ := hI
      replace hG := gw_nm hX.symm hG
      refine lv_iload_n hx hb d_Gang_findLoser_10 rfl (lv_at hl 1 rfl) ?_
      refine lv_iconst (v := 1) hx hb d_Gang_findLoser_11 (by decide) ?_
      refine lv_iadd hx hb d_Gang_findLoser_12 ?_
      rw [show nI i + 1 = (nI (i + 1)) from (nI_succ i).symm]
      refine lv_iload_n hx hb d_Gang_findLoser_13 rfl (lv_at hl 0 rfl) ?_
      refine lv_icmp_ge (tgt := 68) hx hb d_Gang_findLoser_14 (by decide) (fun c_14 => ?_) (fun z_ => absurd (nI_le (by omega) (by omega)) z_)
      refine lv_iload_n hx hb d_Gang_findLoser_68 rfl (lv_at hl 0 rfl) ?_
      refine lv_if_le (tgt := 120) hx hb d_Gang_findLoser_69 (by decide) (fun z_ => absurd z_ (nI_nle (by omega) (by omega))) (fun c_69 => ?_)
      refine lv_aload_n hx hb d_Gang_findLoser_72 rfl (lv_at hl 2 rfl) ?_
      refine lv_iconst (v := 0) hx hb d_Gang_findLoser_73 (by decide) ?_
      refine gw_calli (gw_runV (As := [.int 0]) (rest := []) ⟨hx, hb, hml, hown, hts⟩ (c_Gang_tickAt l E D cI cO cZ z0 M hg (i := 0) (by omega)) (gw_cwV 1 hts (gT_gi wm_650) rfl rfl rfl (hT _ wm_27) (hT _ wm_700) (hT _ wm_648) (hT _ wm_649) (by decide +kernel) ⟨Nat.le_of_ble_eq_true rfl, Nat.le_of_ble_eq_true rfl⟩) hF hG rfl hgg rfl hl.1 rfl (Nat.le_of_ble_eq_true rfl) d_Gang_findLoser_74 ⟨Nat.le_of_ble_eq_true rfl, Nat.le_of_ble_eq_true rfl⟩) hG (fun r M2 H locs hp hG => ?_)
      rw [hp.1]
      replace hG := gw_nm hp.2.symm hG
      refine lv_bipush (v := 60) hx hb d_Gang_findLoser_77 (by decide) ?_
      refine lv_iadd hx hb d_Gang_findLoser_79 ?_
      refine lv_aload_n hx hb d_Gang_findLoser_80 rfl (lv_at hl 2 rfl) ?_
      refine lv_iload_n hx hb d_Gang_findLoser_81 rfl (lv_at hl 0 rfl) ?_
      refine lv_iconst (v := 1) hx hb d_Gang_findLoser_82 (by decide) ?_
      refine lv_isub hx hb d_Gang_findLoser_83 ?_
      rw [show nI (n + 1) - 1 = (nI n) from nI_pred n]
      refine gw_calli (gw_runV (As := [.int (nI n)]) (rest := [.int ((p_tick (n + 1) v 0) + 60)]) ⟨hx, hb, hml, hown, hts⟩ (c_Gang_tickAt l E D cI cO cZ z0 M hg (i := n) (by omega)) (gw_cwV 1 hts (gT_gi wm_650) rfl rfl rfl (hT _ wm_27) (hT _ wm_700) (hT _ wm_648) (hT _ wm_649) (by decide +kernel) ⟨Nat.le_of_ble_eq_true rfl, Nat.le_of_ble_eq_true rfl⟩) hF hG rfl hgg rfl hl.1 rfl (Nat.le_of_ble_eq_true rfl) d_Gang_findLoser_84 ⟨Nat.le_of_ble_eq_true rfl, Nat.le_of_ble_eq_true rfl⟩) hG (fun r M3 H locs hp hG => ?_)
      rw [hp.1]
      replace hG := gw_nm hp.2.symm hG
      refine lv_isub hx hb d_Gang_findLoser_87 ?_
      refine lv_iconst (v := 4) hx hb d_Gang_findLoser_88 (by decide) ?_
      refine lv_icmp_ge (tgt := 120) hx hb d_Gang_findLoser_89 (by decide) (fun c_89 => ?_) (fun c_89 => ?_)
      · skip
        refine lv_null hx hb d_Gang_findLoser_120 ?_
        exact gw_aretN hx hb hr (Or.inl ⟨_, rfl⟩) hlk hG (⟨by rw [hI]; unfold p_los; rw [if_pos c_89]; rfl, rfl⟩) (Nat.le_of_ble_eq_true rfl) (Nat.le_of_ble_eq_true rfl) d_Gang_findLoser_121
      · skip
        refine lv_aload_n hx hb d_Gang_findLoser_92 rfl (lv_at hl 2 rfl) ?_
        refine gw_get hx hb hT i_Gang hown hK hG hgg rfl 0 (by decide) (hT _ wm_91) (fun _ h => h) rfl d_Gang_findLoser_93 ?_
        refine lv_iload_n hx hb d_Gang_findLoser_96 rfl (lv_at hl 0 rfl) ?_
        refine lv_iconst (v := 1) hx hb d_Gang_findLoser_97 (by decide) ?_
        refine lv_isub hx hb d_Gang_findLoser_98 ?_
        rw [show nI (n + 1) - 1 = (nI n) from nI_pred n]
        refine gw_callq (gw_runV (As := [.int (nI n)]) (rest := []) ⟨hx, hb, hml, hown, hts⟩ (c_L_get l E D cI cO cZ z0 M hL (p := n) (by omega)) (gw_cwV 1 hts (gT_gi wm_362) rfl rfl rfl (hT _ wm_26) (hT _ wm_412) (hT _ wm_360) (hT _ wm_361) (by decide +kernel) ⟨Nat.le_of_ble_eq_true rfl, Nat.le_of_ble_eq_true rfl⟩) hF hG rfl hgl rfl hl.1 rfl (Nat.le_of_ble_eq_true rfl) d_Gang_findLoser_99 ⟨Nat.le_of_ble_eq_true rfl, Nat.le_of_ble_eq_true rfl⟩) hG (fun r M4 H locs hp hG => ?_)
        rw [hp.1]
        replace hG := gw_nm hp.2.symm hG
        have ha_ := hh n (by omega)
        refine gw_cast (ci := 6) (r := (R_Hand, F_Hand, 10)) hx hb hown (hT _ wm_413) hF hG rfl ha_ d_Gang_findLoser_102 ?_
        refine lv_aload_n hx hb d_Gang_findLoser_105 rfl (lv_at hl 2 rfl) ?_
        refine gw_get hx hb hT i_Gang hown hK hG hgg rfl 0 (by decide) (hT _ wm_91) (fun _ h => h) rfl d_Gang_findLoser_106 ?_
        refine lv_iconst (v := 0) hx hb d_Gang_findLoser_109 (by decide) ?_
        refine gw_callq (gw_runV (As := [.int 0]) (rest := [.ref (g n)]) ⟨hx, hb, hml, hown, hts⟩ (c_L_get l E D cI cO cZ z0 M hL (p := 0) (by omega)) (gw_cwV 1 hts (gT_gi wm_362) rfl rfl rfl (hT _ wm_26) (hT _ wm_412) (hT _ wm_360) (hT _ wm_361) (by decide +kernel) ⟨Nat.le_of_ble_eq_true rfl, Nat.le_of_ble_eq_true rfl⟩) hF hG rfl hgl rfl hl.1 rfl (Nat.le_of_ble_eq_true rfl) d_Gang_findLoser_110 ⟨Nat.le_of_ble_eq_true rfl, Nat.le_of_ble_eq_true rfl⟩) hG (fun r M5 H locs hp hG => ?_)
        rw [hp.1]
        replace hG := gw_nm hp.2.symm hG
        have hb_ := hh 0 (by omega)
        refine gw_cast (ci := 6) (r := (R_Hand, F_Hand, 10)) hx hb hown (hT _ wm_413) hF hG rfl hb_ d_Gang_findLoser_113 ?_
        refine gw_callq (gw_runS (As := [.ref (g n), .ref (g 0)]) (rest := []) ⟨hx, hb, hml, hown, hts⟩ (c_Gang_worseOf l E D cI cO cZ z0 M ha_ hb_) (gw_cwS 2 hts (gT_gi wm_703) rfl rfl rfl (hT _ wm_27) (hT _ wm_701) (hT _ wm_702) (by decide +kernel) ⟨Nat.le_of_ble_eq_true rfl, Nat.le_of_ble_eq_true rfl⟩) hF hG rfl hl.1 rfl (Nat.le_of_ble_eq_true rfl) d_Gang_findLoser_116 ⟨Nat.le_of_ble_eq_true rfl, Nat.le_of_ble_eq_true rfl⟩) hG (fun r M6 H locs hp hG => ?_)
        rw [hp.1, p_worse_g]
        replace hG := gw_nm hp.2.symm hG
        exact gw_aret hx hb hr (Or.inl ⟨_, rfl⟩) hlk hG (⟨by rw [hI]; unfold p_los; rw [if_neg c_89]; rfl, rfl⟩) (Nat.le_of_ble_eq_true rfl) (Nat.le_of_ble_eq_true rfl) d_Gang_findLoser_119
    | succ d ih =>
      intro i hi X H locs ls hI hG hl
      obtain ⟨hI, hX⟩ := hI
      replace hG := gw_nm hX.symm hG
      refine lv_iload_n hx hb d_Gang_findLoser_10 rfl (lv_at hl 1 rfl) ?_
      refine lv_iconst (v := 1) hx hb d_Gang_findLoser_11 (by decide) ?_
      refine lv_iadd hx hb d_Gang_findLoser_12 ?_
      rw [show nI i + 1 = (nI (i + 1)) from (nI_succ i).symm]
      refine lv_iload_n hx hb d_Gang_findLoser_13 rfl (lv_at hl 0 rfl) ?_
      refine lv_icmp_ge (tgt := 68) hx hb d_Gang_findLoser_14 (by decide) (fun z_ => absurd z_ (nI_ge (by omega) (by omega))) (fun c_14 => ?_)
      refine lv_aload_n hx hb d_Gang_findLoser_17 rfl (lv_at hl 2 rfl) ?_
      refine lv_iload_n hx hb d_Gang_findLoser_18 rfl (lv_at hl 1 rfl) ?_
      refine lv_iconst (v := 1) hx hb d_Gang_findLoser_19 (by decide) ?_
      refine lv_iadd hx hb d_Gang_findLoser_20 ?_
      rw [show nI i + 1 = (nI (i + 1)) from (nI_succ i).symm]
      refine gw_calli (gw_runV (As := [.int (nI (i + 1))]) (rest := []) ⟨hx, hb, hml, hown, hts⟩ (c_Gang_tickAt l E D cI cO cZ z0 M hg (i := i + 1) (by omega)) (gw_cwV 1 hts (gT_gi wm_650) rfl rfl rfl (hT _ wm_27) (hT _ wm_700) (hT _ wm_648) (hT _ wm_649) (by decide +kernel) ⟨Nat.le_of_ble_eq_true rfl, Nat.le_of_ble_eq_true rfl⟩) hF hG rfl hgg rfl hl.1 rfl (Nat.le_of_ble_eq_true rfl) d_Gang_findLoser_21 ⟨Nat.le_of_ble_eq_true rfl, Nat.le_of_ble_eq_true rfl⟩) hG (fun r M4 H locs hp hG => ?_)
      rw [hp.1]
      replace hG := gw_nm hp.2.symm hG
      refine lv_aload_n hx hb d_Gang_findLoser_24 rfl (lv_at hl 2 rfl) ?_
      refine lv_iload_n hx hb d_Gang_findLoser_25 rfl (lv_at hl 1 rfl) ?_
      refine gw_calli (gw_runV (As := [.int (nI i)]) (rest := [.int (p_tick (n + 1) v (i + 1))]) ⟨hx, hb, hml, hown, hts⟩ (c_Gang_tickAt l E D cI cO cZ z0 M hg (i := i) (by omega)) (gw_cwV 1 hts (gT_gi wm_650) rfl rfl rfl (hT _ wm_27) (hT _ wm_700) (hT _ wm_648) (hT _ wm_649) (by decide +kernel) ⟨Nat.le_of_ble_eq_true rfl, Nat.le_of_ble_eq_true rfl⟩) hF hG rfl hgg rfl hl.1 rfl (Nat.le_of_ble_eq_true rfl) d_Gang_findLoser_26 ⟨Nat.le_of_ble_eq_true rfl, Nat.le_of_ble_eq_true rfl⟩) hG (fun r M5 H locs hp hG => ?_)
      rw [hp.1]
      replace hG := gw_nm hp.2.symm hG
      refine lv_isub hx hb d_Gang_findLoser_29 ?_
      refine lv_iconst (v := 4) hx hb d_Gang_findLoser_30 (by decide) ?_
      refine lv_icmp_ge (tgt := 62) hx hb d_Gang_findLoser_31 (by decide) (fun c_31 => ?_) (fun c_31 => ?_)
      · skip
        refine lv_iinc (v := nI (i + 1)) (lv' := [(2, .int (nI (i + 1))), (1, .int (nI (n + 1))), (0, .ref gg)]) hx hb d_Gang_findLoser_62 hl (k := 1) rfl (nI_succ i).symm (by decide) rfl (fun ls hl => ?_)
        refine lv_goto (tgt := 10) hx hb d_Gang_findLoser_65 (by decide) ?_
        have hI2 : p_los n v n 0 = p_los n v d (i + 1) := hI.trans (if_pos c_31)
        exact ih (i + 1) (by omega) M _ _ _ ⟨hI2, rfl⟩ hG (lv_sub hl [1, 0, 2] rfl)
      · skip
        refine lv_aload_n hx hb d_Gang_findLoser_34 rfl (lv_at hl 2 rfl) ?_
        refine gw_get hx hb hT i_Gang hown hK hG hgg rfl 0 (by decide) (hT _ wm_91) (fun _ h => h) rfl d_Gang_findLoser_35 ?_
        refine lv_iload_n hx hb d_Gang_findLoser_38 rfl (lv_at hl 1 rfl) ?_
        refine gw_callq (gw_runV (As := [.int (nI i)]) (rest := []) ⟨hx, hb, hml, hown, hts⟩ (c_L_get l E D cI cO cZ z0 M hL (p := i) (by omega)) (gw_cwV 1 hts (gT_gi wm_362) rfl rfl rfl (hT _ wm_26) (hT _ wm_412) (hT _ wm_360) (hT _ wm_361) (by decide +kernel) ⟨Nat.le_of_ble_eq_true rfl, Nat.le_of_ble_eq_true rfl⟩) hF hG rfl hgl rfl hl.1 rfl (Nat.le_of_ble_eq_true rfl) d_Gang_findLoser_39 ⟨Nat.le_of_ble_eq_true rfl, Nat.le_of_ble_eq_true rfl⟩) hG (fun r M6 H locs hp hG => ?_)
        rw [hp.1]
        replace hG := gw_nm hp.2.symm hG
        have ha_ := hh i (by omega)
        refine gw_cast (ci := 6) (r := (R_Hand, F_Hand, 10)) hx hb hown (hT _ wm_413) hF hG rfl ha_ d_Gang_findLoser_42 ?_
        refine lv_aload_n hx hb d_Gang_findLoser_45 rfl (lv_at hl 2 rfl) ?_
        refine gw_get hx hb hT i_Gang hown hK hG hgg rfl 0 (by decide) (hT _ wm_91) (fun _ h => h) rfl d_Gang_findLoser_46 ?_
        refine lv_iload_n hx hb d_Gang_findLoser_49 rfl (lv_at hl 1 rfl) ?_
        refine lv_iconst (v := 1) hx hb d_Gang_findLoser_50 (by decide) ?_
        refine lv_iadd hx hb d_Gang_findLoser_51 ?_
        rw [show nI i + 1 = (nI (i + 1)) from (nI_succ i).symm]
        refine gw_callq (gw_runV (As := [.int (nI (i + 1))]) (rest := [.ref (g i)]) ⟨hx, hb, hml, hown, hts⟩ (c_L_get l E D cI cO cZ z0 M hL (p := (i + 1)) (by omega)) (gw_cwV 1 hts (gT_gi wm_362) rfl rfl rfl (hT _ wm_26) (hT _ wm_412) (hT _ wm_360) (hT _ wm_361) (by decide +kernel) ⟨Nat.le_of_ble_eq_true rfl, Nat.le_of_ble_eq_true rfl⟩) hF hG rfl hgl rfl hl.1 rfl (Nat.le_of_ble_eq_true rfl) d_Gang_findLoser_52 ⟨Nat.le_of_ble_eq_true rfl, Nat.le_of_ble_eq_true rfl⟩) hG (fun r M7 H locs hp hG => ?_)
        rw [hp.1]
        replace hG := gw_nm hp.2.symm hG
        have hb_ := hh (i + 1) (by omega)
        refine gw_cast (ci := 6) (r := (R_Hand, F_Hand, 10)) hx hb hown (hT _ wm_413) hF hG rfl hb_ d_Gang_findLoser_55 ?_
        refine gw_callq (gw_runS (As := [.ref (g i), .ref (g (i + 1))]) (rest := []) ⟨hx, hb, hml, hown, hts⟩ (c_Gang_worseOf l E D cI cO cZ z0 M ha_ hb_) (gw_cwS 2 hts (gT_gi wm_703) rfl rfl rfl (hT _ wm_27) (hT _ wm_701) (hT _ wm_702) (by decide +kernel) ⟨Nat.le_of_ble_eq_true rfl, Nat.le_of_ble_eq_true rfl⟩) hF hG rfl hl.1 rfl (Nat.le_of_ble_eq_true rfl) d_Gang_findLoser_58 ⟨Nat.le_of_ble_eq_true rfl, Nat.le_of_ble_eq_true rfl⟩) hG (fun r M8 H locs hp hG => ?_)
        rw [hp.1, p_worse_g]
        replace hG := gw_nm hp.2.symm hG
        have hI2 : p_los n v n 0 = some (p_worse v i (i + 1)) := hI.trans (if_neg c_31)
        exact gw_aret hx hb hr (Or.inl ⟨_, rfl⟩) hlk hG (⟨by rw [hI2]; rfl, rfl⟩) (Nat.le_of_ble_eq_true rfl) (Nat.le_of_ble_eq_true rfl) d_Gang_findLoser_61
  exact loop _ _ (Nat.zero_add n) M _ _ _ ⟨rfl, rfl⟩ hG (lv_sub hl [1, 0, 2] rfl)
/-- the hands behind a round that holds -/
def p_held (n : Nat) (v : Nat → gH) (p : Nat) : gH := p_tire (p_lean (n + 1) v p)
/-- .. and behind one that place j has lost -/
def p_lost (n : Nat) (v : Nat → gH) (j p : Nat) : gH := hEr (if p = j then hLo (p_held n v j) ((p_held n v j).2.2.2.2.1 + 1) else p_held n v p) 0
set_option maxHeartbeats 4000000 in
set_option maxRecDepth 100000 in
theorem c_Gang_beatRound_none (l : Launch) (E : Nat) (D : va_G) (cI cO cZ : ClassId) (z0 : Nat) (M : gM) {gg gl gt n : Nat} {g : Nat → Nat} {v : Nat → gH} (hg : gw_Gg z0 cO M gg gl gt (n + 1) g v) (hlo : p_los n (p_lean (n + 1) v) n 0 = none) : Met l y_Gang_beatRound (Cond.code y_Gang_beatRound b_Gang_beatRound 3 (some .boolean) :: gT) ({ frames := 6, cells := 0, slots := 0, locals := 130 }) (gw_Pc E D cI cO cZ z0 M [.ref gg]) (gw_Qi E D (fun r M' => r = 1 ∧ gw_ch M M' (n + 1) g (p_held n v))) 0 0 (gw_A E) := by
  refine gw_ofW (cc := b_Gang_beatRound) (maxL := 3) (ret := (some .boolean)) (by decide) rfl (Nat.le_of_ble_eq_true rfl) ?_
  intro p e s m args below meth c hx hb hr hml hts hown hlk hnm hF hG ls hl
  have hT : ∀ w ∈ gT, w.before args s = true := fun w h => hts w (List.mem_cons_of_mem _ h)
  have hK := hF.1
  have hl : lv_has ls 3 [(0, .ref gg)] := hl
  obtain ⟨hgg, hL, hh, hd⟩ := id hg
  obtain ⟨k, hgl, h10, -⟩ := id hL
  refine lv_aload_n hx hb d_Gang_beatRound_0 rfl (lv_at hl 0 rfl) ?_
  refine gw_callv (gw_runV (As := []) (rest := []) ⟨hx, hb, hml, hown, hts⟩ (c_Gang_leanOnOneAnother l E D cI cO cZ z0 M hg (by omega)) (gw_cwV 0 hts (gT_gi wm_691) rfl rfl rfl (hT _ wm_27) (hT _ wm_688) (hT _ wm_690) (hT _ wm_14) (by decide +kernel) ⟨Nat.le_of_ble_eq_true rfl, Nat.le_of_ble_eq_true rfl⟩) hF hG rfl hgg rfl hl.1 rfl (Nat.le_of_ble_eq_true rfl) d_Gang_beatRound_1 ⟨Nat.le_of_ble_eq_true rfl, Nat.le_of_ble_eq_true rfl⟩) hG (fun M1 H locs hp1 hG => ?_)
  have hg1 := hg.ch hp1
  obtain ⟨hgg1, hL1, hh1, hd1⟩ := id hg1
  obtain ⟨k1, hgl1, h101, -⟩ := id hL1
  refine lv_aload_n hx hb d_Gang_beatRound_4 rfl (lv_at hl 0 rfl) ?_
  refine gw_callq (gw_runV (As := []) (rest := []) ⟨hx, hb, hml, hown, hts⟩ (c_Gang_findLoser l E D cI cO cZ z0 M1 hg1) (gw_cwV 0 hts (gT_gi wm_699) rfl rfl rfl (hT _ wm_27) (hT _ wm_696) (hT _ wm_698) (hT _ wm_15) (by decide +kernel) ⟨Nat.le_of_ble_eq_true rfl, Nat.le_of_ble_eq_true rfl⟩) hF hG rfl hgg1 rfl hl.1 rfl (Nat.le_of_ble_eq_true rfl) d_Gang_beatRound_5 ⟨Nat.le_of_ble_eq_true rfl, Nat.le_of_ble_eq_true rfl⟩) hG (fun r M2 H locs hp hG => ?_)
  rw [hp.1, hlo]
  replace hG := gw_nm hp.2.symm hG
  refine lv_astore_nN (lv' := [(1, .null), (0, .ref gg)]) hx hb d_Gang_beatRound_8 rfl hl (by decide) rfl (fun ls hl => ?_)
  refine lv_aload_nN hx hb d_Gang_beatRound_9 rfl (lv_at hl 0 rfl) ?_
  refine lv_ifnullN (tgt := 26) hx hb d_Gang_beatRound_10 (by decide) ?_
  refine lv_iconst (v := 0) hx hb d_Gang_beatRound_26 (by decide) ?_
  refine lv_istore_n (lv' := [(2, .int 0), (1, .null), (0, .ref gg)]) hx hb d_Gang_beatRound_27 rfl hl (by decide) rfl (fun ls hl => ?_)
  refine lv_aload_n hx hb d_Gang_beatRound_28 rfl (lv_at hl 2 rfl) ?_
  refine gw_callv (gw_runV (As := []) (rest := []) ⟨hx, hb, hml, hown, hts⟩ (c_Gang_tireAll l E D cI cO cZ z0 M1 hg1) (gw_cwV 0 hts (gT_gi wm_710) rfl rfl rfl (hT _ wm_27) (hT _ wm_707) (hT _ wm_709) (hT _ wm_16) (by decide +kernel) ⟨Nat.le_of_ble_eq_true rfl, Nat.le_of_ble_eq_true rfl⟩) hF hG rfl hgg1 rfl hl.1 rfl (Nat.le_of_ble_eq_true rfl) d_Gang_beatRound_29 ⟨Nat.le_of_ble_eq_true rfl, Nat.le_of_ble_eq_true rfl⟩) hG (fun M3 H locs hp2 hG => ?_)
  have hc2 := hp1.trans hp2
  have hg2 := hg.ch hc2
  obtain ⟨hgg2, hL2, hh2, hd2⟩ := id hg2
  obtain ⟨k2, hgl2, h102, -⟩ := id hL2
  refine lv_aload_nN hx hb d_Gang_beatRound_32 rfl (lv_at hl 1 rfl) ?_
  refine lv_ifnonnullN hx hb d_Gang_beatRound_33 ?_
  refine lv_iconst (v := 1) hx hb d_Gang_beatRound_36 (by decide) ?_
  exact gw_zret (v := 1) hx hb hr hlk hG rfl ⟨rfl, hc2⟩ (Nat.le_of_ble_eq_true rfl) (Nat.le_of_ble_eq_true rfl) d_Gang_beatRound_37
set_option maxHeartbeats 4000000 in
set_option maxRecDepth 100000 in
theorem c_Gang_beatRound_stay (l : Launch) (E : Nat) (D : va_G) (cI cO cZ : ClassId) (z0 : Nat) (M : gM) {gg gl gt n : Nat} {g : Nat → Nat} {v : Nat → gH} (hg : gw_Gg z0 cO M gg gl gt (n + 1) g v) {j : Nat} (hlo : p_los n (p_lean (n + 1) v) n 0 = some j) (hwo : (v j).2.2.1 < 50) : Met l y_Gang_beatRound (Cond.code y_Gang_beatRound b_Gang_beatRound 3 (some .boolean) :: gT) ({ frames := 6, cells := 0, slots := 0, locals := 130 }) (gw_Pc E D cI cO cZ z0 M [.ref gg]) (gw_Qi E D (fun r M' => r = 0 ∧ gw_ch M M' (n + 1) g (p_lost n v j))) 0 0 (gw_A E) := by
  refine gw_ofW (cc := b_Gang_beatRound) (maxL := 3) (ret := (some .boolean)) (by decide) rfl (Nat.le_of_ble_eq_true rfl) ?_
  intro p e s m args below meth c hx hb hr hml hts hown hlk hnm hF hG ls hl
  have hT : ∀ w ∈ gT, w.before args s = true := fun w h => hts w (List.mem_cons_of_mem _ h)
  have hK := hF.1
  have hl : lv_has ls 3 [(0, .ref gg)] := hl
  obtain ⟨hgg, hL, hh, hd⟩ := id hg
  obtain ⟨k, hgl, h10, -⟩ := id hL
  have hj : j < n + 1 := Nat.lt_succ_of_le (p_los_le n 0 (Nat.zero_add n) hlo)
  refine lv_aload_n hx hb d_Gang_beatRound_0 rfl (lv_at hl 0 rfl) ?_
  refine gw_callv (gw_runV (As := []) (rest := []) ⟨hx, hb, hml, hown, hts⟩ (c_Gang_leanOnOneAnother l E D cI cO cZ z0 M hg (by omega)) (gw_cwV 0 hts (gT_gi wm_691) rfl rfl rfl (hT _ wm_27) (hT _ wm_688) (hT _ wm_690) (hT _ wm_14) (by decide +kernel) ⟨Nat.le_of_ble_eq_true rfl, Nat.le_of_ble_eq_true rfl⟩) hF hG rfl hgg rfl hl.1 rfl (Nat.le_of_ble_eq_true rfl) d_Gang_beatRound_1 ⟨Nat.le_of_ble_eq_true rfl, Nat.le_of_ble_eq_true rfl⟩) hG (fun M1 H locs hp1 hG => ?_)
  have hg1 := hg.ch hp1
  obtain ⟨hgg1, hL1, hh1, hd1⟩ := id hg1
  obtain ⟨k1, hgl1, h101, -⟩ := id hL1
  refine lv_aload_n hx hb d_Gang_beatRound_4 rfl (lv_at hl 0 rfl) ?_
  refine gw_callq (gw_runV (As := []) (rest := []) ⟨hx, hb, hml, hown, hts⟩ (c_Gang_findLoser l E D cI cO cZ z0 M1 hg1) (gw_cwV 0 hts (gT_gi wm_699) rfl rfl rfl (hT _ wm_27) (hT _ wm_696) (hT _ wm_698) (hT _ wm_15) (by decide +kernel) ⟨Nat.le_of_ble_eq_true rfl, Nat.le_of_ble_eq_true rfl⟩) hF hG rfl hgg1 rfl hl.1 rfl (Nat.le_of_ble_eq_true rfl) d_Gang_beatRound_5 ⟨Nat.le_of_ble_eq_true rfl, Nat.le_of_ble_eq_true rfl⟩) hG (fun r M2 H locs hp hG => ?_)
  rw [hp.1, hlo]
  replace hG := gw_nm hp.2.symm hG
  refine lv_astore_n (lv' := [(1, .ref (g j)), (0, .ref gg)]) hx hb d_Gang_beatRound_8 rfl hl (by decide) rfl (fun ls hl => ?_)
  refine lv_aload_n hx hb d_Gang_beatRound_9 rfl (lv_at hl 0 rfl) ?_
  refine lv_ifnull hx hb d_Gang_beatRound_10 ?_
  have hj1 := hh1 j hj
  refine lv_aload_n hx hb d_Gang_beatRound_13 rfl (lv_at hl 0 rfl) ?_
  refine gw_get hx hb hT i_Hand hown hK hG hj1 rfl 2 (by decide) (hT _ wm_466) (fun _ h => h) rfl d_Gang_beatRound_14 ?_
  refine lv_bipush (v := 50) hx hb d_Gang_beatRound_17 (by decide) ?_
  refine lv_icmp_lt (tgt := 26) hx hb d_Gang_beatRound_19 (by decide) (fun c_19 => ?_) (fun z_ => absurd (hwo) z_)
  refine lv_iconst (v := 0) hx hb d_Gang_beatRound_26 (by decide) ?_
  refine lv_istore_n (lv' := [(2, .int 0), (1, .ref (g j)), (0, .ref gg)]) hx hb d_Gang_beatRound_27 rfl hl (by decide) rfl (fun ls hl => ?_)
  refine lv_aload_n hx hb d_Gang_beatRound_28 rfl (lv_at hl 2 rfl) ?_
  refine gw_callv (gw_runV (As := []) (rest := []) ⟨hx, hb, hml, hown, hts⟩ (c_Gang_tireAll l E D cI cO cZ z0 M1 hg1) (gw_cwV 0 hts (gT_gi wm_710) rfl rfl rfl (hT _ wm_27) (hT _ wm_707) (hT _ wm_709) (hT _ wm_16) (by decide +kernel) ⟨Nat.le_of_ble_eq_true rfl, Nat.le_of_ble_eq_true rfl⟩) hF hG rfl hgg1 rfl hl.1 rfl (Nat.le_of_ble_eq_true rfl) d_Gang_beatRound_29 ⟨Nat.le_of_ble_eq_true rfl, Nat.le_of_ble_eq_true rfl⟩) hG (fun M3 H locs hp2 hG => ?_)
  have hc2 := hp1.trans hp2
  have hg2 := hg.ch hc2
  obtain ⟨hgg2, hL2, hh2, hd2⟩ := id hg2
  obtain ⟨k2, hgl2, h102, -⟩ := id hL2
  refine lv_aload_n hx hb d_Gang_beatRound_32 rfl (lv_at hl 1 rfl) ?_
  refine lv_ifnonnull (tgt := 38) hx hb d_Gang_beatRound_33 (by decide) ?_
  have hj2 := hh2 j hj
  refine lv_aload_n hx hb d_Gang_beatRound_38 rfl (lv_at hl 1 rfl) ?_
  refine lv_dup hx hb d_Gang_beatRound_39 rfl ?_
  refine gw_get hx hb hT i_Hand hown hK hG hj2 rfl 4 (by decide) (hT _ wm_472) (fun _ h => h) rfl d_Gang_beatRound_40 ?_
  refine lv_iconst (v := 1) hx hb d_Gang_beatRound_43 (by decide) ?_
  refine lv_iadd hx hb d_Gang_beatRound_44 ?_
  refine gw_put (v := .int (((p_held n v j).2.2.2.2.1) + 1)) hx hb hT i_Hand t_Hand t_Hand_ok n_Hand hown hK hG hj2 rfl 4 (by decide) (hT _ wm_472) (fun _ h => h) rfl rfl rfl (Nat.le_of_ble_eq_true rfl) d_Gang_beatRound_45 (fun H locs hG => ?_)
  obtain ⟨M4, e_M4⟩ : ∃ Y_ : gM, Y_ = gw_up M3 (g j) (.inr (6, [.int (p_held n v j).1, .int (p_held n v j).2.1, .int (p_held n v j).2.2.1, .int (p_held n v j).2.2.2.1, .int (((p_held n v j).2.2.2.2.1) + 1), .int (p_held n v j).2.2.2.2.2, .int 32, .int 0, .int 0, .int (-1)])) := ⟨_, rfl⟩
  replace hG := gw_nm e_M4 hG
  have hM4__g_j_ := (congrFun e_M4 ((g j))).trans gw_hit
  have hc3 : gw_ch M M4 (n + 1) g (fun p => if p = j then hLo (p_held n v j) ((p_held n v j).2.2.2.2.1 + 1) else p_held n v p) := by rw [e_M4]; exact gw_ch.one (v := p_held n v) (u := hLo (p_held n v j) ((p_held n v j).2.2.2.2.1 + 1)) hd hj hc2
  have hg3 := hg.ch hc3
  obtain ⟨hgg3, hL3, hh3, hd3⟩ := id hg3
  obtain ⟨k3, hgl3, h103, -⟩ := id hL3
  refine lv_aload_n hx hb d_Gang_beatRound_48 rfl (lv_at hl 2 rfl) ?_
  refine gw_callv (gw_runV (As := []) (rest := []) ⟨hx, hb, hml, hown, hts⟩ (c_Gang_forgetErrors l E D cI cO cZ z0 M4 hg3) (gw_cwV 0 hts (gT_gi wm_719) rfl rfl rfl (hT _ wm_27) (hT _ wm_716) (hT _ wm_718) (hT _ wm_17) (by decide +kernel) ⟨Nat.le_of_ble_eq_true rfl, Nat.le_of_ble_eq_true rfl⟩) hF hG rfl hgg3 rfl hl.1 rfl (Nat.le_of_ble_eq_true rfl) d_Gang_beatRound_49 ⟨Nat.le_of_ble_eq_true rfl, Nat.le_of_ble_eq_true rfl⟩) hG (fun M5 H locs hp4 hG => ?_)
  have hc4 : gw_ch M M5 (n + 1) g (p_lost n v j) := hc3.trans hp4
  have hg4 := hg.ch hc4
  obtain ⟨hgg4, hL4, hh4, hd4⟩ := id hg4
  obtain ⟨k4, hgl4, h104, -⟩ := id hL4
  refine lv_iload_n hx hb d_Gang_beatRound_52 rfl (lv_at hl 0 rfl) ?_
  refine lv_if_eq (tgt := 67) hx hb d_Gang_beatRound_53 (by decide) (fun c_53 => ?_) (fun z_ => absurd (rfl) z_)
  refine lv_iconst (v := 0) hx hb d_Gang_beatRound_67 (by decide) ?_
  exact gw_zret (v := 0) hx hb hr hlk hG rfl ⟨rfl, hc4⟩ (Nat.le_of_ble_eq_true rfl) (Nat.le_of_ble_eq_true rfl) d_Gang_beatRound_68
set_option maxHeartbeats 4000000 in
set_option maxRecDepth 100000 in
theorem c_Gang_beatRound_leave (l : Launch) (E : Nat) (D : va_G) (cI cO cZ : ClassId) (z0 : Nat) (M : gM) {gg gl gt n : Nat} {g : Nat → Nat} {v : Nat → gH} (hg : gw_Gg z0 cO M gg gl gt (n + 1) g v) {j : Nat} (hlo : p_los n (p_lean (n + 1) v) n 0 = some j) (hwo : ¬ (v j).2.2.1 < 50) : Met l y_Gang_beatRound (Cond.code y_Gang_beatRound b_Gang_beatRound 3 (some .boolean) :: gT) ({ frames := 6, cells := 0, slots := 0, locals := 130 }) (gw_Pc E D cI cO cZ z0 M [.ref gg]) (gw_Qi E D (fun r M' => r = 0 ∧ (∀ p, p < n + 1 → M' (g p) = some (gw_hd (if p = j then hHu (p_lost n v j j) 7 else p_lost n v j p))) ∧ gw_L z0 cO M' gl gt n (fun p => if p < j then g p else g (p + 1)) ∧ ∀ b, (∀ p, p < n + 1 → b ≠ g p) → b ≠ gl → b ≠ gt → M' b = M b)) 0 0 (gw_A E) := by
  refine gw_ofW (cc := b_Gang_beatRound) (maxL := 3) (ret := (some .boolean)) (by decide) rfl (Nat.le_of_ble_eq_true rfl) ?_
  intro p e s m args below meth c hx hb hr hml hts hown hlk hnm hF hG ls hl
  have hT : ∀ w ∈ gT, w.before args s = true := fun w h => hts w (List.mem_cons_of_mem _ h)
  have hK := hF.1
  have hl : lv_has ls 3 [(0, .ref gg)] := hl
  obtain ⟨hgg, hL, hh, hd⟩ := id hg
  obtain ⟨k, hgl, h10, -⟩ := id hL
  have hj : j < n + 1 := Nat.lt_succ_of_le (p_los_le n 0 (Nat.zero_add n) hlo)
  refine lv_aload_n hx hb d_Gang_beatRound_0 rfl (lv_at hl 0 rfl) ?_
  refine gw_callv (gw_runV (As := []) (rest := []) ⟨hx, hb, hml, hown, hts⟩ (c_Gang_leanOnOneAnother l E D cI cO cZ z0 M hg (by omega)) (gw_cwV 0 hts (gT_gi wm_691) rfl rfl rfl (hT _ wm_27) (hT _ wm_688) (hT _ wm_690) (hT _ wm_14) (by decide +kernel) ⟨Nat.le_of_ble_eq_true rfl, Nat.le_of_ble_eq_true rfl⟩) hF hG rfl hgg rfl hl.1 rfl (Nat.le_of_ble_eq_true rfl) d_Gang_beatRound_1 ⟨Nat.le_of_ble_eq_true rfl, Nat.le_of_ble_eq_true rfl⟩) hG (fun M1 H locs hp1 hG => ?_)
  have hg1 := hg.ch hp1
  obtain ⟨hgg1, hL1, hh1, hd1⟩ := id hg1
  obtain ⟨k1, hgl1, h101, -⟩ := id hL1
  refine lv_aload_n hx hb d_Gang_beatRound_4 rfl (lv_at hl 0 rfl) ?_
  refine gw_callq (gw_runV (As := []) (rest := []) ⟨hx, hb, hml, hown, hts⟩ (c_Gang_findLoser l E D cI cO cZ z0 M1 hg1) (gw_cwV 0 hts (gT_gi wm_699) rfl rfl rfl (hT _ wm_27) (hT _ wm_696) (hT _ wm_698) (hT _ wm_15) (by decide +kernel) ⟨Nat.le_of_ble_eq_true rfl, Nat.le_of_ble_eq_true rfl⟩) hF hG rfl hgg1 rfl hl.1 rfl (Nat.le_of_ble_eq_true rfl) d_Gang_beatRound_5 ⟨Nat.le_of_ble_eq_true rfl, Nat.le_of_ble_eq_true rfl⟩) hG (fun r M2 H locs hp hG => ?_)
  rw [hp.1, hlo]
  replace hG := gw_nm hp.2.symm hG
  refine lv_astore_n (lv' := [(1, .ref (g j)), (0, .ref gg)]) hx hb d_Gang_beatRound_8 rfl hl (by decide) rfl (fun ls hl => ?_)
  refine lv_aload_n hx hb d_Gang_beatRound_9 rfl (lv_at hl 0 rfl) ?_
  refine lv_ifnull hx hb d_Gang_beatRound_10 ?_
  have hj1 := hh1 j hj
  refine lv_aload_n hx hb d_Gang_beatRound_13 rfl (lv_at hl 0 rfl) ?_
  refine gw_get hx hb hT i_Hand hown hK hG hj1 rfl 2 (by decide) (hT _ wm_466) (fun _ h => h) rfl d_Gang_beatRound_14 ?_
  refine lv_bipush (v := 50) hx hb d_Gang_beatRound_17 (by decide) ?_
  refine lv_icmp_lt (tgt := 26) hx hb d_Gang_beatRound_19 (by decide) (fun z_ => absurd z_ (hwo)) (fun c_19 => ?_)
  refine lv_iconst (v := 1) hx hb d_Gang_beatRound_22 (by decide) ?_
  refine lv_goto (tgt := 27) hx hb d_Gang_beatRound_23 (by decide) ?_
  refine lv_istore_n (lv' := [(2, .int 1), (1, .ref (g j)), (0, .ref gg)]) hx hb d_Gang_beatRound_27 rfl hl (by decide) rfl (fun ls hl => ?_)
  refine lv_aload_n hx hb d_Gang_beatRound_28 rfl (lv_at hl 2 rfl) ?_
  refine gw_callv (gw_runV (As := []) (rest := []) ⟨hx, hb, hml, hown, hts⟩ (c_Gang_tireAll l E D cI cO cZ z0 M1 hg1) (gw_cwV 0 hts (gT_gi wm_710) rfl rfl rfl (hT _ wm_27) (hT _ wm_707) (hT _ wm_709) (hT _ wm_16) (by decide +kernel) ⟨Nat.le_of_ble_eq_true rfl, Nat.le_of_ble_eq_true rfl⟩) hF hG rfl hgg1 rfl hl.1 rfl (Nat.le_of_ble_eq_true rfl) d_Gang_beatRound_29 ⟨Nat.le_of_ble_eq_true rfl, Nat.le_of_ble_eq_true rfl⟩) hG (fun M3 H locs hp2 hG => ?_)
  have hc2 := hp1.trans hp2
  have hg2 := hg.ch hc2
  obtain ⟨hgg2, hL2, hh2, hd2⟩ := id hg2
  obtain ⟨k2, hgl2, h102, -⟩ := id hL2
  refine lv_aload_n hx hb d_Gang_beatRound_32 rfl (lv_at hl 1 rfl) ?_
  refine lv_ifnonnull (tgt := 38) hx hb d_Gang_beatRound_33 (by decide) ?_
  have hj2 := hh2 j hj
  refine lv_aload_n hx hb d_Gang_beatRound_38 rfl (lv_at hl 1 rfl) ?_
  refine lv_dup hx hb d_Gang_beatRound_39 rfl ?_
  refine gw_get hx hb hT i_Hand hown hK hG hj2 rfl 4 (by decide) (hT _ wm_472) (fun _ h => h) rfl d_Gang_beatRound_40 ?_
  refine lv_iconst (v := 1) hx hb d_Gang_beatRound_43 (by decide) ?_
  refine lv_iadd hx hb d_Gang_beatRound_44 ?_
  refine gw_put (v := .int (((p_held n v j).2.2.2.2.1) + 1)) hx hb hT i_Hand t_Hand t_Hand_ok n_Hand hown hK hG hj2 rfl 4 (by decide) (hT _ wm_472) (fun _ h => h) rfl rfl rfl (Nat.le_of_ble_eq_true rfl) d_Gang_beatRound_45 (fun H locs hG => ?_)
  obtain ⟨M4, e_M4⟩ : ∃ Y_ : gM, Y_ = gw_up M3 (g j) (.inr (6, [.int (p_held n v j).1, .int (p_held n v j).2.1, .int (p_held n v j).2.2.1, .int (p_held n v j).2.2.2.1, .int (((p_held n v j).2.2.2.2.1) + 1), .int (p_held n v j).2.2.2.2.2, .int 32, .int 0, .int 0, .int (-1)])) := ⟨_, rfl⟩
  replace hG := gw_nm e_M4 hG
  have hM4__g_j_ := (congrFun e_M4 ((g j))).trans gw_hit
  have hc3 : gw_ch M M4 (n + 1) g (fun p => if p = j then hLo (p_held n v j) ((p_held n v j).2.2.2.2.1 + 1) else p_held n v p) := by rw [e_M4]; exact gw_ch.one (v := p_held n v) (u := hLo (p_held n v j) ((p_held n v j).2.2.2.2.1 + 1)) hd hj hc2
  have hg3 := hg.ch hc3
  obtain ⟨hgg3, hL3, hh3, hd3⟩ := id hg3
  obtain ⟨k3, hgl3, h103, -⟩ := id hL3
  refine lv_aload_n hx hb d_Gang_beatRound_48 rfl (lv_at hl 2 rfl) ?_
  refine gw_callv (gw_runV (As := []) (rest := []) ⟨hx, hb, hml, hown, hts⟩ (c_Gang_forgetErrors l E D cI cO cZ z0 M4 hg3) (gw_cwV 0 hts (gT_gi wm_719) rfl rfl rfl (hT _ wm_27) (hT _ wm_716) (hT _ wm_718) (hT _ wm_17) (by decide +kernel) ⟨Nat.le_of_ble_eq_true rfl, Nat.le_of_ble_eq_true rfl⟩) hF hG rfl hgg3 rfl hl.1 rfl (Nat.le_of_ble_eq_true rfl) d_Gang_beatRound_49 ⟨Nat.le_of_ble_eq_true rfl, Nat.le_of_ble_eq_true rfl⟩) hG (fun M5 H locs hp4 hG => ?_)
  have hc4 : gw_ch M M5 (n + 1) g (p_lost n v j) := hc3.trans hp4
  have hg4 := hg.ch hc4
  obtain ⟨hgg4, hL4, hh4, hd4⟩ := id hg4
  obtain ⟨k4, hgl4, h104, -⟩ := id hL4
  refine lv_iload_n hx hb d_Gang_beatRound_52 rfl (lv_at hl 0 rfl) ?_
  refine lv_if_eq (tgt := 67) hx hb d_Gang_beatRound_53 (by decide) (fun z_ => absurd z_ (by decide)) (fun c_53 => ?_)
  have hj4 := hh4 j hj
  refine lv_aload_n hx hb d_Gang_beatRound_56 rfl (lv_at hl 1 rfl) ?_
  refine lv_bipush (v := 7) hx hb d_Gang_beatRound_57 (by decide) ?_
  refine gw_put (v := .int 7) hx hb hT i_Hand t_Hand t_Hand_ok n_Hand hown hK hG hj4 rfl 3 (by decide) (hT _ wm_470) (fun _ h => h) rfl rfl rfl (Nat.le_of_ble_eq_true rfl) d_Gang_beatRound_59 (fun H locs hG => ?_)
  obtain ⟨M6, e_M6⟩ : ∃ Y_ : gM, Y_ = gw_up M5 (g j) (.inr (6, [.int (p_lost n v j j).1, .int (p_lost n v j j).2.1, .int (p_lost n v j j).2.2.1, .int 7, .int (p_lost n v j j).2.2.2.2.1, .int (p_lost n v j j).2.2.2.2.2, .int 32, .int 0, .int 0, .int (-1)])) := ⟨_, rfl⟩
  replace hG := gw_nm e_M6 hG
  have hM6__g_j_ := (congrFun e_M6 ((g j))).trans gw_hit
  have hc5 : gw_ch M M6 (n + 1) g (fun p => if p = j then hHu (p_lost n v j j) 7 else p_lost n v j p) := by rw [e_M6]; exact gw_ch.one (v := p_lost n v j) (u := hHu (p_lost n v j j) 7) hd hj hc4
  have hg5 := hg.ch hc5
  obtain ⟨hgg5, hL5, hh5, hd5⟩ := id hg5
  obtain ⟨k5, hgl5, h105, -⟩ := id hL5
  refine lv_aload_n hx hb d_Gang_beatRound_62 rfl (lv_at hl 2 rfl) ?_
  refine lv_aload_n hx hb d_Gang_beatRound_63 rfl (lv_at hl 1 rfl) ?_
  refine gw_callv (gw_runV (As := [.ref (g j)]) (rest := []) ⟨hx, hb, hml, hown, hts⟩ (c_Gang_letGo l E D cI cO cZ z0 M6 hg5 (h := g j) (j := j) (by omega) rfl) (gw_cwV 1 hts (gT_gi wm_595) rfl rfl rfl (hT _ wm_27) (hT _ wm_720) (hT _ wm_593) (hT _ wm_594) (by decide +kernel) ⟨Nat.le_of_ble_eq_true rfl, Nat.le_of_ble_eq_true rfl⟩) hF hG rfl hgg5 rfl hl.1 rfl (Nat.le_of_ble_eq_true rfl) d_Gang_beatRound_64 ⟨Nat.le_of_ble_eq_true rfl, Nat.le_of_ble_eq_true rfl⟩) hG (fun M7 H locs hp6 hG => ?_)
  refine lv_iconst (v := 0) hx hb d_Gang_beatRound_67 (by decide) ?_
  obtain ⟨k6, hgl6, -, hgt6⟩ := id hL5
  have hgtne : ∀ p, p < n + 1 → g p ≠ gt := fun p hp => by
      rcases hgt6 with ⟨q1, -⟩ | ⟨f, q1, -⟩
      · omega
      · exact (gw_neA q1 (hh5 p hp)).symm
  exact gw_zret (v := 0) hx hb hr hlk hG rfl ⟨rfl, fun p hp => (hp6.2 (g p) (gw_neO (hh5 p hp) hgl5 (by decide)) (hgtne p hp)).trans (hc5.2 p hp), hp6.1, fun b h1 h2 h3 => (hp6.2 b h2 h3).trans (hc5.1 b h1)⟩ (Nat.le_of_ble_eq_true rfl) (Nat.le_of_ble_eq_true rfl) d_Gang_beatRound_68
end
section
theorem d_Row_checkRange_0 : decode b_Row_checkRange 0 = .ok (.iload_n 0, 1) := by decide +kernel
theorem d_Row_checkRange_1 : decode b_Row_checkRange 1 = .ok (.iload_n 1, 1) := by decide +kernel
theorem d_Row_checkRange_2 : decode b_Row_checkRange 2 = .ok (.if_icmp .lt 8, 3) := by decide +kernel
theorem d_Row_checkRange_5 : decode b_Row_checkRange 5 = .ok (.iload_n 0, 1) := by decide +kernel
theorem d_Row_checkRange_6 : decode b_Row_checkRange 6 = .ok (.iload_n 2, 1) := by decide +kernel
theorem d_Row_checkRange_7 : decode b_Row_checkRange 7 = .ok (.if_icmp .le 14, 3) := by decide +kernel
theorem d_Row_checkRange_21 : decode b_Row_checkRange 21 = .ok (.return_, 1) := by decide +kernel
theorem d_Row_checkRange_10 : decode b_Row_checkRange 10 = .ok (.new 175, 3) := by decide +kernel
theorem d_Row_checkRange_13 : decode b_Row_checkRange 13 = .ok (.dup, 1) := by decide +kernel
theorem d_Row_checkRange_14 : decode b_Row_checkRange 14 = .ok (.ldc_w 379, 3) := by decide +kernel
theorem d_Row_checkRange_17 : decode b_Row_checkRange 17 = .ok (.invokespecial 179, 3) := by decide +kernel
theorem d_Row_checkRange_20 : decode b_Row_checkRange 20 = .ok (.athrow, 1) := by decide +kernel
theorem wm_426 : Cond.classLink "ThresholdRow" 175 "java/lang/IllegalArgumentException" ∈ gT := gT_m (List.mem_of_getElem? (i := 426) (by decide +kernel)) (by decide +kernel)
theorem wm_38 : Cond.initialized "java/lang/IllegalArgumentException" ∈ gT := gT_m (List.mem_of_getElem? (i := 38) (by decide +kernel)) (by decide +kernel)
/-! what leaves a method of ours by a throw: the class, the world as it was -/
def gw_XC (E : Nat) (D : va_G) (cls : String) (M : gM) : String → State → State → Prop := vx_X (fun M' : gM => M' = M) (fun E' M' t => E' = cls ∧ gw_B E D M' t) (gw_A E)
theorem gw_at {L : List Cond} (h : L.all (fun w => decide (w ∈ lw_tbl) && (goodWord w || gw_wk w)) = true) {args : Array Value} {s : State} (hT : ∀ w ∈ gT, w.before args s = true) (hN : gw_N s) : ∀ w ∈ L, w.before args s = true := by
  intro w hw
  have h1 := List.all_eq_true.mp h w hw
  simp only [Bool.and_eq_true, decide_eq_true_eq, Bool.or_eq_true] at h1
  rcases h1.2 with h2 | h2
  · exact hT w (gT_m h1.1 h2)
  · exact va_Nw.use (gw_wk_on h2) (gW_m hN h1.1 h2)
section GX
variable {p : Program} {l : Launch} {e : Env} {R : Room} {s : State} {m : MethodId} {args : Array Value} {below : List Frame} {meth : Method} {c : Code} {H : Heap} {locs : List Loc} {cells slots : Nat} {Q : State → Prop}
variable {cc : ByteArray} {pc : Nat} {ls : Array Slot} {rest : List Value} {D : va_G} {a : Nat} {E : Nat} {M : gM} {cI cO cZ : ClassId} {z0 : Nat}
abbrev gw_up2 : List String := ["java/lang/RuntimeException", "java/lang/Exception"]
theorem gw_XCof {cls : String} {t : State} (hG : gw_H E D M s H locs) (h1 : H.size ≤ t.heap.size) (h2 : ∀ q : Nat, q < H.size → t.heap[q]? = H[q]?) : gw_XC E D cls M cls s t := by
  refine ⟨M, rfl, ⟨rfl, fun a e he => ?_, hG.2.1⟩, Nat.le_trans hG.2.2.1 h1, fun q q1 q2 => ?_⟩
  · exact (hG.1 a e he).kept (h2 a (hG.1 a e he).lt)
  · rw [h2 q (Nat.lt_of_lt_of_le q1 hG.2.2.1)]
    exact hG.2.2.2.1 q q1 q2
theorem gw_thrS (hx : p.tables.exec = Jvm.exec) (hb : c.code = cc) (hl : l.stackTraces = false) {cls text : String} {ik is ic mc ms : Nat} {Qc : Array Value → State → Outcome → State → Prop} (hown : s.vm.findClass "ThresholdRow" = some m.cls) (hcls : Bundle.fit cls = true)
    (hk : (Cond.classLink "ThresholdRow" ik cls).before args s = true) (hini : (Cond.initialized cls).before args s = true) (htx : (is, text) ∈ gw_texts) (hT : ∀ w ∈ gT, w.before args s = true) (hat : (vx_atS "ThresholdRow" ic cls gw_up2).all (fun w => decide (w ∈ lw_tbl) && (goodWord w || gw_wk w)) = true) (hgood : (vx_atS "ThresholdRow" ic cls gw_up2).all vx_ot = true)
    (hF : gw_F E D cI cO cZ z0 s) (hG : gw_H E D M s H locs) (hsize : ls.size = c.maxLocals)
    (d0 : decode cc pc = .ok (.new ik, 3)) (d3 : decode cc (pc + 3) = .ok (.dup, 1)) (d4 : decode cc (pc + 4) = .ok (.ldc is, 2)) (d6 : decode cc (pc + 6) = .ok (.invokespecial ic, 3)) (d9 : decode cc (pc + 9) = .ok (.athrow, 1))
    (hnt : ∀ x ∈ c.exceptionTable.toList, False) (hRf : 5 < R.frames) (hRl : (rest.map fun v => v.category).sum + 82 ≤ R.locals) (hRc : cells + 1 ≤ R.cells) (hRs : slots + 6 ≤ R.slots) (hlk : meth.locks = false) (hc : cells + 1 ≤ mc) (hs : slots + 6 ≤ ms) :
    W p l e R s m args below meth c H locs cells slots (vx_MQ below Qc (gw_XC E D cls M) args s mc ms (gw_A E)) (F0 m pc ls rest) := by
  obtain ⟨sa, hsa⟩ := hF.2.2.2.2.2.2.2.2.2 _ htx
  refine vx_throwS (names := gw_up2) (A := gw_A E) hx hb hl hown hcls (by decide) hk hini hsa (gw_at hat hT hF.2.2.2.2.2.2) (fun w hw => ?_) hF.2.2.2.2.1 hF.2.2.2.2.2.1 hG.2.2 hsize d0 d3 d4 d6 d9 (fun x h => (hnt x h).elim) hRf hRl hRc hRs hlk (fun t _ h1 h2 => gw_XCof hG h1 h2) hG.2.2.2.2 hc hs
  rcases List.mem_cons.mp hw with rfl | hw
  · rfl
  · rcases List.mem_cons.mp hw with rfl | hw
    · rfl
    · exact List.all_eq_true.mp hgood w hw
theorem gw_thrSW (hx : p.tables.exec = Jvm.exec) (hb : c.code = cc) (hl : l.stackTraces = false) {cls text : String} {ik is ic mc ms : Nat} {Qc : Array Value → State → Outcome → State → Prop} (hown : s.vm.findClass "ThresholdRow" = some m.cls) (hcls : Bundle.fit cls = true)
    (hk : (Cond.classLink "ThresholdRow" ik cls).before args s = true) (hini : (Cond.initialized cls).before args s = true) (htx : (is, text) ∈ gw_texts) (hT : ∀ w ∈ gT, w.before args s = true) (hat : (vx_atS "ThresholdRow" ic cls gw_up2).all (fun w => decide (w ∈ lw_tbl) && (goodWord w || gw_wk w)) = true) (hgood : (vx_atS "ThresholdRow" ic cls gw_up2).all vx_ot = true)
    (hF : gw_F E D cI cO cZ z0 s) (hG : gw_H E D M s H locs) (hsize : ls.size = c.maxLocals)
    (d0 : decode cc pc = .ok (.new ik, 3)) (d3 : decode cc (pc + 3) = .ok (.dup, 1)) (d4 : decode cc (pc + 4) = .ok (.ldc_w is, 3)) (d7 : decode cc (pc + 7) = .ok (.invokespecial ic, 3)) (d10 : decode cc (pc + 10) = .ok (.athrow, 1))
    (hnt : ∀ x ∈ c.exceptionTable.toList, False) (hRf : 5 < R.frames) (hRl : (rest.map fun v => v.category).sum + 82 ≤ R.locals) (hRc : cells + 1 ≤ R.cells) (hRs : slots + 6 ≤ R.slots) (hlk : meth.locks = false) (hc : cells + 1 ≤ mc) (hs : slots + 6 ≤ ms) :
    W p l e R s m args below meth c H locs cells slots (vx_MQ below Qc (gw_XC E D cls M) args s mc ms (gw_A E)) (F0 m pc ls rest) := by
  obtain ⟨sa, hsa⟩ := hF.2.2.2.2.2.2.2.2.2 _ htx
  refine vx_throwSW (names := gw_up2) (A := gw_A E) hx hb hl hown hcls (by decide) hk hini hsa (gw_at hat hT hF.2.2.2.2.2.2) (fun w hw => ?_) hF.2.2.2.2.1 hF.2.2.2.2.2.1 hG.2.2 hsize d0 d3 d4 d7 d10 (fun x h => (hnt x h).elim) hRf hRl hRc hRs hlk (fun t _ h1 h2 => gw_XCof hG h1 h2) hG.2.2.2.2 hc hs
  rcases List.mem_cons.mp hw with rfl | hw
  · rfl
  · rcases List.mem_cons.mp hw with rfl | hw
    · rfl
    · exact List.all_eq_true.mp hgood w hw
theorem gw_ofX {y : MethodName} {ws ws' : List Cond} {rm : Room} {av : List Value} {Qc : Array Value → State → Outcome → State → Prop} {XC : String → State → State → Prop} {mc ms : Nat} {cc : ByteArray} {maxL : Nat} {ret : Option FieldType} (hy : plainName y.cls = true) (hw : ws = Cond.code y cc maxL ret :: ws') (hlen : (lg_sl av).length ≤ maxL)
    (body : ∀ (p : Program) (e : Env) (s : State) (m : MethodId) (args : Array Value) (below : List Frame) (meth : Method) (c : Code), p.tables.exec = Jvm.exec → c.code = cc → meth.sig.returnType = ret → c.maxLocals = maxL → (∀ w ∈ ws, w.before args s = true) → s.vm.findClass y.cls = some m.cls → meth.locks = false → (∀ x ∈ c.exceptionTable.toList, False) → gw_F E D cI cO cZ z0 s → gw_H E D M s s.heap [] → ∀ ls : Array Slot, lv_has ls maxL (lv_args 0 av) →
      W p l e rm s m args below meth c s.heap [] 0 0 (vx_MQ below Qc XC args s mc ms (gw_A E)) (F0 m 0 ls [])) : vx_Met l y ws rm (gw_Pc E D cI cO cZ z0 M av) Qc XC mc ms (gw_A E) := by
  refine vx_ofW (cc := cc) (maxL := maxL) (ret := ret) hy hw ?_
  intro p e s m args below meth c s₁ B hml hnt hv
  obtain ⟨rfl, hF, hB⟩ := hv
  have hts := atoms_spec (ws := ws) B.pre
  have hown : s.vm.findClass y.cls = some m.cls := findClass_of_methodNamed B.named
  have hl := lv_entry av (n := maxL) hlen
  rw [lg_entry_eq]
  exact body p e s m _ below meth c B.exec B.bytes B.returns hml hts hown B.notSynchronized hnt hF ⟨hB.1, hB.2, va_S.rf⟩ _ hl
theorem gw_xrunV {y : MethodName} {bytes : ByteArray} {maxL nL mc ms n index ci N : Nat} {ret : Option FieldType} {ws : List Cond} {rm : Room} {Qc : Array Value → State → Outcome → State → Prop} {XC : String → State → State → Prop} {Ts : List Cond} {own C : String} {T : u_T} {b : Nat} {As rest st0 : List Value} {fs : List Value}
    (S : CallFix p m c cc nL s args Ts own) (hM : vx_Met l y ws rm (gw_Pc E D cI cO cZ z0 M (.ref b :: As)) Qc XC mc ms (gw_A E)) (cw : CallW R s args own C index y bytes maxL ret ws rm mc ms n) (hF : gw_F E D cI cO cZ z0 s) (hG : gw_H E D M s H locs) (hc : classes[ci]? = some (C, T, N)) (he : M b = some (.inr (ci, fs)))
    (hn : As.length = n) (hsize : ls.size = nL) (hstack : st0 = As.reverse ++ .ref b :: rest) (hW : (rest.map fun v => v.category).sum ≤ 8) (hdg : decode cc pc = .ok (.invokevirtual index, 3)) (hf : cells + mc ≤ R.cells ∧ slots + ms ≤ R.slots) :
    vx_Run p l e R s m args below meth c H locs cells slots mc ms (F0 m pc ls st0) rest (Qc (Value.ref b :: As).toArray) XC (gw_A E) :=
  vx_runV S hM cw ⟨gw_blind, gw_recv hF hG hc he, gw_pre hF hG⟩ rfl hn hsize hstack (lv_room (rest := st0) hW) hdg hf
theorem gw_xrunS {y : MethodName} {bytes : ByteArray} {maxL nL mc ms n index : Nat} {ret : Option FieldType} {ws : List Cond} {rm : Room} {Qc : Array Value → State → Outcome → State → Prop} {XC : String → State → State → Prop} {Ts : List Cond} {own : String} {As rest st0 : List Value}
    (S : CallFix p m c cc nL s args Ts own) (hM : vx_Met l y ws rm (gw_Pc E D cI cO cZ z0 M As) Qc XC mc ms (gw_A E)) (cw : CallB R s args own index y bytes maxL ret ws rm mc ms n ∧ (Cond.static y).before args s = true) (hF : gw_F E D cI cO cZ z0 s) (hG : gw_H E D M s H locs)
    (hn : As.length = n) (hsize : ls.size = nL) (hstack : st0 = As.reverse ++ rest) (hW : (rest.map fun v => v.category).sum ≤ 8) (hdg : decode cc pc = .ok (.invokestatic index, 3)) (hf : cells + mc ≤ R.cells ∧ slots + ms ≤ R.slots) :
    vx_Run p l e R s m args below meth c H locs cells slots mc ms (F0 m pc ls st0) rest (Qc As.toArray) XC (gw_A E) :=
  vx_runS S hM cw ⟨gw_blind, gw_pre hF hG⟩ rfl hn hsize hstack (lv_room (rest := st0) hW) hdg hf
theorem gw_xcalli {cls : String} {mc ms : Nat} {st0 : List Value} {aa : Array Value} (hr : vx_Run p l e R s m args below meth c H locs cells slots mc ms (F0 m pc ls st0) rest (gw_Qi E D (fun _ _ => False) aa) (gw_XC E D cls M) (gw_A E)) (hG : gw_H E D M s H locs)
    (kx : ∀ (ce : Cell) (q : Addr) (H1 : Heap) (locs1 : List Loc), gw_H E D M s H1 locs1 → H1[q]? = some ce → ce.vm = .none → s.vm.findClass cls = some ce.cls → vx_W p l e R s m args below meth c H1 locs1 (cells + mc) (slots + ms) Q (F0 m pc ls rest) q) : W p l e R s m args below meth c H locs cells slots Q (F0 m pc ls st0) :=
  vx_calli hr hG.2.2 (fun _ _ h => h) (fun _ h => h) (fun _ _ h => h) (fun E' ce q u t H1 locs1 ht _ hu hB _ _ hS1 h1 h2 h3 => by
    obtain ⟨rfl, hB⟩ := hB
    subst hu
    exact kx ce q H1 locs1 (gw_back ht hB hS1) h1 h2 h3) (fun _ _ _ _ _ _ _ h => h.elim)
theorem gw_xcallv {cls : String} {mc ms : Nat} {st0 : List Value} {aa : Array Value} (hr : vx_Run p l e R s m args below meth c H locs cells slots mc ms (F0 m pc ls st0) rest (gw_Qv E D (fun _ => False) aa) (gw_XC E D cls M) (gw_A E)) (hG : gw_H E D M s H locs)
    (kx : ∀ (ce : Cell) (q : Addr) (H1 : Heap) (locs1 : List Loc), gw_H E D M s H1 locs1 → H1[q]? = some ce → ce.vm = .none → s.vm.findClass cls = some ce.cls → vx_W p l e R s m args below meth c H1 locs1 (cells + mc) (slots + ms) Q (F0 m pc ls rest) q) : W p l e R s m args below meth c H locs cells slots Q (F0 m pc ls st0) :=
  vx_callv hr hG.2.2 (fun _ _ h => h) (fun _ h => h) (fun _ _ h => h) (fun E' ce q u t H1 locs1 ht _ hu hB _ _ hS1 h1 h2 h3 => by
    obtain ⟨rfl, hB⟩ := hB
    subst hu
    exact kx ce q H1 locs1 (gw_back ht hB hS1) h1 h2 h3) (fun _ _ _ _ _ _ h => h.elim)
theorem gw_xcallq {cls : String} {mc ms : Nat} {st0 : List Value} {aa : Array Value} (hr : vx_Run p l e R s m args below meth c H locs cells slots mc ms (F0 m pc ls st0) rest (gw_Qq E D (fun _ _ => False) aa) (gw_XC E D cls M) (gw_A E)) (hG : gw_H E D M s H locs)
    (kx : ∀ (ce : Cell) (q : Addr) (H1 : Heap) (locs1 : List Loc), gw_H E D M s H1 locs1 → H1[q]? = some ce → ce.vm = .none → s.vm.findClass cls = some ce.cls → vx_W p l e R s m args below meth c H1 locs1 (cells + mc) (slots + ms) Q (F0 m pc ls rest) q) : W p l e R s m args below meth c H locs cells slots Q (F0 m pc ls st0) :=
  vx_callq hr hG.2.2 (fun _ _ h => h) (fun _ h => h) (fun _ _ h => h) (fun E' ce q u t H1 locs1 ht _ hu hB _ _ hS1 h1 h2 h3 => by
    obtain ⟨rfl, hB⟩ := hB
    subst hu
    exact kx ce q H1 locs1 (gw_back ht hB hS1) h1 h2 h3) (fun _ _ _ _ _ _ _ h => h.elim)
theorem gw_xout {cls : String} {ce : Cell} {q : Addr} {mc ms : Nat} {Qc : Array Value → State → Outcome → State → Prop} (hnt : ∀ x ∈ c.exceptionTable.toList, False) (hlk : meth.locks = false) (hG : gw_H E D M s H locs) (h1 : H[q]? = some ce) (h2 : ce.vm = .none) (h3 : s.vm.findClass cls = some ce.cls) (hc : cells ≤ mc) (hs : slots ≤ ms) :
    vx_W p l e R s m args below meth c H locs cells slots (vx_MQ below Qc (gw_XC E D cls M) args s mc ms (gw_A E)) (F0 m pc ls rest) q :=
  vx_out (fun x h => (hnt x h).elim) hlk h1 h2 h3 (fun t ht _ => by
    refine gw_XCof hG ?_ ?_
    · rw [ht]; exact Nat.le_refl _
    · intro q _; rw [ht]) hG.2.2.2.2 hc hs
end GX
set_option maxHeartbeats 4000000 in
set_option maxRecDepth 100000 in
theorem c_Row_checkRange (l : Launch) (E : Nat) (D : va_G) (cI cO cZ : ClassId) (z0 : Nat) (M : gM) {x y z : Int32} (h1 : ¬ x < y) (h2 : x ≤ z) : Met l y_Row_checkRange (Cond.code y_Row_checkRange b_Row_checkRange 3 none :: gT) ({ frames := 0, cells := 0, slots := 0, locals := 0 }) (gw_Pc E D cI cO cZ z0 M [.int x, .int y, .int z]) (gw_Qv E D (fun M' => M' = M)) 0 0 (gw_A E) := by
  refine gw_ofW (cc := b_Row_checkRange) (maxL := 3) (ret := none) (by decide) rfl (Nat.le_of_ble_eq_true rfl) ?_
  intro p e s m args below meth c hx hb hr hml hts hown hlk hnm hF hG ls hl
  have hT : ∀ w ∈ gT, w.before args s = true := fun w h => hts w (List.mem_cons_of_mem _ h)
  have hK := hF.1
  have hl : lv_has ls 3 [(0, .int x), (1, .int y), (2, .int z)] := hl
  refine lv_iload_n hx hb d_Row_checkRange_0 rfl (lv_at hl 0 rfl) ?_
  refine lv_iload_n hx hb d_Row_checkRange_1 rfl (lv_at hl 1 rfl) ?_
  refine lv_icmp_lt (tgt := 10) hx hb d_Row_checkRange_2 (by decide) (fun z_ => absurd z_ (h1)) (fun c_2 => ?_)
  refine lv_iload_n hx hb d_Row_checkRange_5 rfl (lv_at hl 0 rfl) ?_
  refine lv_iload_n hx hb d_Row_checkRange_6 rfl (lv_at hl 2 rfl) ?_
  refine lv_icmp_le (tgt := 21) hx hb d_Row_checkRange_7 (by decide) (fun c_7 => ?_) (fun z_ => absurd (h2) z_)
  exact gw_vret hx hb hr hlk hG (rfl) (Nat.le_of_ble_eq_true rfl) (Nat.le_of_ble_eq_true rfl) d_Row_checkRange_21
set_option maxHeartbeats 4000000 in
set_option maxRecDepth 100000 in
theorem c_Row_checkRange_x (l : Launch) (E : Nat) (D : va_G) (cI cO cZ : ClassId) (z0 : Nat) (M : gM) (hst : l.stackTraces = false) {x y z : Int32} (h1 : x < y ∨ z < x) : vx_Met l y_Row_checkRange (Cond.code y_Row_checkRange b_Row_checkRange 3 none :: gT) ({ frames := 6, cells := 1, slots := 6, locals := 82 }) (gw_Pc E D cI cO cZ z0 M [.int x, .int y, .int z]) (gw_Qv E D (fun _ => False)) (gw_XC E D "java/lang/IllegalArgumentException" M) 1 6 (gw_A E) := by
  refine gw_ofX (cc := b_Row_checkRange) (maxL := 3) (ret := none) (by decide) rfl (Nat.le_of_ble_eq_true rfl) ?_
  intro p e s m args below meth c hx hb hr hml hts hown hlk hnt hF hG ls hl
  have hT : ∀ w ∈ gT, w.before args s = true := fun w h => hts w (List.mem_cons_of_mem _ h)
  have hK := hF.1
  have hl : lv_has ls 3 [(0, .int x), (1, .int y), (2, .int z)] := hl
  refine lv_iload_n hx hb d_Row_checkRange_0 rfl (lv_at hl 0 rfl) ?_
  refine lv_iload_n hx hb d_Row_checkRange_1 rfl (lv_at hl 1 rfl) ?_
  refine lv_icmp_lt (tgt := 10) hx hb d_Row_checkRange_2 (by decide) (fun c_2 => ?_) (fun c_2 => ?_)
  · skip
    exact gw_thrSW (cls := "java/lang/IllegalArgumentException") (text := "a number is out of range") hx hb hst hown (by decide) (hT _ wm_426) (hT _ wm_38) (by decide) hT (by decide +kernel) (by decide +kernel) hF hG (hl.1.trans hml.symm) d_Row_checkRange_10 d_Row_checkRange_13 d_Row_checkRange_14 d_Row_checkRange_17 d_Row_checkRange_20 hnt (Nat.le_of_ble_eq_true rfl) (Nat.le_of_ble_eq_true rfl) (Nat.le_of_ble_eq_true rfl) (Nat.le_of_ble_eq_true rfl) hlk (Nat.le_of_ble_eq_true rfl) (Nat.le_of_ble_eq_true rfl)
  · skip
    refine lv_iload_n hx hb d_Row_checkRange_5 rfl (lv_at hl 0 rfl) ?_
    refine lv_iload_n hx hb d_Row_checkRange_6 rfl (lv_at hl 2 rfl) ?_
    refine lv_icmp_le (tgt := 21) hx hb d_Row_checkRange_7 (by decide) (fun z_ => absurd z_ (fun z_ => by rcases h1 with h | h; exact c_2 h; exact absurd h (Int32.not_lt.mpr z_))) (fun c_7 => ?_)
    exact gw_thrSW (cls := "java/lang/IllegalArgumentException") (text := "a number is out of range") hx hb hst hown (by decide) (hT _ wm_426) (hT _ wm_38) (by decide) hT (by decide +kernel) (by decide +kernel) hF hG (hl.1.trans hml.symm) d_Row_checkRange_10 d_Row_checkRange_13 d_Row_checkRange_14 d_Row_checkRange_17 d_Row_checkRange_20 hnt (Nat.le_of_ble_eq_true rfl) (Nat.le_of_ble_eq_true rfl) (Nat.le_of_ble_eq_true rfl) (Nat.le_of_ble_eq_true rfl) hlk (Nat.le_of_ble_eq_true rfl) (Nat.le_of_ble_eq_true rfl)
end
section
/-! NoSuchElementException's constructor calls its superclass's by another place of its pool than the others do (13, not 7): vx_ctorMadeS, vx_makeS of kit/laws/EXCEPTIONS.to-paste turned to that. -/
def nx_six : ByteArray := ⟨#[0x2a, 0x2b, 0xb7, 0x00, 0x0d, 0xb1]⟩
theorem nx_six_0 : decode nx_six 0 = .ok (.aload_n 0, 1) := by decide +kernel
theorem nx_six_1 : decode nx_six 1 = .ok (.aload_n 1, 1) := by decide +kernel
theorem nx_six_2 : decode nx_six 2 = .ok (.invokespecial 13, 3) := by decide +kernel
theorem nx_six_5 : decode nx_six 5 = .ok (.return_, 1) := by decide +kernel
def nx_atoms (own : String) (ic : Nat) (X : String) : List Cond :=
  Bundle.throwableAtoms ++ Bundle.throwableSAtoms ++ (Bundle.passSAtoms X "java/lang/RuntimeException" 13 nx_six ++ Bundle.chainSAtoms "java/lang/RuntimeException" ["java/lang/Exception"]) ++
  [.methodLink own ic (Bundle.initS X), .instantiable X 6, .castable X X, .selects X Bundle.tFill0 Bundle.tFill0, .selects X Bundle.tFill Bundle.tFill,
   .lays X Bundle.tN "cause" "Ljava/lang/Throwable;", .lays X Bundle.tN "stackTrace" Bundle.steD, .lays X Bundle.tN "suppressedExceptions" Bundle.listD, .lays X Bundle.tN "detailMessage" "Ljava/lang/String;",
   .isRef (.static Bundle.tN "UNASSIGNED_STACK" Bundle.steD), .isRef (.static Bundle.tN "SUPPRESSED_SENTINEL" Bundle.listD),
   .fieldLink Bundle.tN 198 Bundle.tN "backtrace" "Ljava/lang/Object;", .lays Bundle.tN Bundle.tN "backtrace" "Ljava/lang/Object;", .lays X Bundle.tN "backtrace" "Ljava/lang/Object;"]
def nx_at (own : String) (ic : Nat) (X : String) : List Cond := (nx_atoms own ic X).filter vx_no
theorem nx_chain {args : Array Value} {s : State} {pl : Platform} (hpl : pl.magicAccessors = ({} : Platform).magicAccessors) {top : MethodId} (htop : s.methodNamed? (Bundle.initS Bundle.tN) = some top) {X : String} (hX : Bundle.fit X = true) (h : ∀ c ∈ Bundle.passSAtoms X "java/lang/RuntimeException" 13 nx_six ++ Bundle.chainSAtoms "java/lang/RuntimeException" ["java/lang/Exception"], c.before args s = true) :
    ∃ (P1 : PassC) (Ps : List PassC), Ps.length = 2 ∧ P1.LinksS pl s ∧ (∀ P, P ∈ Ps → P.LinksS pl s) ∧ s.methodNamed? (Bundle.initS X) = some P1.m ∧
        P1.sup = firstOf top (Ps.map (·.toPassT)) ∧ PassesOn top (Ps.map (·.toPassT)) := by
  obtain ⟨P, L, hm, hs⟩ := PassC.ofS_atoms (args := args) (s := s) hpl (X := X) (Y := "java/lang/RuntimeException") (Bundle.fit_spec hX).1 (by decide) nx_six_0 nx_six_1 nx_six_2 nx_six_5 (fun c hc => h c (List.mem_append_left _ hc))
  obtain ⟨P', Ps, hlen, L', hL, hm', hsup, hpass⟩ := Bundle.chainS (args := args) hpl htop ["java/lang/Exception"] "java/lang/RuntimeException" (by decide) (by decide) (fun c hc => h c (List.mem_append_right _ hc))
  refine ⟨P, P' :: Ps, by simp [hlen], L, ?_, hm, Option.some.inj (hs.symm.trans hm'), hsup, hpass⟩
  intro Q hQ
  rcases List.mem_cons.mp hQ with rfl | hQ
  · exact L'
  · exact hL Q hQ
section NX
variable {p : Program} {l : Launch} {e : Env} {R : Room} {s : State} {m₀ : MethodId} {args : Array Value} {below : List Frame} {meth : Method} {c : Code} {W : State} {locs : List Loc} {cells slots : Nat}
set_option maxHeartbeats 4000000 in
theorem nx_ctorMadeS (X : Stand p l e R s m₀ args below meth c W locs cells slots) (hexec : p.tables.exec = Jvm.exec) (htr : e.platform.stackTraces = false) {own cls : String} {ic : Nat}
    (hown : s.vm.findClass own = some m₀.cls) (hcls : Bundle.fit cls = true)
    (h : ∀ a ∈ nx_atoms own ic cls, a.before args s = true)
    (hlocs : ∀ x ∈ locs, ∀ cell, s.heap[x.base]? = some cell → cell.vm.isStatics = false)
    {a : Addr} {cX : ClassId} {kX : Class} (hfoundX : s.vm.findClass cls = some cX) (hkX : s.vm.classes[cX]? = some kX) (hcell : W.heap[a]? = some (freshCell cX kX)) (hnew : s.heap.size ≤ a)
    {msg : Value} (hmsg : msg.isRef = true)
    {g : JFrame} (hg : g.method = m₀) (hsize : g.locals.size = c.maxLocals) {rest : List Value} (hstack : g.stack = msg :: .ref a :: .ref a :: rest)
    (hd6 : decode c.code g.pc = .ok (.invokespecial ic, 3))
    (hRframes : 2 + 3 < R.frames) (hRlocals : 2 * g.monitorRoom + ((Value.ref a :: rest).map fun v => v.category).sum + (13 * (2 + 1) + 42) ≤ R.locals) :
    ∃ (V : State) (ce : Cell) (L : List Loc), Stand p l e R s m₀ args below meth c (V.setCell a ce) (locs ++ L) cells slots ∧ (∀ y ∈ L, y.base = a) ∧ a < V.heap.size ∧ ce.cls = cX ∧ ce.vm = .none ∧
      ∀ target, Steps p.tables e below ((V.setCell a ce).setTop { g with stack := .ref a :: rest, pc := g.pc + 3 }) target → Steps p.tables e below (W.setTop g) target := by
  have howns : e.platform.frameOwnsMonitors = true := by rw [X.admits.platform]
  have hfin : e.platform.finalization = false := by rw [X.admits.platform]
  have hpl : e.platform.magicAccessors = ({} : Platform).magicAccessors := by rw [X.admits.platform]
  have a' : ∀ x, x ∈ nx_atoms own ic cls → x.holds args s none s [] = true := fun x hx => h x hx
  obtain ⟨T, Z0, L, -, Y⟩ := ThrowableC.of_atoms (args := args) howns hfin hpl (fun x hx => h x (by simp [nx_atoms, hx]))
  obtain ⟨Z, M, LZ, LM, hnZ⟩ := Init0T.ofS_atoms (args := args) hpl L Y (fun x hx => h x (by simp [nx_atoms, hx]))
  obtain ⟨P1, Ps, hlen, L1, hL, hP1m, hlink1, hlink⟩ := nx_chain (args := args) hpl hnZ hcls (fun x hx => h x (List.mem_append_left _ (List.mem_append_right _ hx)))
  have hfound : s.vm.findClass cls = some P1.m.cls := findClass_of_methodNamed hP1m
  cases Option.some.inj (hfoundX.symm.trans hfound)
  obtain ⟨c1, kX', hc1, hk, hord, -, -, hn6⟩ := Cond.instantiable_spec (a' (.instantiable cls 6) (by simp [nx_atoms]))
  cases Option.some.inj (hc1.symm.trans hfound)
  cases Option.some.inj (hkX.symm.trans hk)
  have hsel0 : selectMethod e.platform s.vm P1.m.cls T.fill0 = .method T.fill0 := by
    obtain ⟨c2, r2, m2, q1, q2, q3, q4, -⟩ := Cond.selects_spec (a' (.selects cls Bundle.tFill0 Bundle.tFill0) (by simp [nx_atoms]))
    cases Option.some.inj (q1.symm.trans hfound)
    cases Option.some.inj (q2.symm.trans (State.methodFound?_of_named Y.fill0 (by decide)))
    cases Option.some.inj (q3.symm.trans Y.fill0)
    rw [Launch.admits_selectMethod X.admits]; exact q4
  have hselF : selectMethod e.platform s.vm P1.m.cls T.fill = .method T.fill := by
    obtain ⟨c2, r2, m2, q1, q2, q3, q4, -⟩ := Cond.selects_spec (a' (.selects cls Bundle.tFill Bundle.tFill) (by simp [nx_atoms]))
    cases Option.some.inj (q1.symm.trans hfound)
    cases Option.some.inj (q2.symm.trans (State.methodFound?_of_named Y.fill (by decide)))
    cases Option.some.inj (q3.symm.trans Y.fill)
    rw [Launch.admits_selectMethod X.admits]; exact q4
  obtain ⟨cellS0, hcS0, hiss⟩ := Y.statics
  obtain ⟨u0, hu0⟩ := Cond.staticRefV Y.unassigned L.unassignedStatic L.statics hcS0 hiss (a' (.isRef (.static Bundle.tN "UNASSIGNED_STACK" Bundle.steD)) (by simp [nx_atoms]))
  obtain ⟨sen, hsen⟩ := Cond.staticRefV Y.sentinel L.sentinelStatic L.statics hcS0 hiss (a' (.isRef (.static Bundle.tN "SUPPRESSED_SENTINEL" Bundle.listD)) (by simp [nx_atoms]))
  obtain ⟨ci198, i198, fB, hk198, hg198, ha198, hsB, -, hnB, htB, hffB⟩ := Cond.ownField (t := .object "java/lang/Object") Y.found L.cls (by decide +kernel) (a' (.fieldLink Bundle.tN 198 Bundle.tN "backtrace" "Ljava/lang/Object;") (by simp [nx_atoms])) (a' (.lays Bundle.tN Bundle.tN "backtrace" "Ljava/lang/Object;") (by simp [nx_atoms])) e.platform hpl
  obtain ⟨cellS, hcS', heS, -, hkeep⟩ := X.same.2.2.2.2.2 T.aS cellS0 hcS0
  have hcellS : W.heap[T.aS]? = some cellS := hcS'
  have hout' : ∀ i, (⟨T.aS, i⟩ : Loc) ∉ locs := fun i hmem => by
    have := hlocs _ hmem cellS0 hcS0
    rw [hiss] at this; cases this
  have hknownS : cellS.vm ≠ .unknown := by
    rw [heS]; intro hu
    rw [show cellS0.vm = .unknown from hu] at hiss
    cases hiss
  have hneS : T.aS ≠ a := Nat.ne_of_lt (Nat.lt_of_lt_of_le (Array.getElem?_eq_some_iff.mp hcS0).1 hnew)
  obtain ⟨iM, hffM⟩ := Y.msg
  obtain ⟨tyC, dC, hdC, hdnC⟩ := Cond.laysAt hfound hk Y.cause (a' (.lays cls Bundle.tN "cause" "Ljava/lang/Throwable;") (by simp [nx_atoms]))
  obtain ⟨tyS, dS, hdS, hdnS⟩ := Cond.laysAt hfound hk Y.stack (a' (.lays cls Bundle.tN "stackTrace" Bundle.steD) (by simp [nx_atoms]))
  obtain ⟨tyP, dP, hdP, hdnP⟩ := Cond.laysAt hfound hk Y.supp (a' (.lays cls Bundle.tN "suppressedExceptions" Bundle.listD) (by simp [nx_atoms]))
  obtain ⟨tyM, dM, hdM, hdnM⟩ := Cond.laysAt hfound hk hffM (a' (.lays cls Bundle.tN "detailMessage" "Ljava/lang/String;") (by simp [nx_atoms]))
  obtain ⟨tyB, dB, hdB, hdnB⟩ := Cond.laysAt hfound hk hffB (a' (.lays cls Bundle.tN "backtrace" "Ljava/lang/Object;") (by simp [nx_atoms]))
  have bC := Cond.laysApart hdB hdC hdnB hdnC (by rw [hnB, Y.causeName]; decide)
  have bS := Cond.laysApart hdB hdS hdnB hdnS (by rw [hnB, Y.stackName]; decide)
  have bP := Cond.laysApart hdB hdP hdnB hdnP (by rw [hnB, Y.suppName]; decide)
  have hskip : SkipFacts T e.platform s (fun u => u) u0 ((preparedCellV T.toThrowableT (freshCell P1.m.cls kX) a u0 sen).withEntry W.cur) :=
    ⟨{ ci198 := ci198, i198 := i198, fBack := fB }, ⟨hk198, hg198, ha198, hsB⟩, by
      have := fresh_default (c := P1.m.cls) tyB
      rw [htB] at this
      simpa [preparedCellV, Cell.setSlot, Cell.withEntry, Array.getElem?_setIfInBounds, bC, bS, bP, bC.symm, bS.symm, bP.symm, defaultValue] using this, fun _ _ => rfl⟩
  obtain ⟨tm, methC, cdC, kC, vm₁, hnC, -, -, -, -, -, -, -, hW₁, st1⟩ := Steps.initColdS (tb := p.tables) (e := e) (below := below) (s := s) (U := W) X.here hexec X.warmed hpl hown (t := Bundle.initS cls) rfl rfl (Bundle.fit_spec hcls).2
    (a' (.methodLink own ic (Bundle.initS cls)) (by simp [nx_atoms])) (h (.instanceMethod (Bundle.initS cls)) (by simp [nx_atoms, Bundle.passSAtoms])) (bytes := nx_six) (maxL := 2) (h (.code (Bundle.initS cls) nx_six 2 none) (by simp [nx_atoms, Bundle.passSAtoms]))
    (f := g) hg (a := a) (msg := msg) (rest := .ref a :: rest) hstack hd6
  cases Option.some.inj (hnC.symm.trans hP1m)
  have X₁ := X.noted hW₁
  obtain ⟨vm₂, X₂, st2⟩ := X₁.ctorMessageOffV hexec (g := { g with stack := .ref a :: rest }) hg hsize T L Z LZ M LM (P1 :: Ps)
    (fun P hP => by rcases List.mem_cons.mp hP with rfl | hP; exact L1; exact hL P hP) ⟨hlink1, hlink⟩ (u0 := u0) (sen := sen) (self := a) hmsg (cell := freshCell P1.m.cls kX) (cellS := cellS)
    hcell (fun _ => by simp) (by simp) rfl rfl hsel0 hselF hcellS hneS hknownS (by rw [hkeep _ (hout' _)]; exact hu0) (by rw [hkeep _ (hout' _)]; exact hsen)
    (Takes.of_laid hk hord tyC (by rw [Y.causeType]; rfl)) (Takes.of_laid hk hord tyS (by rw [Y.stackType]; exact fits_refV_array _ u0)) (Takes.of_laid hk hord tyP (by rw [Y.suppType]; exact fits_refV_object _ sen))
    (Takes.of_laid hk hord tyM (by rw [Y.msgType]; exact fits_refV_object _ ⟨msg, hmsg⟩)) Y.objLocals hskip htr [] hd6
    (by simp only [List.length_cons, hlen]; omega) (by simp only [List.length_cons, hlen]; exact hRlocals)
  have hlt : a < ((W.setVm vm₁).setVm vm₂).heap.size := (Array.getElem?_eq_some_iff.mp hcell).1
  refine ⟨(W.setVm vm₁).setVm vm₂, _, _, X₂, fun y hy => ?_, hlt, rfl, rfl, fun target hwalk => st1 _ (fun acts => ?_)⟩
  · simp only [List.mem_cons, List.not_mem_nil, or_false] at hy
    rcases hy with rfl | rfl | rfl | rfl | rfl <;> rfl
  · rw [doInvoke_state]
    exact st2 _ hwalk
end NX
section NX2
variable {p : Program} {l : Launch} {e : Env} {R : Room} {s : State} {m : MethodId} {args : Array Value} {below : List Frame} {meth : Method} {c : Code} {H : Heap} {locs : List Loc} {cells slots : Nat} {Q : State → Prop} {ls : Array Slot} {rest : List Value}
set_option maxHeartbeats 4000000 in
theorem nx_makeS {cc : ByteArray} {pc : Nat} (hexec : p.tables.exec = Jvm.exec) (hb : c.code = cc) (hl : l.stackTraces = false) {own cls text : String} {ik is ic sa : Nat} {A : Nat → Prop}
    (hown : s.vm.findClass own = some m.cls) (hcls : Bundle.fit cls = true)
    (hk : (Cond.classLink own ik cls).before args s = true) (hini : (Cond.initialized cls).before args s = true) (hstr : vk_R own is text sa s) (hat : ∀ w ∈ nx_at own ic cls, w.before args s = true)
    (hgood : ∀ w ∈ Cond.classLink own ik cls :: Cond.initialized cls :: nx_at own ic cls, vx_ot w = true)
    (hU : vx_Zq Bundle.tN "UNASSIGNED_STACK" Bundle.steD A s s.heap) (hN : vx_Zq Bundle.tN "SUPPRESSED_SENTINEL" Bundle.listD A s s.heap) (hS : va_S A s.heap H locs) (hsize : ls.size = c.maxLocals)
    (d0 : decode cc pc = .ok (.new ik, 3)) (d3 : decode cc (pc + 3) = .ok (.dup, 1)) (d4 : decode cc (pc + 4) = .ok (.ldc is, 2)) (d6 : decode cc (pc + 6) = .ok (.invokespecial ic, 3))
    (hRframes : 2 + 3 < R.frames) (hRlocals : (rest.map fun v => v.category).sum + (13 * (2 + 1) + 43) ≤ R.locals) (hRcells : cells + 1 ≤ R.cells) (hRslots : slots + 6 ≤ R.slots)
    (kk : ∀ (q : Nat) (ce : Cell) (H1 : Heap), H1[q]? = some ce → ce.vm = .none → s.vm.findClass cls = some ce.cls → H.size ≤ H1.size → (∀ x : Nat, x < H.size → H1[x]? = H[x]?) → W p l e R s m args below meth c H1 locs (cells + 1) (slots + 6) Q (F0 m (pc + 9) ls (.ref q :: rest))) :
    W p l e R s m args below meth c H locs cells slots Q (F0 m pc ls rest) := by
  intro T hT X
  subst hT
  have htr : e.platform.stackTraces = false := (show e.platform.stackTraces = l.stackTraces by rw [X.admits.platform]).trans hl
  have Y := vx_rebase X (R' := { frames := R.frames, locals := R.locals, cells := 1, slots := 6 }) (Nat.le_refl _) (Nat.le_refl _) hRcells hRslots
  obtain ⟨s', hA'⟩ : ∃ z, z = (T.setVm s.vm).setFrames (.invoking m args :: below) := ⟨_, rfl⟩
  rw [← hA'] at Y
  have hvm : s'.vm = s.vm := by rw [hA']; rfl
  have hhp : s'.heap = T.heap := by rw [hA']; rfl
  have hW0 : s.WarmedH s'.vm := by rw [hvm]; exact State.WarmedH.refl s
  have hat' : ∀ w ∈ nx_at own ic cls, w.before args s' = true := fun w hw => vx_ot_at hW0 hvm.symm (hgood w (List.mem_cons_of_mem _ (List.mem_cons_of_mem _ hw))) (hat w hw)
  have hk' : (Cond.classLink own ik cls).before args s' = true := vx_ot_at hW0 hvm.symm (hgood _ List.mem_cons_self) hk
  have hini' : (Cond.initialized cls).before args s' = true := vx_ot_at hW0 hvm.symm (hgood _ (List.mem_cons_of_mem _ List.mem_cons_self)) hini
  have hU' : vx_Zq Bundle.tN "UNASSIGNED_STACK" Bundle.steD A s' s'.heap := by rw [hhp]; exact vx_Zq.moved hW0.alike (hU.kept hS.2.1)
  have hN' : vx_Zq Bundle.tN "SUPPRESSED_SENTINEL" Bundle.listD A s' s'.heap := by rw [hhp]; exact vx_Zq.moved hW0.alike (hN.kept hS.2.1)
  have h : ∀ w ∈ nx_atoms own ic cls, w.before args s' = true := vx_own hat' (vx_isRefq hU'.1) (vx_isRefq hN'.1) hU'.2.word hN'.2.word
  have hown' : s'.vm.findClass own = some m.cls := by rw [hvm]; exact hown
  have hins : (Cond.instantiable cls 6).before args s' = true := h _ (by simp [nx_atoms])
  obtain ⟨vm₁, cX, kX, hfX, hkX, -, -, X₁, st1⟩ := Y.newCold hexec (own := own) (C := cls) (index := ik) (n := 6) hown' hk' hins hini'
    (g := F0 m pc ls rest) rfl (by rw [hb]; exact d0) (Nat.le_refl _) (Nat.le_refl _)
  generalize hT1 : (T.setVm vm₁).pushCell { cls := cX, slots := kX.instanceTypes.map defaultValue, vm := .none } = T1 at X₁ st1
  have hcat : (Value.ref T.heap.size).category = 1 := rfl
  have hcellA : T1.heap[T.heap.size]? = some (freshCell cX kX) := by rw [← hT1]; exact State.heap_pushCell_size _ _
  have d3' : decode c.code (pc + 3) = .ok (.dup, 1) := by rw [hb]; exact d3
  have d4' : decode c.code (pc + 4) = .ok (.ldc is, 2) := by rw [hb]; exact d4
  have hstr' : vk_R own is text sa s' := vk_R.warm hW0 hstr
  obtain ⟨V, ce, L, Z, hL, hlt, hcl9, hvm9, st⟩ := nx_ctorMadeS X₁ hexec htr (own := own) (cls := cls) (ic := ic) hown' hcls h (fun x hx => nomatch hx) hfX hkX hcellA (by rw [hhp]; exact Nat.le_refl _) (msg := .ref sa) rfl
    (g := { method := m, pc := pc + 6, locals := ls, stack := .ref sa :: .ref T.heap.size :: .ref T.heap.size :: rest, locked := none }) rfl hsize (rest := rest) rfl
    (by rw [hb]; exact d6) hRframes (by simp only [List.map_cons, List.sum_cons, hcat]; omega)
  have Z0 := Stand.forget (locs := []) Z (fun y hy => by rw [hL y hy, hhp]; exact Nat.le_refl _)
  obtain ⟨f1, f2⟩ := vx_frame Z0.same
  rw [hhp] at f1 f2
  have hcid : s.vm.findClass cls = some ce.cls := by
    rw [hcl9]
    rw [hvm] at hfX
    exact hfX
  have hh : (V.setCell T.heap.size ce).heap[T.heap.size]? = some ce := heapAt_setCell_self (s := V) ce hlt
  subst hA'
  have X5 := vx_back9 X Y Z0
  have X6 : Stand p l e R s m args below meth c (V.setCell T.heap.size ce) locs (cells + 1) (slots + 6) := { X5 with same := X5.same.mono (by omega) (by omega) }
  obtain ⟨t, a1, b1⟩ := kk T.heap.size ce (V.setCell T.heap.size ce).heap hh hvm9 hcid f1 (fun q hq => f2 q hq (fun z hz => nomatch hz)) _ rfl X6
  refine ⟨t, st1 _ ?_, b1⟩
  show Steps p.tables e below (T1.setTop { method := m, pc := pc + 3, locals := ls, stack := .ref T.heap.size :: rest, locked := none }) _
  jvm_step X₁.here [X₁.here.top, hexec, d3', Value.category]
  exact X₁.ldcString hexec (own := own) (text := text) (index := is) (a := sa) hown' hstr'.1 hstr'.2
    (g := { method := m, pc := pc + 4, locals := ls, stack := .ref T.heap.size :: .ref T.heap.size :: rest, locked := none }) rfl d4' _ (st _ a1)
variable {D : va_G} {E : Nat} {M : gM} {cI cO cZ : ClassId} {z0 : Nat} {cc : ByteArray} {pc : Nat}
theorem gw_thrN (hx : p.tables.exec = Jvm.exec) (hb : c.code = cc) (hl : l.stackTraces = false) {cls text : String} {ik is ic mc ms : Nat} {Qc : Array Value → State → Outcome → State → Prop} (hown : s.vm.findClass "ThresholdRow" = some m.cls) (hcls : Bundle.fit cls = true)
    (hk : (Cond.classLink "ThresholdRow" ik cls).before args s = true) (hini : (Cond.initialized cls).before args s = true) (htx : (is, text) ∈ gw_texts) (hT : ∀ w ∈ gT, w.before args s = true) (hat : (nx_at "ThresholdRow" ic cls).all (fun w => decide (w ∈ lw_tbl) && (goodWord w || gw_wk w)) = true) (hgood : (nx_at "ThresholdRow" ic cls).all vx_ot = true)
    (hF : gw_F E D cI cO cZ z0 s) (hG : gw_H E D M s H locs) (hsize : ls.size = c.maxLocals)
    (d0 : decode cc pc = .ok (.new ik, 3)) (d3 : decode cc (pc + 3) = .ok (.dup, 1)) (d4 : decode cc (pc + 4) = .ok (.ldc is, 2)) (d6 : decode cc (pc + 6) = .ok (.invokespecial ic, 3)) (d9 : decode cc (pc + 9) = .ok (.athrow, 1))
    (hnt : ∀ x ∈ c.exceptionTable.toList, False) (hRf : 5 < R.frames) (hRl : (rest.map fun v => v.category).sum + 82 ≤ R.locals) (hRc : cells + 1 ≤ R.cells) (hRs : slots + 6 ≤ R.slots) (hlk : meth.locks = false) (hc : cells + 1 ≤ mc) (hs : slots + 6 ≤ ms) :
    W p l e R s m args below meth c H locs cells slots (vx_MQ below Qc (gw_XC E D cls M) args s mc ms (gw_A E)) (F0 m pc ls rest) := by
  obtain ⟨sa, hsa⟩ := hF.2.2.2.2.2.2.2.2.2 _ htx
  refine nx_makeS (A := gw_A E) hx hb hl hown hcls hk hini hsa (gw_at hat hT hF.2.2.2.2.2.2) (fun w hw => ?_) hF.2.2.2.2.1 hF.2.2.2.2.2.1 hG.2.2 hsize d0 d3 d4 d6 hRf hRl hRc hRs (fun q ce H1 h1 h2 h3 h4 h5 => ?_)
  · rcases List.mem_cons.mp hw with rfl | hw
    · rfl
    · rcases List.mem_cons.mp hw with rfl | hw
      · rfl
      · exact List.all_eq_true.mp hgood w hw
  · have hG1 : gw_H E D M s H1 locs := ⟨fun a e he => (hG.1 a e he).kept (h5 a (hG.1 a e he).lt), hG.2.1, Nat.le_trans hG.2.2.1 h4, fun x q1 q2 => (h5 x (Nat.lt_of_lt_of_le q1 hG.2.2.1)).trans (hG.2.2.2.1 x q1 q2), hG.2.2.2.2⟩
    exact vx_athrow hx hb d9 (gw_xout hnt hlk hG1 h1 h2 h3 hc hs)
end NX2
end
section
/-! The farm: addresses Z (0 hands' list, 1 its array, 2 lots' list, 3 bins' list, 4 its array, 5 gang, 6 its list, 7 its array, 8 drum, 9 ledger, 10 bushels, 11 customs), hands at ad, bins at bn; the state: how many stand in the gang, who stands where, the hands' values. -/
abbrev gS : Type := Nat × (Nat → Nat) × (Nat → gH)
abbrev gw_ro (Z : Nat → Nat) (day : Int32) : va_E := .inr (0, [.ref (Z 0), .ref (Z 2), .ref (Z 3), .ref (Z 5), .ref (Z 8), .ref (Z 9), .ref (Z 10), .ref (Z 11), .int day, .int 1, .int 0, .int 0, .int 0, .int 0])
def gw_fa (z0 : Nat) (cO : ClassId) (M : gM) (o n : Nat) (day : Int32) (S : gS) (Z ad bn : Nat → Nat) : Prop :=
  M o = some (gw_ro Z day) ∧ gw_L z0 cO M (Z 0) (Z 1) n ad ∧ gw_L z0 cO M (Z 2) z0 0 ad ∧ gw_L z0 cO M (Z 3) (Z 4) 6 bn ∧ (∀ p, p < 6 → M (bn p) = some (.inr (5, [.int (-1), .int 0, .int 0, .int 0]))) ∧
  M (Z 5) = some (.inr (2, [.ref (Z 6)])) ∧ gw_L z0 cO M (Z 6) (Z 7) S.1 (fun p => ad (S.2.1 p)) ∧ M (Z 8) = some (.inr (3, [.int 0, .int (-1), .int 0, .int (-1)])) ∧ M (Z 9) = some (.inr (4, [.int 0, .int 0, .int 0, .int 0, .int 0, .int 0, .int 0, .int 0, .int 0])) ∧
  (∀ i, i < n → M (ad i) = some (gw_hd (S.2.2 i))) ∧ (∀ i j, i < n → j < n → ad i = ad j → i = j) ∧ (∀ p, p < S.1 → S.2.1 p < n) ∧ (∀ p q, p < S.1 → q < S.1 → S.2.1 p = S.2.1 q → p = q) ∧
  (Z 0 ≠ Z 2 ∧ Z 0 ≠ Z 3 ∧ Z 0 ≠ Z 6 ∧ Z 2 ≠ Z 3 ∧ Z 2 ≠ Z 6 ∧ Z 3 ≠ Z 6) ∧ ((Z 1 = Z 4 → Z 1 = z0) ∧ (Z 1 = Z 7 → Z 1 = z0) ∧ (Z 4 = Z 7 → Z 4 = z0))
def gw_isI (e : va_E) : Prop := ∃ (c : ClassId) (n : Nat) (f : Nat → Int32), e = .inl (c, n, .inl f)
theorem gw_nI_o {i : Nat} {fs : List Value} : ¬ gw_isI (.inr (i, fs)) := by rintro ⟨c, n, f, h⟩; cases h
theorem gw_nI_q {c : ClassId} {n : Nat} {f : Nat → Option Nat} : ¬ gw_isI (.inl (c, n, .inr (.inr (.inr (.inr f))))) := by rintro ⟨c, n, f, h⟩; cases h
theorem gw_L.keptI {z0 : Nat} {cO : ClassId} {M M' : gM} {a t n : Nat} {g : Nat → Nat} (h : gw_L z0 cO M a t n g) (hM : ∀ b e, M b = some e → ¬ gw_isI e → M' b = M b) : gw_L z0 cO M' a t n g := by
  have h2 := h
  obtain ⟨k, ha, -⟩ := h2
  exact h.kept (hM a _ ha gw_nI_o) (fun f hf => hM t _ hf gw_nI_q)
theorem gw_fa.kept {z0 : Nat} {cO : ClassId} {M M' : gM} {o n : Nat} {day : Int32} {S : gS} {Z ad bn : Nat → Nat} (h : gw_fa z0 cO M o n day S Z ad bn) (hM : ∀ b e, M b = some e → ¬ gw_isI e → M' b = M b) : gw_fa z0 cO M' o n day S Z ad bn := by
  obtain ⟨h1, h2, h3, h4, h5, h6, h7, h8, h9, h10, h11⟩ := h
  exact ⟨(hM _ _ h1 gw_nI_o).trans h1, h2.keptI hM, h3.keptI hM, h4.keptI hM, fun p hp => (hM _ _ (h5 p hp) gw_nI_o).trans (h5 p hp), (hM _ _ h6 gw_nI_o).trans h6, h7.keptI hM, (hM _ _ h8 gw_nI_o).trans h8, (hM _ _ h9 gw_nI_o).trans h9, fun i hi => (hM _ _ (h10 i hi) gw_nI_o).trans (h10 i hi), h11⟩
theorem gw_fa.gg {z0 : Nat} {cO : ClassId} {M : gM} {o n : Nat} {day : Int32} {S : gS} {Z ad bn : Nat → Nat} (h : gw_fa z0 cO M o n day S Z ad bn) : gw_Gg z0 cO M (Z 5) (Z 6) (Z 7) S.1 (fun p => ad (S.2.1 p)) (fun p => S.2.2 (S.2.1 p)) := by
  obtain ⟨h1, h2, h3, h4, h5, h6, h7, h8, h9, h10, h11, h12, h13, -⟩ := h
  exact ⟨h6, h7, fun p hp => h10 _ (h12 p hp), fun p q hp hq z => h13 p q hp hq (h11 _ _ (h12 p hp) (h12 q hq) z)⟩
/-- a list beside what has changed -/
theorem gw_L.beside {z0 : Nat} {cO : ClassId} {M M' : gM} {a t n a2 t2 : Nat} {g : Nat → Nat} (h : gw_L z0 cO M a t n g) (hfr : ∀ b e, M b = some e → b ≠ a2 → b ≠ t2 → (∀ x, e ≠ .inr (6, x)) → M' b = M b) (h1 : a ≠ a2) (h2 : a ≠ t2) (h3 : ∀ f, M t = some (.inl (cO, 10, .inr (.inr (.inr (.inr f))))) → t ≠ a2 ∧ t ≠ t2) : gw_L z0 cO M' a t n g := by
  have h0 := h
  obtain ⟨k, ha, -⟩ := h0
  exact h.kept (hfr a _ ha h1 h2 (fun x z => by injection z with z; injection z with z z2; cases z)) (fun f hf => hfr t _ hf (h3 f hf).1 (h3 f hf).2 (fun x z => by injection z))
/-- the gang's list and the hands' values have changed -/
theorem gw_fa.gang {z0 : Nat} {cO : ClassId} {M M' : gM} {o n : Nat} {day : Int32} {S : gS} {Z ad bn : Nat → Nat} (h : gw_fa z0 cO M o n day S Z ad bn) (hz : M z0 = none) {t' m' : Nat} {ord' : Nat → Nat} {v' : Nat → gH} (hL' : gw_L z0 cO M' (Z 6) t' m' (fun p => ad (ord' p))) (hv' : ∀ i, i < n → M' (ad i) = some (gw_hd (v' i))) (hfr : ∀ b e, M b = some e → b ≠ Z 6 → b ≠ t' → (∀ x, e ≠ .inr (6, x)) → M' b = M b) (ht' : t' = Z 7 ∨ M t' = none) (ho1 : ∀ p, p < m' → ord' p < n) (ho2 : ∀ p q, p < m' → q < m' → ord' p = ord' q → p = q) :
    gw_fa z0 cO M' o n day (m', ord', v') (fun k => if k = 7 then t' else Z k) ad bn := by
  obtain ⟨h1, h2, h3, h4, h5, h6, h7, h8, h9, h10, h11, h12, h13, ⟨n1, n2, n3, n4, n5, n6⟩, a1, a2, a3⟩ := h
  have h7' := h7
  obtain ⟨k7, hgl, -, h7f⟩ := h7'
  -- what is an object isn't t'
  have ot : ∀ b i fs, M b = some (.inr (i, fs)) → b ≠ t' := by
    intro b i fs hb
    rcases ht' with rfl | ht'
    · rcases h7f with ⟨-, h7z⟩ | ⟨f, h7a, -⟩
      · rw [h7z]; exact gw_neF hz hb
      · exact (gw_neA h7a hb).symm
    · exact gw_neF ht' hb
  have at' : ∀ t f, (t = Z 7 → t = z0) → M t = some (.inl (cO, 10, .inr (.inr (.inr (.inr f))))) → t ≠ t' := by
    intro t f hq hb z
    rcases ht' with ht' | ht'
    · rw [hq (z.trans ht')] at hb; rw [hz] at hb; cases hb
    · rw [z, ht'] at hb; cases hb
  have ob : ∀ b i fs, M b = some (.inr (i, fs)) → i ≠ 1 → i ≠ 6 → M' b = M b := fun b i fs hb hi hi6 => hfr b _ hb (gw_neO hb hgl hi) (ot b i fs hb) (fun x z => hi6 (by injection z with z; injection z))
  have zt : ∀ t, (t = Z 7 → t = z0) → (t = z0 ∨ ∃ f, M t = some (.inl (cO, 10, .inr (.inr (.inr (.inr f)))))) → t = t' → t = z0 := by
    intro t hq hb z
    rcases hb with hb | ⟨f, hb⟩
    · exact hb
    · exact absurd z (at' t f hq hb)
  have l1 : Z 1 = z0 ∨ ∃ f, M (Z 1) = some (.inl (cO, 10, .inr (.inr (.inr (.inr f))))) := by
    obtain ⟨k, -, -, q⟩ := h2
    rcases q with ⟨-, q⟩ | ⟨f, q, -⟩
    · exact Or.inl q
    · exact Or.inr ⟨f, q⟩
  have l4 : Z 4 = z0 ∨ ∃ f, M (Z 4) = some (.inl (cO, 10, .inr (.inr (.inr (.inr f))))) := by
    obtain ⟨k, -, -, q⟩ := h4
    rcases q with ⟨-, q⟩ | ⟨f, q, -⟩
    · exact Or.inl q
    · exact Or.inr ⟨f, q⟩
  have h2' := h2
  have h3' := h3
  have h4' := h4
  obtain ⟨k2, e2, -⟩ := h2'
  obtain ⟨k3, e3, -⟩ := h3'
  obtain ⟨k4, e4, -⟩ := h4'
  refine ⟨(ob o _ _ h1 (by decide) (by decide)).trans h1, h2.beside hfr n3 (ot _ _ _ e2) (fun f hf => ⟨gw_neA hf hgl, at' _ f a2 hf⟩), h3.beside hfr n5 (ot _ _ _ e3) (fun f hf => by rw [hz] at hf; cases hf), h4.beside hfr n6 (ot _ _ _ e4) (fun f hf => ⟨gw_neA hf hgl, at' _ f a3 hf⟩), fun p hp => (ob _ _ _ (h5 p hp) (by decide) (by decide)).trans (h5 p hp), (ob _ _ _ h6 (by decide) (by decide)).trans h6, hL', (ob _ _ _ h8 (by decide) (by decide)).trans h8, (ob _ _ _ h9 (by decide) (by decide)).trans h9, hv', h11, ho1, ho2, ⟨n1, n2, n3, n4, n5, n6⟩, a1, fun z => zt (Z 1) a2 l1 z, fun z => zt (Z 4) a3 l4 z⟩
/-- the hands' values alone have changed -/
theorem gw_fa.vals {z0 : Nat} {cO : ClassId} {M M' : gM} {o n : Nat} {day : Int32} {S : gS} {Z ad bn : Nat → Nat} (h : gw_fa z0 cO M o n day S Z ad bn) {v' : Nat → gH} (hv' : ∀ i, i < n → M' (ad i) = some (gw_hd (v' i))) (hfr : ∀ b e, M b = some e → (∀ x, e ≠ .inr (6, x)) → M' b = M b) : gw_fa z0 cO M' o n day (S.1, S.2.1, v') Z ad bn := by
  obtain ⟨h1, h2, h3, h4, h5, h6, h7, h8, h9, h10, h11⟩ := h
  have ob : ∀ b i fs, M b = some (.inr (i, fs)) → i ≠ 6 → M' b = M b := fun b i fs hb hi6 => hfr b _ hb (fun x z => hi6 (by injection z with z; injection z))
  have ar : ∀ b x, M b = some (.inl x) → M' b = M b := fun b x hb => hfr b _ hb (fun x z => by injection z)
  have ol : ∀ {a t k : Nat} {g : Nat → Nat}, gw_L z0 cO M a t k g → gw_L z0 cO M' a t k g := by
    intro a t k g hL
    have hL2 := hL
    obtain ⟨q, ha, -⟩ := hL2
    exact hL.kept (ob a _ _ ha (by decide)) (fun f hf => ar t _ hf)
  exact ⟨(ob o _ _ h1 (by decide)).trans h1, ol h2, ol h3, ol h4, fun p hp => (ob _ _ _ (h5 p hp) (by decide)).trans (h5 p hp), (ob _ _ _ h6 (by decide)).trans h6, ol h7, (ob _ _ _ h8 (by decide)).trans h8, (ob _ _ _ h9 (by decide)).trans h9, hv', h11⟩
/-- the farm's own object alone has changed: its day -/
theorem gw_fa.day {z0 : Nat} {cO : ClassId} {M : gM} {o n : Nat} {day d2 : Int32} {S : gS} {Z ad bn : Nat → Nat} (h : gw_fa z0 cO M o n day S Z ad bn) : gw_fa z0 cO (gw_up M o (gw_ro Z d2)) o n d2 S Z ad bn := by
  obtain ⟨h1, h2, h3, h4, h5, h6, h7, h8, h9, h10, h11⟩ := h
  have ob : ∀ b i fs, M b = some (.inr (i, fs)) → i ≠ 0 → gw_up M o (gw_ro Z d2) b = M b := fun b i fs hb hi => gw_miss (gw_neO hb h1 hi)
  have ol : ∀ {a t k : Nat} {g : Nat → Nat}, gw_L z0 cO M a t k g → gw_L z0 cO (gw_up M o (gw_ro Z d2)) a t k g := by
    intro a t k g hL
    have hL2 := hL
    obtain ⟨q, ha, -⟩ := hL2
    exact hL.kept (ob a _ _ ha (by decide)) (fun f hf => gw_miss (gw_neA hf h1))
  exact ⟨gw_hit, ol h2, ol h3, ol h4, fun p hp => (ob _ _ _ (h5 p hp) (by decide)).trans (h5 p hp), (ob _ _ _ h6 (by decide)).trans h6, ol h7, (ob _ _ _ h8 (by decide)).trans h8, (ob _ _ _ h9 (by decide)).trans h9, fun i hi => (ob _ _ _ (h10 i hi) (by decide)).trans (h10 i hi), h11⟩
/-- a hand comes -/
theorem gw_fa.hand {z0 : Nat} {cO : ClassId} {M M' : gM} {o n : Nat} {day : Int32} {S : gS} {Z ad bn : Nat → Nat} (h : gw_fa z0 cO M o n day S Z ad bn) (hz : M z0 = none) {t' q : Nat} {u : gH} (hL' : gw_L z0 cO M' (Z 0) t' (n + 1) (va_up ad n q)) (hq0 : M q = none) (hq : M' q = some (gw_hd u)) (hfr : ∀ b e, M b = some e → b ≠ Z 0 → b ≠ t' → M' b = M b) (ht' : t' = Z 1 ∨ M t' = none) :
    gw_fa z0 cO M' o (n + 1) day (S.1, S.2.1, fun i => if i = n then u else S.2.2 i) (fun k => if k = 1 then t' else Z k) (va_up ad n q) bn := by
  obtain ⟨h1, h2, h3, h4, h5, h6, h7, h8, h9, h10, h11, h12, h13, ⟨n1, n2, n3, n4, n5, n6⟩, a1, a2, a3⟩ := h
  have h2' := h2
  obtain ⟨k2, hhl, -, h2f⟩ := h2'
  have ot : ∀ b i fs, M b = some (.inr (i, fs)) → b ≠ t' := by
    intro b i fs hb
    rcases ht' with rfl | ht'
    · rcases h2f with ⟨-, h7z⟩ | ⟨f, h7a, -⟩
      · rw [h7z]; exact gw_neF hz hb
      · exact (gw_neA h7a hb).symm
    · exact gw_neF ht' hb
  have at' : ∀ t f, (Z 1 = t → Z 1 = z0) → M t = some (.inl (cO, 10, .inr (.inr (.inr (.inr f))))) → t ≠ t' := by
    intro t f hqq hb z
    rcases ht' with ht' | ht'
    · have e1 := hqq (ht'.symm.trans z.symm)
      rw [z, ht', e1, hz] at hb; cases hb
    · rw [z, ht'] at hb; cases hb
  have ob : ∀ b i fs, M b = some (.inr (i, fs)) → i ≠ 1 → M' b = M b := fun b i fs hb hi => hfr b _ hb (gw_neO hb hhl hi) (ot b i fs hb)
  have l4 : Z 4 = z0 ∨ ∃ f, M (Z 4) = some (.inl (cO, 10, .inr (.inr (.inr (.inr f))))) := by
    obtain ⟨k, -, -, q⟩ := h4
    rcases q with ⟨-, q⟩ | ⟨f, q, -⟩
    · exact Or.inl q
    · exact Or.inr ⟨f, q⟩
  have l7 : Z 7 = z0 ∨ ∃ f, M (Z 7) = some (.inl (cO, 10, .inr (.inr (.inr (.inr f))))) := by
    obtain ⟨k, -, -, q⟩ := h7
    rcases q with ⟨-, q⟩ | ⟨f, q, -⟩
    · exact Or.inl q
    · exact Or.inr ⟨f, q⟩
  have hup : ∀ i, i < n → va_up ad n q i = ad i := fun i hi => by unfold va_up; rw [if_neg (by omega)]
  have hupn : va_up ad n q n = q := by unfold va_up; rw [if_pos rfl]
  have zt : ∀ t, (Z 1 = t → Z 1 = z0) → (t = z0 ∨ ∃ f, M t = some (.inl (cO, 10, .inr (.inr (.inr (.inr f)))))) → t' = t → t' = z0 := by
    intro t hqq hb z
    rcases hb with hb | ⟨f, hb⟩
    · exact z.trans hb
    · exact absurd z.symm (at' t f hqq hb)
  have ol : ∀ {a t k : Nat} {g : Nat → Nat}, gw_L z0 cO M a t k g → a ≠ Z 0 → (Z 1 = t → Z 1 = z0) → gw_L z0 cO M' a t k g := by
    intro a t k g hL hn hqq
    have hL2 := hL
    obtain ⟨q, ha, -⟩ := hL2
    exact hL.kept (hfr a _ ha hn (ot _ _ _ ha)) (fun f hf => hfr t _ hf (gw_neA hf hhl) (at' t f hqq hf))
  have hvals : ∀ i, i < n + 1 → M' (va_up ad n q i) = some (gw_hd (if i = n then u else S.2.2 i)) := by
    intro i hi
    by_cases hin : i = n
    · subst hin; rw [hupn, if_pos rfl]; exact hq
    · rw [hup i (by omega), if_neg hin]
      exact (ob _ _ _ (h10 i (by omega)) (by decide)).trans (h10 i (by omega))
  have hinj : ∀ i j, i < n + 1 → j < n + 1 → va_up ad n q i = va_up ad n q j → i = j := by
    intro i j hi hj z
    by_cases hin : i = n
    · by_cases hjn : j = n
      · omega
      · rw [hin, hupn, hup j (by omega)] at z
        have e1 := h10 j (by omega)
        rw [← z, hq0] at e1; cases e1
    · by_cases hjn : j = n
      · rw [hjn, hupn, hup i (by omega)] at z
        have e1 := h10 i (by omega)
        rw [z, hq0] at e1; cases e1
      · rw [hup i (by omega), hup j (by omega)] at z
        exact h11 i j (by omega) (by omega) z
  have h7n : gw_L z0 cO M' (Z 6) (Z 7) S.1 (fun p => va_up ad n q (S.2.1 p)) := by
    obtain ⟨k, q1, q2, q3⟩ := ol h7 n3.symm a2
    refine ⟨k, q1, q2, ?_⟩
    rcases q3 with q3 | ⟨f, q3, q4⟩
    · exact Or.inl q3
    · exact Or.inr ⟨f, q3, fun p hp => (q4 p hp).trans (congrArg some (hup _ (h12 p hp)).symm)⟩
  have h3n : gw_L z0 cO M' (Z 2) z0 0 (va_up ad n q) := by
    obtain ⟨k, q1, q2, q3⟩ := ol h3 n1.symm (fun z => z)
    exact ⟨k, q1, q2, Or.inl ⟨rfl, rfl⟩⟩
  exact ⟨(ob o _ _ h1 (by decide)).trans h1, hL', h3n, ol h4 n2.symm a1, fun p hp => (ob _ _ _ (h5 p hp) (by decide)).trans (h5 p hp), (ob _ _ _ h6 (by decide)).trans h6, h7n, (ob _ _ _ h8 (by decide)).trans h8, (ob _ _ _ h9 (by decide)).trans h9, hvals, hinj, fun p hp => Nat.lt_succ_of_lt (h12 p hp), h13, ⟨n1, n2, n3, n4, n5, n6⟩, fun z => zt _ a1 l4 z, fun z => zt _ a2 l7 z, a3⟩
/-- the int arrays are as they were -/
def gw_ints (M M' : gM) : Prop := ∀ b e, M b = some e → gw_isI e → M' b = M b
theorem gw_ints.of {z0 : Nat} {cO : ClassId} {M M' : gM} {a t t' n : Nat} {g : Nat → Nat} (hL : gw_L z0 cO M a t n g) (hz : M z0 = none) (hfr : ∀ b e, M b = some e → b ≠ a → b ≠ t' → (∀ x, e ≠ .inr (6, x)) → M' b = M b) (ht' : t' = t ∨ M t' = none) : gw_ints M M' := by
  obtain ⟨k, ha, -, hf⟩ := hL
  rintro b e hb ⟨c, n, f, rfl⟩
  refine hfr b _ hb (gw_neA hb ha) ?_ (fun x z => by injection z)
  rcases ht' with rfl | ht'
  · rcases hf with ⟨-, h7z⟩ | ⟨f, h7a, -⟩
    · rw [h7z]; exact gw_neF hz hb
    · exact gw_ne hb h7a (fun z => by injection z with z; injection z with z1 z; injection z with z2 z; cases z)
  · exact gw_neF ht' hb
theorem gw_ints.trans {M M1 M2 : gM} (h1 : gw_ints M M1) (h2 : gw_ints M1 M2) : gw_ints M M2 := fun b e hb he => (h2 b e ((h1 b e hb he).trans hb) he).trans (h1 b e hb he)
theorem gw_ints.rf {M : gM} : gw_ints M M := fun _ _ _ _ => rfl
theorem gw_ints.vals {M M' : gM} (hfr : ∀ b e, M b = some e → (∀ x, e ≠ .inr (6, x)) → M' b = M b) : gw_ints M M' := by
  rintro b e hb ⟨c, n, f, rfl⟩
  exact hfr b _ hb (fun x z => by injection z)
theorem gw_z0 {E : Nat} {D : va_G} {cI cO cZ : ClassId} {z0 : Nat} {s : State} {M : gM} {H : Heap} {locs : List Loc} (hF : gw_F E D cI cO cZ z0 s) (hG : gw_H E D M s H locs) : M z0 = none := by
  obtain ⟨cell, -, -, -, -, -, -, h⟩ := hF.2.2.2.1
  cases hM : M z0 with
  | none => rfl
  | some e => exact absurd (hG.2.1 z0 e hM) h
def skp (J : Nat) (f : Nat → Nat) (p : Nat) : Nat := if p < J then f p else f (p + 1)
theorem skp_lt {J m n : Nat} {f : Nat → Nat} (h : ∀ p, p < m + 1 → f p < n) : ∀ p, p < m → skp J f p < n := by
  intro p hp
  unfold skp
  split
  · exact h p (by omega)
  · exact h (p + 1) (by omega)
theorem skp_inj {J m : Nat} {f : Nat → Nat} (h : ∀ p q, p < m + 1 → q < m + 1 → f p = f q → p = q) : ∀ p q, p < m → q < m → skp J f p = skp J f q → p = q := by
  intro p q hp hq z
  unfold skp at z
  split at z
  · split at z
    · exact h p q (by omega) (by omega) z
    · have := h p (q + 1) (by omega) (by omega) z; omega
  · split at z
    · have := h (p + 1) q (by omega) (by omega) z; omega
    · have := h (p + 1) (q + 1) (by omega) (by omega) z; omega
end
section
theorem d_Row_handAt_0 : decode b_Row_handAt 0 = .ok (.iload_n 1, 1) := by decide +kernel
theorem d_Row_handAt_1 : decode b_Row_handAt 1 = .ok (.ifCond .lt 14, 3) := by decide +kernel
theorem d_Row_handAt_4 : decode b_Row_handAt 4 = .ok (.iload_n 1, 1) := by decide +kernel
theorem d_Row_handAt_5 : decode b_Row_handAt 5 = .ok (.aload_n 0, 1) := by decide +kernel
theorem wm_236 : Cond.fieldLink "ThresholdRow" 10 "ThresholdRow" "hands" "Ljava/util/ArrayList;" ∈ gT := gT_m (List.mem_of_getElem? (i := 236) (by decide +kernel)) (by decide +kernel)
theorem d_Row_handAt_6 : decode b_Row_handAt 6 = .ok (.getfield 10, 3) := by decide +kernel
theorem wm_283 : Cond.methodLink "ThresholdRow" 81 ⟨"java/util/ArrayList", "size", "()I"⟩ ∈ gT := gT_m (List.mem_of_getElem? (i := 283) (by decide +kernel)) (by decide +kernel)
theorem d_Row_handAt_9 : decode b_Row_handAt 9 = .ok (.invokevirtual 81, 3) := by decide +kernel
theorem d_Row_handAt_12 : decode b_Row_handAt 12 = .ok (.if_icmp .lt 14, 3) := by decide +kernel
theorem d_Row_handAt_26 : decode b_Row_handAt 26 = .ok (.aload_n 0, 1) := by decide +kernel
theorem d_Row_handAt_27 : decode b_Row_handAt 27 = .ok (.getfield 10, 3) := by decide +kernel
theorem d_Row_handAt_30 : decode b_Row_handAt 30 = .ok (.iload_n 1, 1) := by decide +kernel
theorem wm_359 : Cond.methodLink "ThresholdRow" 354 ⟨"java/util/ArrayList", "get", "(I)Ljava/lang/Object;"⟩ ∈ gT := gT_m (List.mem_of_getElem? (i := 359) (by decide +kernel)) (by decide +kernel)
theorem d_Row_handAt_31 : decode b_Row_handAt 31 = .ok (.invokevirtual 354, 3) := by decide +kernel
theorem wm_373 : Cond.classLink "ThresholdRow" 92 "ThresholdRow$Hand" ∈ gT := gT_m (List.mem_of_getElem? (i := 373) (by decide +kernel)) (by decide +kernel)
theorem d_Row_handAt_34 : decode b_Row_handAt 34 = .ok (.checkcast 92, 3) := by decide +kernel
theorem d_Row_handAt_37 : decode b_Row_handAt 37 = .ok (.areturn, 1) := by decide +kernel
theorem d_Row_handAt_15 : decode b_Row_handAt 15 = .ok (.new 383, 3) := by decide +kernel
theorem d_Row_handAt_18 : decode b_Row_handAt 18 = .ok (.dup, 1) := by decide +kernel
theorem d_Row_handAt_19 : decode b_Row_handAt 19 = .ok (.ldc_w 385, 3) := by decide +kernel
theorem d_Row_handAt_22 : decode b_Row_handAt 22 = .ok (.invokespecial 387, 3) := by decide +kernel
theorem d_Row_handAt_25 : decode b_Row_handAt 25 = .ok (.athrow, 1) := by decide +kernel
theorem wm_540 : Cond.classLink "ThresholdRow" 383 "java/lang/IndexOutOfBoundsException" ∈ gT := gT_m (List.mem_of_getElem? (i := 540) (by decide +kernel)) (by decide +kernel)
theorem wm_41 : Cond.initialized "java/lang/IndexOutOfBoundsException" ∈ gT := gT_m (List.mem_of_getElem? (i := 41) (by decide +kernel)) (by decide +kernel)
theorem d_Row_fatigue_0 : decode b_Row_fatigue 0 = .ok (.aload_n 0, 1) := by decide +kernel
theorem d_Row_fatigue_1 : decode b_Row_fatigue 1 = .ok (.iload_n 1, 1) := by decide +kernel
theorem wm_539 : Cond.code ⟨"ThresholdRow", "handAt", "(I)LThresholdRow$Hand;"⟩ prog_1_method_47_code 2 (some (.object "ThresholdRow$Hand")) ∈ gT := gT_m (List.mem_of_getElem? (i := 539) (by decide +kernel)) (by decide +kernel)
theorem wm_23 : Cond.initialized "ThresholdRow" ∈ gT := gT_m (List.mem_of_getElem? (i := 23) (by decide +kernel)) (by decide +kernel)
theorem wm_536 : Cond.methodLink "ThresholdRow" 97 ⟨"ThresholdRow", "handAt", "(I)LThresholdRow$Hand;"⟩ ∈ gT := gT_m (List.mem_of_getElem? (i := 536) (by decide +kernel)) (by decide +kernel)
theorem d_Row_fatigue_2 : decode b_Row_fatigue 2 = .ok (.invokevirtual 97, 3) := by decide +kernel
theorem wm_538 : Cond.instanceMethod ⟨"ThresholdRow", "handAt", "(I)LThresholdRow$Hand;"⟩ ∈ gT := gT_m (List.mem_of_getElem? (i := 538) (by decide +kernel)) (by decide +kernel)
theorem wm_10 : Cond.selects "ThresholdRow" ⟨"ThresholdRow", "handAt", "(I)LThresholdRow$Hand;"⟩ ⟨"ThresholdRow", "handAt", "(I)LThresholdRow$Hand;"⟩ ∈ gT := gT_m (List.mem_of_getElem? (i := 10) (by decide +kernel)) (by decide +kernel)
theorem wm_467 : Cond.fieldLink "ThresholdRow" 137 "ThresholdRow$Hand" "fatigue" "I" ∈ gT := gT_m (List.mem_of_getElem? (i := 467) (by decide +kernel)) (by decide +kernel)
theorem d_Row_fatigue_5 : decode b_Row_fatigue 5 = .ok (.getfield 137, 3) := by decide +kernel
theorem d_Row_fatigue_8 : decode b_Row_fatigue 8 = .ok (.ireturn, 1) := by decide +kernel
theorem d_Row_hurt_0 : decode b_Row_hurt 0 = .ok (.aload_n 0, 1) := by decide +kernel
theorem d_Row_hurt_1 : decode b_Row_hurt 1 = .ok (.iload_n 1, 1) := by decide +kernel
theorem d_Row_hurt_2 : decode b_Row_hurt 2 = .ok (.invokevirtual 97, 3) := by decide +kernel
theorem wm_469 : Cond.fieldLink "ThresholdRow" 105 "ThresholdRow$Hand" "hurt" "I" ∈ gT := gT_m (List.mem_of_getElem? (i := 469) (by decide +kernel)) (by decide +kernel)
theorem d_Row_hurt_5 : decode b_Row_hurt 5 = .ok (.getfield 105, 3) := by decide +kernel
theorem d_Row_hurt_8 : decode b_Row_hurt 8 = .ok (.ireturn, 1) := by decide +kernel
theorem d_Row_lost_0 : decode b_Row_lost 0 = .ok (.aload_n 0, 1) := by decide +kernel
theorem d_Row_lost_1 : decode b_Row_lost 1 = .ok (.iload_n 1, 1) := by decide +kernel
theorem d_Row_lost_2 : decode b_Row_lost 2 = .ok (.invokevirtual 97, 3) := by decide +kernel
theorem wm_473 : Cond.fieldLink "ThresholdRow" 140 "ThresholdRow$Hand" "lost" "I" ∈ gT := gT_m (List.mem_of_getElem? (i := 473) (by decide +kernel)) (by decide +kernel)
theorem d_Row_lost_5 : decode b_Row_lost 5 = .ok (.getfield 140, 3) := by decide +kernel
theorem d_Row_lost_8 : decode b_Row_lost 8 = .ok (.ireturn, 1) := by decide +kernel
theorem d_Row_placeOf_0 : decode b_Row_placeOf 0 = .ok (.aload_n 0, 1) := by decide +kernel
theorem wm_239 : Cond.fieldLink "ThresholdRow" 25 "ThresholdRow" "gang" "LThresholdRow$Gang;" ∈ gT := gT_m (List.mem_of_getElem? (i := 239) (by decide +kernel)) (by decide +kernel)
theorem d_Row_placeOf_1 : decode b_Row_placeOf 1 = .ok (.getfield 25, 3) := by decide +kernel
theorem d_Row_placeOf_4 : decode b_Row_placeOf 4 = .ok (.aload_n 0, 1) := by decide +kernel
theorem d_Row_placeOf_5 : decode b_Row_placeOf 5 = .ok (.iload_n 1, 1) := by decide +kernel
theorem d_Row_placeOf_6 : decode b_Row_placeOf 6 = .ok (.invokevirtual 97, 3) := by decide +kernel
theorem wm_553 : Cond.methodLink "ThresholdRow" 101 ⟨"ThresholdRow$Gang", "placeFor", "(LThresholdRow$Hand;)I"⟩ ∈ gT := gT_m (List.mem_of_getElem? (i := 553) (by decide +kernel)) (by decide +kernel)
theorem d_Row_placeOf_9 : decode b_Row_placeOf 9 = .ok (.invokevirtual 101, 3) := by decide +kernel
theorem d_Row_placeOf_12 : decode b_Row_placeOf 12 = .ok (.ireturn, 1) := by decide +kernel
theorem d_Row_placeNeeded_0 : decode b_Row_placeNeeded 0 = .ok (.aload_n 0, 1) := by decide +kernel
theorem d_Row_placeNeeded_1 : decode b_Row_placeNeeded 1 = .ok (.getfield 25, 3) := by decide +kernel
theorem d_Row_placeNeeded_4 : decode b_Row_placeNeeded 4 = .ok (.aload_n 1, 1) := by decide +kernel
theorem d_Row_placeNeeded_5 : decode b_Row_placeNeeded 5 = .ok (.invokevirtual 101, 3) := by decide +kernel
theorem d_Row_placeNeeded_8 : decode b_Row_placeNeeded 8 = .ok (.istore_n 2, 1) := by decide +kernel
theorem d_Row_placeNeeded_9 : decode b_Row_placeNeeded 9 = .ok (.iload_n 2, 1) := by decide +kernel
theorem d_Row_placeNeeded_10 : decode b_Row_placeNeeded 10 = .ok (.ifCond .ge 13, 3) := by decide +kernel
theorem d_Row_placeNeeded_23 : decode b_Row_placeNeeded 23 = .ok (.iload_n 2, 1) := by decide +kernel
theorem d_Row_placeNeeded_24 : decode b_Row_placeNeeded 24 = .ok (.ireturn, 1) := by decide +kernel
theorem d_Row_placeNeeded_13 : decode b_Row_placeNeeded 13 = .ok (.new 394, 3) := by decide +kernel
theorem d_Row_placeNeeded_16 : decode b_Row_placeNeeded 16 = .ok (.dup, 1) := by decide +kernel
theorem d_Row_placeNeeded_17 : decode b_Row_placeNeeded 17 = .ok (.ldc 122, 2) := by decide +kernel
theorem d_Row_placeNeeded_19 : decode b_Row_placeNeeded 19 = .ok (.invokespecial 396, 3) := by decide +kernel
theorem d_Row_placeNeeded_22 : decode b_Row_placeNeeded 22 = .ok (.athrow, 1) := by decide +kernel
theorem wm_625 : Cond.classLink "ThresholdRow" 394 "java/util/NoSuchElementException" ∈ gT := gT_m (List.mem_of_getElem? (i := 625) (by decide +kernel)) (by decide +kernel)
theorem wm_47 : Cond.initialized "java/util/NoSuchElementException" ∈ gT := gT_m (List.mem_of_getElem? (i := 47) (by decide +kernel)) (by decide +kernel)
theorem d_Row_errorOf_0 : decode b_Row_errorOf 0 = .ok (.aload_n 0, 1) := by decide +kernel
theorem d_Row_errorOf_1 : decode b_Row_errorOf 1 = .ok (.iload_n 1, 1) := by decide +kernel
theorem d_Row_errorOf_2 : decode b_Row_errorOf 2 = .ok (.invokevirtual 97, 3) := by decide +kernel
theorem d_Row_errorOf_5 : decode b_Row_errorOf 5 = .ok (.astore_n 2, 1) := by decide +kernel
theorem d_Row_errorOf_6 : decode b_Row_errorOf 6 = .ok (.aload_n 0, 1) := by decide +kernel
theorem d_Row_errorOf_7 : decode b_Row_errorOf 7 = .ok (.aload_n 2, 1) := by decide +kernel
theorem wm_624 : Cond.code ⟨"ThresholdRow", "placeNeeded", "(LThresholdRow$Hand;)I"⟩ prog_1_method_51_code 3 (some .int) ∈ gT := gT_m (List.mem_of_getElem? (i := 624) (by decide +kernel)) (by decide +kernel)
theorem wm_621 : Cond.methodLink "ThresholdRow" 127 ⟨"ThresholdRow", "placeNeeded", "(LThresholdRow$Hand;)I"⟩ ∈ gT := gT_m (List.mem_of_getElem? (i := 621) (by decide +kernel)) (by decide +kernel)
theorem d_Row_errorOf_8 : decode b_Row_errorOf 8 = .ok (.invokevirtual 127, 3) := by decide +kernel
theorem wm_623 : Cond.instanceMethod ⟨"ThresholdRow", "placeNeeded", "(LThresholdRow$Hand;)I"⟩ ∈ gT := gT_m (List.mem_of_getElem? (i := 623) (by decide +kernel)) (by decide +kernel)
theorem wm_12 : Cond.selects "ThresholdRow" ⟨"ThresholdRow", "placeNeeded", "(LThresholdRow$Hand;)I"⟩ ⟨"ThresholdRow", "placeNeeded", "(LThresholdRow$Hand;)I"⟩ ∈ gT := gT_m (List.mem_of_getElem? (i := 12) (by decide +kernel)) (by decide +kernel)
theorem d_Row_errorOf_11 : decode b_Row_errorOf 11 = .ok (.pop, 1) := by decide +kernel
theorem d_Row_errorOf_12 : decode b_Row_errorOf 12 = .ok (.aload_n 2, 1) := by decide +kernel
theorem wm_476 : Cond.fieldLink "ThresholdRow" 130 "ThresholdRow$Hand" "error" "I" ∈ gT := gT_m (List.mem_of_getElem? (i := 476) (by decide +kernel)) (by decide +kernel)
theorem d_Row_errorOf_13 : decode b_Row_errorOf 13 = .ok (.getfield 130, 3) := by decide +kernel
theorem d_Row_errorOf_16 : decode b_Row_errorOf 16 = .ok (.ireturn, 1) := by decide +kernel
theorem d_Row_strokeOf_0 : decode b_Row_strokeOf 0 = .ok (.aload_n 0, 1) := by decide +kernel
theorem d_Row_strokeOf_1 : decode b_Row_strokeOf 1 = .ok (.getfield 25, 3) := by decide +kernel
theorem d_Row_strokeOf_4 : decode b_Row_strokeOf 4 = .ok (.aload_n 0, 1) := by decide +kernel
theorem d_Row_strokeOf_5 : decode b_Row_strokeOf 5 = .ok (.aload_n 0, 1) := by decide +kernel
theorem d_Row_strokeOf_6 : decode b_Row_strokeOf 6 = .ok (.iload_n 1, 1) := by decide +kernel
theorem d_Row_strokeOf_7 : decode b_Row_strokeOf 7 = .ok (.invokevirtual 97, 3) := by decide +kernel
theorem d_Row_strokeOf_10 : decode b_Row_strokeOf 10 = .ok (.invokevirtual 127, 3) := by decide +kernel
theorem wm_647 : Cond.methodLink "ThresholdRow" 133 ⟨"ThresholdRow$Gang", "tickAt", "(I)I"⟩ ∈ gT := gT_m (List.mem_of_getElem? (i := 647) (by decide +kernel)) (by decide +kernel)
theorem d_Row_strokeOf_13 : decode b_Row_strokeOf 13 = .ok (.invokevirtual 133, 3) := by decide +kernel
theorem d_Row_strokeOf_16 : decode b_Row_strokeOf 16 = .ok (.ireturn, 1) := by decide +kernel
theorem d_Row_checkGang_0 : decode b_Row_checkGang 0 = .ok (.aload_n 0, 1) := by decide +kernel
theorem d_Row_checkGang_1 : decode b_Row_checkGang 1 = .ok (.getfield 25, 3) := by decide +kernel
theorem wm_576 : Cond.code ⟨"ThresholdRow$Gang", "count", "()I"⟩ prog_4_method_2_code 1 (some .int) ∈ gT := gT_m (List.mem_of_getElem? (i := 576) (by decide +kernel)) (by decide +kernel)
theorem wm_573 : Cond.methodLink "ThresholdRow" 113 ⟨"ThresholdRow$Gang", "count", "()I"⟩ ∈ gT := gT_m (List.mem_of_getElem? (i := 573) (by decide +kernel)) (by decide +kernel)
theorem d_Row_checkGang_4 : decode b_Row_checkGang 4 = .ok (.invokevirtual 113, 3) := by decide +kernel
theorem wm_574 : Cond.instanceMethod ⟨"ThresholdRow$Gang", "count", "()I"⟩ ∈ gT := gT_m (List.mem_of_getElem? (i := 574) (by decide +kernel)) (by decide +kernel)
theorem wm_575 : Cond.selects "ThresholdRow$Gang" ⟨"ThresholdRow$Gang", "count", "()I"⟩ ⟨"ThresholdRow$Gang", "count", "()I"⟩ ∈ gT := gT_m (List.mem_of_getElem? (i := 575) (by decide +kernel)) (by decide +kernel)
theorem d_Row_checkGang_7 : decode b_Row_checkGang 7 = .ok (.iconst 2, 1) := by decide +kernel
theorem d_Row_checkGang_8 : decode b_Row_checkGang 8 = .ok (.if_icmp .ge 14, 3) := by decide +kernel
theorem d_Row_checkGang_22 : decode b_Row_checkGang 22 = .ok (.return_, 1) := by decide +kernel
theorem d_Row_checkGang_11 : decode b_Row_checkGang 11 = .ok (.new 108, 3) := by decide +kernel
theorem d_Row_checkGang_14 : decode b_Row_checkGang 14 = .ok (.dup, 1) := by decide +kernel
theorem d_Row_checkGang_15 : decode b_Row_checkGang 15 = .ok (.ldc_w 381, 3) := by decide +kernel
theorem d_Row_checkGang_18 : decode b_Row_checkGang 18 = .ok (.invokespecial 112, 3) := by decide +kernel
theorem d_Row_checkGang_21 : decode b_Row_checkGang 21 = .ok (.athrow, 1) := by decide +kernel
theorem wm_557 : Cond.classLink "ThresholdRow" 108 "java/lang/UnsupportedOperationException" ∈ gT := gT_m (List.mem_of_getElem? (i := 557) (by decide +kernel)) (by decide +kernel)
theorem wm_46 : Cond.initialized "java/lang/UnsupportedOperationException" ∈ gT := gT_m (List.mem_of_getElem? (i := 46) (by decide +kernel)) (by decide +kernel)
theorem d_Row_stand_0 : decode b_Row_stand 0 = .ok (.aload_n 0, 1) := by decide +kernel
theorem d_Row_stand_1 : decode b_Row_stand 1 = .ok (.iload_n 1, 1) := by decide +kernel
theorem d_Row_stand_2 : decode b_Row_stand 2 = .ok (.invokevirtual 97, 3) := by decide +kernel
theorem d_Row_stand_5 : decode b_Row_stand 5 = .ok (.astore_n 2, 1) := by decide +kernel
theorem d_Row_stand_6 : decode b_Row_stand 6 = .ok (.aload_n 0, 1) := by decide +kernel
theorem d_Row_stand_7 : decode b_Row_stand 7 = .ok (.getfield 25, 3) := by decide +kernel
theorem d_Row_stand_10 : decode b_Row_stand 10 = .ok (.aload_n 2, 1) := by decide +kernel
theorem d_Row_stand_11 : decode b_Row_stand 11 = .ok (.invokevirtual 101, 3) := by decide +kernel
theorem d_Row_stand_14 : decode b_Row_stand 14 = .ok (.ifCond .ge 10, 3) := by decide +kernel
theorem d_Row_stand_17 : decode b_Row_stand 17 = .ok (.aload_n 2, 1) := by decide +kernel
theorem d_Row_stand_18 : decode b_Row_stand 18 = .ok (.getfield 105, 3) := by decide +kernel
theorem d_Row_stand_21 : decode b_Row_stand 21 = .ok (.ifCond .le 13, 3) := by decide +kernel
theorem d_Row_stand_34 : decode b_Row_stand 34 = .ok (.aload_n 0, 1) := by decide +kernel
theorem d_Row_stand_35 : decode b_Row_stand 35 = .ok (.getfield 25, 3) := by decide +kernel
theorem d_Row_stand_38 : decode b_Row_stand 38 = .ok (.invokevirtual 113, 3) := by decide +kernel
theorem d_Row_stand_41 : decode b_Row_stand 41 = .ok (.iconst 5, 1) := by decide +kernel
theorem d_Row_stand_42 : decode b_Row_stand 42 = .ok (.if_icmp .lt 13, 3) := by decide +kernel
theorem d_Row_stand_55 : decode b_Row_stand 55 = .ok (.aload_n 0, 1) := by decide +kernel
theorem d_Row_stand_56 : decode b_Row_stand 56 = .ok (.getfield 25, 3) := by decide +kernel
theorem d_Row_stand_59 : decode b_Row_stand 59 = .ok (.aload_n 2, 1) := by decide +kernel
theorem wm_581 : Cond.code ⟨"ThresholdRow$Gang", "takeIn", "(LThresholdRow$Hand;)V"⟩ prog_4_method_4_code 2 none ∈ gT := gT_m (List.mem_of_getElem? (i := 581) (by decide +kernel)) (by decide +kernel)
theorem wm_578 : Cond.methodLink "ThresholdRow" 118 ⟨"ThresholdRow$Gang", "takeIn", "(LThresholdRow$Hand;)V"⟩ ∈ gT := gT_m (List.mem_of_getElem? (i := 578) (by decide +kernel)) (by decide +kernel)
theorem d_Row_stand_60 : decode b_Row_stand 60 = .ok (.invokevirtual 118, 3) := by decide +kernel
theorem wm_579 : Cond.instanceMethod ⟨"ThresholdRow$Gang", "takeIn", "(LThresholdRow$Hand;)V"⟩ ∈ gT := gT_m (List.mem_of_getElem? (i := 579) (by decide +kernel)) (by decide +kernel)
theorem wm_580 : Cond.selects "ThresholdRow$Gang" ⟨"ThresholdRow$Gang", "takeIn", "(LThresholdRow$Hand;)V"⟩ ⟨"ThresholdRow$Gang", "takeIn", "(LThresholdRow$Hand;)V"⟩ ∈ gT := gT_m (List.mem_of_getElem? (i := 580) (by decide +kernel)) (by decide +kernel)
theorem d_Row_stand_63 : decode b_Row_stand 63 = .ok (.aload_n 0, 1) := by decide +kernel
theorem d_Row_stand_64 : decode b_Row_stand 64 = .ok (.getfield 25, 3) := by decide +kernel
theorem d_Row_stand_67 : decode b_Row_stand 67 = .ok (.invokevirtual 113, 3) := by decide +kernel
theorem d_Row_stand_70 : decode b_Row_stand 70 = .ok (.ireturn, 1) := by decide +kernel
theorem d_Row_stand_24 : decode b_Row_stand 24 = .ok (.new 108, 3) := by decide +kernel
theorem d_Row_stand_27 : decode b_Row_stand 27 = .ok (.dup, 1) := by decide +kernel
theorem d_Row_stand_28 : decode b_Row_stand 28 = .ok (.ldc 110, 2) := by decide +kernel
theorem d_Row_stand_30 : decode b_Row_stand 30 = .ok (.invokespecial 112, 3) := by decide +kernel
theorem d_Row_stand_33 : decode b_Row_stand 33 = .ok (.athrow, 1) := by decide +kernel
theorem d_Row_stand_45 : decode b_Row_stand 45 = .ok (.new 85, 3) := by decide +kernel
theorem d_Row_stand_48 : decode b_Row_stand 48 = .ok (.dup, 1) := by decide +kernel
theorem d_Row_stand_49 : decode b_Row_stand 49 = .ok (.ldc 116, 2) := by decide +kernel
theorem d_Row_stand_51 : decode b_Row_stand 51 = .ok (.invokespecial 89, 3) := by decide +kernel
theorem d_Row_stand_54 : decode b_Row_stand 54 = .ok (.athrow, 1) := by decide +kernel
theorem wm_442 : Cond.classLink "ThresholdRow" 85 "java/lang/IllegalStateException" ∈ gT := gT_m (List.mem_of_getElem? (i := 442) (by decide +kernel)) (by decide +kernel)
theorem wm_39 : Cond.initialized "java/lang/IllegalStateException" ∈ gT := gT_m (List.mem_of_getElem? (i := 39) (by decide +kernel)) (by decide +kernel)
theorem d_Row_leave_0 : decode b_Row_leave 0 = .ok (.aload_n 0, 1) := by decide +kernel
theorem d_Row_leave_1 : decode b_Row_leave 1 = .ok (.iload_n 1, 1) := by decide +kernel
theorem d_Row_leave_2 : decode b_Row_leave 2 = .ok (.invokevirtual 97, 3) := by decide +kernel
theorem d_Row_leave_5 : decode b_Row_leave 5 = .ok (.astore_n 2, 1) := by decide +kernel
theorem d_Row_leave_6 : decode b_Row_leave 6 = .ok (.aload_n 0, 1) := by decide +kernel
theorem d_Row_leave_7 : decode b_Row_leave 7 = .ok (.getfield 25, 3) := by decide +kernel
theorem d_Row_leave_10 : decode b_Row_leave 10 = .ok (.aload_n 2, 1) := by decide +kernel
theorem d_Row_leave_11 : decode b_Row_leave 11 = .ok (.invokevirtual 101, 3) := by decide +kernel
theorem d_Row_leave_14 : decode b_Row_leave 14 = .ok (.ifCond .ge 13, 3) := by decide +kernel
theorem d_Row_leave_27 : decode b_Row_leave 27 = .ok (.aload_n 0, 1) := by decide +kernel
theorem d_Row_leave_28 : decode b_Row_leave 28 = .ok (.getfield 25, 3) := by decide +kernel
theorem d_Row_leave_31 : decode b_Row_leave 31 = .ok (.aload_n 2, 1) := by decide +kernel
theorem wm_592 : Cond.methodLink "ThresholdRow" 124 ⟨"ThresholdRow$Gang", "letGo", "(LThresholdRow$Hand;)V"⟩ ∈ gT := gT_m (List.mem_of_getElem? (i := 592) (by decide +kernel)) (by decide +kernel)
theorem d_Row_leave_32 : decode b_Row_leave 32 = .ok (.invokevirtual 124, 3) := by decide +kernel
theorem d_Row_leave_35 : decode b_Row_leave 35 = .ok (.aload_n 0, 1) := by decide +kernel
theorem d_Row_leave_36 : decode b_Row_leave 36 = .ok (.getfield 25, 3) := by decide +kernel
theorem d_Row_leave_39 : decode b_Row_leave 39 = .ok (.invokevirtual 113, 3) := by decide +kernel
theorem d_Row_leave_42 : decode b_Row_leave 42 = .ok (.ireturn, 1) := by decide +kernel
theorem d_Row_leave_17 : decode b_Row_leave 17 = .ok (.new 108, 3) := by decide +kernel
theorem d_Row_leave_20 : decode b_Row_leave 20 = .ok (.dup, 1) := by decide +kernel
theorem d_Row_leave_21 : decode b_Row_leave 21 = .ok (.ldc 122, 2) := by decide +kernel
theorem d_Row_leave_23 : decode b_Row_leave 23 = .ok (.invokespecial 112, 3) := by decide +kernel
theorem d_Row_leave_26 : decode b_Row_leave 26 = .ok (.athrow, 1) := by decide +kernel
set_option maxHeartbeats 4000000 in
set_option maxRecDepth 100000 in
theorem c_Row_handAt (l : Launch) (E : Nat) (D : va_G) (cI cO cZ : ClassId) (z0 : Nat) (M : gM) {o n : Nat} {day : Int32} {S : gS} {Z ad bn : Nat → Nat} (hf : gw_fa z0 cO M o n day S Z ad bn) {i : Nat} (hi : i < n) : Met l y_Row_handAt (Cond.code y_Row_handAt b_Row_handAt 2 (some (.object "ThresholdRow$Hand")) :: gT) ({ frames := 3, cells := 0, slots := 0, locals := 64 }) (gw_Pc E D cI cO cZ z0 M [.ref o, .int (nI i)]) (gw_Qq E D (fun r M' => r = some (ad i) ∧ M' = M)) 0 0 (gw_A E) := by
  refine gw_ofW (cc := b_Row_handAt) (maxL := 2) (ret := (some (.object "ThresholdRow$Hand"))) (by decide) rfl (Nat.le_of_ble_eq_true rfl) ?_
  intro p e s m args below meth c hx hb hr hml hts hown hlk hnm hF hG ls hl
  have hT : ∀ w ∈ gT, w.before args s = true := fun w h => hts w (List.mem_cons_of_mem _ h)
  have hK := hF.1
  have hl : lv_has ls 2 [(0, .ref o), (1, .int (nI i))] := hl
  obtain ⟨hro, hLh, hLl, hLb, hbn, hgg, hLg, hdr, hlg, hhd, had, hord, hoi, hne, har⟩ := id hf
  obtain ⟨kh, hhl, h10, -⟩ := id hLh
  have hz0 := gw_z0 hF hG
  refine lv_iload_n hx hb d_Row_handAt_0 rfl (lv_at hl 1 rfl) ?_
  refine lv_if_lt (tgt := 15) hx hb d_Row_handAt_1 (by decide) (fun z_ => absurd z_ (nI_pos (by omega))) (fun c_1 => ?_)
  refine lv_iload_n hx hb d_Row_handAt_4 rfl (lv_at hl 1 rfl) ?_
  refine lv_aload_n hx hb d_Row_handAt_5 rfl (lv_at hl 0 rfl) ?_
  refine gw_get hx hb hT i_Row hown hK hG hro rfl 0 (by decide) (hT _ wm_236) (fun _ h => h) rfl d_Row_handAt_6 ?_
  refine gw_calli (gw_runV (As := []) (rest := [.int (nI i)]) ⟨hx, hb, hml, hown, hts⟩ (c_L_size l E D cI cO cZ z0 M hLh) (gw_cwV 0 hts (gT_gi wm_286) rfl rfl rfl (hT _ wm_26) (hT _ wm_283) (hT _ wm_284) (hT _ wm_285) (by decide +kernel) ⟨Nat.le_of_ble_eq_true rfl, Nat.le_of_ble_eq_true rfl⟩) hF hG rfl hhl rfl hl.1 rfl (Nat.le_of_ble_eq_true rfl) d_Row_handAt_9 ⟨Nat.le_of_ble_eq_true rfl, Nat.le_of_ble_eq_true rfl⟩) hG (fun r M1 H locs hp hG => ?_)
  rw [hp.1]
  replace hG := gw_nm hp.2.symm hG
  refine lv_icmp_lt (tgt := 26) hx hb d_Row_handAt_12 (by decide) (fun c_12 => ?_) (fun z_ => absurd (nI_lt hi (by omega)) z_)
  refine lv_aload_n hx hb d_Row_handAt_26 rfl (lv_at hl 0 rfl) ?_
  refine gw_get hx hb hT i_Row hown hK hG hro rfl 0 (by decide) (hT _ wm_236) (fun _ h => h) rfl d_Row_handAt_27 ?_
  refine lv_iload_n hx hb d_Row_handAt_30 rfl (lv_at hl 1 rfl) ?_
  refine gw_callq (gw_runV (As := [.int (nI i)]) (rest := []) ⟨hx, hb, hml, hown, hts⟩ (c_L_get l E D cI cO cZ z0 M hLh hi) (gw_cwV 1 hts (gT_gi wm_362) rfl rfl rfl (hT _ wm_26) (hT _ wm_359) (hT _ wm_360) (hT _ wm_361) (by decide +kernel) ⟨Nat.le_of_ble_eq_true rfl, Nat.le_of_ble_eq_true rfl⟩) hF hG rfl hhl rfl hl.1 rfl (Nat.le_of_ble_eq_true rfl) d_Row_handAt_31 ⟨Nat.le_of_ble_eq_true rfl, Nat.le_of_ble_eq_true rfl⟩) hG (fun r M2 H locs hp hG => ?_)
  rw [hp.1]
  replace hG := gw_nm hp.2.symm hG
  have hhi := hhd i hi
  refine gw_cast (ci := 6) (r := (R_Hand, F_Hand, 10)) hx hb hown (hT _ wm_373) hF hG rfl hhi d_Row_handAt_34 ?_
  exact gw_aret hx hb hr (Or.inl ⟨_, rfl⟩) hlk hG (⟨rfl, rfl⟩) (Nat.le_of_ble_eq_true rfl) (Nat.le_of_ble_eq_true rfl) d_Row_handAt_37
set_option maxHeartbeats 4000000 in
set_option maxRecDepth 100000 in
theorem c_Row_handAt_x (l : Launch) (E : Nat) (D : va_G) (cI cO cZ : ClassId) (z0 : Nat) (M : gM) (hst : l.stackTraces = false) {o n : Nat} {day : Int32} {S : gS} {Z ad bn : Nat → Nat} (hf : gw_fa z0 cO M o n day S Z ad bn) {i : Nat} (hi : n ≤ i) (hi2 : i < 2 ^ 31) : vx_Met l y_Row_handAt (Cond.code y_Row_handAt b_Row_handAt 2 (some (.object "ThresholdRow$Hand")) :: gT) ({ frames := 6, cells := 1, slots := 6, locals := 82 }) (gw_Pc E D cI cO cZ z0 M [.ref o, .int (nI i)]) (gw_Qq E D (fun _ _ => False)) (gw_XC E D "java/lang/IndexOutOfBoundsException" M) 1 6 (gw_A E) := by
  refine gw_ofX (cc := b_Row_handAt) (maxL := 2) (ret := (some (.object "ThresholdRow$Hand"))) (by decide) rfl (Nat.le_of_ble_eq_true rfl) ?_
  intro p e s m args below meth c hx hb hr hml hts hown hlk hnt hF hG ls hl
  have hT : ∀ w ∈ gT, w.before args s = true := fun w h => hts w (List.mem_cons_of_mem _ h)
  have hK := hF.1
  have hl : lv_has ls 2 [(0, .ref o), (1, .int (nI i))] := hl
  obtain ⟨hro, hLh, hLl, hLb, hbn, hgg, hLg, hdr, hlg, hhd, had, hord, hoi, hne, har⟩ := id hf
  obtain ⟨kh, hhl, h10, -⟩ := id hLh
  have hz0 := gw_z0 hF hG
  refine lv_iload_n hx hb d_Row_handAt_0 rfl (lv_at hl 1 rfl) ?_
  refine lv_if_lt (tgt := 15) hx hb d_Row_handAt_1 (by decide) (fun z_ => absurd z_ (nI_pos (by omega))) (fun c_1 => ?_)
  refine lv_iload_n hx hb d_Row_handAt_4 rfl (lv_at hl 1 rfl) ?_
  refine lv_aload_n hx hb d_Row_handAt_5 rfl (lv_at hl 0 rfl) ?_
  refine gw_get hx hb hT i_Row hown hK hG hro rfl 0 (by decide) (hT _ wm_236) (fun _ h => h) rfl d_Row_handAt_6 ?_
  refine gw_calli (gw_runV (As := []) (rest := [.int (nI i)]) ⟨hx, hb, hml, hown, hts⟩ (c_L_size l E D cI cO cZ z0 M hLh) (gw_cwV 0 hts (gT_gi wm_286) rfl rfl rfl (hT _ wm_26) (hT _ wm_283) (hT _ wm_284) (hT _ wm_285) (by decide +kernel) ⟨Nat.le_of_ble_eq_true rfl, Nat.le_of_ble_eq_true rfl⟩) hF hG rfl hhl rfl hl.1 rfl (Nat.le_of_ble_eq_true rfl) d_Row_handAt_9 ⟨Nat.le_of_ble_eq_true rfl, Nat.le_of_ble_eq_true rfl⟩) hG (fun r M1 H locs hp hG => ?_)
  rw [hp.1]
  replace hG := gw_nm hp.2.symm hG
  refine lv_icmp_lt (tgt := 26) hx hb d_Row_handAt_12 (by decide) (fun z_ => absurd z_ (nI_nlt hi (by omega))) (fun c_12 => ?_)
  exact gw_thrSW (cls := "java/lang/IndexOutOfBoundsException") (text := "no such hand") hx hb hst hown (by decide) (hT _ wm_540) (hT _ wm_41) (by decide) hT (by decide +kernel) (by decide +kernel) hF hG (hl.1.trans hml.symm) d_Row_handAt_15 d_Row_handAt_18 d_Row_handAt_19 d_Row_handAt_22 d_Row_handAt_25 hnt (Nat.le_of_ble_eq_true rfl) (Nat.le_of_ble_eq_true rfl) (Nat.le_of_ble_eq_true rfl) (Nat.le_of_ble_eq_true rfl) hlk (Nat.le_of_ble_eq_true rfl) (Nat.le_of_ble_eq_true rfl)
set_option maxHeartbeats 4000000 in
set_option maxRecDepth 100000 in
theorem c_Row_fatigue (l : Launch) (E : Nat) (D : va_G) (cI cO cZ : ClassId) (z0 : Nat) (M : gM) {o n : Nat} {day : Int32} {S : gS} {Z ad bn : Nat → Nat} (hf : gw_fa z0 cO M o n day S Z ad bn) {i : Nat} (hi : i < n) : Met l y_Row_fatigue (Cond.code y_Row_fatigue b_Row_fatigue 2 (some .int) :: gT) ({ frames := 4, cells := 0, slots := 0, locals := 85 }) (gw_Pc E D cI cO cZ z0 M [.ref o, .int (nI i)]) (gw_Qi E D (fun r M' => r = (S.2.2 i).2.2.1 ∧ M' = M)) 0 0 (gw_A E) := by
  refine gw_ofW (cc := b_Row_fatigue) (maxL := 2) (ret := (some .int)) (by decide) rfl (Nat.le_of_ble_eq_true rfl) ?_
  intro p e s m args below meth c hx hb hr hml hts hown hlk hnm hF hG ls hl
  have hT : ∀ w ∈ gT, w.before args s = true := fun w h => hts w (List.mem_cons_of_mem _ h)
  have hK := hF.1
  have hl : lv_has ls 2 [(0, .ref o), (1, .int (nI i))] := hl
  obtain ⟨hro, hLh, hLl, hLb, hbn, hgg, hLg, hdr, hlg, hhd, had, hord, hoi, hne, har⟩ := id hf
  obtain ⟨kh, hhl, h10, -⟩ := id hLh
  have hz0 := gw_z0 hF hG
  refine lv_aload_n hx hb d_Row_fatigue_0 rfl (lv_at hl 0 rfl) ?_
  refine lv_iload_n hx hb d_Row_fatigue_1 rfl (lv_at hl 1 rfl) ?_
  refine gw_callq (gw_runV (As := [.int (nI i)]) (rest := []) ⟨hx, hb, hml, hown, hts⟩ (c_Row_handAt l E D cI cO cZ z0 M hf hi) (gw_cwV 1 hts (gT_gi wm_539) rfl rfl rfl (hT _ wm_23) (hT _ wm_536) (hT _ wm_538) (hT _ wm_10) (by decide +kernel) ⟨Nat.le_of_ble_eq_true rfl, Nat.le_of_ble_eq_true rfl⟩) hF hG rfl hro rfl hl.1 rfl (Nat.le_of_ble_eq_true rfl) d_Row_fatigue_2 ⟨Nat.le_of_ble_eq_true rfl, Nat.le_of_ble_eq_true rfl⟩) hG (fun r M1 H locs hp hG => ?_)
  rw [hp.1]
  replace hG := gw_nm hp.2.symm hG
  have hhi := hhd i hi
  refine gw_get hx hb hT i_Hand hown hK hG hhi rfl 2 (by decide) (hT _ wm_467) (fun _ h => h) rfl d_Row_fatigue_5 ?_
  exact gw_iret (v := ((S.2.2 i).2.2.1)) hx hb hr hlk hG (⟨rfl, rfl⟩) (Nat.le_of_ble_eq_true rfl) (Nat.le_of_ble_eq_true rfl) d_Row_fatigue_8
set_option maxHeartbeats 4000000 in
set_option maxRecDepth 100000 in
theorem c_Row_fatigue_x (l : Launch) (E : Nat) (D : va_G) (cI cO cZ : ClassId) (z0 : Nat) (M : gM) (hst : l.stackTraces = false) {o n : Nat} {day : Int32} {S : gS} {Z ad bn : Nat → Nat} (hf : gw_fa z0 cO M o n day S Z ad bn) {i : Nat} (hi : n ≤ i) (hi2 : i < 2 ^ 31) : vx_Met l y_Row_fatigue (Cond.code y_Row_fatigue b_Row_fatigue 2 (some .int) :: gT) ({ frames := 7, cells := 1, slots := 6, locals := 103 }) (gw_Pc E D cI cO cZ z0 M [.ref o, .int (nI i)]) (gw_Qi E D (fun _ _ => False)) (gw_XC E D "java/lang/IndexOutOfBoundsException" M) 1 6 (gw_A E) := by
  refine gw_ofX (cc := b_Row_fatigue) (maxL := 2) (ret := (some .int)) (by decide) rfl (Nat.le_of_ble_eq_true rfl) ?_
  intro p e s m args below meth c hx hb hr hml hts hown hlk hnt hF hG ls hl
  have hT : ∀ w ∈ gT, w.before args s = true := fun w h => hts w (List.mem_cons_of_mem _ h)
  have hK := hF.1
  have hl : lv_has ls 2 [(0, .ref o), (1, .int (nI i))] := hl
  obtain ⟨hro, hLh, hLl, hLb, hbn, hgg, hLg, hdr, hlg, hhd, had, hord, hoi, hne, har⟩ := id hf
  obtain ⟨kh, hhl, h10, -⟩ := id hLh
  have hz0 := gw_z0 hF hG
  refine lv_aload_n hx hb d_Row_fatigue_0 rfl (lv_at hl 0 rfl) ?_
  refine lv_iload_n hx hb d_Row_fatigue_1 rfl (lv_at hl 1 rfl) ?_
  refine gw_xcallq (cls := "java/lang/IndexOutOfBoundsException") (gw_xrunV (As := [.int (nI i)]) (rest := []) ⟨hx, hb, hml, hown, hts⟩ (c_Row_handAt_x l E D cI cO cZ z0 M hst hf hi hi2) (gw_cwV 1 hts (gT_gi wm_539) rfl rfl rfl (hT _ wm_23) (hT _ wm_536) (hT _ wm_538) (hT _ wm_10) (by decide +kernel) ⟨Nat.le_of_ble_eq_true rfl, Nat.le_of_ble_eq_true rfl⟩) hF hG rfl hro rfl hl.1 rfl (Nat.le_of_ble_eq_true rfl) d_Row_fatigue_2 ⟨Nat.le_of_ble_eq_true rfl, Nat.le_of_ble_eq_true rfl⟩) hG (fun ce q H locs hG hq1 hq2 hq3 => ?_)
  exact gw_xout hnt hlk hG hq1 hq2 hq3 (Nat.le_of_ble_eq_true rfl) (Nat.le_of_ble_eq_true rfl)
set_option maxHeartbeats 4000000 in
set_option maxRecDepth 100000 in
theorem c_Row_hurt (l : Launch) (E : Nat) (D : va_G) (cI cO cZ : ClassId) (z0 : Nat) (M : gM) {o n : Nat} {day : Int32} {S : gS} {Z ad bn : Nat → Nat} (hf : gw_fa z0 cO M o n day S Z ad bn) {i : Nat} (hi : i < n) : Met l y_Row_hurt (Cond.code y_Row_hurt b_Row_hurt 2 (some .int) :: gT) ({ frames := 4, cells := 0, slots := 0, locals := 85 }) (gw_Pc E D cI cO cZ z0 M [.ref o, .int (nI i)]) (gw_Qi E D (fun r M' => r = (S.2.2 i).2.2.2.1 ∧ M' = M)) 0 0 (gw_A E) := by
  refine gw_ofW (cc := b_Row_hurt) (maxL := 2) (ret := (some .int)) (by decide) rfl (Nat.le_of_ble_eq_true rfl) ?_
  intro p e s m args below meth c hx hb hr hml hts hown hlk hnm hF hG ls hl
  have hT : ∀ w ∈ gT, w.before args s = true := fun w h => hts w (List.mem_cons_of_mem _ h)
  have hK := hF.1
  have hl : lv_has ls 2 [(0, .ref o), (1, .int (nI i))] := hl
  obtain ⟨hro, hLh, hLl, hLb, hbn, hgg, hLg, hdr, hlg, hhd, had, hord, hoi, hne, har⟩ := id hf
  obtain ⟨kh, hhl, h10, -⟩ := id hLh
  have hz0 := gw_z0 hF hG
  refine lv_aload_n hx hb d_Row_hurt_0 rfl (lv_at hl 0 rfl) ?_
  refine lv_iload_n hx hb d_Row_hurt_1 rfl (lv_at hl 1 rfl) ?_
  refine gw_callq (gw_runV (As := [.int (nI i)]) (rest := []) ⟨hx, hb, hml, hown, hts⟩ (c_Row_handAt l E D cI cO cZ z0 M hf hi) (gw_cwV 1 hts (gT_gi wm_539) rfl rfl rfl (hT _ wm_23) (hT _ wm_536) (hT _ wm_538) (hT _ wm_10) (by decide +kernel) ⟨Nat.le_of_ble_eq_true rfl, Nat.le_of_ble_eq_true rfl⟩) hF hG rfl hro rfl hl.1 rfl (Nat.le_of_ble_eq_true rfl) d_Row_hurt_2 ⟨Nat.le_of_ble_eq_true rfl, Nat.le_of_ble_eq_true rfl⟩) hG (fun r M1 H locs hp hG => ?_)
  rw [hp.1]
  replace hG := gw_nm hp.2.symm hG
  have hhi := hhd i hi
  refine gw_get hx hb hT i_Hand hown hK hG hhi rfl 3 (by decide) (hT _ wm_469) (fun _ h => h) rfl d_Row_hurt_5 ?_
  exact gw_iret (v := ((S.2.2 i).2.2.2.1)) hx hb hr hlk hG (⟨rfl, rfl⟩) (Nat.le_of_ble_eq_true rfl) (Nat.le_of_ble_eq_true rfl) d_Row_hurt_8
set_option maxHeartbeats 4000000 in
set_option maxRecDepth 100000 in
theorem c_Row_lost (l : Launch) (E : Nat) (D : va_G) (cI cO cZ : ClassId) (z0 : Nat) (M : gM) {o n : Nat} {day : Int32} {S : gS} {Z ad bn : Nat → Nat} (hf : gw_fa z0 cO M o n day S Z ad bn) {i : Nat} (hi : i < n) : Met l y_Row_lost (Cond.code y_Row_lost b_Row_lost 2 (some .int) :: gT) ({ frames := 4, cells := 0, slots := 0, locals := 85 }) (gw_Pc E D cI cO cZ z0 M [.ref o, .int (nI i)]) (gw_Qi E D (fun r M' => r = (S.2.2 i).2.2.2.2.1 ∧ M' = M)) 0 0 (gw_A E) := by
  refine gw_ofW (cc := b_Row_lost) (maxL := 2) (ret := (some .int)) (by decide) rfl (Nat.le_of_ble_eq_true rfl) ?_
  intro p e s m args below meth c hx hb hr hml hts hown hlk hnm hF hG ls hl
  have hT : ∀ w ∈ gT, w.before args s = true := fun w h => hts w (List.mem_cons_of_mem _ h)
  have hK := hF.1
  have hl : lv_has ls 2 [(0, .ref o), (1, .int (nI i))] := hl
  obtain ⟨hro, hLh, hLl, hLb, hbn, hgg, hLg, hdr, hlg, hhd, had, hord, hoi, hne, har⟩ := id hf
  obtain ⟨kh, hhl, h10, -⟩ := id hLh
  have hz0 := gw_z0 hF hG
  refine lv_aload_n hx hb d_Row_lost_0 rfl (lv_at hl 0 rfl) ?_
  refine lv_iload_n hx hb d_Row_lost_1 rfl (lv_at hl 1 rfl) ?_
  refine gw_callq (gw_runV (As := [.int (nI i)]) (rest := []) ⟨hx, hb, hml, hown, hts⟩ (c_Row_handAt l E D cI cO cZ z0 M hf hi) (gw_cwV 1 hts (gT_gi wm_539) rfl rfl rfl (hT _ wm_23) (hT _ wm_536) (hT _ wm_538) (hT _ wm_10) (by decide +kernel) ⟨Nat.le_of_ble_eq_true rfl, Nat.le_of_ble_eq_true rfl⟩) hF hG rfl hro rfl hl.1 rfl (Nat.le_of_ble_eq_true rfl) d_Row_lost_2 ⟨Nat.le_of_ble_eq_true rfl, Nat.le_of_ble_eq_true rfl⟩) hG (fun r M1 H locs hp hG => ?_)
  rw [hp.1]
  replace hG := gw_nm hp.2.symm hG
  have hhi := hhd i hi
  refine gw_get hx hb hT i_Hand hown hK hG hhi rfl 4 (by decide) (hT _ wm_473) (fun _ h => h) rfl d_Row_lost_5 ?_
  exact gw_iret (v := ((S.2.2 i).2.2.2.2.1)) hx hb hr hlk hG (⟨rfl, rfl⟩) (Nat.le_of_ble_eq_true rfl) (Nat.le_of_ble_eq_true rfl) d_Row_lost_8
set_option maxHeartbeats 4000000 in
set_option maxRecDepth 100000 in
theorem c_Row_placeOf (l : Launch) (E : Nat) (D : va_G) (cI cO cZ : ClassId) (z0 : Nat) (M : gM) {o n : Nat} {day : Int32} {S : gS} {Z ad bn : Nat → Nat} (hf : gw_fa z0 cO M o n day S Z ad bn) {i J : Nat} (hi : i < n) (hJ1 : J ≤ S.1) (hJ2 : ∀ p, p < J → S.2.1 p ≠ i) (hJ3 : J < S.1 → S.2.1 J = i) : Met l y_Row_placeOf (Cond.code y_Row_placeOf b_Row_placeOf 2 (some .int) :: gT) ({ frames := 4, cells := 0, slots := 0, locals := 86 }) (gw_Pc E D cI cO cZ z0 M [.ref o, .int (nI i)]) (gw_Qi E D (fun r M' => r = (if J < S.1 then nI J else -1) ∧ M' = M)) 0 0 (gw_A E) := by
  refine gw_ofW (cc := b_Row_placeOf) (maxL := 2) (ret := (some .int)) (by decide) rfl (Nat.le_of_ble_eq_true rfl) ?_
  intro p e s m args below meth c hx hb hr hml hts hown hlk hnm hF hG ls hl
  have hT : ∀ w ∈ gT, w.before args s = true := fun w h => hts w (List.mem_cons_of_mem _ h)
  have hK := hF.1
  have hl : lv_has ls 2 [(0, .ref o), (1, .int (nI i))] := hl
  obtain ⟨hro, hLh, hLl, hLb, hbn, hgg, hLg, hdr, hlg, hhd, had, hord, hoi, hne, har⟩ := id hf
  obtain ⟨kh, hhl, h10, -⟩ := id hLh
  have hz0 := gw_z0 hF hG
  refine lv_aload_n hx hb d_Row_placeOf_0 rfl (lv_at hl 0 rfl) ?_
  refine gw_get hx hb hT i_Row hown hK hG hro rfl 3 (by decide) (hT _ wm_239) (fun _ h => h) rfl d_Row_placeOf_1 ?_
  refine lv_aload_n hx hb d_Row_placeOf_4 rfl (lv_at hl 0 rfl) ?_
  refine lv_iload_n hx hb d_Row_placeOf_5 rfl (lv_at hl 1 rfl) ?_
  refine gw_callq (gw_runV (As := [.int (nI i)]) (rest := [.ref (Z 5)]) ⟨hx, hb, hml, hown, hts⟩ (c_Row_handAt l E D cI cO cZ z0 M hf hi) (gw_cwV 1 hts (gT_gi wm_539) rfl rfl rfl (hT _ wm_23) (hT _ wm_536) (hT _ wm_538) (hT _ wm_10) (by decide +kernel) ⟨Nat.le_of_ble_eq_true rfl, Nat.le_of_ble_eq_true rfl⟩) hF hG rfl hro rfl hl.1 rfl (Nat.le_of_ble_eq_true rfl) d_Row_placeOf_6 ⟨Nat.le_of_ble_eq_true rfl, Nat.le_of_ble_eq_true rfl⟩) hG (fun r M1 H locs hp hG => ?_)
  rw [hp.1]
  replace hG := gw_nm hp.2.symm hG
  have hhi := hhd i hi
  refine gw_calli (gw_runV (As := [.ref (ad i)]) (rest := []) ⟨hx, hb, hml, hown, hts⟩ (c_Gang_placeFor l E D cI cO cZ z0 M hf.gg (h := ad i) (J := J) hJ1 (fun p hp z => hJ2 p hp (had _ _ (hord p (by omega)) hi z)) (fun h => congrArg ad (hJ3 h))) (gw_cwV 1 hts (gT_gi wm_556) rfl rfl rfl (hT _ wm_27) (hT _ wm_553) (hT _ wm_554) (hT _ wm_555) (by decide +kernel) ⟨Nat.le_of_ble_eq_true rfl, Nat.le_of_ble_eq_true rfl⟩) hF hG rfl hgg rfl hl.1 rfl (Nat.le_of_ble_eq_true rfl) d_Row_placeOf_9 ⟨Nat.le_of_ble_eq_true rfl, Nat.le_of_ble_eq_true rfl⟩) hG (fun r M2 H locs hp hG => ?_)
  rw [hp.1]
  replace hG := gw_nm hp.2.symm hG
  exact gw_iret (v := (if J < S.1 then nI J else -1)) hx hb hr hlk hG (⟨rfl, rfl⟩) (Nat.le_of_ble_eq_true rfl) (Nat.le_of_ble_eq_true rfl) d_Row_placeOf_12
set_option maxHeartbeats 4000000 in
set_option maxRecDepth 100000 in
theorem c_Row_placeOf_x (l : Launch) (E : Nat) (D : va_G) (cI cO cZ : ClassId) (z0 : Nat) (M : gM) (hst : l.stackTraces = false) {o n : Nat} {day : Int32} {S : gS} {Z ad bn : Nat → Nat} (hf : gw_fa z0 cO M o n day S Z ad bn) {i : Nat} (hi : n ≤ i) (hi2 : i < 2 ^ 31) : vx_Met l y_Row_placeOf (Cond.code y_Row_placeOf b_Row_placeOf 2 (some .int) :: gT) ({ frames := 7, cells := 1, slots := 6, locals := 103 }) (gw_Pc E D cI cO cZ z0 M [.ref o, .int (nI i)]) (gw_Qi E D (fun _ _ => False)) (gw_XC E D "java/lang/IndexOutOfBoundsException" M) 1 6 (gw_A E) := by
  refine gw_ofX (cc := b_Row_placeOf) (maxL := 2) (ret := (some .int)) (by decide) rfl (Nat.le_of_ble_eq_true rfl) ?_
  intro p e s m args below meth c hx hb hr hml hts hown hlk hnt hF hG ls hl
  have hT : ∀ w ∈ gT, w.before args s = true := fun w h => hts w (List.mem_cons_of_mem _ h)
  have hK := hF.1
  have hl : lv_has ls 2 [(0, .ref o), (1, .int (nI i))] := hl
  obtain ⟨hro, hLh, hLl, hLb, hbn, hgg, hLg, hdr, hlg, hhd, had, hord, hoi, hne, har⟩ := id hf
  obtain ⟨kh, hhl, h10, -⟩ := id hLh
  have hz0 := gw_z0 hF hG
  refine lv_aload_n hx hb d_Row_placeOf_0 rfl (lv_at hl 0 rfl) ?_
  refine gw_get hx hb hT i_Row hown hK hG hro rfl 3 (by decide) (hT _ wm_239) (fun _ h => h) rfl d_Row_placeOf_1 ?_
  refine lv_aload_n hx hb d_Row_placeOf_4 rfl (lv_at hl 0 rfl) ?_
  refine lv_iload_n hx hb d_Row_placeOf_5 rfl (lv_at hl 1 rfl) ?_
  refine gw_xcallq (cls := "java/lang/IndexOutOfBoundsException") (gw_xrunV (As := [.int (nI i)]) (rest := [.ref (Z 5)]) ⟨hx, hb, hml, hown, hts⟩ (c_Row_handAt_x l E D cI cO cZ z0 M hst hf hi hi2) (gw_cwV 1 hts (gT_gi wm_539) rfl rfl rfl (hT _ wm_23) (hT _ wm_536) (hT _ wm_538) (hT _ wm_10) (by decide +kernel) ⟨Nat.le_of_ble_eq_true rfl, Nat.le_of_ble_eq_true rfl⟩) hF hG rfl hro rfl hl.1 rfl (Nat.le_of_ble_eq_true rfl) d_Row_placeOf_6 ⟨Nat.le_of_ble_eq_true rfl, Nat.le_of_ble_eq_true rfl⟩) hG (fun ce q H locs hG hq1 hq2 hq3 => ?_)
  exact gw_xout hnt hlk hG hq1 hq2 hq3 (Nat.le_of_ble_eq_true rfl) (Nat.le_of_ble_eq_true rfl)
set_option maxHeartbeats 4000000 in
set_option maxRecDepth 100000 in
theorem c_Row_placeNeeded (l : Launch) (E : Nat) (D : va_G) (cI cO cZ : ClassId) (z0 : Nat) (M : gM) {o n : Nat} {day : Int32} {S : gS} {Z ad bn : Nat → Nat} (hf : gw_fa z0 cO M o n day S Z ad bn) {i J : Nat} (hi : i < n) (hJ1 : J ≤ S.1) (hJ2 : ∀ p, p < J → S.2.1 p ≠ i) (hJ3 : J < S.1 → S.2.1 J = i) (hJ : J < S.1) : Met l y_Row_placeNeeded (Cond.code y_Row_placeNeeded b_Row_placeNeeded 3 (some .int) :: gT) ({ frames := 4, cells := 0, slots := 0, locals := 86 }) (gw_Pc E D cI cO cZ z0 M [.ref o, .ref (ad i)]) (gw_Qi E D (fun r M' => r = nI J ∧ M' = M)) 0 0 (gw_A E) := by
  refine gw_ofW (cc := b_Row_placeNeeded) (maxL := 3) (ret := (some .int)) (by decide) rfl (Nat.le_of_ble_eq_true rfl) ?_
  intro p e s m args below meth c hx hb hr hml hts hown hlk hnm hF hG ls hl
  have hT : ∀ w ∈ gT, w.before args s = true := fun w h => hts w (List.mem_cons_of_mem _ h)
  have hK := hF.1
  have hl : lv_has ls 3 [(0, .ref o), (1, .ref (ad i))] := hl
  obtain ⟨hro, hLh, hLl, hLb, hbn, hgg, hLg, hdr, hlg, hhd, had, hord, hoi, hne, har⟩ := id hf
  obtain ⟨kh, hhl, h10, -⟩ := id hLh
  have hz0 := gw_z0 hF hG
  refine lv_aload_n hx hb d_Row_placeNeeded_0 rfl (lv_at hl 0 rfl) ?_
  refine gw_get hx hb hT i_Row hown hK hG hro rfl 3 (by decide) (hT _ wm_239) (fun _ h => h) rfl d_Row_placeNeeded_1 ?_
  refine lv_aload_n hx hb d_Row_placeNeeded_4 rfl (lv_at hl 1 rfl) ?_
  refine gw_calli (gw_runV (As := [.ref (ad i)]) (rest := []) ⟨hx, hb, hml, hown, hts⟩ (c_Gang_placeFor l E D cI cO cZ z0 M hf.gg (h := ad i) (J := J) hJ1 (fun p hp z => hJ2 p hp (had _ _ (hord p (by omega)) hi z)) (fun h => congrArg ad (hJ3 h))) (gw_cwV 1 hts (gT_gi wm_556) rfl rfl rfl (hT _ wm_27) (hT _ wm_553) (hT _ wm_554) (hT _ wm_555) (by decide +kernel) ⟨Nat.le_of_ble_eq_true rfl, Nat.le_of_ble_eq_true rfl⟩) hF hG rfl hgg rfl hl.1 rfl (Nat.le_of_ble_eq_true rfl) d_Row_placeNeeded_5 ⟨Nat.le_of_ble_eq_true rfl, Nat.le_of_ble_eq_true rfl⟩) hG (fun r M1 H locs hp hG => ?_)
  rw [hp.1]
  replace hG := gw_nm hp.2.symm hG
  rw [if_pos hJ]
  refine lv_istore_n (lv' := [(2, .int (nI J)), (0, .ref o), (1, .ref (ad i))]) hx hb d_Row_placeNeeded_8 rfl hl (by decide) rfl (fun ls hl => ?_)
  refine lv_iload_n hx hb d_Row_placeNeeded_9 rfl (lv_at hl 0 rfl) ?_
  refine lv_if_ge (tgt := 23) hx hb d_Row_placeNeeded_10 (by decide) (fun c_10 => ?_) (fun z_ => absurd (nI_pos' (by have := hLg.choose_spec.2.1; omega)) z_)
  refine lv_iload_n hx hb d_Row_placeNeeded_23 rfl (lv_at hl 0 rfl) ?_
  exact gw_iret (v := (nI J)) hx hb hr hlk hG (⟨rfl, rfl⟩) (Nat.le_of_ble_eq_true rfl) (Nat.le_of_ble_eq_true rfl) d_Row_placeNeeded_24
set_option maxHeartbeats 4000000 in
set_option maxRecDepth 100000 in
theorem c_Row_placeNeeded_x (l : Launch) (E : Nat) (D : va_G) (cI cO cZ : ClassId) (z0 : Nat) (M : gM) (hst : l.stackTraces = false) {o n : Nat} {day : Int32} {S : gS} {Z ad bn : Nat → Nat} (hf : gw_fa z0 cO M o n day S Z ad bn) {i J : Nat} (hi : i < n) (hJ1 : J ≤ S.1) (hJ2 : ∀ p, p < J → S.2.1 p ≠ i) (hJ3 : J < S.1 → S.2.1 J = i) (hJ : ¬ J < S.1) : vx_Met l y_Row_placeNeeded (Cond.code y_Row_placeNeeded b_Row_placeNeeded 3 (some .int) :: gT) ({ frames := 6, cells := 1, slots := 6, locals := 86 }) (gw_Pc E D cI cO cZ z0 M [.ref o, .ref (ad i)]) (gw_Qi E D (fun _ _ => False)) (gw_XC E D "java/util/NoSuchElementException" M) 1 6 (gw_A E) := by
  refine gw_ofX (cc := b_Row_placeNeeded) (maxL := 3) (ret := (some .int)) (by decide) rfl (Nat.le_of_ble_eq_true rfl) ?_
  intro p e s m args below meth c hx hb hr hml hts hown hlk hnt hF hG ls hl
  have hT : ∀ w ∈ gT, w.before args s = true := fun w h => hts w (List.mem_cons_of_mem _ h)
  have hK := hF.1
  have hl : lv_has ls 3 [(0, .ref o), (1, .ref (ad i))] := hl
  obtain ⟨hro, hLh, hLl, hLb, hbn, hgg, hLg, hdr, hlg, hhd, had, hord, hoi, hne, har⟩ := id hf
  obtain ⟨kh, hhl, h10, -⟩ := id hLh
  have hz0 := gw_z0 hF hG
  refine lv_aload_n hx hb d_Row_placeNeeded_0 rfl (lv_at hl 0 rfl) ?_
  refine gw_get hx hb hT i_Row hown hK hG hro rfl 3 (by decide) (hT _ wm_239) (fun _ h => h) rfl d_Row_placeNeeded_1 ?_
  refine lv_aload_n hx hb d_Row_placeNeeded_4 rfl (lv_at hl 1 rfl) ?_
  refine gw_calli (gw_runV (As := [.ref (ad i)]) (rest := []) ⟨hx, hb, hml, hown, hts⟩ (c_Gang_placeFor l E D cI cO cZ z0 M hf.gg (h := ad i) (J := J) hJ1 (fun p hp z => hJ2 p hp (had _ _ (hord p (by omega)) hi z)) (fun h => congrArg ad (hJ3 h))) (gw_cwV 1 hts (gT_gi wm_556) rfl rfl rfl (hT _ wm_27) (hT _ wm_553) (hT _ wm_554) (hT _ wm_555) (by decide +kernel) ⟨Nat.le_of_ble_eq_true rfl, Nat.le_of_ble_eq_true rfl⟩) hF hG rfl hgg rfl hl.1 rfl (Nat.le_of_ble_eq_true rfl) d_Row_placeNeeded_5 ⟨Nat.le_of_ble_eq_true rfl, Nat.le_of_ble_eq_true rfl⟩) hG (fun r M1 H locs hp hG => ?_)
  rw [hp.1]
  replace hG := gw_nm hp.2.symm hG
  rw [if_neg hJ]
  refine lv_istore_n (lv' := [(2, .int (-1)), (0, .ref o), (1, .ref (ad i))]) hx hb d_Row_placeNeeded_8 rfl hl (by decide) rfl (fun ls hl => ?_)
  refine lv_iload_n hx hb d_Row_placeNeeded_9 rfl (lv_at hl 0 rfl) ?_
  refine lv_if_ge (tgt := 23) hx hb d_Row_placeNeeded_10 (by decide) (fun z_ => absurd z_ (by decide)) (fun c_10 => ?_)
  exact gw_thrN (cls := "java/util/NoSuchElementException") (text := "the hand does not stand in the gang") hx hb hst hown (by decide) (hT _ wm_625) (hT _ wm_47) (by decide) hT (by decide +kernel) (by decide +kernel) hF hG (hl.1.trans hml.symm) d_Row_placeNeeded_13 d_Row_placeNeeded_16 d_Row_placeNeeded_17 d_Row_placeNeeded_19 d_Row_placeNeeded_22 hnt (Nat.le_of_ble_eq_true rfl) (Nat.le_of_ble_eq_true rfl) (Nat.le_of_ble_eq_true rfl) (Nat.le_of_ble_eq_true rfl) hlk (Nat.le_of_ble_eq_true rfl) (Nat.le_of_ble_eq_true rfl)
set_option maxHeartbeats 4000000 in
set_option maxRecDepth 100000 in
theorem c_Row_errorOf (l : Launch) (E : Nat) (D : va_G) (cI cO cZ : ClassId) (z0 : Nat) (M : gM) {o n : Nat} {day : Int32} {S : gS} {Z ad bn : Nat → Nat} (hf : gw_fa z0 cO M o n day S Z ad bn) {i J : Nat} (hi : i < n) (hJ1 : J ≤ S.1) (hJ2 : ∀ p, p < J → S.2.1 p ≠ i) (hJ3 : J < S.1 → S.2.1 J = i) (hJ : J < S.1) : Met l y_Row_errorOf (Cond.code y_Row_errorOf b_Row_errorOf 3 (some .int) :: gT) ({ frames := 5, cells := 0, slots := 0, locals := 108 }) (gw_Pc E D cI cO cZ z0 M [.ref o, .int (nI i)]) (gw_Qi E D (fun r M' => r = (S.2.2 i).2.2.2.2.2 ∧ M' = M)) 0 0 (gw_A E) := by
  refine gw_ofW (cc := b_Row_errorOf) (maxL := 3) (ret := (some .int)) (by decide) rfl (Nat.le_of_ble_eq_true rfl) ?_
  intro p e s m args below meth c hx hb hr hml hts hown hlk hnm hF hG ls hl
  have hT : ∀ w ∈ gT, w.before args s = true := fun w h => hts w (List.mem_cons_of_mem _ h)
  have hK := hF.1
  have hl : lv_has ls 3 [(0, .ref o), (1, .int (nI i))] := hl
  obtain ⟨hro, hLh, hLl, hLb, hbn, hgg, hLg, hdr, hlg, hhd, had, hord, hoi, hne, har⟩ := id hf
  obtain ⟨kh, hhl, h10, -⟩ := id hLh
  have hz0 := gw_z0 hF hG
  refine lv_aload_n hx hb d_Row_errorOf_0 rfl (lv_at hl 0 rfl) ?_
  refine lv_iload_n hx hb d_Row_errorOf_1 rfl (lv_at hl 1 rfl) ?_
  refine gw_callq (gw_runV (As := [.int (nI i)]) (rest := []) ⟨hx, hb, hml, hown, hts⟩ (c_Row_handAt l E D cI cO cZ z0 M hf hi) (gw_cwV 1 hts (gT_gi wm_539) rfl rfl rfl (hT _ wm_23) (hT _ wm_536) (hT _ wm_538) (hT _ wm_10) (by decide +kernel) ⟨Nat.le_of_ble_eq_true rfl, Nat.le_of_ble_eq_true rfl⟩) hF hG rfl hro rfl hl.1 rfl (Nat.le_of_ble_eq_true rfl) d_Row_errorOf_2 ⟨Nat.le_of_ble_eq_true rfl, Nat.le_of_ble_eq_true rfl⟩) hG (fun r M1 H locs hp hG => ?_)
  rw [hp.1]
  replace hG := gw_nm hp.2.symm hG
  have hhi := hhd i hi
  refine lv_astore_n (lv' := [(2, .ref (ad i)), (0, .ref o), (1, .int (nI i))]) hx hb d_Row_errorOf_5 rfl hl (by decide) rfl (fun ls hl => ?_)
  refine lv_aload_n hx hb d_Row_errorOf_6 rfl (lv_at hl 1 rfl) ?_
  refine lv_aload_n hx hb d_Row_errorOf_7 rfl (lv_at hl 0 rfl) ?_
  refine gw_calli (gw_runV (As := [.ref (ad i)]) (rest := []) ⟨hx, hb, hml, hown, hts⟩ (c_Row_placeNeeded l E D cI cO cZ z0 M hf hi hJ1 hJ2 hJ3 hJ) (gw_cwV 1 hts (gT_gi wm_624) rfl rfl rfl (hT _ wm_23) (hT _ wm_621) (hT _ wm_623) (hT _ wm_12) (by decide +kernel) ⟨Nat.le_of_ble_eq_true rfl, Nat.le_of_ble_eq_true rfl⟩) hF hG rfl hro rfl hl.1 rfl (Nat.le_of_ble_eq_true rfl) d_Row_errorOf_8 ⟨Nat.le_of_ble_eq_true rfl, Nat.le_of_ble_eq_true rfl⟩) hG (fun r M2 H locs hp hG => ?_)
  rw [hp.1]
  replace hG := gw_nm hp.2.symm hG
  refine lv_pop hx hb d_Row_errorOf_11 rfl ?_
  refine lv_aload_n hx hb d_Row_errorOf_12 rfl (lv_at hl 0 rfl) ?_
  refine gw_get hx hb hT i_Hand hown hK hG hhi rfl 5 (by decide) (hT _ wm_476) (fun _ h => h) rfl d_Row_errorOf_13 ?_
  exact gw_iret (v := ((S.2.2 i).2.2.2.2.2)) hx hb hr hlk hG (⟨rfl, rfl⟩) (Nat.le_of_ble_eq_true rfl) (Nat.le_of_ble_eq_true rfl) d_Row_errorOf_16
set_option maxHeartbeats 4000000 in
set_option maxRecDepth 100000 in
theorem c_Row_errorOf_x (l : Launch) (E : Nat) (D : va_G) (cI cO cZ : ClassId) (z0 : Nat) (M : gM) (hst : l.stackTraces = false) {o n : Nat} {day : Int32} {S : gS} {Z ad bn : Nat → Nat} (hf : gw_fa z0 cO M o n day S Z ad bn) {i J : Nat} (hi : i < n) (hJ1 : J ≤ S.1) (hJ2 : ∀ p, p < J → S.2.1 p ≠ i) (hJ3 : J < S.1 → S.2.1 J = i) (hJ : ¬ J < S.1) : vx_Met l y_Row_errorOf (Cond.code y_Row_errorOf b_Row_errorOf 3 (some .int) :: gT) ({ frames := 7, cells := 1, slots := 6, locals := 108 }) (gw_Pc E D cI cO cZ z0 M [.ref o, .int (nI i)]) (gw_Qi E D (fun _ _ => False)) (gw_XC E D "java/util/NoSuchElementException" M) 1 6 (gw_A E) := by
  refine gw_ofX (cc := b_Row_errorOf) (maxL := 3) (ret := (some .int)) (by decide) rfl (Nat.le_of_ble_eq_true rfl) ?_
  intro p e s m args below meth c hx hb hr hml hts hown hlk hnt hF hG ls hl
  have hT : ∀ w ∈ gT, w.before args s = true := fun w h => hts w (List.mem_cons_of_mem _ h)
  have hK := hF.1
  have hl : lv_has ls 3 [(0, .ref o), (1, .int (nI i))] := hl
  obtain ⟨hro, hLh, hLl, hLb, hbn, hgg, hLg, hdr, hlg, hhd, had, hord, hoi, hne, har⟩ := id hf
  obtain ⟨kh, hhl, h10, -⟩ := id hLh
  have hz0 := gw_z0 hF hG
  refine lv_aload_n hx hb d_Row_errorOf_0 rfl (lv_at hl 0 rfl) ?_
  refine lv_iload_n hx hb d_Row_errorOf_1 rfl (lv_at hl 1 rfl) ?_
  refine gw_callq (gw_runV (As := [.int (nI i)]) (rest := []) ⟨hx, hb, hml, hown, hts⟩ (c_Row_handAt l E D cI cO cZ z0 M hf hi) (gw_cwV 1 hts (gT_gi wm_539) rfl rfl rfl (hT _ wm_23) (hT _ wm_536) (hT _ wm_538) (hT _ wm_10) (by decide +kernel) ⟨Nat.le_of_ble_eq_true rfl, Nat.le_of_ble_eq_true rfl⟩) hF hG rfl hro rfl hl.1 rfl (Nat.le_of_ble_eq_true rfl) d_Row_errorOf_2 ⟨Nat.le_of_ble_eq_true rfl, Nat.le_of_ble_eq_true rfl⟩) hG (fun r M1 H locs hp hG => ?_)
  rw [hp.1]
  replace hG := gw_nm hp.2.symm hG
  have hhi := hhd i hi
  refine lv_astore_n (lv' := [(2, .ref (ad i)), (0, .ref o), (1, .int (nI i))]) hx hb d_Row_errorOf_5 rfl hl (by decide) rfl (fun ls hl => ?_)
  refine lv_aload_n hx hb d_Row_errorOf_6 rfl (lv_at hl 1 rfl) ?_
  refine lv_aload_n hx hb d_Row_errorOf_7 rfl (lv_at hl 0 rfl) ?_
  refine gw_xcalli (cls := "java/util/NoSuchElementException") (gw_xrunV (As := [.ref (ad i)]) (rest := []) ⟨hx, hb, hml, hown, hts⟩ (c_Row_placeNeeded_x l E D cI cO cZ z0 M hst hf hi hJ1 hJ2 hJ3 hJ) (gw_cwV 1 hts (gT_gi wm_624) rfl rfl rfl (hT _ wm_23) (hT _ wm_621) (hT _ wm_623) (hT _ wm_12) (by decide +kernel) ⟨Nat.le_of_ble_eq_true rfl, Nat.le_of_ble_eq_true rfl⟩) hF hG rfl hro rfl hl.1 rfl (Nat.le_of_ble_eq_true rfl) d_Row_errorOf_8 ⟨Nat.le_of_ble_eq_true rfl, Nat.le_of_ble_eq_true rfl⟩) hG (fun ce q H locs hG hq1 hq2 hq3 => ?_)
  exact gw_xout hnt hlk hG hq1 hq2 hq3 (Nat.le_of_ble_eq_true rfl) (Nat.le_of_ble_eq_true rfl)
set_option maxHeartbeats 4000000 in
set_option maxRecDepth 100000 in
theorem c_Row_strokeOf (l : Launch) (E : Nat) (D : va_G) (cI cO cZ : ClassId) (z0 : Nat) (M : gM) {o n : Nat} {day : Int32} {S : gS} {Z ad bn : Nat → Nat} (hf : gw_fa z0 cO M o n day S Z ad bn) {i J : Nat} (hi : i < n) (hJ1 : J ≤ S.1) (hJ2 : ∀ p, p < J → S.2.1 p ≠ i) (hJ3 : J < S.1 → S.2.1 J = i) (hJ : J < S.1) : Met l y_Row_strokeOf (Cond.code y_Row_strokeOf b_Row_strokeOf 2 (some .int) :: gT) ({ frames := 5, cells := 0, slots := 0, locals := 108 }) (gw_Pc E D cI cO cZ z0 M [.ref o, .int (nI i)]) (gw_Qi E D (fun r M' => r = p_tick S.1 (fun p => S.2.2 (S.2.1 p)) J ∧ M' = M)) 0 0 (gw_A E) := by
  refine gw_ofW (cc := b_Row_strokeOf) (maxL := 2) (ret := (some .int)) (by decide) rfl (Nat.le_of_ble_eq_true rfl) ?_
  intro p e s m args below meth c hx hb hr hml hts hown hlk hnm hF hG ls hl
  have hT : ∀ w ∈ gT, w.before args s = true := fun w h => hts w (List.mem_cons_of_mem _ h)
  have hK := hF.1
  have hl : lv_has ls 2 [(0, .ref o), (1, .int (nI i))] := hl
  obtain ⟨hro, hLh, hLl, hLb, hbn, hgg, hLg, hdr, hlg, hhd, had, hord, hoi, hne, har⟩ := id hf
  obtain ⟨kh, hhl, h10, -⟩ := id hLh
  have hz0 := gw_z0 hF hG
  refine lv_aload_n hx hb d_Row_strokeOf_0 rfl (lv_at hl 0 rfl) ?_
  refine gw_get hx hb hT i_Row hown hK hG hro rfl 3 (by decide) (hT _ wm_239) (fun _ h => h) rfl d_Row_strokeOf_1 ?_
  refine lv_aload_n hx hb d_Row_strokeOf_4 rfl (lv_at hl 0 rfl) ?_
  refine lv_aload_n hx hb d_Row_strokeOf_5 rfl (lv_at hl 0 rfl) ?_
  refine lv_iload_n hx hb d_Row_strokeOf_6 rfl (lv_at hl 1 rfl) ?_
  refine gw_callq (gw_runV (As := [.int (nI i)]) (rest := [.ref o, .ref (Z 5)]) ⟨hx, hb, hml, hown, hts⟩ (c_Row_handAt l E D cI cO cZ z0 M hf hi) (gw_cwV 1 hts (gT_gi wm_539) rfl rfl rfl (hT _ wm_23) (hT _ wm_536) (hT _ wm_538) (hT _ wm_10) (by decide +kernel) ⟨Nat.le_of_ble_eq_true rfl, Nat.le_of_ble_eq_true rfl⟩) hF hG rfl hro rfl hl.1 rfl (Nat.le_of_ble_eq_true rfl) d_Row_strokeOf_7 ⟨Nat.le_of_ble_eq_true rfl, Nat.le_of_ble_eq_true rfl⟩) hG (fun r M1 H locs hp hG => ?_)
  rw [hp.1]
  replace hG := gw_nm hp.2.symm hG
  have hhi := hhd i hi
  refine gw_calli (gw_runV (As := [.ref (ad i)]) (rest := [.ref (Z 5)]) ⟨hx, hb, hml, hown, hts⟩ (c_Row_placeNeeded l E D cI cO cZ z0 M hf hi hJ1 hJ2 hJ3 hJ) (gw_cwV 1 hts (gT_gi wm_624) rfl rfl rfl (hT _ wm_23) (hT _ wm_621) (hT _ wm_623) (hT _ wm_12) (by decide +kernel) ⟨Nat.le_of_ble_eq_true rfl, Nat.le_of_ble_eq_true rfl⟩) hF hG rfl hro rfl hl.1 rfl (Nat.le_of_ble_eq_true rfl) d_Row_strokeOf_10 ⟨Nat.le_of_ble_eq_true rfl, Nat.le_of_ble_eq_true rfl⟩) hG (fun r M2 H locs hp hG => ?_)
  rw [hp.1]
  replace hG := gw_nm hp.2.symm hG
  refine gw_calli (gw_runV (As := [.int (nI J)]) (rest := []) ⟨hx, hb, hml, hown, hts⟩ (c_Gang_tickAt l E D cI cO cZ z0 M hf.gg (i := J) hJ) (gw_cwV 1 hts (gT_gi wm_650) rfl rfl rfl (hT _ wm_27) (hT _ wm_647) (hT _ wm_648) (hT _ wm_649) (by decide +kernel) ⟨Nat.le_of_ble_eq_true rfl, Nat.le_of_ble_eq_true rfl⟩) hF hG rfl hgg rfl hl.1 rfl (Nat.le_of_ble_eq_true rfl) d_Row_strokeOf_13 ⟨Nat.le_of_ble_eq_true rfl, Nat.le_of_ble_eq_true rfl⟩) hG (fun r M3 H locs hp hG => ?_)
  rw [hp.1]
  replace hG := gw_nm hp.2.symm hG
  exact gw_iret (v := (p_tick S.1 (fun p => S.2.2 (S.2.1 p)) J)) hx hb hr hlk hG (⟨rfl, rfl⟩) (Nat.le_of_ble_eq_true rfl) (Nat.le_of_ble_eq_true rfl) d_Row_strokeOf_16
set_option maxHeartbeats 4000000 in
set_option maxRecDepth 100000 in
theorem c_Row_strokeOf_x (l : Launch) (E : Nat) (D : va_G) (cI cO cZ : ClassId) (z0 : Nat) (M : gM) (hst : l.stackTraces = false) {o n : Nat} {day : Int32} {S : gS} {Z ad bn : Nat → Nat} (hf : gw_fa z0 cO M o n day S Z ad bn) {i J : Nat} (hi : i < n) (hJ1 : J ≤ S.1) (hJ2 : ∀ p, p < J → S.2.1 p ≠ i) (hJ3 : J < S.1 → S.2.1 J = i) (hJ : ¬ J < S.1) : vx_Met l y_Row_strokeOf (Cond.code y_Row_strokeOf b_Row_strokeOf 2 (some .int) :: gT) ({ frames := 7, cells := 1, slots := 6, locals := 108 }) (gw_Pc E D cI cO cZ z0 M [.ref o, .int (nI i)]) (gw_Qi E D (fun _ _ => False)) (gw_XC E D "java/util/NoSuchElementException" M) 1 6 (gw_A E) := by
  refine gw_ofX (cc := b_Row_strokeOf) (maxL := 2) (ret := (some .int)) (by decide) rfl (Nat.le_of_ble_eq_true rfl) ?_
  intro p e s m args below meth c hx hb hr hml hts hown hlk hnt hF hG ls hl
  have hT : ∀ w ∈ gT, w.before args s = true := fun w h => hts w (List.mem_cons_of_mem _ h)
  have hK := hF.1
  have hl : lv_has ls 2 [(0, .ref o), (1, .int (nI i))] := hl
  obtain ⟨hro, hLh, hLl, hLb, hbn, hgg, hLg, hdr, hlg, hhd, had, hord, hoi, hne, har⟩ := id hf
  obtain ⟨kh, hhl, h10, -⟩ := id hLh
  have hz0 := gw_z0 hF hG
  refine lv_aload_n hx hb d_Row_strokeOf_0 rfl (lv_at hl 0 rfl) ?_
  refine gw_get hx hb hT i_Row hown hK hG hro rfl 3 (by decide) (hT _ wm_239) (fun _ h => h) rfl d_Row_strokeOf_1 ?_
  refine lv_aload_n hx hb d_Row_strokeOf_4 rfl (lv_at hl 0 rfl) ?_
  refine lv_aload_n hx hb d_Row_strokeOf_5 rfl (lv_at hl 0 rfl) ?_
  refine lv_iload_n hx hb d_Row_strokeOf_6 rfl (lv_at hl 1 rfl) ?_
  refine gw_callq (gw_runV (As := [.int (nI i)]) (rest := [.ref o, .ref (Z 5)]) ⟨hx, hb, hml, hown, hts⟩ (c_Row_handAt l E D cI cO cZ z0 M hf hi) (gw_cwV 1 hts (gT_gi wm_539) rfl rfl rfl (hT _ wm_23) (hT _ wm_536) (hT _ wm_538) (hT _ wm_10) (by decide +kernel) ⟨Nat.le_of_ble_eq_true rfl, Nat.le_of_ble_eq_true rfl⟩) hF hG rfl hro rfl hl.1 rfl (Nat.le_of_ble_eq_true rfl) d_Row_strokeOf_7 ⟨Nat.le_of_ble_eq_true rfl, Nat.le_of_ble_eq_true rfl⟩) hG (fun r M1 H locs hp hG => ?_)
  rw [hp.1]
  replace hG := gw_nm hp.2.symm hG
  have hhi := hhd i hi
  refine gw_xcalli (cls := "java/util/NoSuchElementException") (gw_xrunV (As := [.ref (ad i)]) (rest := [.ref (Z 5)]) ⟨hx, hb, hml, hown, hts⟩ (c_Row_placeNeeded_x l E D cI cO cZ z0 M hst hf hi hJ1 hJ2 hJ3 hJ) (gw_cwV 1 hts (gT_gi wm_624) rfl rfl rfl (hT _ wm_23) (hT _ wm_621) (hT _ wm_623) (hT _ wm_12) (by decide +kernel) ⟨Nat.le_of_ble_eq_true rfl, Nat.le_of_ble_eq_true rfl⟩) hF hG rfl hro rfl hl.1 rfl (Nat.le_of_ble_eq_true rfl) d_Row_strokeOf_10 ⟨Nat.le_of_ble_eq_true rfl, Nat.le_of_ble_eq_true rfl⟩) hG (fun ce q H locs hG hq1 hq2 hq3 => ?_)
  exact gw_xout hnt hlk hG hq1 hq2 hq3 (Nat.le_of_ble_eq_true rfl) (Nat.le_of_ble_eq_true rfl)
set_option maxHeartbeats 4000000 in
set_option maxRecDepth 100000 in
theorem c_Row_checkGang (l : Launch) (E : Nat) (D : va_G) (cI cO cZ : ClassId) (z0 : Nat) (M : gM) {o n : Nat} {day : Int32} {S : gS} {Z ad bn : Nat → Nat} (hf : gw_fa z0 cO M o n day S Z ad bn) (h2 : 2 ≤ S.1) : Met l y_Row_checkGang (Cond.code y_Row_checkGang b_Row_checkGang 1 none :: gT) ({ frames := 2, cells := 0, slots := 0, locals := 40 }) (gw_Pc E D cI cO cZ z0 M [.ref o]) (gw_Qv E D (fun M' => M' = M)) 0 0 (gw_A E) := by
  refine gw_ofW (cc := b_Row_checkGang) (maxL := 1) (ret := none) (by decide) rfl (Nat.le_of_ble_eq_true rfl) ?_
  intro p e s m args below meth c hx hb hr hml hts hown hlk hnm hF hG ls hl
  have hT : ∀ w ∈ gT, w.before args s = true := fun w h => hts w (List.mem_cons_of_mem _ h)
  have hK := hF.1
  have hl : lv_has ls 1 [(0, .ref o)] := hl
  obtain ⟨hro, hLh, hLl, hLb, hbn, hgg, hLg, hdr, hlg, hhd, had, hord, hoi, hne, har⟩ := id hf
  obtain ⟨kh, hhl, h10, -⟩ := id hLh
  have hz0 := gw_z0 hF hG
  have hS10 := hLg.choose_spec.2.1
  refine lv_aload_n hx hb d_Row_checkGang_0 rfl (lv_at hl 0 rfl) ?_
  refine gw_get hx hb hT i_Row hown hK hG hro rfl 3 (by decide) (hT _ wm_239) (fun _ h => h) rfl d_Row_checkGang_1 ?_
  refine gw_calli (gw_runV (As := []) (rest := []) ⟨hx, hb, hml, hown, hts⟩ (c_Gang_count l E D cI cO cZ z0 M hf.gg) (gw_cwV 0 hts (gT_gi wm_576) rfl rfl rfl (hT _ wm_27) (hT _ wm_573) (hT _ wm_574) (hT _ wm_575) (by decide +kernel) ⟨Nat.le_of_ble_eq_true rfl, Nat.le_of_ble_eq_true rfl⟩) hF hG rfl hgg rfl hl.1 rfl (Nat.le_of_ble_eq_true rfl) d_Row_checkGang_4 ⟨Nat.le_of_ble_eq_true rfl, Nat.le_of_ble_eq_true rfl⟩) hG (fun r M1 H locs hp hG => ?_)
  rw [hp.1]
  replace hG := gw_nm hp.2.symm hG
  refine lv_iconst (v := 2) hx hb d_Row_checkGang_7 (by decide) ?_
  refine lv_icmp_ge (tgt := 22) hx hb d_Row_checkGang_8 (by decide) (fun c_8 => ?_) (fun z_ => absurd (show nI 2 ≤ nI S.1 from nI_le h2 (by omega)) z_)
  exact gw_vret hx hb hr hlk hG (rfl) (Nat.le_of_ble_eq_true rfl) (Nat.le_of_ble_eq_true rfl) d_Row_checkGang_22
set_option maxHeartbeats 4000000 in
set_option maxRecDepth 100000 in
theorem c_Row_checkGang_x (l : Launch) (E : Nat) (D : va_G) (cI cO cZ : ClassId) (z0 : Nat) (M : gM) (hst : l.stackTraces = false) {o n : Nat} {day : Int32} {S : gS} {Z ad bn : Nat → Nat} (hf : gw_fa z0 cO M o n day S Z ad bn) (h2 : S.1 < 2) : vx_Met l y_Row_checkGang (Cond.code y_Row_checkGang b_Row_checkGang 1 none :: gT) ({ frames := 6, cells := 1, slots := 6, locals := 82 }) (gw_Pc E D cI cO cZ z0 M [.ref o]) (gw_Qv E D (fun _ => False)) (gw_XC E D "java/lang/UnsupportedOperationException" M) 1 6 (gw_A E) := by
  refine gw_ofX (cc := b_Row_checkGang) (maxL := 1) (ret := none) (by decide) rfl (Nat.le_of_ble_eq_true rfl) ?_
  intro p e s m args below meth c hx hb hr hml hts hown hlk hnt hF hG ls hl
  have hT : ∀ w ∈ gT, w.before args s = true := fun w h => hts w (List.mem_cons_of_mem _ h)
  have hK := hF.1
  have hl : lv_has ls 1 [(0, .ref o)] := hl
  obtain ⟨hro, hLh, hLl, hLb, hbn, hgg, hLg, hdr, hlg, hhd, had, hord, hoi, hne, har⟩ := id hf
  obtain ⟨kh, hhl, h10, -⟩ := id hLh
  have hz0 := gw_z0 hF hG
  refine lv_aload_n hx hb d_Row_checkGang_0 rfl (lv_at hl 0 rfl) ?_
  refine gw_get hx hb hT i_Row hown hK hG hro rfl 3 (by decide) (hT _ wm_239) (fun _ h => h) rfl d_Row_checkGang_1 ?_
  refine gw_calli (gw_runV (As := []) (rest := []) ⟨hx, hb, hml, hown, hts⟩ (c_Gang_count l E D cI cO cZ z0 M hf.gg) (gw_cwV 0 hts (gT_gi wm_576) rfl rfl rfl (hT _ wm_27) (hT _ wm_573) (hT _ wm_574) (hT _ wm_575) (by decide +kernel) ⟨Nat.le_of_ble_eq_true rfl, Nat.le_of_ble_eq_true rfl⟩) hF hG rfl hgg rfl hl.1 rfl (Nat.le_of_ble_eq_true rfl) d_Row_checkGang_4 ⟨Nat.le_of_ble_eq_true rfl, Nat.le_of_ble_eq_true rfl⟩) hG (fun r M1 H locs hp hG => ?_)
  rw [hp.1]
  replace hG := gw_nm hp.2.symm hG
  refine lv_iconst (v := 2) hx hb d_Row_checkGang_7 (by decide) ?_
  refine lv_icmp_ge (tgt := 22) hx hb d_Row_checkGang_8 (by decide) (fun z_ => absurd z_ (show ¬ nI 2 ≤ nI S.1 from nI_ge h2 (by omega))) (fun c_8 => ?_)
  exact gw_thrSW (cls := "java/lang/UnsupportedOperationException") (text := "fewer than two stand in the gang") hx hb hst hown (by decide) (hT _ wm_557) (hT _ wm_46) (by decide) hT (by decide +kernel) (by decide +kernel) hF hG (hl.1.trans hml.symm) d_Row_checkGang_11 d_Row_checkGang_14 d_Row_checkGang_15 d_Row_checkGang_18 d_Row_checkGang_21 hnt (Nat.le_of_ble_eq_true rfl) (Nat.le_of_ble_eq_true rfl) (Nat.le_of_ble_eq_true rfl) (Nat.le_of_ble_eq_true rfl) hlk (Nat.le_of_ble_eq_true rfl) (Nat.le_of_ble_eq_true rfl)
set_option maxHeartbeats 4000000 in
set_option maxRecDepth 100000 in
theorem c_Row_stand (l : Launch) (E : Nat) (D : va_G) (cI cO cZ : ClassId) (z0 : Nat) (M : gM) {o n : Nat} {day : Int32} {S : gS} {Z ad bn : Nat → Nat} (hf : gw_fa z0 cO M o n day S Z ad bn) {i J : Nat} (hi : i < n) (hJ1 : J ≤ S.1) (hJ2 : ∀ p, p < J → S.2.1 p ≠ i) (hJ3 : J < S.1 → S.2.1 J = i) (hJ : ¬ J < S.1) (hu : (S.2.2 i).2.2.2.1 ≤ 0) (h5 : S.1 < 5) : Met l y_Row_stand (Cond.code y_Row_stand b_Row_stand 3 (some .int) :: gT) ({ frames := 6, cells := 1, slots := 10, locals := 122 }) (gw_Pc E D cI cO cZ z0 M [.ref o, .int (nI i)]) (gw_Qi E D (fun r M' => r = nI (S.1 + 1) ∧ ∃ Z' : Nat → Nat, gw_fa z0 cO M' o n day (S.1 + 1, va_up S.2.1 S.1 i, fun j => if j = i then hEr (S.2.2 i) 0 else S.2.2 j) Z' ad bn ∧ gw_ints M M')) 1 10 (gw_A E) := by
  refine gw_ofW (cc := b_Row_stand) (maxL := 3) (ret := (some .int)) (by decide) rfl (Nat.le_of_ble_eq_true rfl) ?_
  intro p e s m args below meth c hx hb hr hml hts hown hlk hnm hF hG ls hl
  have hT : ∀ w ∈ gT, w.before args s = true := fun w h => hts w (List.mem_cons_of_mem _ h)
  have hK := hF.1
  have hl : lv_has ls 3 [(0, .ref o), (1, .int (nI i))] := hl
  obtain ⟨hro, hLh, hLl, hLb, hbn, hgg, hLg, hdr, hlg, hhd, had, hord, hoi, hne, har⟩ := id hf
  obtain ⟨kh, hhl, h10, -⟩ := id hLh
  have hz0 := gw_z0 hF hG
  have hS10 := hLg.choose_spec.2.1
  refine lv_aload_n hx hb d_Row_stand_0 rfl (lv_at hl 0 rfl) ?_
  refine lv_iload_n hx hb d_Row_stand_1 rfl (lv_at hl 1 rfl) ?_
  refine gw_callq (gw_runV (As := [.int (nI i)]) (rest := []) ⟨hx, hb, hml, hown, hts⟩ (c_Row_handAt l E D cI cO cZ z0 M hf hi) (gw_cwV 1 hts (gT_gi wm_539) rfl rfl rfl (hT _ wm_23) (hT _ wm_536) (hT _ wm_538) (hT _ wm_10) (by decide +kernel) ⟨Nat.le_of_ble_eq_true rfl, Nat.le_of_ble_eq_true rfl⟩) hF hG rfl hro rfl hl.1 rfl (Nat.le_of_ble_eq_true rfl) d_Row_stand_2 ⟨Nat.le_of_ble_eq_true rfl, Nat.le_of_ble_eq_true rfl⟩) hG (fun r M1 H locs hp hG => ?_)
  rw [hp.1]
  replace hG := gw_nm hp.2.symm hG
  have hhi := hhd i hi
  refine lv_astore_n (lv' := [(2, .ref (ad i)), (0, .ref o), (1, .int (nI i))]) hx hb d_Row_stand_5 rfl hl (by decide) rfl (fun ls hl => ?_)
  refine lv_aload_n hx hb d_Row_stand_6 rfl (lv_at hl 1 rfl) ?_
  refine gw_get hx hb hT i_Row hown hK hG hro rfl 3 (by decide) (hT _ wm_239) (fun _ h => h) rfl d_Row_stand_7 ?_
  refine lv_aload_n hx hb d_Row_stand_10 rfl (lv_at hl 0 rfl) ?_
  refine gw_calli (gw_runV (As := [.ref (ad i)]) (rest := []) ⟨hx, hb, hml, hown, hts⟩ (c_Gang_placeFor l E D cI cO cZ z0 M hf.gg (h := ad i) (J := J) hJ1 (fun p hp z => hJ2 p hp (had _ _ (hord p (by omega)) hi z)) (fun h => congrArg ad (hJ3 h))) (gw_cwV 1 hts (gT_gi wm_556) rfl rfl rfl (hT _ wm_27) (hT _ wm_553) (hT _ wm_554) (hT _ wm_555) (by decide +kernel) ⟨Nat.le_of_ble_eq_true rfl, Nat.le_of_ble_eq_true rfl⟩) hF hG rfl hgg rfl hl.1 rfl (Nat.le_of_ble_eq_true rfl) d_Row_stand_11 ⟨Nat.le_of_ble_eq_true rfl, Nat.le_of_ble_eq_true rfl⟩) hG (fun r M2 H locs hp hG => ?_)
  rw [hp.1]
  replace hG := gw_nm hp.2.symm hG
  rw [if_neg hJ]
  refine lv_if_ge (tgt := 24) hx hb d_Row_stand_14 (by decide) (fun z_ => absurd z_ (by decide)) (fun c_14 => ?_)
  refine lv_aload_n hx hb d_Row_stand_17 rfl (lv_at hl 0 rfl) ?_
  refine gw_get hx hb hT i_Hand hown hK hG hhi rfl 3 (by decide) (hT _ wm_469) (fun _ h => h) rfl d_Row_stand_18 ?_
  refine lv_if_le (tgt := 34) hx hb d_Row_stand_21 (by decide) (fun c_21 => ?_) (fun z_ => absurd (hu) z_)
  refine lv_aload_n hx hb d_Row_stand_34 rfl (lv_at hl 1 rfl) ?_
  refine gw_get hx hb hT i_Row hown hK hG hro rfl 3 (by decide) (hT _ wm_239) (fun _ h => h) rfl d_Row_stand_35 ?_
  refine gw_calli (gw_runV (As := []) (rest := []) ⟨hx, hb, hml, hown, hts⟩ (c_Gang_count l E D cI cO cZ z0 M hf.gg) (gw_cwV 0 hts (gT_gi wm_576) rfl rfl rfl (hT _ wm_27) (hT _ wm_573) (hT _ wm_574) (hT _ wm_575) (by decide +kernel) ⟨Nat.le_of_ble_eq_true rfl, Nat.le_of_ble_eq_true rfl⟩) hF hG rfl hgg rfl hl.1 rfl (Nat.le_of_ble_eq_true rfl) d_Row_stand_38 ⟨Nat.le_of_ble_eq_true rfl, Nat.le_of_ble_eq_true rfl⟩) hG (fun r M3 H locs hp hG => ?_)
  rw [hp.1]
  replace hG := gw_nm hp.2.symm hG
  refine lv_iconst (v := 5) hx hb d_Row_stand_41 (by decide) ?_
  refine lv_icmp_lt (tgt := 55) hx hb d_Row_stand_42 (by decide) (fun c_42 => ?_) (fun z_ => absurd (show nI S.1 < nI 5 from nI_lt h5 (by decide)) z_)
  refine lv_aload_n hx hb d_Row_stand_55 rfl (lv_at hl 1 rfl) ?_
  refine gw_get hx hb hT i_Row hown hK hG hro rfl 3 (by decide) (hT _ wm_239) (fun _ h => h) rfl d_Row_stand_56 ?_
  refine lv_aload_n hx hb d_Row_stand_59 rfl (lv_at hl 0 rfl) ?_
  refine gw_callv (gw_runV (As := [.ref (ad i)]) (rest := []) ⟨hx, hb, hml, hown, hts⟩ (c_Gang_takeIn l E D cI cO cZ z0 M hf.gg hhi (by omega) (fun z => by rw [z, hz0] at hhi; cases hhi)) (gw_cwV 1 hts (gT_gi wm_581) rfl rfl rfl (hT _ wm_27) (hT _ wm_578) (hT _ wm_579) (hT _ wm_580) (by decide +kernel) ⟨Nat.le_of_ble_eq_true rfl, Nat.le_of_ble_eq_true rfl⟩) hF hG rfl hgg rfl hl.1 rfl (Nat.le_of_ble_eq_true rfl) d_Row_stand_60 ⟨Nat.le_of_ble_eq_true rfl, Nat.le_of_ble_eq_true rfl⟩) hG (fun M4 H locs hp hG => ?_)
  obtain ⟨t', h1, h2, h3, h4⟩ := hp
  have hfr : ∀ b e, M b = some e → b ≠ Z 6 → b ≠ t' → (∀ x, e ≠ .inr (6, x)) → M4 b = M b := fun b e hb q1 q2 q3 => h4 b (fun z => q3 _ (by rw [z, hhi] at hb; exact (Option.some.inj hb).symm)) q1 q2
  have hta : ∀ j, j < n → ad j ≠ t' := fun j hj => by
      rcases h1 with h1 | h1
      · rw [h1]
        obtain ⟨kg, -, -, hgf⟩ := hLg
        rcases hgf with ⟨-, hgz⟩ | ⟨f, hgz, -⟩
        · rw [hgz]; exact gw_neF hz0 (hhd j hj)
        · exact (gw_neA hgz (hhd j hj)).symm
      · exact gw_neF h1 (hhd j hj)
  obtain ⟨kg, hgl, -⟩ := id hLg
  have hf2 := hf.gang (M' := M4) (m' := S.1 + 1) (ord' := va_up S.2.1 S.1 i) (v' := fun j => if j = i then hEr (S.2.2 i) 0 else S.2.2 j) hz0 (by
      have e1 : (fun p => ad (va_up S.2.1 S.1 i p)) = va_up (fun p => ad (S.2.1 p)) S.1 (ad i) := by funext p; unfold va_up; split <;> rfl
      rw [e1]; exact h3) (fun j hj => by
      by_cases hji : j = i
      · subst hji; rw [if_pos rfl]; exact h2
      · rw [if_neg hji]; exact (h4 _ (fun z => hji (had _ _ hj hi z)) (gw_neO (hhd j hj) hgl (by decide)) (hta j hj)).trans (hhd j hj)) hfr h1 (fun p hp => by
      unfold va_up
      split
      · exact hi
      · exact hord p (by omega)) (fun p q hp hq z => by
      have hni : ∀ r, r < S.1 → S.2.1 r ≠ i := fun r hr => hJ2 r (by omega)
      unfold va_up at z
      split at z <;> split at z
      · omega
      · exact absurd z.symm (hni q (by omega))
      · exact absurd z (hni p (by omega))
      · exact hoi p q (by omega) (by omega) z)
  obtain ⟨hro2, -, -, -, -, hgg2, -⟩ := id hf2
  refine lv_aload_n hx hb d_Row_stand_63 rfl (lv_at hl 1 rfl) ?_
  refine gw_get hx hb hT i_Row hown hK hG hro2 rfl 3 (by decide) (hT _ wm_239) (fun _ h => h) rfl d_Row_stand_64 ?_
  refine gw_calli (gw_runV (As := []) (rest := []) ⟨hx, hb, hml, hown, hts⟩ (c_Gang_count l E D cI cO cZ z0 M4 hf2.gg) (gw_cwV 0 hts (gT_gi wm_576) rfl rfl rfl (hT _ wm_27) (hT _ wm_573) (hT _ wm_574) (hT _ wm_575) (by decide +kernel) ⟨Nat.le_of_ble_eq_true rfl, Nat.le_of_ble_eq_true rfl⟩) hF hG rfl hgg2 rfl hl.1 rfl (Nat.le_of_ble_eq_true rfl) d_Row_stand_67 ⟨Nat.le_of_ble_eq_true rfl, Nat.le_of_ble_eq_true rfl⟩) hG (fun r M5 H locs hp hG => ?_)
  rw [hp.1]
  replace hG := gw_nm hp.2.symm hG
  exact gw_iret (v := (nI (S.1 + 1))) hx hb hr hlk hG (⟨rfl, _, hf2, gw_ints.of hLg hz0 hfr h1⟩) (Nat.le_of_ble_eq_true rfl) (Nat.le_of_ble_eq_true rfl) d_Row_stand_70
set_option maxHeartbeats 4000000 in
set_option maxRecDepth 100000 in
theorem c_Row_stand_x (l : Launch) (E : Nat) (D : va_G) (cI cO cZ : ClassId) (z0 : Nat) (M : gM) (hst : l.stackTraces = false) {o n : Nat} {day : Int32} {S : gS} {Z ad bn : Nat → Nat} (hf : gw_fa z0 cO M o n day S Z ad bn) {i : Nat} (hi : n ≤ i) (hi2 : i < 2 ^ 31) : vx_Met l y_Row_stand (Cond.code y_Row_stand b_Row_stand 3 (some .int) :: gT) ({ frames := 7, cells := 1, slots := 6, locals := 103 }) (gw_Pc E D cI cO cZ z0 M [.ref o, .int (nI i)]) (gw_Qi E D (fun _ _ => False)) (gw_XC E D "java/lang/IndexOutOfBoundsException" M) 1 6 (gw_A E) := by
  refine gw_ofX (cc := b_Row_stand) (maxL := 3) (ret := (some .int)) (by decide) rfl (Nat.le_of_ble_eq_true rfl) ?_
  intro p e s m args below meth c hx hb hr hml hts hown hlk hnt hF hG ls hl
  have hT : ∀ w ∈ gT, w.before args s = true := fun w h => hts w (List.mem_cons_of_mem _ h)
  have hK := hF.1
  have hl : lv_has ls 3 [(0, .ref o), (1, .int (nI i))] := hl
  obtain ⟨hro, hLh, hLl, hLb, hbn, hgg, hLg, hdr, hlg, hhd, had, hord, hoi, hne, har⟩ := id hf
  obtain ⟨kh, hhl, h10, -⟩ := id hLh
  have hz0 := gw_z0 hF hG
  refine lv_aload_n hx hb d_Row_stand_0 rfl (lv_at hl 0 rfl) ?_
  refine lv_iload_n hx hb d_Row_stand_1 rfl (lv_at hl 1 rfl) ?_
  refine gw_xcallq (cls := "java/lang/IndexOutOfBoundsException") (gw_xrunV (As := [.int (nI i)]) (rest := []) ⟨hx, hb, hml, hown, hts⟩ (c_Row_handAt_x l E D cI cO cZ z0 M hst hf hi hi2) (gw_cwV 1 hts (gT_gi wm_539) rfl rfl rfl (hT _ wm_23) (hT _ wm_536) (hT _ wm_538) (hT _ wm_10) (by decide +kernel) ⟨Nat.le_of_ble_eq_true rfl, Nat.le_of_ble_eq_true rfl⟩) hF hG rfl hro rfl hl.1 rfl (Nat.le_of_ble_eq_true rfl) d_Row_stand_2 ⟨Nat.le_of_ble_eq_true rfl, Nat.le_of_ble_eq_true rfl⟩) hG (fun ce q H locs hG hq1 hq2 hq3 => ?_)
  exact gw_xout hnt hlk hG hq1 hq2 hq3 (Nat.le_of_ble_eq_true rfl) (Nat.le_of_ble_eq_true rfl)
set_option maxHeartbeats 4000000 in
set_option maxRecDepth 100000 in
theorem c_Row_stand_xu (l : Launch) (E : Nat) (D : va_G) (cI cO cZ : ClassId) (z0 : Nat) (M : gM) (hst : l.stackTraces = false) {o n : Nat} {day : Int32} {S : gS} {Z ad bn : Nat → Nat} (hf : gw_fa z0 cO M o n day S Z ad bn) {i J : Nat} (hi : i < n) (hJ1 : J ≤ S.1) (hJ2 : ∀ p, p < J → S.2.1 p ≠ i) (hJ3 : J < S.1 → S.2.1 J = i) (hu : J < S.1 ∨ ¬ (S.2.2 i).2.2.2.1 ≤ 0) : vx_Met l y_Row_stand (Cond.code y_Row_stand b_Row_stand 3 (some .int) :: gT) ({ frames := 6, cells := 1, slots := 6, locals := 86 }) (gw_Pc E D cI cO cZ z0 M [.ref o, .int (nI i)]) (gw_Qi E D (fun _ _ => False)) (gw_XC E D "java/lang/UnsupportedOperationException" M) 1 6 (gw_A E) := by
  refine gw_ofX (cc := b_Row_stand) (maxL := 3) (ret := (some .int)) (by decide) rfl (Nat.le_of_ble_eq_true rfl) ?_
  intro p e s m args below meth c hx hb hr hml hts hown hlk hnt hF hG ls hl
  have hT : ∀ w ∈ gT, w.before args s = true := fun w h => hts w (List.mem_cons_of_mem _ h)
  have hK := hF.1
  have hl : lv_has ls 3 [(0, .ref o), (1, .int (nI i))] := hl
  obtain ⟨hro, hLh, hLl, hLb, hbn, hgg, hLg, hdr, hlg, hhd, had, hord, hoi, hne, har⟩ := id hf
  obtain ⟨kh, hhl, h10, -⟩ := id hLh
  have hz0 := gw_z0 hF hG
  have hS10 := hLg.choose_spec.2.1
  refine lv_aload_n hx hb d_Row_stand_0 rfl (lv_at hl 0 rfl) ?_
  refine lv_iload_n hx hb d_Row_stand_1 rfl (lv_at hl 1 rfl) ?_
  refine gw_callq (gw_runV (As := [.int (nI i)]) (rest := []) ⟨hx, hb, hml, hown, hts⟩ (c_Row_handAt l E D cI cO cZ z0 M hf hi) (gw_cwV 1 hts (gT_gi wm_539) rfl rfl rfl (hT _ wm_23) (hT _ wm_536) (hT _ wm_538) (hT _ wm_10) (by decide +kernel) ⟨Nat.le_of_ble_eq_true rfl, Nat.le_of_ble_eq_true rfl⟩) hF hG rfl hro rfl hl.1 rfl (Nat.le_of_ble_eq_true rfl) d_Row_stand_2 ⟨Nat.le_of_ble_eq_true rfl, Nat.le_of_ble_eq_true rfl⟩) hG (fun r M1 H locs hp hG => ?_)
  rw [hp.1]
  replace hG := gw_nm hp.2.symm hG
  have hhi := hhd i hi
  refine lv_astore_n (lv' := [(2, .ref (ad i)), (0, .ref o), (1, .int (nI i))]) hx hb d_Row_stand_5 rfl hl (by decide) rfl (fun ls hl => ?_)
  refine lv_aload_n hx hb d_Row_stand_6 rfl (lv_at hl 1 rfl) ?_
  refine gw_get hx hb hT i_Row hown hK hG hro rfl 3 (by decide) (hT _ wm_239) (fun _ h => h) rfl d_Row_stand_7 ?_
  refine lv_aload_n hx hb d_Row_stand_10 rfl (lv_at hl 0 rfl) ?_
  refine gw_calli (gw_runV (As := [.ref (ad i)]) (rest := []) ⟨hx, hb, hml, hown, hts⟩ (c_Gang_placeFor l E D cI cO cZ z0 M hf.gg (h := ad i) (J := J) hJ1 (fun p hp z => hJ2 p hp (had _ _ (hord p (by omega)) hi z)) (fun h => congrArg ad (hJ3 h))) (gw_cwV 1 hts (gT_gi wm_556) rfl rfl rfl (hT _ wm_27) (hT _ wm_553) (hT _ wm_554) (hT _ wm_555) (by decide +kernel) ⟨Nat.le_of_ble_eq_true rfl, Nat.le_of_ble_eq_true rfl⟩) hF hG rfl hgg rfl hl.1 rfl (Nat.le_of_ble_eq_true rfl) d_Row_stand_11 ⟨Nat.le_of_ble_eq_true rfl, Nat.le_of_ble_eq_true rfl⟩) hG (fun r M2 H locs hp hG => ?_)
  rw [hp.1]
  replace hG := gw_nm hp.2.symm hG
  by_cases hJ : J < S.1
  · skip
    rw [if_pos hJ]
    refine lv_if_ge (tgt := 24) hx hb d_Row_stand_14 (by decide) (fun c_14 => ?_) (fun z_ => absurd (nI_pos' (by omega)) z_)
    exact gw_thrS (cls := "java/lang/UnsupportedOperationException") (text := "the hand stands in the gang, or is hurt") hx hb hst hown (by decide) (hT _ wm_557) (hT _ wm_46) (by decide) hT (by decide +kernel) (by decide +kernel) hF hG (hl.1.trans hml.symm) d_Row_stand_24 d_Row_stand_27 d_Row_stand_28 d_Row_stand_30 d_Row_stand_33 hnt (Nat.le_of_ble_eq_true rfl) (Nat.le_of_ble_eq_true rfl) (Nat.le_of_ble_eq_true rfl) (Nat.le_of_ble_eq_true rfl) hlk (Nat.le_of_ble_eq_true rfl) (Nat.le_of_ble_eq_true rfl)
  · skip
    rw [if_neg hJ]
    refine lv_if_ge (tgt := 24) hx hb d_Row_stand_14 (by decide) (fun z_ => absurd z_ (by decide)) (fun c_14 => ?_)
    refine lv_aload_n hx hb d_Row_stand_17 rfl (lv_at hl 0 rfl) ?_
    refine gw_get hx hb hT i_Hand hown hK hG hhi rfl 3 (by decide) (hT _ wm_469) (fun _ h => h) rfl d_Row_stand_18 ?_
    refine lv_if_le (tgt := 34) hx hb d_Row_stand_21 (by decide) (fun z_ => absurd z_ (hu.resolve_left hJ)) (fun c_21 => ?_)
    exact gw_thrS (cls := "java/lang/UnsupportedOperationException") (text := "the hand stands in the gang, or is hurt") hx hb hst hown (by decide) (hT _ wm_557) (hT _ wm_46) (by decide) hT (by decide +kernel) (by decide +kernel) hF hG (hl.1.trans hml.symm) d_Row_stand_24 d_Row_stand_27 d_Row_stand_28 d_Row_stand_30 d_Row_stand_33 hnt (Nat.le_of_ble_eq_true rfl) (Nat.le_of_ble_eq_true rfl) (Nat.le_of_ble_eq_true rfl) (Nat.le_of_ble_eq_true rfl) hlk (Nat.le_of_ble_eq_true rfl) (Nat.le_of_ble_eq_true rfl)
set_option maxHeartbeats 4000000 in
set_option maxRecDepth 100000 in
theorem c_Row_stand_xs (l : Launch) (E : Nat) (D : va_G) (cI cO cZ : ClassId) (z0 : Nat) (M : gM) (hst : l.stackTraces = false) {o n : Nat} {day : Int32} {S : gS} {Z ad bn : Nat → Nat} (hf : gw_fa z0 cO M o n day S Z ad bn) {i J : Nat} (hi : i < n) (hJ1 : J ≤ S.1) (hJ2 : ∀ p, p < J → S.2.1 p ≠ i) (hJ3 : J < S.1 → S.2.1 J = i) (hJ : ¬ J < S.1) (hu : (S.2.2 i).2.2.2.1 ≤ 0) (h5 : 5 ≤ S.1) : vx_Met l y_Row_stand (Cond.code y_Row_stand b_Row_stand 3 (some .int) :: gT) ({ frames := 6, cells := 1, slots := 6, locals := 86 }) (gw_Pc E D cI cO cZ z0 M [.ref o, .int (nI i)]) (gw_Qi E D (fun _ _ => False)) (gw_XC E D "java/lang/IllegalStateException" M) 1 6 (gw_A E) := by
  refine gw_ofX (cc := b_Row_stand) (maxL := 3) (ret := (some .int)) (by decide) rfl (Nat.le_of_ble_eq_true rfl) ?_
  intro p e s m args below meth c hx hb hr hml hts hown hlk hnt hF hG ls hl
  have hT : ∀ w ∈ gT, w.before args s = true := fun w h => hts w (List.mem_cons_of_mem _ h)
  have hK := hF.1
  have hl : lv_has ls 3 [(0, .ref o), (1, .int (nI i))] := hl
  obtain ⟨hro, hLh, hLl, hLb, hbn, hgg, hLg, hdr, hlg, hhd, had, hord, hoi, hne, har⟩ := id hf
  obtain ⟨kh, hhl, h10, -⟩ := id hLh
  have hz0 := gw_z0 hF hG
  have hS10 := hLg.choose_spec.2.1
  refine lv_aload_n hx hb d_Row_stand_0 rfl (lv_at hl 0 rfl) ?_
  refine lv_iload_n hx hb d_Row_stand_1 rfl (lv_at hl 1 rfl) ?_
  refine gw_callq (gw_runV (As := [.int (nI i)]) (rest := []) ⟨hx, hb, hml, hown, hts⟩ (c_Row_handAt l E D cI cO cZ z0 M hf hi) (gw_cwV 1 hts (gT_gi wm_539) rfl rfl rfl (hT _ wm_23) (hT _ wm_536) (hT _ wm_538) (hT _ wm_10) (by decide +kernel) ⟨Nat.le_of_ble_eq_true rfl, Nat.le_of_ble_eq_true rfl⟩) hF hG rfl hro rfl hl.1 rfl (Nat.le_of_ble_eq_true rfl) d_Row_stand_2 ⟨Nat.le_of_ble_eq_true rfl, Nat.le_of_ble_eq_true rfl⟩) hG (fun r M1 H locs hp hG => ?_)
  rw [hp.1]
  replace hG := gw_nm hp.2.symm hG
  have hhi := hhd i hi
  refine lv_astore_n (lv' := [(2, .ref (ad i)), (0, .ref o), (1, .int (nI i))]) hx hb d_Row_stand_5 rfl hl (by decide) rfl (fun ls hl => ?_)
  refine lv_aload_n hx hb d_Row_stand_6 rfl (lv_at hl 1 rfl) ?_
  refine gw_get hx hb hT i_Row hown hK hG hro rfl 3 (by decide) (hT _ wm_239) (fun _ h => h) rfl d_Row_stand_7 ?_
  refine lv_aload_n hx hb d_Row_stand_10 rfl (lv_at hl 0 rfl) ?_
  refine gw_calli (gw_runV (As := [.ref (ad i)]) (rest := []) ⟨hx, hb, hml, hown, hts⟩ (c_Gang_placeFor l E D cI cO cZ z0 M hf.gg (h := ad i) (J := J) hJ1 (fun p hp z => hJ2 p hp (had _ _ (hord p (by omega)) hi z)) (fun h => congrArg ad (hJ3 h))) (gw_cwV 1 hts (gT_gi wm_556) rfl rfl rfl (hT _ wm_27) (hT _ wm_553) (hT _ wm_554) (hT _ wm_555) (by decide +kernel) ⟨Nat.le_of_ble_eq_true rfl, Nat.le_of_ble_eq_true rfl⟩) hF hG rfl hgg rfl hl.1 rfl (Nat.le_of_ble_eq_true rfl) d_Row_stand_11 ⟨Nat.le_of_ble_eq_true rfl, Nat.le_of_ble_eq_true rfl⟩) hG (fun r M2 H locs hp hG => ?_)
  rw [hp.1]
  replace hG := gw_nm hp.2.symm hG
  rw [if_neg hJ]
  refine lv_if_ge (tgt := 24) hx hb d_Row_stand_14 (by decide) (fun z_ => absurd z_ (by decide)) (fun c_14 => ?_)
  refine lv_aload_n hx hb d_Row_stand_17 rfl (lv_at hl 0 rfl) ?_
  refine gw_get hx hb hT i_Hand hown hK hG hhi rfl 3 (by decide) (hT _ wm_469) (fun _ h => h) rfl d_Row_stand_18 ?_
  refine lv_if_le (tgt := 34) hx hb d_Row_stand_21 (by decide) (fun c_21 => ?_) (fun z_ => absurd (hu) z_)
  refine lv_aload_n hx hb d_Row_stand_34 rfl (lv_at hl 1 rfl) ?_
  refine gw_get hx hb hT i_Row hown hK hG hro rfl 3 (by decide) (hT _ wm_239) (fun _ h => h) rfl d_Row_stand_35 ?_
  refine gw_calli (gw_runV (As := []) (rest := []) ⟨hx, hb, hml, hown, hts⟩ (c_Gang_count l E D cI cO cZ z0 M hf.gg) (gw_cwV 0 hts (gT_gi wm_576) rfl rfl rfl (hT _ wm_27) (hT _ wm_573) (hT _ wm_574) (hT _ wm_575) (by decide +kernel) ⟨Nat.le_of_ble_eq_true rfl, Nat.le_of_ble_eq_true rfl⟩) hF hG rfl hgg rfl hl.1 rfl (Nat.le_of_ble_eq_true rfl) d_Row_stand_38 ⟨Nat.le_of_ble_eq_true rfl, Nat.le_of_ble_eq_true rfl⟩) hG (fun r M3 H locs hp hG => ?_)
  rw [hp.1]
  replace hG := gw_nm hp.2.symm hG
  refine lv_iconst (v := 5) hx hb d_Row_stand_41 (by decide) ?_
  refine lv_icmp_lt (tgt := 55) hx hb d_Row_stand_42 (by decide) (fun z_ => absurd z_ (show ¬ nI S.1 < nI 5 from nI_nlt h5 (by omega))) (fun c_42 => ?_)
  exact gw_thrS (cls := "java/lang/IllegalStateException") (text := "there are 5 in the gang") hx hb hst hown (by decide) (hT _ wm_442) (hT _ wm_39) (by decide) hT (by decide +kernel) (by decide +kernel) hF hG (hl.1.trans hml.symm) d_Row_stand_45 d_Row_stand_48 d_Row_stand_49 d_Row_stand_51 d_Row_stand_54 hnt (Nat.le_of_ble_eq_true rfl) (Nat.le_of_ble_eq_true rfl) (Nat.le_of_ble_eq_true rfl) (Nat.le_of_ble_eq_true rfl) hlk (Nat.le_of_ble_eq_true rfl) (Nat.le_of_ble_eq_true rfl)
set_option maxHeartbeats 4000000 in
set_option maxRecDepth 100000 in
theorem c_Row_leave (l : Launch) (E : Nat) (D : va_G) (cI cO cZ : ClassId) (z0 : Nat) (M : gM) {o n : Nat} {day : Int32} {S : gS} {Z ad bn : Nat → Nat} (hf : gw_fa z0 cO M o n day S Z ad bn) {i J : Nat} (hi : i < n) (hJ1 : J ≤ S.1) (hJ2 : ∀ p, p < J → S.2.1 p ≠ i) (hJ3 : J < S.1 → S.2.1 J = i) (hJ : J < S.1) : Met l y_Row_leave (Cond.code y_Row_leave b_Row_leave 3 (some .int) :: gT) ({ frames := 5, cells := 0, slots := 0, locals := 128 }) (gw_Pc E D cI cO cZ z0 M [.ref o, .int (nI i)]) (gw_Qi E D (fun r M' => r = nI (S.1 - 1) ∧ ∃ Z' : Nat → Nat, gw_fa z0 cO M' o n day (S.1 - 1, skp J S.2.1, S.2.2) Z' ad bn ∧ gw_ints M M')) 0 0 (gw_A E) := by
  refine gw_ofW (cc := b_Row_leave) (maxL := 3) (ret := (some .int)) (by decide) rfl (Nat.le_of_ble_eq_true rfl) ?_
  intro p e s m args below meth c hx hb hr hml hts hown hlk hnm hF hG ls hl
  have hT : ∀ w ∈ gT, w.before args s = true := fun w h => hts w (List.mem_cons_of_mem _ h)
  have hK := hF.1
  have hl : lv_has ls 3 [(0, .ref o), (1, .int (nI i))] := hl
  obtain ⟨hro, hLh, hLl, hLb, hbn, hgg, hLg, hdr, hlg, hhd, had, hord, hoi, hne, har⟩ := id hf
  obtain ⟨kh, hhl, h10, -⟩ := id hLh
  have hz0 := gw_z0 hF hG
  have hS10 := hLg.choose_spec.2.1
  refine lv_aload_n hx hb d_Row_leave_0 rfl (lv_at hl 0 rfl) ?_
  refine lv_iload_n hx hb d_Row_leave_1 rfl (lv_at hl 1 rfl) ?_
  refine gw_callq (gw_runV (As := [.int (nI i)]) (rest := []) ⟨hx, hb, hml, hown, hts⟩ (c_Row_handAt l E D cI cO cZ z0 M hf hi) (gw_cwV 1 hts (gT_gi wm_539) rfl rfl rfl (hT _ wm_23) (hT _ wm_536) (hT _ wm_538) (hT _ wm_10) (by decide +kernel) ⟨Nat.le_of_ble_eq_true rfl, Nat.le_of_ble_eq_true rfl⟩) hF hG rfl hro rfl hl.1 rfl (Nat.le_of_ble_eq_true rfl) d_Row_leave_2 ⟨Nat.le_of_ble_eq_true rfl, Nat.le_of_ble_eq_true rfl⟩) hG (fun r M1 H locs hp hG => ?_)
  rw [hp.1]
  replace hG := gw_nm hp.2.symm hG
  have hhi := hhd i hi
  refine lv_astore_n (lv' := [(2, .ref (ad i)), (0, .ref o), (1, .int (nI i))]) hx hb d_Row_leave_5 rfl hl (by decide) rfl (fun ls hl => ?_)
  refine lv_aload_n hx hb d_Row_leave_6 rfl (lv_at hl 1 rfl) ?_
  refine gw_get hx hb hT i_Row hown hK hG hro rfl 3 (by decide) (hT _ wm_239) (fun _ h => h) rfl d_Row_leave_7 ?_
  refine lv_aload_n hx hb d_Row_leave_10 rfl (lv_at hl 0 rfl) ?_
  refine gw_calli (gw_runV (As := [.ref (ad i)]) (rest := []) ⟨hx, hb, hml, hown, hts⟩ (c_Gang_placeFor l E D cI cO cZ z0 M hf.gg (h := ad i) (J := J) hJ1 (fun p hp z => hJ2 p hp (had _ _ (hord p (by omega)) hi z)) (fun h => congrArg ad (hJ3 h))) (gw_cwV 1 hts (gT_gi wm_556) rfl rfl rfl (hT _ wm_27) (hT _ wm_553) (hT _ wm_554) (hT _ wm_555) (by decide +kernel) ⟨Nat.le_of_ble_eq_true rfl, Nat.le_of_ble_eq_true rfl⟩) hF hG rfl hgg rfl hl.1 rfl (Nat.le_of_ble_eq_true rfl) d_Row_leave_11 ⟨Nat.le_of_ble_eq_true rfl, Nat.le_of_ble_eq_true rfl⟩) hG (fun r M2 H locs hp hG => ?_)
  rw [hp.1]
  replace hG := gw_nm hp.2.symm hG
  rw [if_pos hJ]
  refine lv_if_ge (tgt := 27) hx hb d_Row_leave_14 (by decide) (fun c_14 => ?_) (fun z_ => absurd (nI_pos' (by omega)) z_)
  refine lv_aload_n hx hb d_Row_leave_27 rfl (lv_at hl 1 rfl) ?_
  refine gw_get hx hb hT i_Row hown hK hG hro rfl 3 (by decide) (hT _ wm_239) (fun _ h => h) rfl d_Row_leave_28 ?_
  refine lv_aload_n hx hb d_Row_leave_31 rfl (lv_at hl 0 rfl) ?_
  obtain ⟨mm, hm⟩ : ∃ mm, S.1 = mm + 1 := ⟨S.1 - 1, by omega⟩
  have hg1 : gw_Gg z0 cO M (Z 5) (Z 6) (Z 7) (mm + 1) (fun p => ad (S.2.1 p)) (fun p => S.2.2 (S.2.1 p)) := by rw [← hm]; exact hf.gg
  refine gw_callv (gw_runV (As := [.ref (ad i)]) (rest := []) ⟨hx, hb, hml, hown, hts⟩ (c_Gang_letGo l E D cI cO cZ z0 M hg1 (h := ad i) (j := J) (by omega) (congrArg ad (hJ3 hJ))) (gw_cwV 1 hts (gT_gi wm_595) rfl rfl rfl (hT _ wm_27) (hT _ wm_592) (hT _ wm_593) (hT _ wm_594) (by decide +kernel) ⟨Nat.le_of_ble_eq_true rfl, Nat.le_of_ble_eq_true rfl⟩) hF hG rfl hgg rfl hl.1 rfl (Nat.le_of_ble_eq_true rfl) d_Row_leave_32 ⟨Nat.le_of_ble_eq_true rfl, Nat.le_of_ble_eq_true rfl⟩) hG (fun M3 H locs hp hG => ?_)
  obtain ⟨h1, h2⟩ := hp
  obtain ⟨kg, hgl, -, hgf⟩ := id hLg
  have hfr : ∀ b e, M b = some e → b ≠ Z 6 → b ≠ Z 7 → (∀ x, e ≠ .inr (6, x)) → M3 b = M b := fun b e _ q1 q2 _ => h2 b q1 q2
  have hta : ∀ j, j < n → ad j ≠ Z 7 := fun j hj => by
      rcases hgf with ⟨-, hgz⟩ | ⟨f, hgz, -⟩
      · rw [hgz]; exact gw_neF hz0 (hhd j hj)
      · exact (gw_neA hgz (hhd j hj)).symm
  have hf2 := hf.gang (M' := M3) (m' := mm) (ord' := skp J S.2.1) (v' := S.2.2) hz0 (by
      have e1 : (fun p => ad (skp J S.2.1 p)) = (fun p => if p < J then (fun p => ad (S.2.1 p)) p else (fun p => ad (S.2.1 p)) (p + 1)) := by funext p; unfold skp; split <;> rfl
      rw [e1]; exact h1) (fun j hj => (h2 _ (gw_neO (hhd j hj) hgl (by decide)) (hta j hj)).trans (hhd j hj)) hfr (Or.inl rfl) (skp_lt (fun p hp => hord p (by omega))) (skp_inj (fun p q hp hq z => hoi p q (by omega) (by omega) z))
  obtain ⟨hro2, -, -, -, -, hgg2, -⟩ := id hf2
  have hmm : S.1 - 1 = mm := by omega
  rw [hmm]
  refine lv_aload_n hx hb d_Row_leave_35 rfl (lv_at hl 1 rfl) ?_
  refine gw_get hx hb hT i_Row hown hK hG hro2 rfl 3 (by decide) (hT _ wm_239) (fun _ h => h) rfl d_Row_leave_36 ?_
  refine gw_calli (gw_runV (As := []) (rest := []) ⟨hx, hb, hml, hown, hts⟩ (c_Gang_count l E D cI cO cZ z0 M3 hf2.gg) (gw_cwV 0 hts (gT_gi wm_576) rfl rfl rfl (hT _ wm_27) (hT _ wm_573) (hT _ wm_574) (hT _ wm_575) (by decide +kernel) ⟨Nat.le_of_ble_eq_true rfl, Nat.le_of_ble_eq_true rfl⟩) hF hG rfl hgg2 rfl hl.1 rfl (Nat.le_of_ble_eq_true rfl) d_Row_leave_39 ⟨Nat.le_of_ble_eq_true rfl, Nat.le_of_ble_eq_true rfl⟩) hG (fun r M4 H locs hp hG => ?_)
  rw [hp.1]
  replace hG := gw_nm hp.2.symm hG
  exact gw_iret (v := (nI mm)) hx hb hr hlk hG (⟨rfl, _, hf2, gw_ints.of hLg hz0 hfr (Or.inl rfl)⟩) (Nat.le_of_ble_eq_true rfl) (Nat.le_of_ble_eq_true rfl) d_Row_leave_42
set_option maxHeartbeats 4000000 in
set_option maxRecDepth 100000 in
theorem c_Row_leave_x (l : Launch) (E : Nat) (D : va_G) (cI cO cZ : ClassId) (z0 : Nat) (M : gM) (hst : l.stackTraces = false) {o n : Nat} {day : Int32} {S : gS} {Z ad bn : Nat → Nat} (hf : gw_fa z0 cO M o n day S Z ad bn) {i J : Nat} (hi : i < n) (hJ1 : J ≤ S.1) (hJ2 : ∀ p, p < J → S.2.1 p ≠ i) (hJ3 : J < S.1 → S.2.1 J = i) (hJ : ¬ J < S.1) : vx_Met l y_Row_leave (Cond.code y_Row_leave b_Row_leave 3 (some .int) :: gT) ({ frames := 6, cells := 1, slots := 6, locals := 86 }) (gw_Pc E D cI cO cZ z0 M [.ref o, .int (nI i)]) (gw_Qi E D (fun _ _ => False)) (gw_XC E D "java/lang/UnsupportedOperationException" M) 1 6 (gw_A E) := by
  refine gw_ofX (cc := b_Row_leave) (maxL := 3) (ret := (some .int)) (by decide) rfl (Nat.le_of_ble_eq_true rfl) ?_
  intro p e s m args below meth c hx hb hr hml hts hown hlk hnt hF hG ls hl
  have hT : ∀ w ∈ gT, w.before args s = true := fun w h => hts w (List.mem_cons_of_mem _ h)
  have hK := hF.1
  have hl : lv_has ls 3 [(0, .ref o), (1, .int (nI i))] := hl
  obtain ⟨hro, hLh, hLl, hLb, hbn, hgg, hLg, hdr, hlg, hhd, had, hord, hoi, hne, har⟩ := id hf
  obtain ⟨kh, hhl, h10, -⟩ := id hLh
  have hz0 := gw_z0 hF hG
  have hS10 := hLg.choose_spec.2.1
  refine lv_aload_n hx hb d_Row_leave_0 rfl (lv_at hl 0 rfl) ?_
  refine lv_iload_n hx hb d_Row_leave_1 rfl (lv_at hl 1 rfl) ?_
  refine gw_callq (gw_runV (As := [.int (nI i)]) (rest := []) ⟨hx, hb, hml, hown, hts⟩ (c_Row_handAt l E D cI cO cZ z0 M hf hi) (gw_cwV 1 hts (gT_gi wm_539) rfl rfl rfl (hT _ wm_23) (hT _ wm_536) (hT _ wm_538) (hT _ wm_10) (by decide +kernel) ⟨Nat.le_of_ble_eq_true rfl, Nat.le_of_ble_eq_true rfl⟩) hF hG rfl hro rfl hl.1 rfl (Nat.le_of_ble_eq_true rfl) d_Row_leave_2 ⟨Nat.le_of_ble_eq_true rfl, Nat.le_of_ble_eq_true rfl⟩) hG (fun r M1 H locs hp hG => ?_)
  rw [hp.1]
  replace hG := gw_nm hp.2.symm hG
  have hhi := hhd i hi
  refine lv_astore_n (lv' := [(2, .ref (ad i)), (0, .ref o), (1, .int (nI i))]) hx hb d_Row_leave_5 rfl hl (by decide) rfl (fun ls hl => ?_)
  refine lv_aload_n hx hb d_Row_leave_6 rfl (lv_at hl 1 rfl) ?_
  refine gw_get hx hb hT i_Row hown hK hG hro rfl 3 (by decide) (hT _ wm_239) (fun _ h => h) rfl d_Row_leave_7 ?_
  refine lv_aload_n hx hb d_Row_leave_10 rfl (lv_at hl 0 rfl) ?_
  refine gw_calli (gw_runV (As := [.ref (ad i)]) (rest := []) ⟨hx, hb, hml, hown, hts⟩ (c_Gang_placeFor l E D cI cO cZ z0 M hf.gg (h := ad i) (J := J) hJ1 (fun p hp z => hJ2 p hp (had _ _ (hord p (by omega)) hi z)) (fun h => congrArg ad (hJ3 h))) (gw_cwV 1 hts (gT_gi wm_556) rfl rfl rfl (hT _ wm_27) (hT _ wm_553) (hT _ wm_554) (hT _ wm_555) (by decide +kernel) ⟨Nat.le_of_ble_eq_true rfl, Nat.le_of_ble_eq_true rfl⟩) hF hG rfl hgg rfl hl.1 rfl (Nat.le_of_ble_eq_true rfl) d_Row_leave_11 ⟨Nat.le_of_ble_eq_true rfl, Nat.le_of_ble_eq_true rfl⟩) hG (fun r M2 H locs hp hG => ?_)
  rw [hp.1]
  replace hG := gw_nm hp.2.symm hG
  rw [if_neg hJ]
  refine lv_if_ge (tgt := 27) hx hb d_Row_leave_14 (by decide) (fun z_ => absurd z_ (by decide)) (fun c_14 => ?_)
  exact gw_thrS (cls := "java/lang/UnsupportedOperationException") (text := "the hand does not stand in the gang") hx hb hst hown (by decide) (hT _ wm_557) (hT _ wm_46) (by decide) hT (by decide +kernel) (by decide +kernel) hF hG (hl.1.trans hml.symm) d_Row_leave_17 d_Row_leave_20 d_Row_leave_21 d_Row_leave_23 d_Row_leave_26 hnt (Nat.le_of_ble_eq_true rfl) (Nat.le_of_ble_eq_true rfl) (Nat.le_of_ble_eq_true rfl) (Nat.le_of_ble_eq_true rfl) hlk (Nat.le_of_ble_eq_true rfl) (Nat.le_of_ble_eq_true rfl)
end
section
theorem d_Row_practise_0 : decode b_Row_practise 0 = .ok (.iload_n 1, 1) := by decide +kernel
theorem d_Row_practise_1 : decode b_Row_practise 1 = .ok (.iconst 1, 1) := by decide +kernel
theorem d_Row_practise_2 : decode b_Row_practise 2 = .ok (.bipush 99, 2) := by decide +kernel
theorem wm_425 : Cond.code ⟨"ThresholdRow", "checkRange", "(III)V"⟩ prog_1_method_45_code 3 none ∈ gT := gT_m (List.mem_of_getElem? (i := 425) (by decide +kernel)) (by decide +kernel)
theorem wm_423 : Cond.methodLink "ThresholdRow" 77 ⟨"ThresholdRow", "checkRange", "(III)V"⟩ ∈ gT := gT_m (List.mem_of_getElem? (i := 423) (by decide +kernel)) (by decide +kernel)
theorem d_Row_practise_4 : decode b_Row_practise 4 = .ok (.invokestatic 77, 3) := by decide +kernel
theorem wm_424 : Cond.static ⟨"ThresholdRow", "checkRange", "(III)V"⟩ ∈ gT := gT_m (List.mem_of_getElem? (i := 424) (by decide +kernel)) (by decide +kernel)
theorem d_Row_practise_7 : decode b_Row_practise 7 = .ok (.aload_n 0, 1) := by decide +kernel
theorem wm_682 : Cond.code ⟨"ThresholdRow", "checkGang", "()V"⟩ prog_1_method_46_code 1 none ∈ gT := gT_m (List.mem_of_getElem? (i := 682) (by decide +kernel)) (by decide +kernel)
theorem wm_679 : Cond.methodLink "ThresholdRow" 143 ⟨"ThresholdRow", "checkGang", "()V"⟩ ∈ gT := gT_m (List.mem_of_getElem? (i := 679) (by decide +kernel)) (by decide +kernel)
theorem d_Row_practise_8 : decode b_Row_practise 8 = .ok (.invokevirtual 143, 3) := by decide +kernel
theorem wm_681 : Cond.instanceMethod ⟨"ThresholdRow", "checkGang", "()V"⟩ ∈ gT := gT_m (List.mem_of_getElem? (i := 681) (by decide +kernel)) (by decide +kernel)
theorem wm_13 : Cond.selects "ThresholdRow" ⟨"ThresholdRow", "checkGang", "()V"⟩ ⟨"ThresholdRow", "checkGang", "()V"⟩ ∈ gT := gT_m (List.mem_of_getElem? (i := 13) (by decide +kernel)) (by decide +kernel)
theorem d_Row_practise_11 : decode b_Row_practise 11 = .ok (.iconst 0, 1) := by decide +kernel
theorem d_Row_practise_12 : decode b_Row_practise 12 = .ok (.istore_n 2, 1) := by decide +kernel
theorem d_Row_practise_13 : decode b_Row_practise 13 = .ok (.iconst 0, 1) := by decide +kernel
theorem d_Row_practise_14 : decode b_Row_practise 14 = .ok (.istore_n 3, 1) := by decide +kernel
theorem d_Row_practise_15 : decode b_Row_practise 15 = .ok (.iload_n 3, 1) := by decide +kernel
theorem d_Row_practise_16 : decode b_Row_practise 16 = .ok (.iload_n 1, 1) := by decide +kernel
theorem d_Row_practise_17 : decode b_Row_practise 17 = .ok (.if_icmp .ge 33, 3) := by decide +kernel
theorem d_Row_practise_50 : decode b_Row_practise 50 = .ok (.iload_n 2, 1) := by decide +kernel
theorem d_Row_practise_51 : decode b_Row_practise 51 = .ok (.ireturn, 1) := by decide +kernel
theorem d_Row_practise_20 : decode b_Row_practise 20 = .ok (.aload_n 0, 1) := by decide +kernel
theorem d_Row_practise_21 : decode b_Row_practise 21 = .ok (.getfield 25, 3) := by decide +kernel
theorem d_Row_practise_24 : decode b_Row_practise 24 = .ok (.invokevirtual 113, 3) := by decide +kernel
theorem d_Row_practise_27 : decode b_Row_practise 27 = .ok (.iconst 2, 1) := by decide +kernel
theorem d_Row_practise_28 : decode b_Row_practise 28 = .ok (.if_icmp .lt 22, 3) := by decide +kernel
theorem d_Row_practise_31 : decode b_Row_practise 31 = .ok (.aload_n 0, 1) := by decide +kernel
theorem d_Row_practise_32 : decode b_Row_practise 32 = .ok (.getfield 25, 3) := by decide +kernel
theorem wm_687 : Cond.code ⟨"ThresholdRow$Gang", "beatRound", "()Z"⟩ prog_4_method_7_code 3 (some .boolean) ∈ gT := gT_m (List.mem_of_getElem? (i := 687) (by decide +kernel)) (by decide +kernel)
theorem wm_684 : Cond.methodLink "ThresholdRow" 146 ⟨"ThresholdRow$Gang", "beatRound", "()Z"⟩ ∈ gT := gT_m (List.mem_of_getElem? (i := 684) (by decide +kernel)) (by decide +kernel)
theorem d_Row_practise_35 : decode b_Row_practise 35 = .ok (.invokevirtual 146, 3) := by decide +kernel
theorem wm_685 : Cond.instanceMethod ⟨"ThresholdRow$Gang", "beatRound", "()Z"⟩ ∈ gT := gT_m (List.mem_of_getElem? (i := 685) (by decide +kernel)) (by decide +kernel)
theorem wm_686 : Cond.selects "ThresholdRow$Gang" ⟨"ThresholdRow$Gang", "beatRound", "()Z"⟩ ⟨"ThresholdRow$Gang", "beatRound", "()Z"⟩ ∈ gT := gT_m (List.mem_of_getElem? (i := 686) (by decide +kernel)) (by decide +kernel)
theorem d_Row_practise_38 : decode b_Row_practise 38 = .ok (.ifCond .eq 6, 3) := by decide +kernel
theorem d_Row_practise_44 : decode b_Row_practise 44 = .ok (.iinc 3 1, 3) := by decide +kernel
theorem d_Row_practise_47 : decode b_Row_practise 47 = .ok (.goto (-32), 3) := by decide +kernel
theorem d_Row_practise_41 : decode b_Row_practise 41 = .ok (.iinc 2 1, 3) := by decide +kernel
theorem d_Row_restHands_0 : decode b_Row_restHands 0 = .ok (.iconst 0, 1) := by decide +kernel
theorem d_Row_restHands_1 : decode b_Row_restHands 1 = .ok (.istore_n 1, 1) := by decide +kernel
theorem d_Row_restHands_2 : decode b_Row_restHands 2 = .ok (.iload_n 1, 1) := by decide +kernel
theorem d_Row_restHands_3 : decode b_Row_restHands 3 = .ok (.aload_n 0, 1) := by decide +kernel
theorem d_Row_restHands_4 : decode b_Row_restHands 4 = .ok (.getfield 10, 3) := by decide +kernel
theorem d_Row_restHands_7 : decode b_Row_restHands 7 = .ok (.invokevirtual 81, 3) := by decide +kernel
theorem d_Row_restHands_10 : decode b_Row_restHands 10 = .ok (.if_icmp .ge 23, 3) := by decide +kernel
theorem d_Row_restHands_33 : decode b_Row_restHands 33 = .ok (.return_, 1) := by decide +kernel
theorem d_Row_restHands_13 : decode b_Row_restHands 13 = .ok (.aload_n 0, 1) := by decide +kernel
theorem d_Row_restHands_14 : decode b_Row_restHands 14 = .ok (.getfield 10, 3) := by decide +kernel
theorem d_Row_restHands_17 : decode b_Row_restHands 17 = .ok (.iload_n 1, 1) := by decide +kernel
theorem d_Row_restHands_18 : decode b_Row_restHands 18 = .ok (.invokevirtual 354, 3) := by decide +kernel
theorem d_Row_restHands_21 : decode b_Row_restHands 21 = .ok (.checkcast 92, 3) := by decide +kernel
theorem wm_736 : Cond.code ⟨"ThresholdRow$Hand", "rest", "()V"⟩ prog_5_method_4_code 1 none ∈ gT := gT_m (List.mem_of_getElem? (i := 736) (by decide +kernel)) (by decide +kernel)
theorem wm_733 : Cond.methodLink "ThresholdRow" 417 ⟨"ThresholdRow$Hand", "rest", "()V"⟩ ∈ gT := gT_m (List.mem_of_getElem? (i := 733) (by decide +kernel)) (by decide +kernel)
theorem d_Row_restHands_24 : decode b_Row_restHands 24 = .ok (.invokevirtual 417, 3) := by decide +kernel
theorem wm_734 : Cond.instanceMethod ⟨"ThresholdRow$Hand", "rest", "()V"⟩ ∈ gT := gT_m (List.mem_of_getElem? (i := 734) (by decide +kernel)) (by decide +kernel)
theorem wm_735 : Cond.selects "ThresholdRow$Hand" ⟨"ThresholdRow$Hand", "rest", "()V"⟩ ⟨"ThresholdRow$Hand", "rest", "()V"⟩ ∈ gT := gT_m (List.mem_of_getElem? (i := 735) (by decide +kernel)) (by decide +kernel)
theorem d_Row_restHands_27 : decode b_Row_restHands 27 = .ok (.iinc 1 1, 3) := by decide +kernel
theorem d_Row_restHands_30 : decode b_Row_restHands 30 = .ok (.goto (-28), 3) := by decide +kernel
theorem d_Row_pass_0 : decode b_Row_pass 0 = .ok (.iload_n 1, 1) := by decide +kernel
theorem d_Row_pass_1 : decode b_Row_pass 1 = .ok (.iconst 1, 1) := by decide +kernel
theorem d_Row_pass_2 : decode b_Row_pass 2 = .ok (.bipush 99, 2) := by decide +kernel
theorem d_Row_pass_4 : decode b_Row_pass 4 = .ok (.invokestatic 77, 3) := by decide +kernel
theorem d_Row_pass_7 : decode b_Row_pass 7 = .ok (.aload_n 0, 1) := by decide +kernel
theorem wm_244 : Cond.fieldLink "ThresholdRow" 51 "ThresholdRow" "day" "I" ∈ gT := gT_m (List.mem_of_getElem? (i := 244) (by decide +kernel)) (by decide +kernel)
theorem d_Row_pass_8 : decode b_Row_pass 8 = .ok (.getfield 51, 3) := by decide +kernel
theorem d_Row_pass_11 : decode b_Row_pass 11 = .ok (.iload_n 1, 1) := by decide +kernel
theorem d_Row_pass_12 : decode b_Row_pass 12 = .ok (.iadd, 1) := by decide +kernel
theorem d_Row_pass_13 : decode b_Row_pass 13 = .ok (.sipush 9999, 3) := by decide +kernel
theorem d_Row_pass_16 : decode b_Row_pass 16 = .ok (.if_icmp .le 14, 3) := by decide +kernel
theorem d_Row_pass_30 : decode b_Row_pass 30 = .ok (.iconst 0, 1) := by decide +kernel
theorem d_Row_pass_31 : decode b_Row_pass 31 = .ok (.istore_n 2, 1) := by decide +kernel
theorem d_Row_pass_32 : decode b_Row_pass 32 = .ok (.iload_n 2, 1) := by decide +kernel
theorem d_Row_pass_33 : decode b_Row_pass 33 = .ok (.iload_n 1, 1) := by decide +kernel
theorem d_Row_pass_34 : decode b_Row_pass 34 = .ok (.if_icmp .ge 34, 3) := by decide +kernel
theorem d_Row_pass_68 : decode b_Row_pass 68 = .ok (.aload_n 0, 1) := by decide +kernel
theorem d_Row_pass_69 : decode b_Row_pass 69 = .ok (.getfield 51, 3) := by decide +kernel
theorem d_Row_pass_72 : decode b_Row_pass 72 = .ok (.ireturn, 1) := by decide +kernel
theorem d_Row_pass_37 : decode b_Row_pass 37 = .ok (.aload_n 0, 1) := by decide +kernel
theorem d_Row_pass_38 : decode b_Row_pass 38 = .ok (.dup, 1) := by decide +kernel
theorem d_Row_pass_39 : decode b_Row_pass 39 = .ok (.getfield 51, 3) := by decide +kernel
theorem d_Row_pass_42 : decode b_Row_pass 42 = .ok (.iconst 1, 1) := by decide +kernel
theorem d_Row_pass_43 : decode b_Row_pass 43 = .ok (.iadd, 1) := by decide +kernel
theorem d_Row_pass_44 : decode b_Row_pass 44 = .ok (.putfield 51, 3) := by decide +kernel
theorem d_Row_pass_47 : decode b_Row_pass 47 = .ok (.aload_n 0, 1) := by decide +kernel
theorem wm_732 : Cond.code ⟨"ThresholdRow", "restHands", "()V"⟩ prog_1_method_56_code 2 none ∈ gT := gT_m (List.mem_of_getElem? (i := 732) (by decide +kernel)) (by decide +kernel)
theorem wm_729 : Cond.methodLink "ThresholdRow" 305 ⟨"ThresholdRow", "restHands", "()V"⟩ ∈ gT := gT_m (List.mem_of_getElem? (i := 729) (by decide +kernel)) (by decide +kernel)
theorem d_Row_pass_48 : decode b_Row_pass 48 = .ok (.invokevirtual 305, 3) := by decide +kernel
theorem wm_731 : Cond.instanceMethod ⟨"ThresholdRow", "restHands", "()V"⟩ ∈ gT := gT_m (List.mem_of_getElem? (i := 731) (by decide +kernel)) (by decide +kernel)
theorem wm_18 : Cond.selects "ThresholdRow" ⟨"ThresholdRow", "restHands", "()V"⟩ ⟨"ThresholdRow", "restHands", "()V"⟩ ∈ gT := gT_m (List.mem_of_getElem? (i := 18) (by decide +kernel)) (by decide +kernel)
theorem d_Row_pass_51 : decode b_Row_pass 51 = .ok (.aload_n 0, 1) := by decide +kernel
theorem wm_246 : Cond.fieldLink "ThresholdRow" 58 "ThresholdRow" "rats" "I" ∈ gT := gT_m (List.mem_of_getElem? (i := 246) (by decide +kernel)) (by decide +kernel)
theorem d_Row_pass_52 : decode b_Row_pass 52 = .ok (.getfield 58, 3) := by decide +kernel
theorem d_Row_pass_55 : decode b_Row_pass 55 = .ok (.ifCond .le 7, 3) := by decide +kernel
theorem d_Row_pass_62 : decode b_Row_pass 62 = .ok (.iinc 2 1, 3) := by decide +kernel
theorem d_Row_pass_65 : decode b_Row_pass 65 = .ok (.goto (-33), 3) := by decide +kernel
/-- the hands at their places have new values -/
def p_put : Nat → (Nat → Nat) → (Nat → gH) → (Nat → gH) → Nat → gH
  | 0, _, _, v => v
  | m + 1, ord, w, v => fun i => if ord m = i then w m else p_put m ord w v i
theorem p_put_at {ord : Nat → Nat} {w v : Nat → gH} : ∀ {m : Nat}, (∀ p q, p < m → q < m → ord p = ord q → p = q) → ∀ p, p < m → p_put m ord w v (ord p) = w p := by
  intro m
  induction m with
  | zero => intro _ p hp; omega
  | succ m ih =>
    intro hi p hp
    show (if ord m = ord p then w m else p_put m ord w v (ord p)) = w p
    by_cases h : ord m = ord p
    · rw [if_pos h, hi m p (by omega) hp h]
    · rw [if_neg h]
      refine ih (fun a b ha hb => hi a b (by omega) (by omega)) p ?_
      rcases Nat.lt_or_eq_of_le (Nat.le_of_lt_succ hp) with h1 | h1
      · exact h1
      · exact absurd (by rw [h1]) h
theorem p_put_no {ord : Nat → Nat} {w v : Nat → gH} {i : Nat} : ∀ {m : Nat}, (∀ p, p < m → ord p ≠ i) → p_put m ord w v i = v i := by
  intro m
  induction m with
  | zero => intro _; rfl
  | succ m ih =>
    intro h
    show (if ord m = i then w m else p_put m ord w v i) = v i
    rw [if_neg (h m (by omega))]
    exact ih (fun p hp => h p (by omega))
theorem gw_fa.puts {z0 : Nat} {cO : ClassId} {M M' : gM} {o n : Nat} {day : Int32} {S : gS} {Z ad bn : Nat → Nat} (h : gw_fa z0 cO M o n day S Z ad bn) {w : Nat → gH} (h1 : ∀ p, p < S.1 → M' (ad (S.2.1 p)) = some (gw_hd (w p))) (h2 : ∀ i, i < n → (∀ p, p < S.1 → S.2.1 p ≠ i) → M' (ad i) = M (ad i)) : ∀ i, i < n → M' (ad i) = some (gw_hd (p_put S.1 S.2.1 w S.2.2 i)) := by
  obtain ⟨-, -, -, -, -, -, -, -, -, hhd, had, hord, hoi, -⟩ := h
  intro i hi
  by_cases hx : ∃ p, p < S.1 ∧ S.2.1 p = i
  · obtain ⟨p, hp, rfl⟩ := hx
    rw [p_put_at hoi p hp]
    exact h1 p hp
  · have hno : ∀ p, p < S.1 → S.2.1 p ≠ i := fun p hp z => hx ⟨p, hp, z⟩
    rw [p_put_no hno]
    exact (h2 i hi hno).trans (hhd i hi)
theorem gw_fa.ch {z0 : Nat} {cO : ClassId} {M M' : gM} {o n : Nat} {day : Int32} {S : gS} {Z ad bn : Nat → Nat} (h : gw_fa z0 cO M o n day S Z ad bn) {w : Nat → gH} (hc : gw_ch M M' S.1 (fun p => ad (S.2.1 p)) w) : gw_fa z0 cO M' o n day (S.1, S.2.1, p_put S.1 S.2.1 w S.2.2) Z ad bn ∧ gw_ints M M' := by
  have h0 := h
  obtain ⟨-, -, -, -, -, -, -, -, -, hhd, had, hord, hoi, -⟩ := h0
  have hfr : ∀ b e, M b = some e → (∀ x, e ≠ .inr (6, x)) → M' b = M b := fun b e hb he => hc.1 b (fun p hp z => he _ (by rw [z] at hb; exact Option.some.inj (hb.symm.trans (hhd _ (hord p hp)))))
  exact ⟨h.vals (h.puts hc.2 (fun i hi hno => hc.1 _ (fun p hp z => hno p hp (had _ _ (hord p hp) hi z.symm)))) hfr, gw_ints.vals hfr⟩
/-- a round, of m + 1 who stand so -/
def p_rn (m : Nat) (ord : Nat → Nat) (v : Nat → gH) : Int32 × gS :=
  match p_los m (p_lean (m + 1) (fun p => v (ord p))) m 0 with
  | none => (1, m + 1, ord, p_put (m + 1) ord (p_held m (fun p => v (ord p))) v)
  | some j => if (v (ord j)).2.2.1 < 50 then (0, m + 1, ord, p_put (m + 1) ord (p_lost m (fun p => v (ord p)) j) v)
    else (0, m, skp j ord, p_put (m + 1) ord (fun p => if p = j then hHu (p_lost m (fun p => v (ord p)) j j) 7 else p_lost m (fun p => v (ord p)) j p) v)
def p_rnd (S : gS) : Int32 × gS := p_rn (S.1 - 1) S.2.1 S.2.2
theorem p_rnd_01 (S : gS) : (p_rnd S).1 = 0 ∨ (p_rnd S).1 = 1 := by
  unfold p_rnd p_rn
  split
  · exact Or.inr rfl
  · split
    · exact Or.inl rfl
    · exact Or.inl rfl
/-- rounds, until fewer than two stand -/
def p_prac : Nat → gS → Int32 → Int32 × gS
  | 0, S, c => (c, S)
  | k + 1, S, c => if S.1 < 2 then (c, S) else p_prac k (p_rnd S).2 (c + (p_rnd S).1)
def p_rests : Nat → gH → gH
  | 0, v => v
  | k + 1, v => p_rest (p_rests k v)
def p_sum (v : Nat → gH) : Nat → Int32
  | 0 => 0
  | k + 1 => p_sum v k + (v k).2.2.1
theorem c_beat (l : Launch) (E : Nat) (D : va_G) (cI cO cZ : ClassId) (z0 : Nat) (M : gM) {o n : Nat} {day : Int32} {S : gS} {Z ad bn : Nat → Nat} (hf : gw_fa z0 cO M o n day S Z ad bn) (hz : M z0 = none) (h2 : 2 ≤ S.1) : Met l y_Gang_beatRound (Cond.code y_Gang_beatRound b_Gang_beatRound 3 (some .boolean) :: gT) ({ frames := 6, cells := 0, slots := 0, locals := 130 }) (gw_Pc E D cI cO cZ z0 M [.ref (Z 5)]) (gw_Qi E D (fun r M' => r = (p_rnd S).1 ∧ ∃ Z' : Nat → Nat, gw_fa z0 cO M' o n day (p_rnd S).2 Z' ad bn ∧ gw_ints M M')) 0 0 (gw_A E) := by
  obtain ⟨m1, ord, v⟩ := S
  obtain ⟨m, rfl⟩ : ∃ m, m1 = m + 1 := ⟨m1 - 1, by have : 2 ≤ m1 := h2; omega⟩
  have hg := hf.gg
  have hR : p_rnd (m + 1, ord, v) = p_rn m ord v := rfl
  rw [hR]
  cases hlo : p_los m (p_lean (m + 1) (fun p => v (ord p))) m 0 with
  | none =>
    refine gw_weakI (c_Gang_beatRound_none l E D cI cO cZ z0 M hg hlo) (fun r M' h => ?_)
    have e1 : p_rn m ord v = (1, m + 1, ord, p_put (m + 1) ord (p_held m (fun p => v (ord p))) v) := by unfold p_rn; rw [hlo]
    rw [e1]
    obtain ⟨q1, q2⟩ := hf.ch h.2
    exact ⟨h.1, Z, q1, q2⟩
  | some j =>
    by_cases hw : (v (ord j)).2.2.1 < 50
    · refine gw_weakI (c_Gang_beatRound_stay l E D cI cO cZ z0 M hg hlo hw) (fun r M' h => ?_)
      have e1 : p_rn m ord v = (0, m + 1, ord, p_put (m + 1) ord (p_lost m (fun p => v (ord p)) j) v) := by unfold p_rn; rw [hlo]; exact if_pos hw
      rw [e1]
      obtain ⟨q1, q2⟩ := hf.ch h.2
      exact ⟨h.1, Z, q1, q2⟩
    · refine gw_weakI (c_Gang_beatRound_leave l E D cI cO cZ z0 M hg hlo hw) (fun r M' h => ?_)
      have e1 : p_rn m ord v = (0, m, skp j ord, p_put (m + 1) ord (fun p => if p = j then hHu (p_lost m (fun p => v (ord p)) j j) 7 else p_lost m (fun p => v (ord p)) j p) v) := by unfold p_rn; rw [hlo]; exact if_neg hw
      rw [e1]
      obtain ⟨h1, h2, h3, h4⟩ := h
      have h0 := hf
      obtain ⟨hro, hLh, hLl, hLb, hbn, hgg, hLg, hdr, hlg, hhd, had, hord, hoi, hne, har⟩ := h0
      obtain ⟨kg, hgl, -, hgf⟩ := id hLg
      have hta : ∀ i, i < n → ad i ≠ Z 7 := fun i hi => by
        rcases hgf with ⟨-, hgz⟩ | ⟨f, hgz, -⟩
        · rw [hgz]; exact gw_neF hz (hhd i hi)
        · exact (gw_neA hgz (hhd i hi)).symm
      have hfr : ∀ b e, M b = some e → b ≠ Z 6 → b ≠ Z 7 → (∀ x, e ≠ .inr (6, x)) → M' b = M b := fun b e hb q1 q2 he => h4 b (fun p hp z => he _ (by rw [z] at hb; exact Option.some.inj (hb.symm.trans (hhd _ (hord p hp))))) q1 q2
      refine ⟨h1, _, hf.gang (m' := m) (ord' := skp j ord) hz ?_ (hf.puts h2 (fun i hi hno => h4 _ (fun p hp z => hno p hp (had _ _ (hord p hp) hi z.symm)) (gw_neO (hhd i hi) hgl (by decide)) (hta i hi))) hfr (Or.inl rfl) (skp_lt (fun p hp => hord p hp)) (skp_inj (fun p q hp hq z => hoi p q hp hq z)), gw_ints.of hLg hz hfr (Or.inl rfl)⟩
      have e2 : (fun p => ad (skp j ord p)) = (fun p => if p < j then (fun p => ad (ord p)) p else (fun p => ad (ord p)) (p + 1)) := by funext p; unfold skp; split <;> rfl
      rw [e2]; exact h3
set_option maxHeartbeats 4000000 in
set_option maxRecDepth 100000 in
theorem c_Row_practise (l : Launch) (E : Nat) (D : va_G) (cI cO cZ : ClassId) (z0 : Nat) (M : gM) {o n : Nat} {day : Int32} {S : gS} {Z ad bn : Nat → Nat} (hf : gw_fa z0 cO M o n day S Z ad bn) {R : Nat} (hR1 : 1 ≤ R) (hR2 : R ≤ 99) (h2 : 2 ≤ S.1) : Met l y_Row_practise (Cond.code y_Row_practise b_Row_practise 4 (some .int) :: gT) ({ frames := 7, cells := 0, slots := 0, locals := 152 }) (gw_Pc E D cI cO cZ z0 M [.ref o, .int (nI R)]) (gw_Qi E D (fun r M' => r = (p_prac R S 0).1 ∧ ∃ Z' : Nat → Nat, gw_fa z0 cO M' o n day (p_prac R S 0).2 Z' ad bn ∧ gw_ints M M')) 0 0 (gw_A E) := by
  refine gw_ofW (cc := b_Row_practise) (maxL := 4) (ret := (some .int)) (by decide) rfl (Nat.le_of_ble_eq_true rfl) ?_
  intro p e s m args below meth c hx hb hr hml hts hown hlk hnm hF hG ls hl
  have hT : ∀ w ∈ gT, w.before args s = true := fun w h => hts w (List.mem_cons_of_mem _ h)
  have hK := hF.1
  have hl : lv_has ls 4 [(0, .ref o), (1, .int (nI R))] := hl
  obtain ⟨hro, hLh, hLl, hLb, hbn, hgg, hLg, hdr, hlg, hhd, had, hord, hoi, hne, har⟩ := id hf
  obtain ⟨kh, hhl, h10, -⟩ := id hLh
  have hz0 := gw_z0 hF hG
  refine lv_iload_n hx hb d_Row_practise_0 rfl (lv_at hl 1 rfl) ?_
  refine lv_iconst (v := 1) hx hb d_Row_practise_1 (by decide) ?_
  refine lv_bipush (v := 99) hx hb d_Row_practise_2 (by decide) ?_
  refine gw_callv (gw_runS (As := [.int (nI R), .int 1, .int 99]) (rest := []) ⟨hx, hb, hml, hown, hts⟩ (c_Row_checkRange l E D cI cO cZ z0 M (x := nI R) (y := 1) (z := 99) (show ¬ nI R < nI 1 from nI_nlt hR1 (by omega)) (show nI R ≤ nI 99 from nI_le hR2 (by decide))) (gw_cwS 3 hts (gT_gi wm_425) rfl rfl rfl (hT _ wm_23) (hT _ wm_423) (hT _ wm_424) (by decide +kernel) ⟨Nat.le_of_ble_eq_true rfl, Nat.le_of_ble_eq_true rfl⟩) hF hG rfl hl.1 rfl (Nat.le_of_ble_eq_true rfl) d_Row_practise_4 ⟨Nat.le_of_ble_eq_true rfl, Nat.le_of_ble_eq_true rfl⟩) hG (fun M1 H locs hp hG => ?_)
  replace hG := gw_nm hp.symm hG
  refine lv_aload_n hx hb d_Row_practise_7 rfl (lv_at hl 0 rfl) ?_
  refine gw_callv (gw_runV (As := []) (rest := []) ⟨hx, hb, hml, hown, hts⟩ (c_Row_checkGang l E D cI cO cZ z0 M hf h2) (gw_cwV 0 hts (gT_gi wm_682) rfl rfl rfl (hT _ wm_23) (hT _ wm_679) (hT _ wm_681) (hT _ wm_13) (by decide +kernel) ⟨Nat.le_of_ble_eq_true rfl, Nat.le_of_ble_eq_true rfl⟩) hF hG rfl hro rfl hl.1 rfl (Nat.le_of_ble_eq_true rfl) d_Row_practise_8 ⟨Nat.le_of_ble_eq_true rfl, Nat.le_of_ble_eq_true rfl⟩) hG (fun M2 H locs hp hG => ?_)
  replace hG := gw_nm hp.symm hG
  refine lv_iconst (v := 0) hx hb d_Row_practise_11 (by decide) ?_
  refine lv_istore_n (lv' := [(2, .int 0), (0, .ref o), (1, .int (nI R))]) hx hb d_Row_practise_12 rfl hl (by decide) rfl (fun ls hl => ?_)
  refine lv_iconst (v := 0) hx hb d_Row_practise_13 (by decide) ?_
  refine lv_istore_n (lv' := [(3, .int 0), (2, .int 0), (0, .ref o), (1, .int (nI R))]) hx hb d_Row_practise_14 rfl hl (by decide) rfl (fun ls hl => ?_)
  have loop : ∀ (d i : Nat), i + d = R → ∀ (X : gM) (H : Heap) (locs : List Loc) (ls : Array Slot) (S' : gS) (c' : Int32) (Z' : Nat → Nat), (p_prac R S 0 = p_prac d S' c' ∧ gw_fa z0 cO X o n day S' Z' ad bn ∧ gw_ints M X) → gw_H E D X s H locs → lv_has ls 4 [(1, .int (nI R)), (2, .int c'), (3, .int (nI i)), (0, .ref o)] → W p l e ({ frames := 7, cells := 0, slots := 0, locals := 152 } : Room) s m args below meth c H locs 0 0 (MQ below (gw_Qi E D (fun r M' => r = (p_prac R S 0).1 ∧ ∃ Z' : Nat → Nat, gw_fa z0 cO M' o n day (p_prac R S 0).2 Z' ad bn ∧ gw_ints M M')) args s 0 0 (gw_A E)) (F0 m 15 ls []) := by
    intro d
    induction d with
    | zero =>
      intro i hi X H locs ls S' c' Z' hI hG hl
      obtain ⟨hP, hfX, hIX⟩ := hI
      obtain ⟨hro, -, -, -, -, hgg, hLg, -⟩ := id hfX
      have hS10 := hLg.choose_spec.2.1
      have hzX := gw_z0 hF hG
      refine lv_iload_n hx hb d_Row_practise_15 rfl (lv_at hl 2 rfl) ?_
      refine lv_iload_n hx hb d_Row_practise_16 rfl (lv_at hl 0 rfl) ?_
      refine lv_icmp_ge (tgt := 50) hx hb d_Row_practise_17 (by decide) (fun c_17 => ?_) (fun z_ => absurd (nI_le (by omega) (by omega)) z_)
      refine lv_iload_n hx hb d_Row_practise_50 rfl (lv_at hl 1 rfl) ?_
      exact gw_iret (v := (c')) hx hb hr hlk hG (⟨by rw [hP]; rfl, Z', by rw [hP]; exact hfX, hIX⟩) (Nat.le_of_ble_eq_true rfl) (Nat.le_of_ble_eq_true rfl) d_Row_practise_51
    | succ d ih =>
      intro i hi X H locs ls S' c' Z' hI hG hl
      obtain ⟨hP, hfX, hIX⟩ := hI
      obtain ⟨hro, -, -, -, -, hgg, hLg, -⟩ := id hfX
      have hS10 := hLg.choose_spec.2.1
      have hzX := gw_z0 hF hG
      refine lv_iload_n hx hb d_Row_practise_15 rfl (lv_at hl 2 rfl) ?_
      refine lv_iload_n hx hb d_Row_practise_16 rfl (lv_at hl 0 rfl) ?_
      refine lv_icmp_ge (tgt := 50) hx hb d_Row_practise_17 (by decide) (fun z_ => absurd z_ (nI_ge (by omega) (by omega))) (fun c_17 => ?_)
      refine lv_aload_n hx hb d_Row_practise_20 rfl (lv_at hl 3 rfl) ?_
      refine gw_get hx hb hT i_Row hown hK hG hro rfl 3 (by decide) (hT _ wm_239) (fun _ h => h) rfl d_Row_practise_21 ?_
      refine gw_calli (gw_runV (As := []) (rest := []) ⟨hx, hb, hml, hown, hts⟩ (c_Gang_count l E D cI cO cZ z0 X hfX.gg) (gw_cwV 0 hts (gT_gi wm_576) rfl rfl rfl (hT _ wm_27) (hT _ wm_573) (hT _ wm_574) (hT _ wm_575) (by decide +kernel) ⟨Nat.le_of_ble_eq_true rfl, Nat.le_of_ble_eq_true rfl⟩) hF hG rfl hgg rfl hl.1 rfl (Nat.le_of_ble_eq_true rfl) d_Row_practise_24 ⟨Nat.le_of_ble_eq_true rfl, Nat.le_of_ble_eq_true rfl⟩) hG (fun r M3 H locs hp hG => ?_)
      rw [hp.1]
      replace hG := gw_nm hp.2.symm hG
      refine lv_iconst (v := 2) hx hb d_Row_practise_27 (by decide) ?_
      refine lv_icmp_lt (tgt := 50) hx hb d_Row_practise_28 (by decide) (fun c_28 => ?_) (fun c_28 => ?_)
      · skip
        have hS2 : S'.1 < 2 := by rcases Nat.lt_or_ge S'.1 2 with h | h; exact h; exact absurd c_28 (show ¬ nI S'.1 < nI 2 from nI_nlt h (by omega))
        have hP2 : p_prac R S 0 = (c', S') := hP.trans (if_pos hS2)
        refine lv_iload_n hx hb d_Row_practise_50 rfl (lv_at hl 1 rfl) ?_
        exact gw_iret (v := (c')) hx hb hr hlk hG (⟨by rw [hP2], Z', by rw [hP2]; exact hfX, hIX⟩) (Nat.le_of_ble_eq_true rfl) (Nat.le_of_ble_eq_true rfl) d_Row_practise_51
      · skip
        have hS2 : ¬ S'.1 < 2 := fun h => c_28 (show nI S'.1 < nI 2 from nI_lt h (by decide))
        have hP2 : p_prac R S 0 = p_prac d (p_rnd S').2 (c' + (p_rnd S').1) := hP.trans (if_neg hS2)
        refine lv_aload_n hx hb d_Row_practise_31 rfl (lv_at hl 3 rfl) ?_
        refine gw_get hx hb hT i_Row hown hK hG hro rfl 3 (by decide) (hT _ wm_239) (fun _ h => h) rfl d_Row_practise_32 ?_
        refine gw_calli (gw_runV (As := []) (rest := []) ⟨hx, hb, hml, hown, hts⟩ (c_beat l E D cI cO cZ z0 X hfX hzX (by omega)) (gw_cwV 0 hts (gT_gi wm_687) rfl rfl rfl (hT _ wm_27) (hT _ wm_684) (hT _ wm_685) (hT _ wm_686) (by decide +kernel) ⟨Nat.le_of_ble_eq_true rfl, Nat.le_of_ble_eq_true rfl⟩) hF hG rfl hgg rfl hl.1 rfl (Nat.le_of_ble_eq_true rfl) d_Row_practise_35 ⟨Nat.le_of_ble_eq_true rfl, Nat.le_of_ble_eq_true rfl⟩) hG (fun r M4 H locs hp hG => ?_)
        obtain ⟨rfl, Z2, hf2, hi2⟩ := hp
        refine lv_if_eq (tgt := 44) hx hb d_Row_practise_38 (by decide) (fun c_38 => ?_) (fun c_38 => ?_)
        · skip
          have ec : c' + (p_rnd S').1 = c' := by rw [c_38]; exact Int32.add_zero c'
          refine lv_iinc (v := nI (i + 1)) (lv' := [(3, .int (nI (i + 1))), (1, .int (nI R)), (2, .int c'), (0, .ref o)]) hx hb d_Row_practise_44 hl (k := 2) rfl (nI_succ i).symm (by decide) rfl (fun ls hl => ?_)
          refine lv_goto (tgt := 15) hx hb d_Row_practise_47 (by decide) ?_
          exact ih (i + 1) (by omega) M4 _ _ _ (p_rnd S').2 (c' + (p_rnd S').1) Z2 ⟨hP2, hf2, hIX.trans hi2⟩ hG (by rw [ec]; exact lv_sub hl [1, 2, 0, 3] rfl)
        · skip
          refine lv_iinc (v := c' + 1) (lv' := [(2, .int (c' + 1)), (1, .int (nI R)), (3, .int (nI i)), (0, .ref o)]) hx hb d_Row_practise_41 hl (k := 1) rfl rfl (by decide) rfl (fun ls hl => ?_)
          have ec : c' + (p_rnd S').1 = c' + 1 := by rw [(p_rnd_01 S').resolve_left c_38]
          refine lv_iinc (v := nI (i + 1)) (lv' := [(3, .int (nI (i + 1))), (2, .int (c' + 1)), (1, .int (nI R)), (0, .ref o)]) hx hb d_Row_practise_44 hl (k := 2) rfl (nI_succ i).symm (by decide) rfl (fun ls hl => ?_)
          refine lv_goto (tgt := 15) hx hb d_Row_practise_47 (by decide) ?_
          exact ih (i + 1) (by omega) M4 _ _ _ (p_rnd S').2 (c' + (p_rnd S').1) Z2 ⟨hP2, hf2, hIX.trans hi2⟩ hG (by rw [ec]; exact lv_sub hl [2, 1, 0, 3] rfl)
  exact loop _ _ (Nat.zero_add R) M _ _ _ S 0 Z ⟨rfl, hf, gw_ints.rf⟩ hG (lv_sub hl [3, 1, 0, 2] rfl)
set_option maxHeartbeats 4000000 in
set_option maxRecDepth 100000 in
theorem c_Row_practise_xr (l : Launch) (E : Nat) (D : va_G) (cI cO cZ : ClassId) (z0 : Nat) (M : gM) (hst : l.stackTraces = false) {o n : Nat} {day : Int32} {S : gS} {Z ad bn : Nat → Nat} (hf : gw_fa z0 cO M o n day S Z ad bn) {R : Nat} (hR1 : 99 < R) (hR2 : R < 2 ^ 31) : vx_Met l y_Row_practise (Cond.code y_Row_practise b_Row_practise 4 (some .int) :: gT) ({ frames := 7, cells := 1, slots := 6, locals := 104 }) (gw_Pc E D cI cO cZ z0 M [.ref o, .int (nI R)]) (gw_Qi E D (fun _ _ => False)) (gw_XC E D "java/lang/IllegalArgumentException" M) 1 6 (gw_A E) := by
  refine gw_ofX (cc := b_Row_practise) (maxL := 4) (ret := (some .int)) (by decide) rfl (Nat.le_of_ble_eq_true rfl) ?_
  intro p e s m args below meth c hx hb hr hml hts hown hlk hnt hF hG ls hl
  have hT : ∀ w ∈ gT, w.before args s = true := fun w h => hts w (List.mem_cons_of_mem _ h)
  have hK := hF.1
  have hl : lv_has ls 4 [(0, .ref o), (1, .int (nI R))] := hl
  obtain ⟨hro, hLh, hLl, hLb, hbn, hgg, hLg, hdr, hlg, hhd, had, hord, hoi, hne, har⟩ := id hf
  obtain ⟨kh, hhl, h10, -⟩ := id hLh
  have hz0 := gw_z0 hF hG
  refine lv_iload_n hx hb d_Row_practise_0 rfl (lv_at hl 1 rfl) ?_
  refine lv_iconst (v := 1) hx hb d_Row_practise_1 (by decide) ?_
  refine lv_bipush (v := 99) hx hb d_Row_practise_2 (by decide) ?_
  refine gw_xcallv (cls := "java/lang/IllegalArgumentException") (gw_xrunS (As := [.int (nI R), .int 1, .int 99]) (rest := []) ⟨hx, hb, hml, hown, hts⟩ (c_Row_checkRange_x l E D cI cO cZ z0 M hst (x := nI R) (y := 1) (z := 99) (Or.inr (show nI 99 < nI R from nI_lt hR1 hR2))) (gw_cwS 3 hts (gT_gi wm_425) rfl rfl rfl (hT _ wm_23) (hT _ wm_423) (hT _ wm_424) (by decide +kernel) ⟨Nat.le_of_ble_eq_true rfl, Nat.le_of_ble_eq_true rfl⟩) hF hG rfl hl.1 rfl (Nat.le_of_ble_eq_true rfl) d_Row_practise_4 ⟨Nat.le_of_ble_eq_true rfl, Nat.le_of_ble_eq_true rfl⟩) hG (fun ce q H locs hG hq1 hq2 hq3 => ?_)
  exact gw_xout hnt hlk hG hq1 hq2 hq3 (Nat.le_of_ble_eq_true rfl) (Nat.le_of_ble_eq_true rfl)
set_option maxHeartbeats 4000000 in
set_option maxRecDepth 100000 in
theorem c_Row_practise_xg (l : Launch) (E : Nat) (D : va_G) (cI cO cZ : ClassId) (z0 : Nat) (M : gM) (hst : l.stackTraces = false) {o n : Nat} {day : Int32} {S : gS} {Z ad bn : Nat → Nat} (hf : gw_fa z0 cO M o n day S Z ad bn) {R : Nat} (hR1 : 1 ≤ R) (hR2 : R ≤ 99) (h2 : S.1 < 2) : vx_Met l y_Row_practise (Cond.code y_Row_practise b_Row_practise 4 (some .int) :: gT) ({ frames := 7, cells := 1, slots := 6, locals := 102 }) (gw_Pc E D cI cO cZ z0 M [.ref o, .int (nI R)]) (gw_Qi E D (fun _ _ => False)) (gw_XC E D "java/lang/UnsupportedOperationException" M) 1 6 (gw_A E) := by
  refine gw_ofX (cc := b_Row_practise) (maxL := 4) (ret := (some .int)) (by decide) rfl (Nat.le_of_ble_eq_true rfl) ?_
  intro p e s m args below meth c hx hb hr hml hts hown hlk hnt hF hG ls hl
  have hT : ∀ w ∈ gT, w.before args s = true := fun w h => hts w (List.mem_cons_of_mem _ h)
  have hK := hF.1
  have hl : lv_has ls 4 [(0, .ref o), (1, .int (nI R))] := hl
  obtain ⟨hro, hLh, hLl, hLb, hbn, hgg, hLg, hdr, hlg, hhd, had, hord, hoi, hne, har⟩ := id hf
  obtain ⟨kh, hhl, h10, -⟩ := id hLh
  have hz0 := gw_z0 hF hG
  refine lv_iload_n hx hb d_Row_practise_0 rfl (lv_at hl 1 rfl) ?_
  refine lv_iconst (v := 1) hx hb d_Row_practise_1 (by decide) ?_
  refine lv_bipush (v := 99) hx hb d_Row_practise_2 (by decide) ?_
  refine gw_callv (gw_runS (As := [.int (nI R), .int 1, .int 99]) (rest := []) ⟨hx, hb, hml, hown, hts⟩ (c_Row_checkRange l E D cI cO cZ z0 M (x := nI R) (y := 1) (z := 99) (show ¬ nI R < nI 1 from nI_nlt hR1 (by omega)) (show nI R ≤ nI 99 from nI_le hR2 (by decide))) (gw_cwS 3 hts (gT_gi wm_425) rfl rfl rfl (hT _ wm_23) (hT _ wm_423) (hT _ wm_424) (by decide +kernel) ⟨Nat.le_of_ble_eq_true rfl, Nat.le_of_ble_eq_true rfl⟩) hF hG rfl hl.1 rfl (Nat.le_of_ble_eq_true rfl) d_Row_practise_4 ⟨Nat.le_of_ble_eq_true rfl, Nat.le_of_ble_eq_true rfl⟩) hG (fun M1 H locs hp hG => ?_)
  replace hG := gw_nm hp.symm hG
  refine lv_aload_n hx hb d_Row_practise_7 rfl (lv_at hl 0 rfl) ?_
  refine gw_xcallv (cls := "java/lang/UnsupportedOperationException") (gw_xrunV (As := []) (rest := []) ⟨hx, hb, hml, hown, hts⟩ (c_Row_checkGang_x l E D cI cO cZ z0 M hst hf h2) (gw_cwV 0 hts (gT_gi wm_682) rfl rfl rfl (hT _ wm_23) (hT _ wm_679) (hT _ wm_681) (hT _ wm_13) (by decide +kernel) ⟨Nat.le_of_ble_eq_true rfl, Nat.le_of_ble_eq_true rfl⟩) hF hG rfl hro rfl hl.1 rfl (Nat.le_of_ble_eq_true rfl) d_Row_practise_8 ⟨Nat.le_of_ble_eq_true rfl, Nat.le_of_ble_eq_true rfl⟩) hG (fun ce q H locs hG hq1 hq2 hq3 => ?_)
  exact gw_xout hnt hlk hG hq1 hq2 hq3 (Nat.le_of_ble_eq_true rfl) (Nat.le_of_ble_eq_true rfl)
set_option maxHeartbeats 4000000 in
set_option maxRecDepth 100000 in
theorem c_Row_restHands (l : Launch) (E : Nat) (D : va_G) (cI cO cZ : ClassId) (z0 : Nat) (M : gM) {o n : Nat} {day : Int32} {S : gS} {Z ad bn : Nat → Nat} (hf : gw_fa z0 cO M o n day S Z ad bn) : Met l y_Row_restHands (Cond.code y_Row_restHands b_Row_restHands 2 none :: gT) ({ frames := 3, cells := 0, slots := 0, locals := 64 }) (gw_Pc E D cI cO cZ z0 M [.ref o]) (gw_Qv E D (fun M' => gw_ch M M' n ad (fun i => p_rest (S.2.2 i)))) 0 0 (gw_A E) := by
  refine gw_ofW (cc := b_Row_restHands) (maxL := 2) (ret := none) (by decide) rfl (Nat.le_of_ble_eq_true rfl) ?_
  intro p e s m args below meth c hx hb hr hml hts hown hlk hnm hF hG ls hl
  have hT : ∀ w ∈ gT, w.before args s = true := fun w h => hts w (List.mem_cons_of_mem _ h)
  have hK := hF.1
  have hl : lv_has ls 2 [(0, .ref o)] := hl
  obtain ⟨hro, hLh, hLl, hLb, hbn, hgg, hLg, hdr, hlg, hhd, had, hord, hoi, hne, har⟩ := id hf
  obtain ⟨kh, hhl, h10, -⟩ := id hLh
  have hz0 := gw_z0 hF hG
  refine lv_iconst (v := 0) hx hb d_Row_restHands_0 (by decide) ?_
  refine lv_istore_n (lv' := [(1, .int 0), (0, .ref o)]) hx hb d_Row_restHands_1 rfl hl (by decide) rfl (fun ls hl => ?_)
  have loop : ∀ (d i : Nat), i + d = n → ∀ (X : gM) (H : Heap) (locs : List Loc) (ls : Array Slot), (gw_ch M X n ad (fun p => if p < i then p_rest (S.2.2 p) else S.2.2 p)) → gw_H E D X s H locs → lv_has ls 2 [(1, .int (nI i)), (0, .ref o)] → W p l e ({ frames := 3, cells := 0, slots := 0, locals := 64 } : Room) s m args below meth c H locs 0 0 (MQ below (gw_Qv E D (fun M' => gw_ch M M' n ad (fun i => p_rest (S.2.2 i)))) args s 0 0 (gw_A E)) (F0 m 2 ls []) := by
    intro d
    induction d with
    | zero =>
      intro i hi X H locs ls hI hG hl
      have hroX := (hI.obj hhd hro (by decide)).trans hro
      have hhlX := (hI.obj hhd hhl (by decide)).trans hhl
      have hLX := hI.L hhd hLh
      refine lv_iload_n hx hb d_Row_restHands_2 rfl (lv_at hl 0 rfl) ?_
      refine lv_aload_n hx hb d_Row_restHands_3 rfl (lv_at hl 1 rfl) ?_
      refine gw_get hx hb hT i_Row hown hK hG hroX rfl 0 (by decide) (hT _ wm_236) (fun _ h => h) rfl d_Row_restHands_4 ?_
      refine gw_calli (gw_runV (As := []) (rest := [.int (nI i)]) ⟨hx, hb, hml, hown, hts⟩ (c_L_size l E D cI cO cZ z0 X hLX) (gw_cwV 0 hts (gT_gi wm_286) rfl rfl rfl (hT _ wm_26) (hT _ wm_283) (hT _ wm_284) (hT _ wm_285) (by decide +kernel) ⟨Nat.le_of_ble_eq_true rfl, Nat.le_of_ble_eq_true rfl⟩) hF hG rfl hhlX rfl hl.1 rfl (Nat.le_of_ble_eq_true rfl) d_Row_restHands_7 ⟨Nat.le_of_ble_eq_true rfl, Nat.le_of_ble_eq_true rfl⟩) hG (fun r M1 H locs hp hG => ?_)
      rw [hp.1]
      replace hG := gw_nm hp.2.symm hG
      refine lv_icmp_ge (tgt := 33) hx hb d_Row_restHands_10 (by decide) (fun c_10 => ?_) (fun z_ => absurd (nI_le (by omega) (by omega)) z_)
      exact gw_vret hx hb hr hlk hG (hI.to (fun p hp => if_pos (by omega))) (Nat.le_of_ble_eq_true rfl) (Nat.le_of_ble_eq_true rfl) d_Row_restHands_33
    | succ d ih =>
      intro i hi X H locs ls hI hG hl
      have hroX := (hI.obj hhd hro (by decide)).trans hro
      have hhlX := (hI.obj hhd hhl (by decide)).trans hhl
      have hLX := hI.L hhd hLh
      refine lv_iload_n hx hb d_Row_restHands_2 rfl (lv_at hl 0 rfl) ?_
      refine lv_aload_n hx hb d_Row_restHands_3 rfl (lv_at hl 1 rfl) ?_
      refine gw_get hx hb hT i_Row hown hK hG hroX rfl 0 (by decide) (hT _ wm_236) (fun _ h => h) rfl d_Row_restHands_4 ?_
      refine gw_calli (gw_runV (As := []) (rest := [.int (nI i)]) ⟨hx, hb, hml, hown, hts⟩ (c_L_size l E D cI cO cZ z0 X hLX) (gw_cwV 0 hts (gT_gi wm_286) rfl rfl rfl (hT _ wm_26) (hT _ wm_283) (hT _ wm_284) (hT _ wm_285) (by decide +kernel) ⟨Nat.le_of_ble_eq_true rfl, Nat.le_of_ble_eq_true rfl⟩) hF hG rfl hhlX rfl hl.1 rfl (Nat.le_of_ble_eq_true rfl) d_Row_restHands_7 ⟨Nat.le_of_ble_eq_true rfl, Nat.le_of_ble_eq_true rfl⟩) hG (fun r M2 H locs hp hG => ?_)
      rw [hp.1]
      replace hG := gw_nm hp.2.symm hG
      refine lv_icmp_ge (tgt := 33) hx hb d_Row_restHands_10 (by decide) (fun z_ => absurd z_ (nI_ge (by omega) (by omega))) (fun c_10 => ?_)
      refine lv_aload_n hx hb d_Row_restHands_13 rfl (lv_at hl 1 rfl) ?_
      refine gw_get hx hb hT i_Row hown hK hG hroX rfl 0 (by decide) (hT _ wm_236) (fun _ h => h) rfl d_Row_restHands_14 ?_
      refine lv_iload_n hx hb d_Row_restHands_17 rfl (lv_at hl 0 rfl) ?_
      refine gw_callq (gw_runV (As := [.int (nI i)]) (rest := []) ⟨hx, hb, hml, hown, hts⟩ (c_L_get l E D cI cO cZ z0 X hLX (p := i) (by omega)) (gw_cwV 1 hts (gT_gi wm_362) rfl rfl rfl (hT _ wm_26) (hT _ wm_359) (hT _ wm_360) (hT _ wm_361) (by decide +kernel) ⟨Nat.le_of_ble_eq_true rfl, Nat.le_of_ble_eq_true rfl⟩) hF hG rfl hhlX rfl hl.1 rfl (Nat.le_of_ble_eq_true rfl) d_Row_restHands_18 ⟨Nat.le_of_ble_eq_true rfl, Nat.le_of_ble_eq_true rfl⟩) hG (fun r M3 H locs hp hG => ?_)
      rw [hp.1]
      replace hG := gw_nm hp.2.symm hG
      have hgi := hI.at (by omega : i < n)
      refine gw_cast (ci := 6) (r := (R_Hand, F_Hand, 10)) hx hb hown (hT _ wm_373) hF hG rfl hgi d_Row_restHands_21 ?_
      refine gw_callv (gw_runV (As := []) (rest := []) ⟨hx, hb, hml, hown, hts⟩ (c_Hand_rest l E D cI cO cZ z0 X hgi) (gw_cwV 0 hts (gT_gi wm_736) rfl rfl rfl (hT _ wm_40) (hT _ wm_733) (hT _ wm_734) (hT _ wm_735) (by decide +kernel) ⟨Nat.le_of_ble_eq_true rfl, Nat.le_of_ble_eq_true rfl⟩) hF hG rfl hgi rfl hl.1 rfl (Nat.le_of_ble_eq_true rfl) d_Row_restHands_24 ⟨Nat.le_of_ble_eq_true rfl, Nat.le_of_ble_eq_true rfl⟩) hG (fun M4 H locs hp hG => ?_)
      refine lv_iinc (v := nI (i + 1)) (lv' := [(1, .int (nI (i + 1))), (0, .ref o)]) hx hb d_Row_restHands_27 hl (k := 0) rfl (nI_succ i).symm (by decide) rfl (fun ls hl => ?_)
      refine lv_goto (tgt := 2) hx hb d_Row_restHands_30 (by decide) ?_
      exact ih (i + 1) (by omega) M4 _ _ _ (by rw [hp]; exact gw_ch.step (w := fun i => p_rest (S.2.2 i)) had (by omega) hI) hG (lv_sub hl [0, 1] rfl)
  exact loop _ _ (Nat.zero_add n) M _ _ _ (gw_ch.zero (w := fun i => p_rest (S.2.2 i)) hhd) hG (lv_sub hl [0, 1] rfl)
set_option maxHeartbeats 4000000 in
set_option maxRecDepth 100000 in
theorem c_Row_pass (l : Launch) (E : Nat) (D : va_G) (cI cO cZ : ClassId) (z0 : Nat) (M : gM) {o n : Nat} {day : Int32} {S : gS} {Z ad bn : Nat → Nat} (hf : gw_fa z0 cO M o n day S Z ad bn) {R : Nat} (hR1 : 1 ≤ R) (hR2 : R ≤ 99) (hday : day + nI R ≤ 9999) : Met l y_Row_pass (Cond.code y_Row_pass b_Row_pass 3 (some .int) :: gT) ({ frames := 4, cells := 0, slots := 0, locals := 85 }) (gw_Pc E D cI cO cZ z0 M [.ref o, .int (nI R)]) (gw_Qi E D (fun r M' => r = day + nI R ∧ gw_fa z0 cO M' o n (day + nI R) (S.1, S.2.1, fun j => p_rests R (S.2.2 j)) Z ad bn ∧ gw_ints M M')) 0 0 (gw_A E) := by
  refine gw_ofW (cc := b_Row_pass) (maxL := 3) (ret := (some .int)) (by decide) rfl (Nat.le_of_ble_eq_true rfl) ?_
  intro p e s m args below meth c hx hb hr hml hts hown hlk hnm hF hG ls hl
  have hT : ∀ w ∈ gT, w.before args s = true := fun w h => hts w (List.mem_cons_of_mem _ h)
  have hK := hF.1
  have hl : lv_has ls 3 [(0, .ref o), (1, .int (nI R))] := hl
  obtain ⟨hro, hLh, hLl, hLb, hbn, hgg, hLg, hdr, hlg, hhd, had, hord, hoi, hne, har⟩ := id hf
  obtain ⟨kh, hhl, h10, -⟩ := id hLh
  have hz0 := gw_z0 hF hG
  refine lv_iload_n hx hb d_Row_pass_0 rfl (lv_at hl 1 rfl) ?_
  refine lv_iconst (v := 1) hx hb d_Row_pass_1 (by decide) ?_
  refine lv_bipush (v := 99) hx hb d_Row_pass_2 (by decide) ?_
  refine gw_callv (gw_runS (As := [.int (nI R), .int 1, .int 99]) (rest := []) ⟨hx, hb, hml, hown, hts⟩ (c_Row_checkRange l E D cI cO cZ z0 M (x := nI R) (y := 1) (z := 99) (show ¬ nI R < nI 1 from nI_nlt hR1 (by omega)) (show nI R ≤ nI 99 from nI_le hR2 (by decide))) (gw_cwS 3 hts (gT_gi wm_425) rfl rfl rfl (hT _ wm_23) (hT _ wm_423) (hT _ wm_424) (by decide +kernel) ⟨Nat.le_of_ble_eq_true rfl, Nat.le_of_ble_eq_true rfl⟩) hF hG rfl hl.1 rfl (Nat.le_of_ble_eq_true rfl) d_Row_pass_4 ⟨Nat.le_of_ble_eq_true rfl, Nat.le_of_ble_eq_true rfl⟩) hG (fun M1 H locs hp hG => ?_)
  replace hG := gw_nm hp.symm hG
  refine lv_aload_n hx hb d_Row_pass_7 rfl (lv_at hl 0 rfl) ?_
  refine gw_get hx hb hT i_Row hown hK hG hro rfl 8 (by decide) (hT _ wm_244) (fun _ h => h) rfl d_Row_pass_8 ?_
  refine lv_iload_n hx hb d_Row_pass_11 rfl (lv_at hl 1 rfl) ?_
  refine lv_iadd hx hb d_Row_pass_12 ?_
  refine lv_sipush (v := 9999) hx hb d_Row_pass_13 (by decide) ?_
  refine lv_icmp_le (tgt := 30) hx hb d_Row_pass_16 (by decide) (fun c_16 => ?_) (fun z_ => absurd (hday) z_)
  refine lv_iconst (v := 0) hx hb d_Row_pass_30 (by decide) ?_
  refine lv_istore_n (lv' := [(2, .int 0), (0, .ref o), (1, .int (nI R))]) hx hb d_Row_pass_31 rfl hl (by decide) rfl (fun ls hl => ?_)
  have loop : ∀ (d i : Nat), i + d = R → ∀ (X : gM) (H : Heap) (locs : List Loc) (ls : Array Slot), (gw_fa z0 cO X o n (day + nI i) (S.1, S.2.1, fun j => p_rests i (S.2.2 j)) Z ad bn ∧ gw_ints M X) → gw_H E D X s H locs → lv_has ls 3 [(1, .int (nI R)), (2, .int (nI i)), (0, .ref o)] → W p l e ({ frames := 4, cells := 0, slots := 0, locals := 85 } : Room) s m args below meth c H locs 0 0 (MQ below (gw_Qi E D (fun r M' => r = day + nI R ∧ gw_fa z0 cO M' o n (day + nI R) (S.1, S.2.1, fun j => p_rests R (S.2.2 j)) Z ad bn ∧ gw_ints M M')) args s 0 0 (gw_A E)) (F0 m 32 ls []) := by
    intro d
    induction d with
    | zero =>
      intro i hi X H locs ls hI hG hl
      obtain ⟨hfX, hIX⟩ := hI
      obtain ⟨hroX, -⟩ := id hfX
      refine lv_iload_n hx hb d_Row_pass_32 rfl (lv_at hl 1 rfl) ?_
      refine lv_iload_n hx hb d_Row_pass_33 rfl (lv_at hl 0 rfl) ?_
      refine lv_icmp_ge (tgt := 68) hx hb d_Row_pass_34 (by decide) (fun c_34 => ?_) (fun z_ => absurd (nI_le (by omega) (by omega)) z_)
      refine lv_aload_n hx hb d_Row_pass_68 rfl (lv_at hl 2 rfl) ?_
      refine gw_get hx hb hT i_Row hown hK hG hroX rfl 8 (by decide) (hT _ wm_244) (fun _ h => h) rfl d_Row_pass_69 ?_
      have hiR : i = R := by omega
      rw [hiR] at hfX ⊢
      exact gw_iret (v := (day + nI R)) hx hb hr hlk hG (⟨rfl, hfX, hIX⟩) (Nat.le_of_ble_eq_true rfl) (Nat.le_of_ble_eq_true rfl) d_Row_pass_72
    | succ d ih =>
      intro i hi X H locs ls hI hG hl
      obtain ⟨hfX, hIX⟩ := hI
      obtain ⟨hroX, -⟩ := id hfX
      refine lv_iload_n hx hb d_Row_pass_32 rfl (lv_at hl 1 rfl) ?_
      refine lv_iload_n hx hb d_Row_pass_33 rfl (lv_at hl 0 rfl) ?_
      refine lv_icmp_ge (tgt := 68) hx hb d_Row_pass_34 (by decide) (fun z_ => absurd z_ (nI_ge (by omega) (by omega))) (fun c_34 => ?_)
      refine lv_aload_n hx hb d_Row_pass_37 rfl (lv_at hl 2 rfl) ?_
      refine lv_dup hx hb d_Row_pass_38 rfl ?_
      refine gw_get hx hb hT i_Row hown hK hG hroX rfl 8 (by decide) (hT _ wm_244) (fun _ h => h) rfl d_Row_pass_39 ?_
      refine lv_iconst (v := 1) hx hb d_Row_pass_42 (by decide) ?_
      refine lv_iadd hx hb d_Row_pass_43 ?_
      rw [show day + nI i + 1 = (day + nI (i + 1)) from by rw [nI_succ, Int32.add_assoc]]
      refine gw_put (v := .int (day + nI (i + 1))) hx hb hT i_Row t_Row t_Row_ok n_Row hown hK hG hroX rfl 8 (by decide) (hT _ wm_244) (fun _ h => h) rfl rfl rfl (Nat.le_of_ble_eq_true rfl) d_Row_pass_44 (fun H locs hG => ?_)
      obtain ⟨M2, e_M2⟩ : ∃ Y_ : gM, Y_ = gw_up X o (.inr (0, [.ref (Z 0), .ref (Z 2), .ref (Z 3), .ref (Z 5), .ref (Z 8), .ref (Z 9), .ref (Z 10), .ref (Z 11), .int (day + nI (i + 1)), .int 1, .int 0, .int 0, .int 0, .int 0])) := ⟨_, rfl⟩
      replace hG := gw_nm e_M2 hG
      have hM2_o := (congrFun e_M2 o).trans gw_hit
      have hf2 := hfX.day (d2 := day + nI (i + 1))
      have hf3 : gw_fa z0 cO M2 o n (day + nI (i + 1)) (S.1, S.2.1, fun j => p_rests i (S.2.2 j)) Z ad bn := by rw [e_M2]; exact hf2
      refine lv_aload_n hx hb d_Row_pass_47 rfl (lv_at hl 2 rfl) ?_
      refine gw_callv (gw_runV (As := []) (rest := []) ⟨hx, hb, hml, hown, hts⟩ (c_Row_restHands l E D cI cO cZ z0 M2 hf3) (gw_cwV 0 hts (gT_gi wm_732) rfl rfl rfl (hT _ wm_23) (hT _ wm_729) (hT _ wm_731) (hT _ wm_18) (by decide +kernel) ⟨Nat.le_of_ble_eq_true rfl, Nat.le_of_ble_eq_true rfl⟩) hF hG rfl hM2_o rfl hl.1 rfl (Nat.le_of_ble_eq_true rfl) d_Row_pass_48 ⟨Nat.le_of_ble_eq_true rfl, Nat.le_of_ble_eq_true rfl⟩) hG (fun M3 H locs hp hG => ?_)
      obtain ⟨hro3, -, -, -, -, -, -, -, -, hhd3, -⟩ := id hf3
      have hfr : ∀ b e, M2 b = some e → (∀ x, e ≠ .inr (6, x)) → M3 b = M2 b := fun b e hb he => hp.1 b (fun p hp2 z => he _ (by rw [z] at hb; exact Option.some.inj (hb.symm.trans (hhd3 p hp2))))
      have hf4 : gw_fa z0 cO M3 o n (day + nI (i + 1)) (S.1, S.2.1, fun j => p_rests (i + 1) (S.2.2 j)) Z ad bn := hf3.vals hp.2 hfr
      have hi4 : gw_ints M M3 := (hIX.trans (fun b e hb he => by obtain ⟨q1, q2, q3, rfl⟩ := he; rw [e_M2]; exact gw_miss (gw_neA hb hroX))).trans (gw_ints.vals hfr)
      obtain ⟨hro4, -⟩ := id hf4
      refine lv_aload_n hx hb d_Row_pass_51 rfl (lv_at hl 2 rfl) ?_
      refine gw_get hx hb hT i_Row hown hK hG hro4 rfl 10 (by decide) (hT _ wm_246) (fun _ h => h) rfl d_Row_pass_52 ?_
      refine lv_if_le (tgt := 62) hx hb d_Row_pass_55 (by decide) (fun c_55 => ?_) (fun z_ => absurd (by decide) z_)
      refine lv_iinc (v := nI (i + 1)) (lv' := [(2, .int (nI (i + 1))), (1, .int (nI R)), (0, .ref o)]) hx hb d_Row_pass_62 hl (k := 1) rfl (nI_succ i).symm (by decide) rfl (fun ls hl => ?_)
      refine lv_goto (tgt := 32) hx hb d_Row_pass_65 (by decide) ?_
      exact ih (i + 1) (by omega) M3 _ _ _ ⟨hf4, hi4⟩ hG (lv_sub hl [1, 0, 2] rfl)
  exact loop _ _ (Nat.zero_add R) M _ _ _ ⟨by rw [show day + nI 0 = day from Int32.add_zero day]; exact hf, gw_ints.rf⟩ hG (lv_sub hl [2, 0, 1] rfl)
set_option maxHeartbeats 4000000 in
set_option maxRecDepth 100000 in
theorem c_Row_pass_x (l : Launch) (E : Nat) (D : va_G) (cI cO cZ : ClassId) (z0 : Nat) (M : gM) (hst : l.stackTraces = false) {o n : Nat} {day : Int32} {S : gS} {Z ad bn : Nat → Nat} (hf : gw_fa z0 cO M o n day S Z ad bn) {R : Nat} (hR1 : 99 < R) (hR2 : R < 2 ^ 31) : vx_Met l y_Row_pass (Cond.code y_Row_pass b_Row_pass 3 (some .int) :: gT) ({ frames := 7, cells := 1, slots := 6, locals := 104 }) (gw_Pc E D cI cO cZ z0 M [.ref o, .int (nI R)]) (gw_Qi E D (fun _ _ => False)) (gw_XC E D "java/lang/IllegalArgumentException" M) 1 6 (gw_A E) := by
  refine gw_ofX (cc := b_Row_pass) (maxL := 3) (ret := (some .int)) (by decide) rfl (Nat.le_of_ble_eq_true rfl) ?_
  intro p e s m args below meth c hx hb hr hml hts hown hlk hnt hF hG ls hl
  have hT : ∀ w ∈ gT, w.before args s = true := fun w h => hts w (List.mem_cons_of_mem _ h)
  have hK := hF.1
  have hl : lv_has ls 3 [(0, .ref o), (1, .int (nI R))] := hl
  obtain ⟨hro, hLh, hLl, hLb, hbn, hgg, hLg, hdr, hlg, hhd, had, hord, hoi, hne, har⟩ := id hf
  obtain ⟨kh, hhl, h10, -⟩ := id hLh
  have hz0 := gw_z0 hF hG
  refine lv_iload_n hx hb d_Row_pass_0 rfl (lv_at hl 1 rfl) ?_
  refine lv_iconst (v := 1) hx hb d_Row_pass_1 (by decide) ?_
  refine lv_bipush (v := 99) hx hb d_Row_pass_2 (by decide) ?_
  refine gw_xcallv (cls := "java/lang/IllegalArgumentException") (gw_xrunS (As := [.int (nI R), .int 1, .int 99]) (rest := []) ⟨hx, hb, hml, hown, hts⟩ (c_Row_checkRange_x l E D cI cO cZ z0 M hst (x := nI R) (y := 1) (z := 99) (Or.inr (show nI 99 < nI R from nI_lt hR1 hR2))) (gw_cwS 3 hts (gT_gi wm_425) rfl rfl rfl (hT _ wm_23) (hT _ wm_423) (hT _ wm_424) (by decide +kernel) ⟨Nat.le_of_ble_eq_true rfl, Nat.le_of_ble_eq_true rfl⟩) hF hG rfl hl.1 rfl (Nat.le_of_ble_eq_true rfl) d_Row_pass_4 ⟨Nat.le_of_ble_eq_true rfl, Nat.le_of_ble_eq_true rfl⟩) hG (fun ce q H locs hG hq1 hq2 hq3 => ?_)
  exact gw_xout hnt hlk hG hq1 hq2 hq3 (Nat.le_of_ble_eq_true rfl) (Nat.le_of_ble_eq_true rfl)
end
section
theorem d_Row_addHand_0 : decode b_Row_addHand 0 = .ok (.iload_n 1, 1) := by decide +kernel
theorem d_Row_addHand_1 : decode b_Row_addHand 1 = .ok (.iconst 1, 1) := by decide +kernel
theorem d_Row_addHand_2 : decode b_Row_addHand 2 = .ok (.bipush 9, 2) := by decide +kernel
theorem d_Row_addHand_4 : decode b_Row_addHand 4 = .ok (.invokestatic 77, 3) := by decide +kernel
theorem d_Row_addHand_7 : decode b_Row_addHand 7 = .ok (.iload_n 2, 1) := by decide +kernel
theorem d_Row_addHand_8 : decode b_Row_addHand 8 = .ok (.bipush (-3), 2) := by decide +kernel
theorem d_Row_addHand_10 : decode b_Row_addHand 10 = .ok (.iconst 3, 1) := by decide +kernel
theorem d_Row_addHand_11 : decode b_Row_addHand 11 = .ok (.invokestatic 77, 3) := by decide +kernel
theorem d_Row_addHand_14 : decode b_Row_addHand 14 = .ok (.aload_n 0, 1) := by decide +kernel
theorem d_Row_addHand_15 : decode b_Row_addHand 15 = .ok (.getfield 10, 3) := by decide +kernel
theorem d_Row_addHand_18 : decode b_Row_addHand 18 = .ok (.invokevirtual 81, 3) := by decide +kernel
theorem d_Row_addHand_21 : decode b_Row_addHand 21 = .ok (.bipush 8, 2) := by decide +kernel
theorem d_Row_addHand_23 : decode b_Row_addHand 23 = .ok (.if_icmp .lt 13, 3) := by decide +kernel
theorem d_Row_addHand_36 : decode b_Row_addHand 36 = .ok (.aload_n 0, 1) := by decide +kernel
theorem d_Row_addHand_37 : decode b_Row_addHand 37 = .ok (.getfield 10, 3) := by decide +kernel
theorem wm_458 : Cond.instantiable "ThresholdRow$Hand" 10 ∈ gT := gT_m (List.mem_of_getElem? (i := 458) (by decide +kernel)) (by decide +kernel)
theorem d_Row_addHand_40 : decode b_Row_addHand 40 = .ok (.new 92, 3) := by decide +kernel
theorem d_Row_addHand_43 : decode b_Row_addHand 43 = .ok (.dup, 1) := by decide +kernel
theorem d_Row_addHand_44 : decode b_Row_addHand 44 = .ok (.iload_n 1, 1) := by decide +kernel
theorem d_Row_addHand_45 : decode b_Row_addHand 45 = .ok (.iload_n 2, 1) := by decide +kernel
theorem wm_461 : Cond.code ⟨"ThresholdRow$Hand", "<init>", "(II)V"⟩ prog_5_method_1_code 3 none ∈ gT := gT_m (List.mem_of_getElem? (i := 461) (by decide +kernel)) (by decide +kernel)
theorem wm_459 : Cond.methodLink "ThresholdRow" 94 ⟨"ThresholdRow$Hand", "<init>", "(II)V"⟩ ∈ gT := gT_m (List.mem_of_getElem? (i := 459) (by decide +kernel)) (by decide +kernel)
theorem d_Row_addHand_46 : decode b_Row_addHand 46 = .ok (.invokespecial 94, 3) := by decide +kernel
theorem wm_460 : Cond.instanceMethod ⟨"ThresholdRow$Hand", "<init>", "(II)V"⟩ ∈ gT := gT_m (List.mem_of_getElem? (i := 460) (by decide +kernel)) (by decide +kernel)
theorem wm_175 : Cond.methodLink "ThresholdRow" 73 ⟨"java/util/ArrayList", "add", "(Ljava/lang/Object;)Z"⟩ ∈ gT := gT_m (List.mem_of_getElem? (i := 175) (by decide +kernel)) (by decide +kernel)
theorem d_Row_addHand_49 : decode b_Row_addHand 49 = .ok (.invokevirtual 73, 3) := by decide +kernel
theorem d_Row_addHand_52 : decode b_Row_addHand 52 = .ok (.pop, 1) := by decide +kernel
theorem d_Row_addHand_53 : decode b_Row_addHand 53 = .ok (.aload_n 0, 1) := by decide +kernel
theorem d_Row_addHand_54 : decode b_Row_addHand 54 = .ok (.getfield 10, 3) := by decide +kernel
theorem d_Row_addHand_57 : decode b_Row_addHand 57 = .ok (.invokevirtual 81, 3) := by decide +kernel
theorem d_Row_addHand_60 : decode b_Row_addHand 60 = .ok (.iconst 1, 1) := by decide +kernel
theorem d_Row_addHand_61 : decode b_Row_addHand 61 = .ok (.isub, 1) := by decide +kernel
theorem d_Row_addHand_62 : decode b_Row_addHand 62 = .ok (.ireturn, 1) := by decide +kernel
theorem d_Row_meanFatigue_0 : decode b_Row_meanFatigue 0 = .ok (.aload_n 0, 1) := by decide +kernel
theorem d_Row_meanFatigue_1 : decode b_Row_meanFatigue 1 = .ok (.getfield 10, 3) := by decide +kernel
theorem d_Row_meanFatigue_4 : decode b_Row_meanFatigue 4 = .ok (.invokevirtual 81, 3) := by decide +kernel
theorem d_Row_meanFatigue_7 : decode b_Row_meanFatigue 7 = .ok (.istore_n 1, 1) := by decide +kernel
theorem d_Row_meanFatigue_8 : decode b_Row_meanFatigue 8 = .ok (.iload_n 1, 1) := by decide +kernel
theorem d_Row_meanFatigue_9 : decode b_Row_meanFatigue 9 = .ok (.ifCond .gt 14, 3) := by decide +kernel
theorem d_Row_meanFatigue_23 : decode b_Row_meanFatigue 23 = .ok (.iconst 0, 1) := by decide +kernel
theorem d_Row_meanFatigue_24 : decode b_Row_meanFatigue 24 = .ok (.istore_n 2, 1) := by decide +kernel
theorem d_Row_meanFatigue_25 : decode b_Row_meanFatigue 25 = .ok (.iconst 0, 1) := by decide +kernel
theorem d_Row_meanFatigue_26 : decode b_Row_meanFatigue 26 = .ok (.istore_n 3, 1) := by decide +kernel
theorem d_Row_meanFatigue_27 : decode b_Row_meanFatigue 27 = .ok (.iload_n 3, 1) := by decide +kernel
theorem d_Row_meanFatigue_28 : decode b_Row_meanFatigue 28 = .ok (.iload_n 1, 1) := by decide +kernel
theorem d_Row_meanFatigue_29 : decode b_Row_meanFatigue 29 = .ok (.if_icmp .ge 26, 3) := by decide +kernel
theorem d_Row_meanFatigue_55 : decode b_Row_meanFatigue 55 = .ok (.iload_n 2, 1) := by decide +kernel
theorem d_Row_meanFatigue_56 : decode b_Row_meanFatigue 56 = .ok (.i2d, 1) := by decide +kernel
theorem d_Row_meanFatigue_57 : decode b_Row_meanFatigue 57 = .ok (.iload_n 1, 1) := by decide +kernel
theorem d_Row_meanFatigue_58 : decode b_Row_meanFatigue 58 = .ok (.i2d, 1) := by decide +kernel
theorem d_Row_meanFatigue_59 : decode b_Row_meanFatigue 59 = .ok (.ddiv, 1) := by decide +kernel
theorem d_Row_meanFatigue_60 : decode b_Row_meanFatigue 60 = .ok (.dreturn, 1) := by decide +kernel
theorem d_Row_meanFatigue_32 : decode b_Row_meanFatigue 32 = .ok (.iload_n 2, 1) := by decide +kernel
theorem d_Row_meanFatigue_33 : decode b_Row_meanFatigue 33 = .ok (.aload_n 0, 1) := by decide +kernel
theorem d_Row_meanFatigue_34 : decode b_Row_meanFatigue 34 = .ok (.getfield 10, 3) := by decide +kernel
theorem d_Row_meanFatigue_37 : decode b_Row_meanFatigue 37 = .ok (.iload_n 3, 1) := by decide +kernel
theorem d_Row_meanFatigue_38 : decode b_Row_meanFatigue 38 = .ok (.invokevirtual 354, 3) := by decide +kernel
theorem d_Row_meanFatigue_41 : decode b_Row_meanFatigue 41 = .ok (.checkcast 92, 3) := by decide +kernel
theorem d_Row_meanFatigue_44 : decode b_Row_meanFatigue 44 = .ok (.getfield 137, 3) := by decide +kernel
theorem d_Row_meanFatigue_47 : decode b_Row_meanFatigue 47 = .ok (.iadd, 1) := by decide +kernel
theorem d_Row_meanFatigue_48 : decode b_Row_meanFatigue 48 = .ok (.istore_n 2, 1) := by decide +kernel
theorem d_Row_meanFatigue_49 : decode b_Row_meanFatigue 49 = .ok (.iinc 3 1, 3) := by decide +kernel
theorem d_Row_meanFatigue_52 : decode b_Row_meanFatigue 52 = .ok (.goto (-25), 3) := by decide +kernel
theorem d_Row_sumCame_0 : decode b_Row_sumCame 0 = .ok (.iconst 0, 1) := by decide +kernel
theorem d_Row_sumCame_1 : decode b_Row_sumCame 1 = .ok (.istore_n 1, 1) := by decide +kernel
theorem d_Row_sumCame_2 : decode b_Row_sumCame 2 = .ok (.iconst 0, 1) := by decide +kernel
theorem d_Row_sumCame_3 : decode b_Row_sumCame 3 = .ok (.istore_n 2, 1) := by decide +kernel
theorem d_Row_sumCame_4 : decode b_Row_sumCame 4 = .ok (.iload_n 2, 1) := by decide +kernel
theorem d_Row_sumCame_5 : decode b_Row_sumCame 5 = .ok (.aload_n 0, 1) := by decide +kernel
theorem wm_237 : Cond.fieldLink "ThresholdRow" 16 "ThresholdRow" "lots" "Ljava/util/ArrayList;" ∈ gT := gT_m (List.mem_of_getElem? (i := 237) (by decide +kernel)) (by decide +kernel)
theorem d_Row_sumCame_6 : decode b_Row_sumCame 6 = .ok (.getfield 16, 3) := by decide +kernel
theorem d_Row_sumCame_9 : decode b_Row_sumCame 9 = .ok (.invokevirtual 81, 3) := by decide +kernel
theorem d_Row_sumCame_12 : decode b_Row_sumCame 12 = .ok (.if_icmp .ge 26, 3) := by decide +kernel
theorem d_Row_sumCame_38 : decode b_Row_sumCame 38 = .ok (.iload_n 1, 1) := by decide +kernel
theorem d_Row_sumCame_39 : decode b_Row_sumCame 39 = .ok (.ireturn, 1) := by decide +kernel
theorem d_Row_sumEars_0 : decode b_Row_sumEars 0 = .ok (.iconst 0, 1) := by decide +kernel
theorem d_Row_sumEars_1 : decode b_Row_sumEars 1 = .ok (.istore_n 1, 1) := by decide +kernel
theorem d_Row_sumEars_2 : decode b_Row_sumEars 2 = .ok (.iconst 0, 1) := by decide +kernel
theorem d_Row_sumEars_3 : decode b_Row_sumEars 3 = .ok (.istore_n 2, 1) := by decide +kernel
theorem d_Row_sumEars_4 : decode b_Row_sumEars 4 = .ok (.iload_n 2, 1) := by decide +kernel
theorem d_Row_sumEars_5 : decode b_Row_sumEars 5 = .ok (.aload_n 0, 1) := by decide +kernel
theorem d_Row_sumEars_6 : decode b_Row_sumEars 6 = .ok (.getfield 16, 3) := by decide +kernel
theorem d_Row_sumEars_9 : decode b_Row_sumEars 9 = .ok (.invokevirtual 81, 3) := by decide +kernel
theorem d_Row_sumEars_12 : decode b_Row_sumEars 12 = .ok (.if_icmp .ge 26, 3) := by decide +kernel
theorem d_Row_sumEars_38 : decode b_Row_sumEars 38 = .ok (.iload_n 1, 1) := by decide +kernel
theorem d_Row_sumEars_39 : decode b_Row_sumEars 39 = .ok (.ireturn, 1) := by decide +kernel
theorem d_Row_sumHeaps_0 : decode b_Row_sumHeaps 0 = .ok (.iconst 0, 1) := by decide +kernel
theorem d_Row_sumHeaps_1 : decode b_Row_sumHeaps 1 = .ok (.istore_n 1, 1) := by decide +kernel
theorem d_Row_sumHeaps_2 : decode b_Row_sumHeaps 2 = .ok (.iconst 0, 1) := by decide +kernel
theorem d_Row_sumHeaps_3 : decode b_Row_sumHeaps 3 = .ok (.istore_n 2, 1) := by decide +kernel
theorem d_Row_sumHeaps_4 : decode b_Row_sumHeaps 4 = .ok (.iload_n 2, 1) := by decide +kernel
theorem d_Row_sumHeaps_5 : decode b_Row_sumHeaps 5 = .ok (.aload_n 0, 1) := by decide +kernel
theorem d_Row_sumHeaps_6 : decode b_Row_sumHeaps 6 = .ok (.getfield 16, 3) := by decide +kernel
theorem d_Row_sumHeaps_9 : decode b_Row_sumHeaps 9 = .ok (.invokevirtual 81, 3) := by decide +kernel
theorem d_Row_sumHeaps_12 : decode b_Row_sumHeaps 12 = .ok (.if_icmp .ge 26, 3) := by decide +kernel
theorem d_Row_sumHeaps_38 : decode b_Row_sumHeaps 38 = .ok (.iload_n 1, 1) := by decide +kernel
theorem d_Row_sumHeaps_39 : decode b_Row_sumHeaps 39 = .ok (.ireturn, 1) := by decide +kernel
theorem d_Row_heapsSound_0 : decode b_Row_heapsSound 0 = .ok (.iconst 0, 1) := by decide +kernel
theorem d_Row_heapsSound_1 : decode b_Row_heapsSound 1 = .ok (.istore_n 1, 1) := by decide +kernel
theorem d_Row_heapsSound_2 : decode b_Row_heapsSound 2 = .ok (.iload_n 1, 1) := by decide +kernel
theorem d_Row_heapsSound_3 : decode b_Row_heapsSound 3 = .ok (.aload_n 0, 1) := by decide +kernel
theorem d_Row_heapsSound_4 : decode b_Row_heapsSound 4 = .ok (.getfield 16, 3) := by decide +kernel
theorem d_Row_heapsSound_7 : decode b_Row_heapsSound 7 = .ok (.invokevirtual 81, 3) := by decide +kernel
theorem d_Row_heapsSound_10 : decode b_Row_heapsSound 10 = .ok (.if_icmp .ge 45, 3) := by decide +kernel
theorem d_Row_heapsSound_55 : decode b_Row_heapsSound 55 = .ok (.iconst 1, 1) := by decide +kernel
theorem d_Row_heapsSound_56 : decode b_Row_heapsSound 56 = .ok (.ireturn, 1) := by decide +kernel
theorem d_Row_sumBins_0 : decode b_Row_sumBins 0 = .ok (.iconst 0, 1) := by decide +kernel
theorem d_Row_sumBins_1 : decode b_Row_sumBins 1 = .ok (.istore_n 1, 1) := by decide +kernel
theorem d_Row_sumBins_2 : decode b_Row_sumBins 2 = .ok (.iconst 0, 1) := by decide +kernel
theorem d_Row_sumBins_3 : decode b_Row_sumBins 3 = .ok (.istore_n 2, 1) := by decide +kernel
theorem d_Row_sumBins_4 : decode b_Row_sumBins 4 = .ok (.iload_n 2, 1) := by decide +kernel
theorem d_Row_sumBins_5 : decode b_Row_sumBins 5 = .ok (.aload_n 0, 1) := by decide +kernel
theorem wm_238 : Cond.fieldLink "ThresholdRow" 19 "ThresholdRow" "bins" "Ljava/util/ArrayList;" ∈ gT := gT_m (List.mem_of_getElem? (i := 238) (by decide +kernel)) (by decide +kernel)
theorem d_Row_sumBins_6 : decode b_Row_sumBins 6 = .ok (.getfield 19, 3) := by decide +kernel
theorem d_Row_sumBins_9 : decode b_Row_sumBins 9 = .ok (.invokevirtual 81, 3) := by decide +kernel
theorem d_Row_sumBins_12 : decode b_Row_sumBins 12 = .ok (.if_icmp .ge 26, 3) := by decide +kernel
theorem d_Row_sumBins_38 : decode b_Row_sumBins 38 = .ok (.iload_n 1, 1) := by decide +kernel
theorem d_Row_sumBins_39 : decode b_Row_sumBins 39 = .ok (.ireturn, 1) := by decide +kernel
theorem d_Row_sumBins_15 : decode b_Row_sumBins 15 = .ok (.iload_n 1, 1) := by decide +kernel
theorem d_Row_sumBins_16 : decode b_Row_sumBins 16 = .ok (.aload_n 0, 1) := by decide +kernel
theorem d_Row_sumBins_17 : decode b_Row_sumBins 17 = .ok (.getfield 19, 3) := by decide +kernel
theorem d_Row_sumBins_20 : decode b_Row_sumBins 20 = .ok (.iload_n 2, 1) := by decide +kernel
theorem d_Row_sumBins_21 : decode b_Row_sumBins 21 = .ok (.invokevirtual 354, 3) := by decide +kernel
theorem wm_150 : Cond.classLink "ThresholdRow" 70 "ThresholdRow$Bin" ∈ gT := gT_m (List.mem_of_getElem? (i := 150) (by decide +kernel)) (by decide +kernel)
theorem d_Row_sumBins_24 : decode b_Row_sumBins 24 = .ok (.checkcast 70, 3) := by decide +kernel
theorem wm_159 : Cond.fieldLink "ThresholdRow" 268 "ThresholdRow$Bin" "grain" "I" ∈ gT := gT_m (List.mem_of_getElem? (i := 159) (by decide +kernel)) (by decide +kernel)
theorem d_Row_sumBins_27 : decode b_Row_sumBins 27 = .ok (.getfield 268, 3) := by decide +kernel
theorem d_Row_sumBins_30 : decode b_Row_sumBins 30 = .ok (.iadd, 1) := by decide +kernel
theorem d_Row_sumBins_31 : decode b_Row_sumBins 31 = .ok (.istore_n 1, 1) := by decide +kernel
theorem d_Row_sumBins_32 : decode b_Row_sumBins 32 = .ok (.iinc 2 1, 3) := by decide +kernel
theorem d_Row_sumBins_35 : decode b_Row_sumBins 35 = .ok (.goto (-31), 3) := by decide +kernel
theorem d_Row_binsSound_0 : decode b_Row_binsSound 0 = .ok (.iconst 0, 1) := by decide +kernel
theorem d_Row_binsSound_1 : decode b_Row_binsSound 1 = .ok (.istore_n 1, 1) := by decide +kernel
theorem d_Row_binsSound_2 : decode b_Row_binsSound 2 = .ok (.iload_n 1, 1) := by decide +kernel
theorem d_Row_binsSound_3 : decode b_Row_binsSound 3 = .ok (.aload_n 0, 1) := by decide +kernel
theorem d_Row_binsSound_4 : decode b_Row_binsSound 4 = .ok (.getfield 19, 3) := by decide +kernel
theorem d_Row_binsSound_7 : decode b_Row_binsSound 7 = .ok (.invokevirtual 81, 3) := by decide +kernel
theorem d_Row_binsSound_10 : decode b_Row_binsSound 10 = .ok (.if_icmp .ge 62, 3) := by decide +kernel
theorem d_Row_binsSound_72 : decode b_Row_binsSound 72 = .ok (.iconst 1, 1) := by decide +kernel
theorem d_Row_binsSound_73 : decode b_Row_binsSound 73 = .ok (.ireturn, 1) := by decide +kernel
theorem d_Row_binsSound_13 : decode b_Row_binsSound 13 = .ok (.aload_n 0, 1) := by decide +kernel
theorem d_Row_binsSound_14 : decode b_Row_binsSound 14 = .ok (.getfield 19, 3) := by decide +kernel
theorem d_Row_binsSound_17 : decode b_Row_binsSound 17 = .ok (.iload_n 1, 1) := by decide +kernel
theorem d_Row_binsSound_18 : decode b_Row_binsSound 18 = .ok (.invokevirtual 354, 3) := by decide +kernel
theorem d_Row_binsSound_21 : decode b_Row_binsSound 21 = .ok (.checkcast 70, 3) := by decide +kernel
theorem d_Row_binsSound_24 : decode b_Row_binsSound 24 = .ok (.astore_n 2, 1) := by decide +kernel
theorem d_Row_binsSound_25 : decode b_Row_binsSound 25 = .ok (.aload_n 2, 1) := by decide +kernel
theorem wm_161 : Cond.fieldLink "ThresholdRow" 279 "ThresholdRow$Bin" "bruised" "I" ∈ gT := gT_m (List.mem_of_getElem? (i := 161) (by decide +kernel)) (by decide +kernel)
theorem d_Row_binsSound_26 : decode b_Row_binsSound 26 = .ok (.getfield 279, 3) := by decide +kernel
theorem d_Row_binsSound_29 : decode b_Row_binsSound 29 = .ok (.aload_n 2, 1) := by decide +kernel
theorem d_Row_binsSound_30 : decode b_Row_binsSound 30 = .ok (.getfield 268, 3) := by decide +kernel
theorem d_Row_binsSound_33 : decode b_Row_binsSound 33 = .ok (.if_icmp .gt 14, 3) := by decide +kernel
theorem d_Row_binsSound_36 : decode b_Row_binsSound 36 = .ok (.aload_n 2, 1) := by decide +kernel
theorem wm_163 : Cond.fieldLink "ThresholdRow" 280 "ThresholdRow$Bin" "foreign" "I" ∈ gT := gT_m (List.mem_of_getElem? (i := 163) (by decide +kernel)) (by decide +kernel)
theorem d_Row_binsSound_37 : decode b_Row_binsSound 37 = .ok (.getfield 280, 3) := by decide +kernel
theorem d_Row_binsSound_40 : decode b_Row_binsSound 40 = .ok (.aload_n 2, 1) := by decide +kernel
theorem d_Row_binsSound_41 : decode b_Row_binsSound 41 = .ok (.getfield 268, 3) := by decide +kernel
theorem d_Row_binsSound_44 : decode b_Row_binsSound 44 = .ok (.if_icmp .le 5, 3) := by decide +kernel
theorem d_Row_binsSound_49 : decode b_Row_binsSound 49 = .ok (.aload_n 2, 1) := by decide +kernel
theorem d_Row_binsSound_50 : decode b_Row_binsSound 50 = .ok (.getfield 268, 3) := by decide +kernel
theorem d_Row_binsSound_53 : decode b_Row_binsSound 53 = .ok (.ifCond .ne 13, 3) := by decide +kernel
theorem d_Row_binsSound_56 : decode b_Row_binsSound 56 = .ok (.aload_n 2, 1) := by decide +kernel
theorem wm_157 : Cond.fieldLink "ThresholdRow" 264 "ThresholdRow$Bin" "crop" "I" ∈ gT := gT_m (List.mem_of_getElem? (i := 157) (by decide +kernel)) (by decide +kernel)
theorem d_Row_binsSound_57 : decode b_Row_binsSound 57 = .ok (.getfield 264, 3) := by decide +kernel
theorem d_Row_binsSound_60 : decode b_Row_binsSound 60 = .ok (.iconst (-1), 1) := by decide +kernel
theorem d_Row_binsSound_61 : decode b_Row_binsSound 61 = .ok (.if_icmp .eq 5, 3) := by decide +kernel
theorem d_Row_binsSound_66 : decode b_Row_binsSound 66 = .ok (.iinc 1 1, 3) := by decide +kernel
theorem d_Row_binsSound_69 : decode b_Row_binsSound 69 = .ok (.goto (-67), 3) := by decide +kernel
theorem d_Ledger_sumGone_0 : decode b_Ledger_sumGone 0 = .ok (.aload_n 0, 1) := by decide +kernel
theorem wm_121 : Cond.fieldLink "ThresholdRow$Ledger" 7 "ThresholdRow$Ledger" "tithe" "I" ∈ gT := gT_m (List.mem_of_getElem? (i := 121) (by decide +kernel)) (by decide +kernel)
theorem d_Ledger_sumGone_1 : decode b_Ledger_sumGone 1 = .ok (.getfield 7, 3) := by decide +kernel
theorem d_Ledger_sumGone_4 : decode b_Ledger_sumGone 4 = .ok (.aload_n 0, 1) := by decide +kernel
theorem wm_122 : Cond.fieldLink "ThresholdRow$Ledger" 13 "ThresholdRow$Ledger" "gleaned" "I" ∈ gT := gT_m (List.mem_of_getElem? (i := 122) (by decide +kernel)) (by decide +kernel)
theorem d_Ledger_sumGone_5 : decode b_Ledger_sumGone 5 = .ok (.getfield 13, 3) := by decide +kernel
theorem d_Ledger_sumGone_8 : decode b_Ledger_sumGone 8 = .ok (.iadd, 1) := by decide +kernel
theorem d_Ledger_sumGone_9 : decode b_Ledger_sumGone 9 = .ok (.aload_n 0, 1) := by decide +kernel
theorem wm_123 : Cond.fieldLink "ThresholdRow$Ledger" 16 "ThresholdRow$Ledger" "straw" "I" ∈ gT := gT_m (List.mem_of_getElem? (i := 123) (by decide +kernel)) (by decide +kernel)
theorem d_Ledger_sumGone_10 : decode b_Ledger_sumGone 10 = .ok (.getfield 16, 3) := by decide +kernel
theorem d_Ledger_sumGone_13 : decode b_Ledger_sumGone 13 = .ok (.iadd, 1) := by decide +kernel
theorem d_Ledger_sumGone_14 : decode b_Ledger_sumGone 14 = .ok (.aload_n 0, 1) := by decide +kernel
theorem wm_124 : Cond.fieldLink "ThresholdRow$Ledger" 19 "ThresholdRow$Ledger" "blown" "I" ∈ gT := gT_m (List.mem_of_getElem? (i := 124) (by decide +kernel)) (by decide +kernel)
theorem d_Ledger_sumGone_15 : decode b_Ledger_sumGone 15 = .ok (.getfield 19, 3) := by decide +kernel
theorem d_Ledger_sumGone_18 : decode b_Ledger_sumGone 18 = .ok (.iadd, 1) := by decide +kernel
theorem d_Ledger_sumGone_19 : decode b_Ledger_sumGone 19 = .ok (.aload_n 0, 1) := by decide +kernel
theorem wm_125 : Cond.fieldLink "ThresholdRow$Ledger" 22 "ThresholdRow$Ledger" "burnt" "I" ∈ gT := gT_m (List.mem_of_getElem? (i := 125) (by decide +kernel)) (by decide +kernel)
theorem d_Ledger_sumGone_20 : decode b_Ledger_sumGone 20 = .ok (.getfield 22, 3) := by decide +kernel
theorem d_Ledger_sumGone_23 : decode b_Ledger_sumGone 23 = .ok (.iadd, 1) := by decide +kernel
theorem d_Ledger_sumGone_24 : decode b_Ledger_sumGone 24 = .ok (.aload_n 0, 1) := by decide +kernel
theorem wm_126 : Cond.fieldLink "ThresholdRow$Ledger" 25 "ThresholdRow$Ledger" "cleaned" "I" ∈ gT := gT_m (List.mem_of_getElem? (i := 126) (by decide +kernel)) (by decide +kernel)
theorem d_Ledger_sumGone_25 : decode b_Ledger_sumGone 25 = .ok (.getfield 25, 3) := by decide +kernel
theorem d_Ledger_sumGone_28 : decode b_Ledger_sumGone 28 = .ok (.iadd, 1) := by decide +kernel
theorem d_Ledger_sumGone_29 : decode b_Ledger_sumGone 29 = .ok (.aload_n 0, 1) := by decide +kernel
theorem wm_127 : Cond.fieldLink "ThresholdRow$Ledger" 28 "ThresholdRow$Ledger" "eaten" "I" ∈ gT := gT_m (List.mem_of_getElem? (i := 127) (by decide +kernel)) (by decide +kernel)
theorem d_Ledger_sumGone_30 : decode b_Ledger_sumGone 30 = .ok (.getfield 28, 3) := by decide +kernel
theorem d_Ledger_sumGone_33 : decode b_Ledger_sumGone 33 = .ok (.iadd, 1) := by decide +kernel
theorem d_Ledger_sumGone_34 : decode b_Ledger_sumGone 34 = .ok (.aload_n 0, 1) := by decide +kernel
theorem wm_129 : Cond.fieldLink "ThresholdRow$Ledger" 31 "ThresholdRow$Ledger" "ground" "I" ∈ gT := gT_m (List.mem_of_getElem? (i := 129) (by decide +kernel)) (by decide +kernel)
theorem d_Ledger_sumGone_35 : decode b_Ledger_sumGone 35 = .ok (.getfield 31, 3) := by decide +kernel
theorem d_Ledger_sumGone_38 : decode b_Ledger_sumGone 38 = .ok (.iadd, 1) := by decide +kernel
theorem d_Ledger_sumGone_39 : decode b_Ledger_sumGone 39 = .ok (.aload_n 0, 1) := by decide +kernel
theorem wm_130 : Cond.fieldLink "ThresholdRow$Ledger" 34 "ThresholdRow$Ledger" "sold" "I" ∈ gT := gT_m (List.mem_of_getElem? (i := 130) (by decide +kernel)) (by decide +kernel)
theorem d_Ledger_sumGone_40 : decode b_Ledger_sumGone 40 = .ok (.getfield 34, 3) := by decide +kernel
theorem d_Ledger_sumGone_43 : decode b_Ledger_sumGone 43 = .ok (.iadd, 1) := by decide +kernel
theorem d_Ledger_sumGone_44 : decode b_Ledger_sumGone 44 = .ok (.ireturn, 1) := by decide +kernel
theorem d_Row_isSound_0 : decode b_Row_isSound 0 = .ok (.aload_n 0, 1) := by decide +kernel
theorem wm_381 : Cond.code ⟨"ThresholdRow", "sumEars", "()I"⟩ prog_1_method_60_code 3 (some .int) ∈ gT := gT_m (List.mem_of_getElem? (i := 381) (by decide +kernel)) (by decide +kernel)
theorem wm_378 : Cond.methodLink "ThresholdRow" 337 ⟨"ThresholdRow", "sumEars", "()I"⟩ ∈ gT := gT_m (List.mem_of_getElem? (i := 378) (by decide +kernel)) (by decide +kernel)
theorem d_Row_isSound_1 : decode b_Row_isSound 1 = .ok (.invokevirtual 337, 3) := by decide +kernel
theorem wm_380 : Cond.instanceMethod ⟨"ThresholdRow", "sumEars", "()I"⟩ ∈ gT := gT_m (List.mem_of_getElem? (i := 380) (by decide +kernel)) (by decide +kernel)
theorem wm_4 : Cond.selects "ThresholdRow" ⟨"ThresholdRow", "sumEars", "()I"⟩ ⟨"ThresholdRow", "sumEars", "()I"⟩ ∈ gT := gT_m (List.mem_of_getElem? (i := 4) (by decide +kernel)) (by decide +kernel)
theorem d_Row_isSound_4 : decode b_Row_isSound 4 = .ok (.aload_n 0, 1) := by decide +kernel
theorem wm_386 : Cond.code ⟨"ThresholdRow", "sumHeaps", "()I"⟩ prog_1_method_61_code 3 (some .int) ∈ gT := gT_m (List.mem_of_getElem? (i := 386) (by decide +kernel)) (by decide +kernel)
theorem wm_383 : Cond.methodLink "ThresholdRow" 340 ⟨"ThresholdRow", "sumHeaps", "()I"⟩ ∈ gT := gT_m (List.mem_of_getElem? (i := 383) (by decide +kernel)) (by decide +kernel)
theorem d_Row_isSound_5 : decode b_Row_isSound 5 = .ok (.invokevirtual 340, 3) := by decide +kernel
theorem wm_385 : Cond.instanceMethod ⟨"ThresholdRow", "sumHeaps", "()I"⟩ ∈ gT := gT_m (List.mem_of_getElem? (i := 385) (by decide +kernel)) (by decide +kernel)
theorem wm_5 : Cond.selects "ThresholdRow" ⟨"ThresholdRow", "sumHeaps", "()I"⟩ ⟨"ThresholdRow", "sumHeaps", "()I"⟩ ∈ gT := gT_m (List.mem_of_getElem? (i := 5) (by decide +kernel)) (by decide +kernel)
theorem d_Row_isSound_8 : decode b_Row_isSound 8 = .ok (.iadd, 1) := by decide +kernel
theorem d_Row_isSound_9 : decode b_Row_isSound 9 = .ok (.aload_n 0, 1) := by decide +kernel
theorem wm_240 : Cond.fieldLink "ThresholdRow" 32 "ThresholdRow" "drum" "LThresholdRow$Drum;" ∈ gT := gT_m (List.mem_of_getElem? (i := 240) (by decide +kernel)) (by decide +kernel)
theorem d_Row_isSound_10 : decode b_Row_isSound 10 = .ok (.getfield 32, 3) := by decide +kernel
theorem wm_104 : Cond.fieldLink "ThresholdRow" 241 "ThresholdRow$Drum" "carries" "I" ∈ gT := gT_m (List.mem_of_getElem? (i := 104) (by decide +kernel)) (by decide +kernel)
theorem d_Row_isSound_13 : decode b_Row_isSound 13 = .ok (.getfield 241, 3) := by decide +kernel
theorem d_Row_isSound_16 : decode b_Row_isSound 16 = .ok (.iadd, 1) := by decide +kernel
theorem d_Row_isSound_17 : decode b_Row_isSound 17 = .ok (.aload_n 0, 1) := by decide +kernel
theorem wm_390 : Cond.code ⟨"ThresholdRow", "sumBins", "()I"⟩ prog_1_method_62_code 3 (some .int) ∈ gT := gT_m (List.mem_of_getElem? (i := 390) (by decide +kernel)) (by decide +kernel)
theorem wm_387 : Cond.methodLink "ThresholdRow" 343 ⟨"ThresholdRow", "sumBins", "()I"⟩ ∈ gT := gT_m (List.mem_of_getElem? (i := 387) (by decide +kernel)) (by decide +kernel)
theorem d_Row_isSound_18 : decode b_Row_isSound 18 = .ok (.invokevirtual 343, 3) := by decide +kernel
theorem wm_389 : Cond.instanceMethod ⟨"ThresholdRow", "sumBins", "()I"⟩ ∈ gT := gT_m (List.mem_of_getElem? (i := 389) (by decide +kernel)) (by decide +kernel)
theorem wm_6 : Cond.selects "ThresholdRow" ⟨"ThresholdRow", "sumBins", "()I"⟩ ⟨"ThresholdRow", "sumBins", "()I"⟩ ∈ gT := gT_m (List.mem_of_getElem? (i := 6) (by decide +kernel)) (by decide +kernel)
theorem d_Row_isSound_21 : decode b_Row_isSound 21 = .ok (.iadd, 1) := by decide +kernel
theorem d_Row_isSound_22 : decode b_Row_isSound 22 = .ok (.aload_n 0, 1) := by decide +kernel
theorem wm_241 : Cond.fieldLink "ThresholdRow" 39 "ThresholdRow" "ledger" "LThresholdRow$Ledger;" ∈ gT := gT_m (List.mem_of_getElem? (i := 241) (by decide +kernel)) (by decide +kernel)
theorem d_Row_isSound_23 : decode b_Row_isSound 23 = .ok (.getfield 39, 3) := by decide +kernel
theorem wm_394 : Cond.code ⟨"ThresholdRow$Ledger", "sumGone", "()I"⟩ prog_6_method_3_code 1 (some .int) ∈ gT := gT_m (List.mem_of_getElem? (i := 394) (by decide +kernel)) (by decide +kernel)
theorem wm_29 : Cond.initialized "ThresholdRow$Ledger" ∈ gT := gT_m (List.mem_of_getElem? (i := 29) (by decide +kernel)) (by decide +kernel)
theorem wm_391 : Cond.methodLink "ThresholdRow" 367 ⟨"ThresholdRow$Ledger", "sumGone", "()I"⟩ ∈ gT := gT_m (List.mem_of_getElem? (i := 391) (by decide +kernel)) (by decide +kernel)
theorem d_Row_isSound_26 : decode b_Row_isSound 26 = .ok (.invokevirtual 367, 3) := by decide +kernel
theorem wm_392 : Cond.instanceMethod ⟨"ThresholdRow$Ledger", "sumGone", "()I"⟩ ∈ gT := gT_m (List.mem_of_getElem? (i := 392) (by decide +kernel)) (by decide +kernel)
theorem wm_393 : Cond.selects "ThresholdRow$Ledger" ⟨"ThresholdRow$Ledger", "sumGone", "()I"⟩ ⟨"ThresholdRow$Ledger", "sumGone", "()I"⟩ ∈ gT := gT_m (List.mem_of_getElem? (i := 393) (by decide +kernel)) (by decide +kernel)
theorem d_Row_isSound_29 : decode b_Row_isSound 29 = .ok (.iadd, 1) := by decide +kernel
theorem d_Row_isSound_30 : decode b_Row_isSound 30 = .ok (.istore_n 1, 1) := by decide +kernel
theorem d_Row_isSound_31 : decode b_Row_isSound 31 = .ok (.iload_n 1, 1) := by decide +kernel
theorem d_Row_isSound_32 : decode b_Row_isSound 32 = .ok (.aload_n 0, 1) := by decide +kernel
theorem wm_398 : Cond.code ⟨"ThresholdRow", "sumCame", "()I"⟩ prog_1_method_59_code 3 (some .int) ∈ gT := gT_m (List.mem_of_getElem? (i := 398) (by decide +kernel)) (by decide +kernel)
theorem wm_395 : Cond.methodLink "ThresholdRow" 334 ⟨"ThresholdRow", "sumCame", "()I"⟩ ∈ gT := gT_m (List.mem_of_getElem? (i := 395) (by decide +kernel)) (by decide +kernel)
theorem d_Row_isSound_33 : decode b_Row_isSound 33 = .ok (.invokevirtual 334, 3) := by decide +kernel
theorem wm_397 : Cond.instanceMethod ⟨"ThresholdRow", "sumCame", "()I"⟩ ∈ gT := gT_m (List.mem_of_getElem? (i := 397) (by decide +kernel)) (by decide +kernel)
theorem wm_7 : Cond.selects "ThresholdRow" ⟨"ThresholdRow", "sumCame", "()I"⟩ ⟨"ThresholdRow", "sumCame", "()I"⟩ ∈ gT := gT_m (List.mem_of_getElem? (i := 7) (by decide +kernel)) (by decide +kernel)
theorem d_Row_isSound_36 : decode b_Row_isSound 36 = .ok (.if_icmp .ne 31, 3) := by decide +kernel
theorem d_Row_isSound_39 : decode b_Row_isSound 39 = .ok (.aload_n 0, 1) := by decide +kernel
theorem wm_402 : Cond.code ⟨"ThresholdRow", "heapsSound", "()Z"⟩ prog_1_method_63_code 3 (some .boolean) ∈ gT := gT_m (List.mem_of_getElem? (i := 402) (by decide +kernel)) (by decide +kernel)
theorem wm_399 : Cond.methodLink "ThresholdRow" 370 ⟨"ThresholdRow", "heapsSound", "()Z"⟩ ∈ gT := gT_m (List.mem_of_getElem? (i := 399) (by decide +kernel)) (by decide +kernel)
theorem d_Row_isSound_40 : decode b_Row_isSound 40 = .ok (.invokevirtual 370, 3) := by decide +kernel
theorem wm_401 : Cond.instanceMethod ⟨"ThresholdRow", "heapsSound", "()Z"⟩ ∈ gT := gT_m (List.mem_of_getElem? (i := 401) (by decide +kernel)) (by decide +kernel)
theorem wm_8 : Cond.selects "ThresholdRow" ⟨"ThresholdRow", "heapsSound", "()Z"⟩ ⟨"ThresholdRow", "heapsSound", "()Z"⟩ ∈ gT := gT_m (List.mem_of_getElem? (i := 8) (by decide +kernel)) (by decide +kernel)
theorem d_Row_isSound_43 : decode b_Row_isSound 43 = .ok (.ifCond .eq 24, 3) := by decide +kernel
theorem d_Row_isSound_46 : decode b_Row_isSound 46 = .ok (.aload_n 0, 1) := by decide +kernel
theorem wm_406 : Cond.code ⟨"ThresholdRow", "binsSound", "()Z"⟩ prog_1_method_64_code 3 (some .boolean) ∈ gT := gT_m (List.mem_of_getElem? (i := 406) (by decide +kernel)) (by decide +kernel)
theorem wm_403 : Cond.methodLink "ThresholdRow" 373 ⟨"ThresholdRow", "binsSound", "()Z"⟩ ∈ gT := gT_m (List.mem_of_getElem? (i := 403) (by decide +kernel)) (by decide +kernel)
theorem d_Row_isSound_47 : decode b_Row_isSound 47 = .ok (.invokevirtual 373, 3) := by decide +kernel
theorem wm_405 : Cond.instanceMethod ⟨"ThresholdRow", "binsSound", "()Z"⟩ ∈ gT := gT_m (List.mem_of_getElem? (i := 405) (by decide +kernel)) (by decide +kernel)
theorem wm_9 : Cond.selects "ThresholdRow" ⟨"ThresholdRow", "binsSound", "()Z"⟩ ⟨"ThresholdRow", "binsSound", "()Z"⟩ ∈ gT := gT_m (List.mem_of_getElem? (i := 9) (by decide +kernel)) (by decide +kernel)
theorem d_Row_isSound_50 : decode b_Row_isSound 50 = .ok (.ifCond .eq 17, 3) := by decide +kernel
theorem d_Row_isSound_53 : decode b_Row_isSound 53 = .ok (.aload_n 0, 1) := by decide +kernel
theorem d_Row_isSound_54 : decode b_Row_isSound 54 = .ok (.getfield 25, 3) := by decide +kernel
theorem wm_410 : Cond.code ⟨"ThresholdRow$Gang", "hasHurt", "()Z"⟩ prog_4_method_16_code 2 (some .boolean) ∈ gT := gT_m (List.mem_of_getElem? (i := 410) (by decide +kernel)) (by decide +kernel)
theorem wm_407 : Cond.methodLink "ThresholdRow" 376 ⟨"ThresholdRow$Gang", "hasHurt", "()Z"⟩ ∈ gT := gT_m (List.mem_of_getElem? (i := 407) (by decide +kernel)) (by decide +kernel)
theorem d_Row_isSound_57 : decode b_Row_isSound 57 = .ok (.invokevirtual 376, 3) := by decide +kernel
theorem wm_408 : Cond.instanceMethod ⟨"ThresholdRow$Gang", "hasHurt", "()Z"⟩ ∈ gT := gT_m (List.mem_of_getElem? (i := 408) (by decide +kernel)) (by decide +kernel)
theorem wm_409 : Cond.selects "ThresholdRow$Gang" ⟨"ThresholdRow$Gang", "hasHurt", "()Z"⟩ ⟨"ThresholdRow$Gang", "hasHurt", "()Z"⟩ ∈ gT := gT_m (List.mem_of_getElem? (i := 409) (by decide +kernel)) (by decide +kernel)
theorem d_Row_isSound_60 : decode b_Row_isSound 60 = .ok (.ifCond .ne 7, 3) := by decide +kernel
theorem d_Row_isSound_63 : decode b_Row_isSound 63 = .ok (.iconst 1, 1) := by decide +kernel
theorem d_Row_isSound_64 : decode b_Row_isSound 64 = .ok (.goto 4, 3) := by decide +kernel
theorem d_Row_isSound_68 : decode b_Row_isSound 68 = .ok (.ireturn, 1) := by decide +kernel
set_option maxHeartbeats 4000000 in
set_option maxRecDepth 100000 in
theorem c_Row_addHand (l : Launch) (E : Nat) (D : va_G) (cI cO cZ : ClassId) (z0 : Nat) (M : gM) {o n : Nat} {day : Int32} {S : gS} {Z ad bn : Nat → Nat} (hf : gw_fa z0 cO M o n day S Z ad bn) {x y : Int32} (q1 : ¬ x < 1) (q2 : x ≤ 9) (q3 : ¬ y < (-3)) (q4 : y ≤ 3) (hn8 : n < 8) : Met l y_Row_addHand (Cond.code y_Row_addHand b_Row_addHand 3 (some .int) :: gT) ({ frames := 5, cells := 2, slots := 20, locals := 101 }) (gw_Pc E D cI cO cZ z0 M [.ref o, .int x, .int y]) (gw_Qi E D (fun r M' => r = nI n ∧ ∃ Z' ad' : Nat → Nat, gw_fa z0 cO M' o (n + 1) day (S.1, S.2.1, fun i => if i = n then (x, y, 0, 0, 0, 0) else S.2.2 i) Z' ad' bn ∧ gw_ints M M')) 2 20 (gw_A E) := by
  refine gw_ofW (cc := b_Row_addHand) (maxL := 3) (ret := (some .int)) (by decide) rfl (Nat.le_of_ble_eq_true rfl) ?_
  intro p e s m args below meth c hx hb hr hml hts hown hlk hnm hF hG ls hl
  have hT : ∀ w ∈ gT, w.before args s = true := fun w h => hts w (List.mem_cons_of_mem _ h)
  have hK := hF.1
  have hl : lv_has ls 3 [(0, .ref o), (1, .int x), (2, .int y)] := hl
  obtain ⟨hro, hLh, hLl, hLb, hbn, hgg, hLg, hdr, hlg, hhd, had, hord, hoi, hne, har⟩ := id hf
  obtain ⟨kh, hhl, h10, -⟩ := id hLh
  have hz0 := gw_z0 hF hG
  refine lv_iload_n hx hb d_Row_addHand_0 rfl (lv_at hl 1 rfl) ?_
  refine lv_iconst (v := 1) hx hb d_Row_addHand_1 (by decide) ?_
  refine lv_bipush (v := 9) hx hb d_Row_addHand_2 (by decide) ?_
  refine gw_callv (gw_runS (As := [.int x, .int 1, .int 9]) (rest := []) ⟨hx, hb, hml, hown, hts⟩ (c_Row_checkRange l E D cI cO cZ z0 M q1 q2) (gw_cwS 3 hts (gT_gi wm_425) rfl rfl rfl (hT _ wm_23) (hT _ wm_423) (hT _ wm_424) (by decide +kernel) ⟨Nat.le_of_ble_eq_true rfl, Nat.le_of_ble_eq_true rfl⟩) hF hG rfl hl.1 rfl (Nat.le_of_ble_eq_true rfl) d_Row_addHand_4 ⟨Nat.le_of_ble_eq_true rfl, Nat.le_of_ble_eq_true rfl⟩) hG (fun M1 H locs hp hG => ?_)
  replace hG := gw_nm hp.symm hG
  refine lv_iload_n hx hb d_Row_addHand_7 rfl (lv_at hl 2 rfl) ?_
  refine lv_bipush (v := (-3)) hx hb d_Row_addHand_8 (by decide) ?_
  refine lv_iconst (v := 3) hx hb d_Row_addHand_10 (by decide) ?_
  refine gw_callv (gw_runS (As := [.int y, .int (-3), .int 3]) (rest := []) ⟨hx, hb, hml, hown, hts⟩ (c_Row_checkRange l E D cI cO cZ z0 M q3 q4) (gw_cwS 3 hts (gT_gi wm_425) rfl rfl rfl (hT _ wm_23) (hT _ wm_423) (hT _ wm_424) (by decide +kernel) ⟨Nat.le_of_ble_eq_true rfl, Nat.le_of_ble_eq_true rfl⟩) hF hG rfl hl.1 rfl (Nat.le_of_ble_eq_true rfl) d_Row_addHand_11 ⟨Nat.le_of_ble_eq_true rfl, Nat.le_of_ble_eq_true rfl⟩) hG (fun M2 H locs hp hG => ?_)
  replace hG := gw_nm hp.symm hG
  refine lv_aload_n hx hb d_Row_addHand_14 rfl (lv_at hl 0 rfl) ?_
  refine gw_get hx hb hT i_Row hown hK hG hro rfl 0 (by decide) (hT _ wm_236) (fun _ h => h) rfl d_Row_addHand_15 ?_
  refine gw_calli (gw_runV (As := []) (rest := []) ⟨hx, hb, hml, hown, hts⟩ (c_L_size l E D cI cO cZ z0 M hLh) (gw_cwV 0 hts (gT_gi wm_286) rfl rfl rfl (hT _ wm_26) (hT _ wm_283) (hT _ wm_284) (hT _ wm_285) (by decide +kernel) ⟨Nat.le_of_ble_eq_true rfl, Nat.le_of_ble_eq_true rfl⟩) hF hG rfl hhl rfl hl.1 rfl (Nat.le_of_ble_eq_true rfl) d_Row_addHand_18 ⟨Nat.le_of_ble_eq_true rfl, Nat.le_of_ble_eq_true rfl⟩) hG (fun r M3 H locs hp hG => ?_)
  rw [hp.1]
  replace hG := gw_nm hp.2.symm hG
  refine lv_bipush (v := 8) hx hb d_Row_addHand_21 (by decide) ?_
  refine lv_icmp_lt (tgt := 36) hx hb d_Row_addHand_23 (by decide) (fun c_23 => ?_) (fun z_ => absurd (show nI n < nI 8 from nI_lt hn8 (by decide)) z_)
  refine lv_aload_n hx hb d_Row_addHand_36 rfl (lv_at hl 0 rfl) ?_
  refine gw_get hx hb hT i_Row hown hK hG hro rfl 0 (by decide) (hT _ wm_236) (fun _ h => h) rfl d_Row_addHand_37 ?_
  refine gw_new (fs := [.int 0, .int 0, .int 0, .int 0, .int 0, .int 0, .int 0, .int 0, .int 0, .int 0]) (C := R_Hand) (T := F_Hand) (N := 10) (ci := 6) hx hb hT i_Hand t_Hand t_Hand_ok hown (hT _ wm_373) (hT _ wm_458) (hT _ wm_40) hK hF.2.1 hG rfl (fun j hj => by rcases (show j = 0 ∨ j = 1 ∨ j = 2 ∨ j = 3 ∨ j = 4 ∨ j = 5 ∨ j = 6 ∨ j = 7 ∨ j = 8 ∨ j = 9 by omega) with rfl | rfl | rfl | rfl | rfl | rfl | rfl | rfl | rfl | rfl <;> rfl) (Nat.le_of_ble_eq_true rfl) (Nat.le_of_ble_eq_true rfl) d_Row_addHand_40 (fun q H hq_q hG => ?_)
  have ne_o_q : o ≠ q := gw_neF hq_q hro
  have ne__Z_0__q : (Z 0) ≠ q := gw_neF hq_q hhl
  have ne__Z_5__q : (Z 5) ≠ q := gw_neF hq_q hgg
  obtain ⟨M4, e_M4⟩ : ∃ Y_ : gM, Y_ = gw_up M q (.inr (6, [.int 0, .int 0, .int 0, .int 0, .int 0, .int 0, .int 0, .int 0, .int 0, .int 0])) := ⟨_, rfl⟩
  replace hG := gw_nm e_M4 hG
  have hM4_o := (congrFun e_M4 o).trans ((gw_miss ne_o_q).trans hro)
  have hM4__Z_0_ := (congrFun e_M4 ((Z 0))).trans ((gw_miss ne__Z_0__q).trans hhl)
  have hM4__Z_5_ := (congrFun e_M4 ((Z 5))).trans ((gw_miss ne__Z_5__q).trans hgg)
  have hM4_q := (congrFun e_M4 q).trans gw_hit
  refine lv_dup hx hb d_Row_addHand_43 rfl ?_
  refine lv_iload_n hx hb d_Row_addHand_44 rfl (lv_at hl 1 rfl) ?_
  refine lv_iload_n hx hb d_Row_addHand_45 rfl (lv_at hl 2 rfl) ?_
  refine gw_callv (gw_runI (As := [.int x, .int y]) (rest := [.ref q, .ref (Z 0)]) ⟨hx, hb, hml, hown, hts⟩ (c_Hand_init l E D cI cO cZ z0 M4 hM4_q) (cwI 2 hts (gT_gi wm_461) rfl rfl rfl (hT _ wm_40) (hT _ wm_459) (hT _ wm_460) rfl (by decide +kernel) ⟨Nat.le_of_ble_eq_true rfl, Nat.le_of_ble_eq_true rfl⟩) hF hG rfl hl.1 rfl (Nat.le_of_ble_eq_true rfl) d_Row_addHand_46 ⟨Nat.le_of_ble_eq_true rfl, Nat.le_of_ble_eq_true rfl⟩) hG (fun M5 H locs hp hG => ?_)
  have hM5_o := (congrFun hp o).trans ((gw_miss ne_o_q).trans hM4_o)
  have hM5__Z_0_ := (congrFun hp ((Z 0))).trans ((gw_miss ne__Z_0__q).trans hM4__Z_0_)
  have hM5__Z_5_ := (congrFun hp ((Z 5))).trans ((gw_miss ne__Z_5__q).trans hM4__Z_5_)
  have hM5_q := (congrFun hp q).trans gw_hit
  have e_M5 := hp
  have hM2 : ∀ b, b ≠ q → M5 b = M b := fun b h => by rw [e_M5, gw_miss h, e_M4, gw_miss h]
  have hL2 : gw_L z0 cO M5 (Z 0) (Z 1) n ad := hLh.kept (hM2 _ ne__Z_0__q) (fun f hf => hM2 _ (gw_neF hq_q hf))
  refine gw_calli (gw_runV (As := [.ref q]) (rest := []) ⟨hx, hb, hml, hown, hts⟩ (c_AL_add l E D cI cO cZ z0 M5 hL2 hM5_q rfl wq_796 (by omega) (ne__Z_0__q).symm) (gw_cwV 1 hts (gT_gi wm_178) rfl rfl rfl (hT _ wm_26) (hT _ wm_175) (hT _ wm_176) (hT _ wm_177) (by decide +kernel) ⟨Nat.le_of_ble_eq_true rfl, Nat.le_of_ble_eq_true rfl⟩) hF hG rfl hM5__Z_0_ rfl hl.1 rfl (Nat.le_of_ble_eq_true rfl) d_Row_addHand_49 ⟨Nat.le_of_ble_eq_true rfl, Nat.le_of_ble_eq_true rfl⟩) hG (fun r M6 H locs hp hG => ?_)
  obtain ⟨rfl, t', h1, h2, h3⟩ := hp
  have hz2 : M5 z0 = none := by cases h : M5 z0 with
      | none => rfl
      | some e => by_cases hzq : z0 = q
                  · have := gw_z0 hF hG
                    by_cases hzt : z0 = t'
                    · rcases h1 with h1 | h1
                      · rw [← hzt] at h2
                        obtain ⟨k9, -, -, q9⟩ := h2
                        rcases q9 with ⟨q9, -⟩ | ⟨f9, q9, -⟩
                        · omega
                        · rw [this] at q9; cases q9
                      · rw [← hzt, h] at h1; cases h1
                    · have hz0l : z0 ≠ Z 0 := fun z => by rw [z, hhl] at hz0; cases hz0
                      rw [h3 z0 hz0l hzt, h] at this; cases this
                  · rw [hM2 z0 hzq, hz0] at h; cases h
  have hqz : q ≠ z0 := fun z => by rw [← z, hM5_q] at hz2; cases hz2
  have hqt : q ≠ t' := by
      rcases h1 with h1 | h1
      · rw [h1]
        obtain ⟨k9, -, -, q9⟩ := hLh
        rcases q9 with ⟨-, q9⟩ | ⟨f9, q9, -⟩
        · rw [q9]; exact hqz
        · exact (gw_neF hq_q q9).symm
      · exact gw_neF h1 hM5_q
  have ht1 : t' = Z 1 ∨ M t' = none := by
      rcases h1 with h1 | h1
      · exact Or.inl h1
      · exact Or.inr (by rw [hM2 t' hqt.symm] at h1; exact h1)
  have hfr : ∀ b e, M b = some e → b ≠ Z 0 → b ≠ t' → M6 b = M b := fun b e hb q5 q6 => (h3 b q5 q6).trans (hM2 b (gw_neF hq_q hb))
  have hf2 := hf.hand (M' := M6) (u := (x, y, 0, 0, 0, 0)) hz0 h2 hq_q ((h3 q (ne__Z_0__q).symm hqt).trans hM5_q) hfr ht1
  have hro3 : M6 o = some (gw_ro Z day) := hf2.1
  obtain ⟨k3, hhl3, -⟩ := id h2
  refine lv_pop hx hb d_Row_addHand_52 rfl ?_
  refine lv_aload_n hx hb d_Row_addHand_53 rfl (lv_at hl 0 rfl) ?_
  refine gw_get hx hb hT i_Row hown hK hG hro3 rfl 0 (by decide) (hT _ wm_236) (fun _ h => h) rfl d_Row_addHand_54 ?_
  refine gw_calli (gw_runV (As := []) (rest := []) ⟨hx, hb, hml, hown, hts⟩ (c_L_size l E D cI cO cZ z0 M6 h2) (gw_cwV 0 hts (gT_gi wm_286) rfl rfl rfl (hT _ wm_26) (hT _ wm_283) (hT _ wm_284) (hT _ wm_285) (by decide +kernel) ⟨Nat.le_of_ble_eq_true rfl, Nat.le_of_ble_eq_true rfl⟩) hF hG rfl hhl3 rfl hl.1 rfl (Nat.le_of_ble_eq_true rfl) d_Row_addHand_57 ⟨Nat.le_of_ble_eq_true rfl, Nat.le_of_ble_eq_true rfl⟩) hG (fun r M7 H locs hp hG => ?_)
  rw [hp.1]
  replace hG := gw_nm hp.2.symm hG
  refine lv_iconst (v := 1) hx hb d_Row_addHand_60 (by decide) ?_
  refine lv_isub hx hb d_Row_addHand_61 ?_
  rw [show nI (n + 1) - 1 = (nI n) from nI_pred n]
  exact gw_iret (v := (nI n)) hx hb hr hlk hG (⟨rfl, _, _, hf2, gw_ints.of hLh hz0 (fun b e hb q5 q6 _ => hfr b e hb q5 q6) ht1⟩) (Nat.le_of_ble_eq_true rfl) (Nat.le_of_ble_eq_true rfl) d_Row_addHand_62
set_option maxHeartbeats 4000000 in
set_option maxRecDepth 100000 in
theorem c_Row_addHand_x (l : Launch) (E : Nat) (D : va_G) (cI cO cZ : ClassId) (z0 : Nat) (M : gM) (hst : l.stackTraces = false) {o n : Nat} {day : Int32} {S : gS} {Z ad bn : Nat → Nat} (hf : gw_fa z0 cO M o n day S Z ad bn) {x y : Int32} (q1 : x < 1 ∨ (¬ x < 1 ∧ x ≤ 9 ∧ 3 < y)) : vx_Met l y_Row_addHand (Cond.code y_Row_addHand b_Row_addHand 3 (some .int) :: gT) ({ frames := 7, cells := 1, slots := 6, locals := 104 }) (gw_Pc E D cI cO cZ z0 M [.ref o, .int x, .int y]) (gw_Qi E D (fun _ _ => False)) (gw_XC E D "java/lang/IllegalArgumentException" M) 1 6 (gw_A E) := by
  refine gw_ofX (cc := b_Row_addHand) (maxL := 3) (ret := (some .int)) (by decide) rfl (Nat.le_of_ble_eq_true rfl) ?_
  intro p e s m args below meth c hx hb hr hml hts hown hlk hnt hF hG ls hl
  have hT : ∀ w ∈ gT, w.before args s = true := fun w h => hts w (List.mem_cons_of_mem _ h)
  have hK := hF.1
  have hl : lv_has ls 3 [(0, .ref o), (1, .int x), (2, .int y)] := hl
  obtain ⟨hro, hLh, hLl, hLb, hbn, hgg, hLg, hdr, hlg, hhd, had, hord, hoi, hne, har⟩ := id hf
  obtain ⟨kh, hhl, h10, -⟩ := id hLh
  have hz0 := gw_z0 hF hG
  rcases q1 with q1 | ⟨q1, q2, q3⟩
  · skip
    refine lv_iload_n hx hb d_Row_addHand_0 rfl (lv_at hl 1 rfl) ?_
    refine lv_iconst (v := 1) hx hb d_Row_addHand_1 (by decide) ?_
    refine lv_bipush (v := 9) hx hb d_Row_addHand_2 (by decide) ?_
    refine gw_xcallv (cls := "java/lang/IllegalArgumentException") (gw_xrunS (As := [.int x, .int 1, .int 9]) (rest := []) ⟨hx, hb, hml, hown, hts⟩ (c_Row_checkRange_x l E D cI cO cZ z0 M hst (x := x) (y := 1) (z := 9) (Or.inl q1)) (gw_cwS 3 hts (gT_gi wm_425) rfl rfl rfl (hT _ wm_23) (hT _ wm_423) (hT _ wm_424) (by decide +kernel) ⟨Nat.le_of_ble_eq_true rfl, Nat.le_of_ble_eq_true rfl⟩) hF hG rfl hl.1 rfl (Nat.le_of_ble_eq_true rfl) d_Row_addHand_4 ⟨Nat.le_of_ble_eq_true rfl, Nat.le_of_ble_eq_true rfl⟩) hG (fun ce q H locs hG hq1 hq2 hq3 => ?_)
    exact gw_xout hnt hlk hG hq1 hq2 hq3 (Nat.le_of_ble_eq_true rfl) (Nat.le_of_ble_eq_true rfl)
  · skip
    refine lv_iload_n hx hb d_Row_addHand_0 rfl (lv_at hl 1 rfl) ?_
    refine lv_iconst (v := 1) hx hb d_Row_addHand_1 (by decide) ?_
    refine lv_bipush (v := 9) hx hb d_Row_addHand_2 (by decide) ?_
    refine gw_callv (gw_runS (As := [.int x, .int 1, .int 9]) (rest := []) ⟨hx, hb, hml, hown, hts⟩ (c_Row_checkRange l E D cI cO cZ z0 M q1 q2) (gw_cwS 3 hts (gT_gi wm_425) rfl rfl rfl (hT _ wm_23) (hT _ wm_423) (hT _ wm_424) (by decide +kernel) ⟨Nat.le_of_ble_eq_true rfl, Nat.le_of_ble_eq_true rfl⟩) hF hG rfl hl.1 rfl (Nat.le_of_ble_eq_true rfl) d_Row_addHand_4 ⟨Nat.le_of_ble_eq_true rfl, Nat.le_of_ble_eq_true rfl⟩) hG (fun M1 H locs hp hG => ?_)
    replace hG := gw_nm hp.symm hG
    refine lv_iload_n hx hb d_Row_addHand_7 rfl (lv_at hl 2 rfl) ?_
    refine lv_bipush (v := (-3)) hx hb d_Row_addHand_8 (by decide) ?_
    refine lv_iconst (v := 3) hx hb d_Row_addHand_10 (by decide) ?_
    refine gw_xcallv (cls := "java/lang/IllegalArgumentException") (gw_xrunS (As := [.int y, .int (-3), .int 3]) (rest := []) ⟨hx, hb, hml, hown, hts⟩ (c_Row_checkRange_x l E D cI cO cZ z0 M hst (x := y) (y := -3) (z := 3) (Or.inr q3)) (gw_cwS 3 hts (gT_gi wm_425) rfl rfl rfl (hT _ wm_23) (hT _ wm_423) (hT _ wm_424) (by decide +kernel) ⟨Nat.le_of_ble_eq_true rfl, Nat.le_of_ble_eq_true rfl⟩) hF hG rfl hl.1 rfl (Nat.le_of_ble_eq_true rfl) d_Row_addHand_11 ⟨Nat.le_of_ble_eq_true rfl, Nat.le_of_ble_eq_true rfl⟩) hG (fun ce q H locs hG hq1 hq2 hq3 => ?_)
    exact gw_xout hnt hlk hG hq1 hq2 hq3 (Nat.le_of_ble_eq_true rfl) (Nat.le_of_ble_eq_true rfl)
set_option maxHeartbeats 4000000 in
set_option maxRecDepth 100000 in
theorem c_Row_meanFatigue (l : Launch) (E : Nat) (D : va_G) (cI cO cZ : ClassId) (z0 : Nat) (M : gM) {o n : Nat} {day : Int32} {S : gS} {Z ad bn : Nat → Nat} (hf : gw_fa z0 cO M o n day S Z ad bn) (hn0 : 0 < n) (hnan : vf_n64 (FP.ddiv (FP.i2d (p_sum S.2.2 n)) (FP.i2d (nI n)))) : Met l y_Row_meanFatigue (Cond.code y_Row_meanFatigue b_Row_meanFatigue 4 (some .double) :: gT) ({ frames := 3, cells := 0, slots := 0, locals := 64 }) (gw_Pc E D cI cO cZ z0 M [.ref o]) (gw_Qd E D (fun r M' => r = FP.ddiv (FP.i2d (p_sum S.2.2 n)) (FP.i2d (nI n)) ∧ M' = M)) 0 0 (gw_A E) := by
  refine gw_ofW (cc := b_Row_meanFatigue) (maxL := 4) (ret := (some .double)) (by decide) rfl (Nat.le_of_ble_eq_true rfl) ?_
  intro p e s m args below meth c hx hb hr hml hts hown hlk hnm hF hG ls hl
  have hT : ∀ w ∈ gT, w.before args s = true := fun w h => hts w (List.mem_cons_of_mem _ h)
  have hK := hF.1
  have hl : lv_has ls 4 [(0, .ref o)] := hl
  obtain ⟨hro, hLh, hLl, hLb, hbn, hgg, hLg, hdr, hlg, hhd, had, hord, hoi, hne, har⟩ := id hf
  obtain ⟨kh, hhl, h10, -⟩ := id hLh
  have hz0 := gw_z0 hF hG
  refine lv_aload_n hx hb d_Row_meanFatigue_0 rfl (lv_at hl 0 rfl) ?_
  refine gw_get hx hb hT i_Row hown hK hG hro rfl 0 (by decide) (hT _ wm_236) (fun _ h => h) rfl d_Row_meanFatigue_1 ?_
  refine gw_calli (gw_runV (As := []) (rest := []) ⟨hx, hb, hml, hown, hts⟩ (c_L_size l E D cI cO cZ z0 M hLh) (gw_cwV 0 hts (gT_gi wm_286) rfl rfl rfl (hT _ wm_26) (hT _ wm_283) (hT _ wm_284) (hT _ wm_285) (by decide +kernel) ⟨Nat.le_of_ble_eq_true rfl, Nat.le_of_ble_eq_true rfl⟩) hF hG rfl hhl rfl hl.1 rfl (Nat.le_of_ble_eq_true rfl) d_Row_meanFatigue_4 ⟨Nat.le_of_ble_eq_true rfl, Nat.le_of_ble_eq_true rfl⟩) hG (fun r M1 H locs hp hG => ?_)
  rw [hp.1]
  replace hG := gw_nm hp.2.symm hG
  refine lv_istore_n (lv' := [(1, .int (nI n)), (0, .ref o)]) hx hb d_Row_meanFatigue_7 rfl hl (by decide) rfl (fun ls hl => ?_)
  refine lv_iload_n hx hb d_Row_meanFatigue_8 rfl (lv_at hl 0 rfl) ?_
  refine lv_if_gt (tgt := 23) hx hb d_Row_meanFatigue_9 (by decide) (fun c_9 => ?_) (fun z_ => absurd (show nI 0 < nI n from nI_lt hn0 (by omega)) z_)
  refine lv_iconst (v := 0) hx hb d_Row_meanFatigue_23 (by decide) ?_
  refine lv_istore_n (lv' := [(2, .int 0), (1, .int (nI n)), (0, .ref o)]) hx hb d_Row_meanFatigue_24 rfl hl (by decide) rfl (fun ls hl => ?_)
  refine lv_iconst (v := 0) hx hb d_Row_meanFatigue_25 (by decide) ?_
  refine lv_istore_n (lv' := [(3, .int 0), (2, .int 0), (1, .int (nI n)), (0, .ref o)]) hx hb d_Row_meanFatigue_26 rfl hl (by decide) rfl (fun ls hl => ?_)
  have loop : ∀ (d i : Nat), i + d = n → ∀ (X : gM) (H : Heap) (locs : List Loc) (ls : Array Slot), (X = M) → gw_H E D X s H locs → lv_has ls 4 [(1, .int (nI n)), (2, .int (p_sum S.2.2 i)), (3, .int (nI i)), (0, .ref o)] → W p l e ({ frames := 3, cells := 0, slots := 0, locals := 64 } : Room) s m args below meth c H locs 0 0 (MQ below (gw_Qd E D (fun r M' => r = FP.ddiv (FP.i2d (p_sum S.2.2 n)) (FP.i2d (nI n)) ∧ M' = M)) args s 0 0 (gw_A E)) (F0 m 27 ls []) := by
    intro d
    induction d with
    | zero =>
      intro i hi X H locs ls hI hG hl
      replace hG := gw_nm hI.symm hG
      have hin : i = n := by omega
      rw [hin] at hl
      refine lv_iload_n hx hb d_Row_meanFatigue_27 rfl (lv_at hl 2 rfl) ?_
      refine lv_iload_n hx hb d_Row_meanFatigue_28 rfl (lv_at hl 0 rfl) ?_
      refine lv_icmp_ge (tgt := 55) hx hb d_Row_meanFatigue_29 (by decide) (fun c_29 => ?_) (fun z_ => absurd (nI_le (by omega) (by omega)) z_)
      refine lv_iload_n hx hb d_Row_meanFatigue_55 rfl (lv_at hl 1 rfl) ?_
      refine lv_i2d hx hb d_Row_meanFatigue_56 ?_
      refine lv_iload_n hx hb d_Row_meanFatigue_57 rfl (lv_at hl 0 rfl) ?_
      refine lv_i2d hx hb d_Row_meanFatigue_58 ?_
      refine lv_ddiv hx hb d_Row_meanFatigue_59 hnan ?_
      exact gw_dret hx hb hr hlk hG ⟨rfl, rfl⟩ (Nat.le_of_ble_eq_true rfl) (Nat.le_of_ble_eq_true rfl) d_Row_meanFatigue_60
    | succ d ih =>
      intro i hi X H locs ls hI hG hl
      replace hG := gw_nm hI.symm hG
      refine lv_iload_n hx hb d_Row_meanFatigue_27 rfl (lv_at hl 2 rfl) ?_
      refine lv_iload_n hx hb d_Row_meanFatigue_28 rfl (lv_at hl 0 rfl) ?_
      refine lv_icmp_ge (tgt := 55) hx hb d_Row_meanFatigue_29 (by decide) (fun z_ => absurd z_ (nI_ge (by omega) (by omega))) (fun c_29 => ?_)
      refine lv_iload_n hx hb d_Row_meanFatigue_32 rfl (lv_at hl 1 rfl) ?_
      refine lv_aload_n hx hb d_Row_meanFatigue_33 rfl (lv_at hl 3 rfl) ?_
      refine gw_get hx hb hT i_Row hown hK hG hro rfl 0 (by decide) (hT _ wm_236) (fun _ h => h) rfl d_Row_meanFatigue_34 ?_
      refine lv_iload_n hx hb d_Row_meanFatigue_37 rfl (lv_at hl 2 rfl) ?_
      refine gw_callq (gw_runV (As := [.int (nI i)]) (rest := [.int (p_sum S.2.2 i)]) ⟨hx, hb, hml, hown, hts⟩ (c_L_get l E D cI cO cZ z0 M hLh (p := i) (by omega)) (gw_cwV 1 hts (gT_gi wm_362) rfl rfl rfl (hT _ wm_26) (hT _ wm_359) (hT _ wm_360) (hT _ wm_361) (by decide +kernel) ⟨Nat.le_of_ble_eq_true rfl, Nat.le_of_ble_eq_true rfl⟩) hF hG rfl hhl rfl hl.1 rfl (Nat.le_of_ble_eq_true rfl) d_Row_meanFatigue_38 ⟨Nat.le_of_ble_eq_true rfl, Nat.le_of_ble_eq_true rfl⟩) hG (fun r M2 H locs hp hG => ?_)
      rw [hp.1]
      replace hG := gw_nm hp.2.symm hG
      have hgi := hhd i (by omega)
      refine gw_cast (ci := 6) (r := (R_Hand, F_Hand, 10)) hx hb hown (hT _ wm_373) hF hG rfl hgi d_Row_meanFatigue_41 ?_
      refine gw_get hx hb hT i_Hand hown hK hG hgi rfl 2 (by decide) (hT _ wm_467) (fun _ h => h) rfl d_Row_meanFatigue_44 ?_
      refine lv_iadd hx hb d_Row_meanFatigue_47 ?_
      rw [show p_sum S.2.2 i + (S.2.2 i).2.2.1 = (p_sum S.2.2 (i + 1)) from rfl]
      refine lv_istore_n (lv' := [(2, .int (p_sum S.2.2 (i + 1))), (1, .int (nI n)), (3, .int (nI i)), (0, .ref o)]) hx hb d_Row_meanFatigue_48 rfl hl (by decide) rfl (fun ls hl => ?_)
      refine lv_iinc (v := nI (i + 1)) (lv' := [(3, .int (nI (i + 1))), (2, .int (p_sum S.2.2 (i + 1))), (1, .int (nI n)), (0, .ref o)]) hx hb d_Row_meanFatigue_49 hl (k := 2) rfl (nI_succ i).symm (by decide) rfl (fun ls hl => ?_)
      refine lv_goto (tgt := 27) hx hb d_Row_meanFatigue_52 (by decide) ?_
      exact ih (i + 1) (by omega) M _ _ _ rfl hG (lv_sub hl [2, 1, 0, 3] rfl)
  exact loop _ _ (Nat.zero_add n) M _ _ _ rfl hG (lv_sub hl [2, 1, 0, 3] rfl)
set_option maxHeartbeats 4000000 in
set_option maxRecDepth 100000 in
theorem c_Row_sumCame (l : Launch) (E : Nat) (D : va_G) (cI cO cZ : ClassId) (z0 : Nat) (M : gM) {o n : Nat} {day : Int32} {S : gS} {Z ad bn : Nat → Nat} (hf : gw_fa z0 cO M o n day S Z ad bn) : Met l y_Row_sumCame (Cond.code y_Row_sumCame b_Row_sumCame 3 (some .int) :: gT) ({ frames := 1, cells := 0, slots := 0, locals := 20 }) (gw_Pc E D cI cO cZ z0 M [.ref o]) (gw_Qi E D (fun r M' => r = 0 ∧ M' = M)) 0 0 (gw_A E) := by
  refine gw_ofW (cc := b_Row_sumCame) (maxL := 3) (ret := (some .int)) (by decide) rfl (Nat.le_of_ble_eq_true rfl) ?_
  intro p e s m args below meth c hx hb hr hml hts hown hlk hnm hF hG ls hl
  have hT : ∀ w ∈ gT, w.before args s = true := fun w h => hts w (List.mem_cons_of_mem _ h)
  have hK := hF.1
  have hl : lv_has ls 3 [(0, .ref o)] := hl
  obtain ⟨hro, hLh, hLl, hLb, hbn, hgg, hLg, hdr, hlg, hhd, had, hord, hoi, hne, har⟩ := id hf
  obtain ⟨kh, hhl, h10, -⟩ := id hLh
  have hz0 := gw_z0 hF hG
  obtain ⟨kl, hll, -⟩ := id hLl
  refine lv_iconst (v := 0) hx hb d_Row_sumCame_0 (by decide) ?_
  refine lv_istore_n (lv' := [(1, .int 0), (0, .ref o)]) hx hb d_Row_sumCame_1 rfl hl (by decide) rfl (fun ls hl => ?_)
  refine lv_iconst (v := 0) hx hb d_Row_sumCame_2 (by decide) ?_
  refine lv_istore_n (lv' := [(2, .int 0), (1, .int 0), (0, .ref o)]) hx hb d_Row_sumCame_3 rfl hl (by decide) rfl (fun ls hl => ?_)
  refine lv_iload_n hx hb d_Row_sumCame_4 rfl (lv_at hl 0 rfl) ?_
  refine lv_aload_n hx hb d_Row_sumCame_5 rfl (lv_at hl 2 rfl) ?_
  refine gw_get hx hb hT i_Row hown hK hG hro rfl 1 (by decide) (hT _ wm_237) (fun _ h => h) rfl d_Row_sumCame_6 ?_
  refine gw_calli (gw_runV (As := []) (rest := [.int 0]) ⟨hx, hb, hml, hown, hts⟩ (c_L_size l E D cI cO cZ z0 M hLl) (gw_cwV 0 hts (gT_gi wm_286) rfl rfl rfl (hT _ wm_26) (hT _ wm_283) (hT _ wm_284) (hT _ wm_285) (by decide +kernel) ⟨Nat.le_of_ble_eq_true rfl, Nat.le_of_ble_eq_true rfl⟩) hF hG rfl hll rfl hl.1 rfl (Nat.le_of_ble_eq_true rfl) d_Row_sumCame_9 ⟨Nat.le_of_ble_eq_true rfl, Nat.le_of_ble_eq_true rfl⟩) hG (fun r M1 H locs hp hG => ?_)
  rw [hp.1]
  replace hG := gw_nm hp.2.symm hG
  refine lv_icmp_ge (tgt := 38) hx hb d_Row_sumCame_12 (by decide) (fun c_12 => ?_) (fun z_ => absurd (by decide) z_)
  refine lv_iload_n hx hb d_Row_sumCame_38 rfl (lv_at hl 1 rfl) ?_
  exact gw_iret (v := 0) hx hb hr hlk hG (⟨rfl, rfl⟩) (Nat.le_of_ble_eq_true rfl) (Nat.le_of_ble_eq_true rfl) d_Row_sumCame_39
set_option maxHeartbeats 4000000 in
set_option maxRecDepth 100000 in
theorem c_Row_sumEars (l : Launch) (E : Nat) (D : va_G) (cI cO cZ : ClassId) (z0 : Nat) (M : gM) {o n : Nat} {day : Int32} {S : gS} {Z ad bn : Nat → Nat} (hf : gw_fa z0 cO M o n day S Z ad bn) : Met l y_Row_sumEars (Cond.code y_Row_sumEars b_Row_sumEars 3 (some .int) :: gT) ({ frames := 1, cells := 0, slots := 0, locals := 20 }) (gw_Pc E D cI cO cZ z0 M [.ref o]) (gw_Qi E D (fun r M' => r = 0 ∧ M' = M)) 0 0 (gw_A E) := by
  refine gw_ofW (cc := b_Row_sumEars) (maxL := 3) (ret := (some .int)) (by decide) rfl (Nat.le_of_ble_eq_true rfl) ?_
  intro p e s m args below meth c hx hb hr hml hts hown hlk hnm hF hG ls hl
  have hT : ∀ w ∈ gT, w.before args s = true := fun w h => hts w (List.mem_cons_of_mem _ h)
  have hK := hF.1
  have hl : lv_has ls 3 [(0, .ref o)] := hl
  obtain ⟨hro, hLh, hLl, hLb, hbn, hgg, hLg, hdr, hlg, hhd, had, hord, hoi, hne, har⟩ := id hf
  obtain ⟨kh, hhl, h10, -⟩ := id hLh
  have hz0 := gw_z0 hF hG
  obtain ⟨kl, hll, -⟩ := id hLl
  refine lv_iconst (v := 0) hx hb d_Row_sumEars_0 (by decide) ?_
  refine lv_istore_n (lv' := [(1, .int 0), (0, .ref o)]) hx hb d_Row_sumEars_1 rfl hl (by decide) rfl (fun ls hl => ?_)
  refine lv_iconst (v := 0) hx hb d_Row_sumEars_2 (by decide) ?_
  refine lv_istore_n (lv' := [(2, .int 0), (1, .int 0), (0, .ref o)]) hx hb d_Row_sumEars_3 rfl hl (by decide) rfl (fun ls hl => ?_)
  refine lv_iload_n hx hb d_Row_sumEars_4 rfl (lv_at hl 0 rfl) ?_
  refine lv_aload_n hx hb d_Row_sumEars_5 rfl (lv_at hl 2 rfl) ?_
  refine gw_get hx hb hT i_Row hown hK hG hro rfl 1 (by decide) (hT _ wm_237) (fun _ h => h) rfl d_Row_sumEars_6 ?_
  refine gw_calli (gw_runV (As := []) (rest := [.int 0]) ⟨hx, hb, hml, hown, hts⟩ (c_L_size l E D cI cO cZ z0 M hLl) (gw_cwV 0 hts (gT_gi wm_286) rfl rfl rfl (hT _ wm_26) (hT _ wm_283) (hT _ wm_284) (hT _ wm_285) (by decide +kernel) ⟨Nat.le_of_ble_eq_true rfl, Nat.le_of_ble_eq_true rfl⟩) hF hG rfl hll rfl hl.1 rfl (Nat.le_of_ble_eq_true rfl) d_Row_sumEars_9 ⟨Nat.le_of_ble_eq_true rfl, Nat.le_of_ble_eq_true rfl⟩) hG (fun r M1 H locs hp hG => ?_)
  rw [hp.1]
  replace hG := gw_nm hp.2.symm hG
  refine lv_icmp_ge (tgt := 38) hx hb d_Row_sumEars_12 (by decide) (fun c_12 => ?_) (fun z_ => absurd (by decide) z_)
  refine lv_iload_n hx hb d_Row_sumEars_38 rfl (lv_at hl 1 rfl) ?_
  exact gw_iret (v := 0) hx hb hr hlk hG (⟨rfl, rfl⟩) (Nat.le_of_ble_eq_true rfl) (Nat.le_of_ble_eq_true rfl) d_Row_sumEars_39
set_option maxHeartbeats 4000000 in
set_option maxRecDepth 100000 in
theorem c_Row_sumHeaps (l : Launch) (E : Nat) (D : va_G) (cI cO cZ : ClassId) (z0 : Nat) (M : gM) {o n : Nat} {day : Int32} {S : gS} {Z ad bn : Nat → Nat} (hf : gw_fa z0 cO M o n day S Z ad bn) : Met l y_Row_sumHeaps (Cond.code y_Row_sumHeaps b_Row_sumHeaps 3 (some .int) :: gT) ({ frames := 1, cells := 0, slots := 0, locals := 20 }) (gw_Pc E D cI cO cZ z0 M [.ref o]) (gw_Qi E D (fun r M' => r = 0 ∧ M' = M)) 0 0 (gw_A E) := by
  refine gw_ofW (cc := b_Row_sumHeaps) (maxL := 3) (ret := (some .int)) (by decide) rfl (Nat.le_of_ble_eq_true rfl) ?_
  intro p e s m args below meth c hx hb hr hml hts hown hlk hnm hF hG ls hl
  have hT : ∀ w ∈ gT, w.before args s = true := fun w h => hts w (List.mem_cons_of_mem _ h)
  have hK := hF.1
  have hl : lv_has ls 3 [(0, .ref o)] := hl
  obtain ⟨hro, hLh, hLl, hLb, hbn, hgg, hLg, hdr, hlg, hhd, had, hord, hoi, hne, har⟩ := id hf
  obtain ⟨kh, hhl, h10, -⟩ := id hLh
  have hz0 := gw_z0 hF hG
  obtain ⟨kl, hll, -⟩ := id hLl
  refine lv_iconst (v := 0) hx hb d_Row_sumHeaps_0 (by decide) ?_
  refine lv_istore_n (lv' := [(1, .int 0), (0, .ref o)]) hx hb d_Row_sumHeaps_1 rfl hl (by decide) rfl (fun ls hl => ?_)
  refine lv_iconst (v := 0) hx hb d_Row_sumHeaps_2 (by decide) ?_
  refine lv_istore_n (lv' := [(2, .int 0), (1, .int 0), (0, .ref o)]) hx hb d_Row_sumHeaps_3 rfl hl (by decide) rfl (fun ls hl => ?_)
  refine lv_iload_n hx hb d_Row_sumHeaps_4 rfl (lv_at hl 0 rfl) ?_
  refine lv_aload_n hx hb d_Row_sumHeaps_5 rfl (lv_at hl 2 rfl) ?_
  refine gw_get hx hb hT i_Row hown hK hG hro rfl 1 (by decide) (hT _ wm_237) (fun _ h => h) rfl d_Row_sumHeaps_6 ?_
  refine gw_calli (gw_runV (As := []) (rest := [.int 0]) ⟨hx, hb, hml, hown, hts⟩ (c_L_size l E D cI cO cZ z0 M hLl) (gw_cwV 0 hts (gT_gi wm_286) rfl rfl rfl (hT _ wm_26) (hT _ wm_283) (hT _ wm_284) (hT _ wm_285) (by decide +kernel) ⟨Nat.le_of_ble_eq_true rfl, Nat.le_of_ble_eq_true rfl⟩) hF hG rfl hll rfl hl.1 rfl (Nat.le_of_ble_eq_true rfl) d_Row_sumHeaps_9 ⟨Nat.le_of_ble_eq_true rfl, Nat.le_of_ble_eq_true rfl⟩) hG (fun r M1 H locs hp hG => ?_)
  rw [hp.1]
  replace hG := gw_nm hp.2.symm hG
  refine lv_icmp_ge (tgt := 38) hx hb d_Row_sumHeaps_12 (by decide) (fun c_12 => ?_) (fun z_ => absurd (by decide) z_)
  refine lv_iload_n hx hb d_Row_sumHeaps_38 rfl (lv_at hl 1 rfl) ?_
  exact gw_iret (v := 0) hx hb hr hlk hG (⟨rfl, rfl⟩) (Nat.le_of_ble_eq_true rfl) (Nat.le_of_ble_eq_true rfl) d_Row_sumHeaps_39
set_option maxHeartbeats 4000000 in
set_option maxRecDepth 100000 in
theorem c_Row_heapsSound (l : Launch) (E : Nat) (D : va_G) (cI cO cZ : ClassId) (z0 : Nat) (M : gM) {o n : Nat} {day : Int32} {S : gS} {Z ad bn : Nat → Nat} (hf : gw_fa z0 cO M o n day S Z ad bn) : Met l y_Row_heapsSound (Cond.code y_Row_heapsSound b_Row_heapsSound 3 (some .boolean) :: gT) ({ frames := 1, cells := 0, slots := 0, locals := 20 }) (gw_Pc E D cI cO cZ z0 M [.ref o]) (gw_Qi E D (fun r M' => r = 1 ∧ M' = M)) 0 0 (gw_A E) := by
  refine gw_ofW (cc := b_Row_heapsSound) (maxL := 3) (ret := (some .boolean)) (by decide) rfl (Nat.le_of_ble_eq_true rfl) ?_
  intro p e s m args below meth c hx hb hr hml hts hown hlk hnm hF hG ls hl
  have hT : ∀ w ∈ gT, w.before args s = true := fun w h => hts w (List.mem_cons_of_mem _ h)
  have hK := hF.1
  have hl : lv_has ls 3 [(0, .ref o)] := hl
  obtain ⟨hro, hLh, hLl, hLb, hbn, hgg, hLg, hdr, hlg, hhd, had, hord, hoi, hne, har⟩ := id hf
  obtain ⟨kh, hhl, h10, -⟩ := id hLh
  have hz0 := gw_z0 hF hG
  obtain ⟨kl, hll, -⟩ := id hLl
  refine lv_iconst (v := 0) hx hb d_Row_heapsSound_0 (by decide) ?_
  refine lv_istore_n (lv' := [(1, .int 0), (0, .ref o)]) hx hb d_Row_heapsSound_1 rfl hl (by decide) rfl (fun ls hl => ?_)
  refine lv_iload_n hx hb d_Row_heapsSound_2 rfl (lv_at hl 0 rfl) ?_
  refine lv_aload_n hx hb d_Row_heapsSound_3 rfl (lv_at hl 1 rfl) ?_
  refine gw_get hx hb hT i_Row hown hK hG hro rfl 1 (by decide) (hT _ wm_237) (fun _ h => h) rfl d_Row_heapsSound_4 ?_
  refine gw_calli (gw_runV (As := []) (rest := [.int 0]) ⟨hx, hb, hml, hown, hts⟩ (c_L_size l E D cI cO cZ z0 M hLl) (gw_cwV 0 hts (gT_gi wm_286) rfl rfl rfl (hT _ wm_26) (hT _ wm_283) (hT _ wm_284) (hT _ wm_285) (by decide +kernel) ⟨Nat.le_of_ble_eq_true rfl, Nat.le_of_ble_eq_true rfl⟩) hF hG rfl hll rfl hl.1 rfl (Nat.le_of_ble_eq_true rfl) d_Row_heapsSound_7 ⟨Nat.le_of_ble_eq_true rfl, Nat.le_of_ble_eq_true rfl⟩) hG (fun r M1 H locs hp hG => ?_)
  rw [hp.1]
  replace hG := gw_nm hp.2.symm hG
  refine lv_icmp_ge (tgt := 55) hx hb d_Row_heapsSound_10 (by decide) (fun c_10 => ?_) (fun z_ => absurd (by decide) z_)
  refine lv_iconst (v := 1) hx hb d_Row_heapsSound_55 (by decide) ?_
  exact gw_zret (v := 1) hx hb hr hlk hG rfl ⟨rfl, rfl⟩ (Nat.le_of_ble_eq_true rfl) (Nat.le_of_ble_eq_true rfl) d_Row_heapsSound_56
set_option maxHeartbeats 4000000 in
set_option maxRecDepth 100000 in
theorem c_Row_sumBins (l : Launch) (E : Nat) (D : va_G) (cI cO cZ : ClassId) (z0 : Nat) (M : gM) {o n : Nat} {day : Int32} {S : gS} {Z ad bn : Nat → Nat} (hf : gw_fa z0 cO M o n day S Z ad bn) : Met l y_Row_sumBins (Cond.code y_Row_sumBins b_Row_sumBins 3 (some .int) :: gT) ({ frames := 3, cells := 0, slots := 0, locals := 64 }) (gw_Pc E D cI cO cZ z0 M [.ref o]) (gw_Qi E D (fun r M' => r = 0 ∧ M' = M)) 0 0 (gw_A E) := by
  refine gw_ofW (cc := b_Row_sumBins) (maxL := 3) (ret := (some .int)) (by decide) rfl (Nat.le_of_ble_eq_true rfl) ?_
  intro p e s m args below meth c hx hb hr hml hts hown hlk hnm hF hG ls hl
  have hT : ∀ w ∈ gT, w.before args s = true := fun w h => hts w (List.mem_cons_of_mem _ h)
  have hK := hF.1
  have hl : lv_has ls 3 [(0, .ref o)] := hl
  obtain ⟨hro, hLh, hLl, hLb, hbn, hgg, hLg, hdr, hlg, hhd, had, hord, hoi, hne, har⟩ := id hf
  obtain ⟨kh, hhl, h10, -⟩ := id hLh
  have hz0 := gw_z0 hF hG
  obtain ⟨kb, hbl, -⟩ := id hLb
  refine lv_iconst (v := 0) hx hb d_Row_sumBins_0 (by decide) ?_
  refine lv_istore_n (lv' := [(1, .int 0), (0, .ref o)]) hx hb d_Row_sumBins_1 rfl hl (by decide) rfl (fun ls hl => ?_)
  refine lv_iconst (v := 0) hx hb d_Row_sumBins_2 (by decide) ?_
  refine lv_istore_n (lv' := [(2, .int 0), (1, .int 0), (0, .ref o)]) hx hb d_Row_sumBins_3 rfl hl (by decide) rfl (fun ls hl => ?_)
  have loop : ∀ (d i : Nat), i + d = 6 → ∀ (X : gM) (H : Heap) (locs : List Loc) (ls : Array Slot), (X = M) → gw_H E D X s H locs → lv_has ls 3 [(2, .int (nI i)), (1, .int 0), (0, .ref o)] → W p l e ({ frames := 3, cells := 0, slots := 0, locals := 64 } : Room) s m args below meth c H locs 0 0 (MQ below (gw_Qi E D (fun r M' => r = 0 ∧ M' = M)) args s 0 0 (gw_A E)) (F0 m 4 ls []) := by
    intro d
    induction d with
    | zero =>
      intro i hi X H locs ls hI hG hl
      replace hG := gw_nm hI.symm hG
      refine lv_iload_n hx hb d_Row_sumBins_4 rfl (lv_at hl 0 rfl) ?_
      refine lv_aload_n hx hb d_Row_sumBins_5 rfl (lv_at hl 2 rfl) ?_
      refine gw_get hx hb hT i_Row hown hK hG hro rfl 2 (by decide) (hT _ wm_238) (fun _ h => h) rfl d_Row_sumBins_6 ?_
      refine gw_calli (gw_runV (As := []) (rest := [.int (nI i)]) ⟨hx, hb, hml, hown, hts⟩ (c_L_size l E D cI cO cZ z0 M hLb) (gw_cwV 0 hts (gT_gi wm_286) rfl rfl rfl (hT _ wm_26) (hT _ wm_283) (hT _ wm_284) (hT _ wm_285) (by decide +kernel) ⟨Nat.le_of_ble_eq_true rfl, Nat.le_of_ble_eq_true rfl⟩) hF hG rfl hbl rfl hl.1 rfl (Nat.le_of_ble_eq_true rfl) d_Row_sumBins_9 ⟨Nat.le_of_ble_eq_true rfl, Nat.le_of_ble_eq_true rfl⟩) hG (fun r M1 H locs hp hG => ?_)
      rw [hp.1]
      replace hG := gw_nm hp.2.symm hG
      refine lv_icmp_ge (tgt := 38) hx hb d_Row_sumBins_12 (by decide) (fun c_12 => ?_) (fun z_ => absurd (nI_le (by omega) (by omega)) z_)
      refine lv_iload_n hx hb d_Row_sumBins_38 rfl (lv_at hl 1 rfl) ?_
      exact gw_iret (v := 0) hx hb hr hlk hG (⟨rfl, rfl⟩) (Nat.le_of_ble_eq_true rfl) (Nat.le_of_ble_eq_true rfl) d_Row_sumBins_39
    | succ d ih =>
      intro i hi X H locs ls hI hG hl
      replace hG := gw_nm hI.symm hG
      refine lv_iload_n hx hb d_Row_sumBins_4 rfl (lv_at hl 0 rfl) ?_
      refine lv_aload_n hx hb d_Row_sumBins_5 rfl (lv_at hl 2 rfl) ?_
      refine gw_get hx hb hT i_Row hown hK hG hro rfl 2 (by decide) (hT _ wm_238) (fun _ h => h) rfl d_Row_sumBins_6 ?_
      refine gw_calli (gw_runV (As := []) (rest := [.int (nI i)]) ⟨hx, hb, hml, hown, hts⟩ (c_L_size l E D cI cO cZ z0 M hLb) (gw_cwV 0 hts (gT_gi wm_286) rfl rfl rfl (hT _ wm_26) (hT _ wm_283) (hT _ wm_284) (hT _ wm_285) (by decide +kernel) ⟨Nat.le_of_ble_eq_true rfl, Nat.le_of_ble_eq_true rfl⟩) hF hG rfl hbl rfl hl.1 rfl (Nat.le_of_ble_eq_true rfl) d_Row_sumBins_9 ⟨Nat.le_of_ble_eq_true rfl, Nat.le_of_ble_eq_true rfl⟩) hG (fun r M2 H locs hp hG => ?_)
      rw [hp.1]
      replace hG := gw_nm hp.2.symm hG
      refine lv_icmp_ge (tgt := 38) hx hb d_Row_sumBins_12 (by decide) (fun z_ => absurd z_ (nI_ge (by omega) (by decide))) (fun c_12 => ?_)
      refine lv_iload_n hx hb d_Row_sumBins_15 rfl (lv_at hl 1 rfl) ?_
      refine lv_aload_n hx hb d_Row_sumBins_16 rfl (lv_at hl 2 rfl) ?_
      refine gw_get hx hb hT i_Row hown hK hG hro rfl 2 (by decide) (hT _ wm_238) (fun _ h => h) rfl d_Row_sumBins_17 ?_
      refine lv_iload_n hx hb d_Row_sumBins_20 rfl (lv_at hl 0 rfl) ?_
      refine gw_callq (gw_runV (As := [.int (nI i)]) (rest := [.int 0]) ⟨hx, hb, hml, hown, hts⟩ (c_L_get l E D cI cO cZ z0 M hLb (p := i) (by omega)) (gw_cwV 1 hts (gT_gi wm_362) rfl rfl rfl (hT _ wm_26) (hT _ wm_359) (hT _ wm_360) (hT _ wm_361) (by decide +kernel) ⟨Nat.le_of_ble_eq_true rfl, Nat.le_of_ble_eq_true rfl⟩) hF hG rfl hbl rfl hl.1 rfl (Nat.le_of_ble_eq_true rfl) d_Row_sumBins_21 ⟨Nat.le_of_ble_eq_true rfl, Nat.le_of_ble_eq_true rfl⟩) hG (fun r M3 H locs hp hG => ?_)
      rw [hp.1]
      replace hG := gw_nm hp.2.symm hG
      have hgi := hbn i (by omega)
      refine gw_cast (ci := 5) (r := (R_Bin, F_Bin, 4)) hx hb hown (hT _ wm_150) hF hG rfl hgi d_Row_sumBins_24 ?_
      refine gw_get hx hb hT i_Bin hown hK hG hgi rfl 1 (by decide) (hT _ wm_159) (fun _ h => h) rfl d_Row_sumBins_27 ?_
      refine lv_iadd hx hb d_Row_sumBins_30 ?_
      rw [show (0 : Int32) + 0 = 0 from by decide]
      refine lv_istore_n (lv' := [(1, .int 0), (2, .int (nI i)), (0, .ref o)]) hx hb d_Row_sumBins_31 rfl hl (by decide) rfl (fun ls hl => ?_)
      refine lv_iinc (v := nI (i + 1)) (lv' := [(2, .int (nI (i + 1))), (1, .int 0), (0, .ref o)]) hx hb d_Row_sumBins_32 hl (k := 1) rfl (nI_succ i).symm (by decide) rfl (fun ls hl => ?_)
      refine lv_goto (tgt := 4) hx hb d_Row_sumBins_35 (by decide) ?_
      exact ih (i + 1) (by omega) M _ _ _ rfl hG (lv_sub hl [0, 1, 2] rfl)
  exact loop _ _ (Nat.zero_add 6) M _ _ _ rfl hG (lv_sub hl [0, 1, 2] rfl)
set_option maxHeartbeats 4000000 in
set_option maxRecDepth 100000 in
theorem c_Row_binsSound (l : Launch) (E : Nat) (D : va_G) (cI cO cZ : ClassId) (z0 : Nat) (M : gM) {o n : Nat} {day : Int32} {S : gS} {Z ad bn : Nat → Nat} (hf : gw_fa z0 cO M o n day S Z ad bn) : Met l y_Row_binsSound (Cond.code y_Row_binsSound b_Row_binsSound 3 (some .boolean) :: gT) ({ frames := 3, cells := 0, slots := 0, locals := 64 }) (gw_Pc E D cI cO cZ z0 M [.ref o]) (gw_Qi E D (fun r M' => r = 1 ∧ M' = M)) 0 0 (gw_A E) := by
  refine gw_ofW (cc := b_Row_binsSound) (maxL := 3) (ret := (some .boolean)) (by decide) rfl (Nat.le_of_ble_eq_true rfl) ?_
  intro p e s m args below meth c hx hb hr hml hts hown hlk hnm hF hG ls hl
  have hT : ∀ w ∈ gT, w.before args s = true := fun w h => hts w (List.mem_cons_of_mem _ h)
  have hK := hF.1
  have hl : lv_has ls 3 [(0, .ref o)] := hl
  obtain ⟨hro, hLh, hLl, hLb, hbn, hgg, hLg, hdr, hlg, hhd, had, hord, hoi, hne, har⟩ := id hf
  obtain ⟨kh, hhl, h10, -⟩ := id hLh
  have hz0 := gw_z0 hF hG
  obtain ⟨kb, hbl, -⟩ := id hLb
  refine lv_iconst (v := 0) hx hb d_Row_binsSound_0 (by decide) ?_
  refine lv_istore_n (lv' := [(1, .int 0), (0, .ref o)]) hx hb d_Row_binsSound_1 rfl hl (by decide) rfl (fun ls hl => ?_)
  have loop : ∀ (d i : Nat), i + d = 6 → ∀ (X : gM) (H : Heap) (locs : List Loc) (ls : Array Slot), (X = M) → gw_H E D X s H locs → lv_has ls 3 [(1, .int (nI i)), (0, .ref o)] → W p l e ({ frames := 3, cells := 0, slots := 0, locals := 64 } : Room) s m args below meth c H locs 0 0 (MQ below (gw_Qi E D (fun r M' => r = 1 ∧ M' = M)) args s 0 0 (gw_A E)) (F0 m 2 ls []) := by
    intro d
    induction d with
    | zero =>
      intro i hi X H locs ls hI hG hl
      replace hG := gw_nm hI.symm hG
      refine lv_iload_n hx hb d_Row_binsSound_2 rfl (lv_at hl 0 rfl) ?_
      refine lv_aload_n hx hb d_Row_binsSound_3 rfl (lv_at hl 1 rfl) ?_
      refine gw_get hx hb hT i_Row hown hK hG hro rfl 2 (by decide) (hT _ wm_238) (fun _ h => h) rfl d_Row_binsSound_4 ?_
      refine gw_calli (gw_runV (As := []) (rest := [.int (nI i)]) ⟨hx, hb, hml, hown, hts⟩ (c_L_size l E D cI cO cZ z0 M hLb) (gw_cwV 0 hts (gT_gi wm_286) rfl rfl rfl (hT _ wm_26) (hT _ wm_283) (hT _ wm_284) (hT _ wm_285) (by decide +kernel) ⟨Nat.le_of_ble_eq_true rfl, Nat.le_of_ble_eq_true rfl⟩) hF hG rfl hbl rfl hl.1 rfl (Nat.le_of_ble_eq_true rfl) d_Row_binsSound_7 ⟨Nat.le_of_ble_eq_true rfl, Nat.le_of_ble_eq_true rfl⟩) hG (fun r M1 H locs hp hG => ?_)
      rw [hp.1]
      replace hG := gw_nm hp.2.symm hG
      refine lv_icmp_ge (tgt := 72) hx hb d_Row_binsSound_10 (by decide) (fun c_10 => ?_) (fun z_ => absurd (nI_le (by omega) (by omega)) z_)
      refine lv_iconst (v := 1) hx hb d_Row_binsSound_72 (by decide) ?_
      exact gw_zret (v := 1) hx hb hr hlk hG rfl ⟨rfl, rfl⟩ (Nat.le_of_ble_eq_true rfl) (Nat.le_of_ble_eq_true rfl) d_Row_binsSound_73
    | succ d ih =>
      intro i hi X H locs ls hI hG hl
      replace hG := gw_nm hI.symm hG
      refine lv_iload_n hx hb d_Row_binsSound_2 rfl (lv_at hl 0 rfl) ?_
      refine lv_aload_n hx hb d_Row_binsSound_3 rfl (lv_at hl 1 rfl) ?_
      refine gw_get hx hb hT i_Row hown hK hG hro rfl 2 (by decide) (hT _ wm_238) (fun _ h => h) rfl d_Row_binsSound_4 ?_
      refine gw_calli (gw_runV (As := []) (rest := [.int (nI i)]) ⟨hx, hb, hml, hown, hts⟩ (c_L_size l E D cI cO cZ z0 M hLb) (gw_cwV 0 hts (gT_gi wm_286) rfl rfl rfl (hT _ wm_26) (hT _ wm_283) (hT _ wm_284) (hT _ wm_285) (by decide +kernel) ⟨Nat.le_of_ble_eq_true rfl, Nat.le_of_ble_eq_true rfl⟩) hF hG rfl hbl rfl hl.1 rfl (Nat.le_of_ble_eq_true rfl) d_Row_binsSound_7 ⟨Nat.le_of_ble_eq_true rfl, Nat.le_of_ble_eq_true rfl⟩) hG (fun r M2 H locs hp hG => ?_)
      rw [hp.1]
      replace hG := gw_nm hp.2.symm hG
      refine lv_icmp_ge (tgt := 72) hx hb d_Row_binsSound_10 (by decide) (fun z_ => absurd z_ (nI_ge (by omega) (by decide))) (fun c_10 => ?_)
      refine lv_aload_n hx hb d_Row_binsSound_13 rfl (lv_at hl 1 rfl) ?_
      refine gw_get hx hb hT i_Row hown hK hG hro rfl 2 (by decide) (hT _ wm_238) (fun _ h => h) rfl d_Row_binsSound_14 ?_
      refine lv_iload_n hx hb d_Row_binsSound_17 rfl (lv_at hl 0 rfl) ?_
      refine gw_callq (gw_runV (As := [.int (nI i)]) (rest := []) ⟨hx, hb, hml, hown, hts⟩ (c_L_get l E D cI cO cZ z0 M hLb (p := i) (by omega)) (gw_cwV 1 hts (gT_gi wm_362) rfl rfl rfl (hT _ wm_26) (hT _ wm_359) (hT _ wm_360) (hT _ wm_361) (by decide +kernel) ⟨Nat.le_of_ble_eq_true rfl, Nat.le_of_ble_eq_true rfl⟩) hF hG rfl hbl rfl hl.1 rfl (Nat.le_of_ble_eq_true rfl) d_Row_binsSound_18 ⟨Nat.le_of_ble_eq_true rfl, Nat.le_of_ble_eq_true rfl⟩) hG (fun r M3 H locs hp hG => ?_)
      rw [hp.1]
      replace hG := gw_nm hp.2.symm hG
      have hgi := hbn i (by omega)
      refine gw_cast (ci := 5) (r := (R_Bin, F_Bin, 4)) hx hb hown (hT _ wm_150) hF hG rfl hgi d_Row_binsSound_21 ?_
      refine lv_astore_n (lv' := [(2, .ref (bn i)), (1, .int (nI i)), (0, .ref o)]) hx hb d_Row_binsSound_24 rfl hl (by decide) rfl (fun ls hl => ?_)
      refine lv_aload_n hx hb d_Row_binsSound_25 rfl (lv_at hl 0 rfl) ?_
      refine gw_get hx hb hT i_Bin hown hK hG hgi rfl 2 (by decide) (hT _ wm_161) (fun _ h => h) rfl d_Row_binsSound_26 ?_
      refine lv_aload_n hx hb d_Row_binsSound_29 rfl (lv_at hl 0 rfl) ?_
      refine gw_get hx hb hT i_Bin hown hK hG hgi rfl 1 (by decide) (hT _ wm_159) (fun _ h => h) rfl d_Row_binsSound_30 ?_
      refine lv_icmp_gt (tgt := 47) hx hb d_Row_binsSound_33 (by decide) (fun z_ => absurd z_ (by decide)) (fun c_33 => ?_)
      refine lv_aload_n hx hb d_Row_binsSound_36 rfl (lv_at hl 0 rfl) ?_
      refine gw_get hx hb hT i_Bin hown hK hG hgi rfl 3 (by decide) (hT _ wm_163) (fun _ h => h) rfl d_Row_binsSound_37 ?_
      refine lv_aload_n hx hb d_Row_binsSound_40 rfl (lv_at hl 0 rfl) ?_
      refine gw_get hx hb hT i_Bin hown hK hG hgi rfl 1 (by decide) (hT _ wm_159) (fun _ h => h) rfl d_Row_binsSound_41 ?_
      refine lv_icmp_le (tgt := 49) hx hb d_Row_binsSound_44 (by decide) (fun c_44 => ?_) (fun z_ => absurd (by decide) z_)
      refine lv_aload_n hx hb d_Row_binsSound_49 rfl (lv_at hl 0 rfl) ?_
      refine gw_get hx hb hT i_Bin hown hK hG hgi rfl 1 (by decide) (hT _ wm_159) (fun _ h => h) rfl d_Row_binsSound_50 ?_
      refine lv_if_ne (tgt := 66) hx hb d_Row_binsSound_53 (by decide) (fun z_ => absurd (rfl) z_) (fun c_53 => ?_)
      refine lv_aload_n hx hb d_Row_binsSound_56 rfl (lv_at hl 0 rfl) ?_
      refine gw_get hx hb hT i_Bin hown hK hG hgi rfl 0 (by decide) (hT _ wm_157) (fun _ h => h) rfl d_Row_binsSound_57 ?_
      refine lv_iconst (v := (-1)) hx hb d_Row_binsSound_60 (by decide) ?_
      refine lv_icmp_eq (tgt := 66) hx hb d_Row_binsSound_61 (by decide) (fun c_61 => ?_) (fun z_ => absurd (rfl) z_)
      refine lv_iinc (v := nI (i + 1)) (lv' := [(1, .int (nI (i + 1))), (2, .ref (bn i)), (0, .ref o)]) hx hb d_Row_binsSound_66 hl (k := 1) rfl (nI_succ i).symm (by decide) rfl (fun ls hl => ?_)
      refine lv_goto (tgt := 2) hx hb d_Row_binsSound_69 (by decide) ?_
      exact ih (i + 1) (by omega) M _ _ _ rfl hG (lv_sub hl [0, 2] rfl)
  exact loop _ _ (Nat.zero_add 6) M _ _ _ rfl hG (lv_sub hl [0, 1] rfl)
set_option maxHeartbeats 4000000 in
set_option maxRecDepth 100000 in
theorem c_Ledger_sumGone (l : Launch) (E : Nat) (D : va_G) (cI cO cZ : ClassId) (z0 : Nat) (M : gM) {a : Nat} (ha : M a = some (.inr (4, [.int 0, .int 0, .int 0, .int 0, .int 0, .int 0, .int 0, .int 0, .int 0]))) : Met l y_Ledger_sumGone (Cond.code y_Ledger_sumGone b_Ledger_sumGone 1 (some .int) :: gT) ({ frames := 0, cells := 0, slots := 0, locals := 0 }) (gw_Pc E D cI cO cZ z0 M [.ref a]) (gw_Qi E D (fun r M' => r = 0 ∧ M' = M)) 0 0 (gw_A E) := by
  refine gw_ofW (cc := b_Ledger_sumGone) (maxL := 1) (ret := (some .int)) (by decide) rfl (Nat.le_of_ble_eq_true rfl) ?_
  intro p e s m args below meth c hx hb hr hml hts hown hlk hnm hF hG ls hl
  have hT : ∀ w ∈ gT, w.before args s = true := fun w h => hts w (List.mem_cons_of_mem _ h)
  have hK := hF.1
  have hl : lv_has ls 1 [(0, .ref a)] := hl
  refine lv_aload_n hx hb d_Ledger_sumGone_0 rfl (lv_at hl 0 rfl) ?_
  refine gw_get hx hb hT i_Ledger hown hK hG ha rfl 0 (by decide) (hT _ wm_121) (fun _ h => h) rfl d_Ledger_sumGone_1 ?_
  refine lv_aload_n hx hb d_Ledger_sumGone_4 rfl (lv_at hl 0 rfl) ?_
  refine gw_get hx hb hT i_Ledger hown hK hG ha rfl 1 (by decide) (hT _ wm_122) (fun _ h => h) rfl d_Ledger_sumGone_5 ?_
  refine lv_iadd hx hb d_Ledger_sumGone_8 ?_
  refine lv_aload_n hx hb d_Ledger_sumGone_9 rfl (lv_at hl 0 rfl) ?_
  refine gw_get hx hb hT i_Ledger hown hK hG ha rfl 2 (by decide) (hT _ wm_123) (fun _ h => h) rfl d_Ledger_sumGone_10 ?_
  refine lv_iadd hx hb d_Ledger_sumGone_13 ?_
  refine lv_aload_n hx hb d_Ledger_sumGone_14 rfl (lv_at hl 0 rfl) ?_
  refine gw_get hx hb hT i_Ledger hown hK hG ha rfl 3 (by decide) (hT _ wm_124) (fun _ h => h) rfl d_Ledger_sumGone_15 ?_
  refine lv_iadd hx hb d_Ledger_sumGone_18 ?_
  refine lv_aload_n hx hb d_Ledger_sumGone_19 rfl (lv_at hl 0 rfl) ?_
  refine gw_get hx hb hT i_Ledger hown hK hG ha rfl 4 (by decide) (hT _ wm_125) (fun _ h => h) rfl d_Ledger_sumGone_20 ?_
  refine lv_iadd hx hb d_Ledger_sumGone_23 ?_
  refine lv_aload_n hx hb d_Ledger_sumGone_24 rfl (lv_at hl 0 rfl) ?_
  refine gw_get hx hb hT i_Ledger hown hK hG ha rfl 5 (by decide) (hT _ wm_126) (fun _ h => h) rfl d_Ledger_sumGone_25 ?_
  refine lv_iadd hx hb d_Ledger_sumGone_28 ?_
  refine lv_aload_n hx hb d_Ledger_sumGone_29 rfl (lv_at hl 0 rfl) ?_
  refine gw_get hx hb hT i_Ledger hown hK hG ha rfl 6 (by decide) (hT _ wm_127) (fun _ h => h) rfl d_Ledger_sumGone_30 ?_
  refine lv_iadd hx hb d_Ledger_sumGone_33 ?_
  refine lv_aload_n hx hb d_Ledger_sumGone_34 rfl (lv_at hl 0 rfl) ?_
  refine gw_get hx hb hT i_Ledger hown hK hG ha rfl 7 (by decide) (hT _ wm_129) (fun _ h => h) rfl d_Ledger_sumGone_35 ?_
  refine lv_iadd hx hb d_Ledger_sumGone_38 ?_
  refine lv_aload_n hx hb d_Ledger_sumGone_39 rfl (lv_at hl 0 rfl) ?_
  refine gw_get hx hb hT i_Ledger hown hK hG ha rfl 8 (by decide) (hT _ wm_130) (fun _ h => h) rfl d_Ledger_sumGone_40 ?_
  refine lv_iadd hx hb d_Ledger_sumGone_43 ?_
  exact gw_iret (v := 0) hx hb hr hlk hG ⟨rfl, rfl⟩ (Nat.le_of_ble_eq_true rfl) (Nat.le_of_ble_eq_true rfl) d_Ledger_sumGone_44
set_option maxHeartbeats 4000000 in
set_option maxRecDepth 100000 in
theorem c_Row_isSound (l : Launch) (E : Nat) (D : va_G) (cI cO cZ : ClassId) (z0 : Nat) (M : gM) {o n : Nat} {day : Int32} {S : gS} {Z ad bn : Nat → Nat} (hf : gw_fa z0 cO M o n day S Z ad bn) (hu : ∀ p, p < S.1 → (S.2.2 (S.2.1 p)).2.2.2.1 = 0) : Met l y_Row_isSound (Cond.code y_Row_isSound b_Row_isSound 2 (some .boolean) :: gT) ({ frames := 4, cells := 0, slots := 0, locals := 86 }) (gw_Pc E D cI cO cZ z0 M [.ref o]) (gw_Qi E D (fun r M' => r = 1 ∧ M' = M)) 0 0 (gw_A E) := by
  refine gw_ofW (cc := b_Row_isSound) (maxL := 2) (ret := (some .boolean)) (by decide) rfl (Nat.le_of_ble_eq_true rfl) ?_
  intro p e s m args below meth c hx hb hr hml hts hown hlk hnm hF hG ls hl
  have hT : ∀ w ∈ gT, w.before args s = true := fun w h => hts w (List.mem_cons_of_mem _ h)
  have hK := hF.1
  have hl : lv_has ls 2 [(0, .ref o)] := hl
  obtain ⟨hro, hLh, hLl, hLb, hbn, hgg, hLg, hdr, hlg, hhd, had, hord, hoi, hne, har⟩ := id hf
  obtain ⟨kh, hhl, h10, -⟩ := id hLh
  have hz0 := gw_z0 hF hG
  refine lv_aload_n hx hb d_Row_isSound_0 rfl (lv_at hl 0 rfl) ?_
  refine gw_calli (gw_runV (As := []) (rest := []) ⟨hx, hb, hml, hown, hts⟩ (c_Row_sumEars l E D cI cO cZ z0 M hf) (gw_cwV 0 hts (gT_gi wm_381) rfl rfl rfl (hT _ wm_23) (hT _ wm_378) (hT _ wm_380) (hT _ wm_4) (by decide +kernel) ⟨Nat.le_of_ble_eq_true rfl, Nat.le_of_ble_eq_true rfl⟩) hF hG rfl hro rfl hl.1 rfl (Nat.le_of_ble_eq_true rfl) d_Row_isSound_1 ⟨Nat.le_of_ble_eq_true rfl, Nat.le_of_ble_eq_true rfl⟩) hG (fun r M1 H locs hp hG => ?_)
  rw [hp.1]
  replace hG := gw_nm hp.2.symm hG
  refine lv_aload_n hx hb d_Row_isSound_4 rfl (lv_at hl 0 rfl) ?_
  refine gw_calli (gw_runV (As := []) (rest := [.int 0]) ⟨hx, hb, hml, hown, hts⟩ (c_Row_sumHeaps l E D cI cO cZ z0 M hf) (gw_cwV 0 hts (gT_gi wm_386) rfl rfl rfl (hT _ wm_23) (hT _ wm_383) (hT _ wm_385) (hT _ wm_5) (by decide +kernel) ⟨Nat.le_of_ble_eq_true rfl, Nat.le_of_ble_eq_true rfl⟩) hF hG rfl hro rfl hl.1 rfl (Nat.le_of_ble_eq_true rfl) d_Row_isSound_5 ⟨Nat.le_of_ble_eq_true rfl, Nat.le_of_ble_eq_true rfl⟩) hG (fun r M2 H locs hp hG => ?_)
  rw [hp.1]
  replace hG := gw_nm hp.2.symm hG
  refine lv_iadd hx hb d_Row_isSound_8 ?_
  rw [show (0 : Int32) + 0 = 0 from by decide]
  refine lv_aload_n hx hb d_Row_isSound_9 rfl (lv_at hl 0 rfl) ?_
  refine gw_get hx hb hT i_Row hown hK hG hro rfl 4 (by decide) (hT _ wm_240) (fun _ h => h) rfl d_Row_isSound_10 ?_
  refine gw_get hx hb hT i_Drum hown hK hG hdr rfl 2 (by decide) (hT _ wm_104) (fun _ h => h) rfl d_Row_isSound_13 ?_
  refine lv_iadd hx hb d_Row_isSound_16 ?_
  rw [show (0 : Int32) + 0 = 0 from by decide]
  refine lv_aload_n hx hb d_Row_isSound_17 rfl (lv_at hl 0 rfl) ?_
  refine gw_calli (gw_runV (As := []) (rest := [.int 0]) ⟨hx, hb, hml, hown, hts⟩ (c_Row_sumBins l E D cI cO cZ z0 M hf) (gw_cwV 0 hts (gT_gi wm_390) rfl rfl rfl (hT _ wm_23) (hT _ wm_387) (hT _ wm_389) (hT _ wm_6) (by decide +kernel) ⟨Nat.le_of_ble_eq_true rfl, Nat.le_of_ble_eq_true rfl⟩) hF hG rfl hro rfl hl.1 rfl (Nat.le_of_ble_eq_true rfl) d_Row_isSound_18 ⟨Nat.le_of_ble_eq_true rfl, Nat.le_of_ble_eq_true rfl⟩) hG (fun r M3 H locs hp hG => ?_)
  rw [hp.1]
  replace hG := gw_nm hp.2.symm hG
  refine lv_iadd hx hb d_Row_isSound_21 ?_
  rw [show (0 : Int32) + 0 = 0 from by decide]
  refine lv_aload_n hx hb d_Row_isSound_22 rfl (lv_at hl 0 rfl) ?_
  refine gw_get hx hb hT i_Row hown hK hG hro rfl 5 (by decide) (hT _ wm_241) (fun _ h => h) rfl d_Row_isSound_23 ?_
  refine gw_calli (gw_runV (As := []) (rest := [.int 0]) ⟨hx, hb, hml, hown, hts⟩ (c_Ledger_sumGone l E D cI cO cZ z0 M hlg) (gw_cwV 0 hts (gT_gi wm_394) rfl rfl rfl (hT _ wm_29) (hT _ wm_391) (hT _ wm_392) (hT _ wm_393) (by decide +kernel) ⟨Nat.le_of_ble_eq_true rfl, Nat.le_of_ble_eq_true rfl⟩) hF hG rfl hlg rfl hl.1 rfl (Nat.le_of_ble_eq_true rfl) d_Row_isSound_26 ⟨Nat.le_of_ble_eq_true rfl, Nat.le_of_ble_eq_true rfl⟩) hG (fun r M4 H locs hp hG => ?_)
  rw [hp.1]
  replace hG := gw_nm hp.2.symm hG
  refine lv_iadd hx hb d_Row_isSound_29 ?_
  rw [show (0 : Int32) + 0 = 0 from by decide]
  refine lv_istore_n (lv' := [(1, .int 0), (0, .ref o)]) hx hb d_Row_isSound_30 rfl hl (by decide) rfl (fun ls hl => ?_)
  refine lv_iload_n hx hb d_Row_isSound_31 rfl (lv_at hl 0 rfl) ?_
  refine lv_aload_n hx hb d_Row_isSound_32 rfl (lv_at hl 1 rfl) ?_
  refine gw_calli (gw_runV (As := []) (rest := [.int 0]) ⟨hx, hb, hml, hown, hts⟩ (c_Row_sumCame l E D cI cO cZ z0 M hf) (gw_cwV 0 hts (gT_gi wm_398) rfl rfl rfl (hT _ wm_23) (hT _ wm_395) (hT _ wm_397) (hT _ wm_7) (by decide +kernel) ⟨Nat.le_of_ble_eq_true rfl, Nat.le_of_ble_eq_true rfl⟩) hF hG rfl hro rfl hl.1 rfl (Nat.le_of_ble_eq_true rfl) d_Row_isSound_33 ⟨Nat.le_of_ble_eq_true rfl, Nat.le_of_ble_eq_true rfl⟩) hG (fun r M5 H locs hp hG => ?_)
  rw [hp.1]
  replace hG := gw_nm hp.2.symm hG
  refine lv_icmp_ne (tgt := 67) hx hb d_Row_isSound_36 (by decide) (fun z_ => absurd (rfl) z_) (fun c_36 => ?_)
  refine lv_aload_n hx hb d_Row_isSound_39 rfl (lv_at hl 1 rfl) ?_
  refine gw_calli (gw_runV (As := []) (rest := []) ⟨hx, hb, hml, hown, hts⟩ (c_Row_heapsSound l E D cI cO cZ z0 M hf) (gw_cwV 0 hts (gT_gi wm_402) rfl rfl rfl (hT _ wm_23) (hT _ wm_399) (hT _ wm_401) (hT _ wm_8) (by decide +kernel) ⟨Nat.le_of_ble_eq_true rfl, Nat.le_of_ble_eq_true rfl⟩) hF hG rfl hro rfl hl.1 rfl (Nat.le_of_ble_eq_true rfl) d_Row_isSound_40 ⟨Nat.le_of_ble_eq_true rfl, Nat.le_of_ble_eq_true rfl⟩) hG (fun r M6 H locs hp hG => ?_)
  rw [hp.1]
  replace hG := gw_nm hp.2.symm hG
  refine lv_if_eq (tgt := 67) hx hb d_Row_isSound_43 (by decide) (fun z_ => absurd z_ (by decide)) (fun c_43 => ?_)
  refine lv_aload_n hx hb d_Row_isSound_46 rfl (lv_at hl 1 rfl) ?_
  refine gw_calli (gw_runV (As := []) (rest := []) ⟨hx, hb, hml, hown, hts⟩ (c_Row_binsSound l E D cI cO cZ z0 M hf) (gw_cwV 0 hts (gT_gi wm_406) rfl rfl rfl (hT _ wm_23) (hT _ wm_403) (hT _ wm_405) (hT _ wm_9) (by decide +kernel) ⟨Nat.le_of_ble_eq_true rfl, Nat.le_of_ble_eq_true rfl⟩) hF hG rfl hro rfl hl.1 rfl (Nat.le_of_ble_eq_true rfl) d_Row_isSound_47 ⟨Nat.le_of_ble_eq_true rfl, Nat.le_of_ble_eq_true rfl⟩) hG (fun r M7 H locs hp hG => ?_)
  rw [hp.1]
  replace hG := gw_nm hp.2.symm hG
  refine lv_if_eq (tgt := 67) hx hb d_Row_isSound_50 (by decide) (fun z_ => absurd z_ (by decide)) (fun c_50 => ?_)
  refine lv_aload_n hx hb d_Row_isSound_53 rfl (lv_at hl 1 rfl) ?_
  refine gw_get hx hb hT i_Row hown hK hG hro rfl 3 (by decide) (hT _ wm_239) (fun _ h => h) rfl d_Row_isSound_54 ?_
  refine gw_calli (gw_runV (As := []) (rest := []) ⟨hx, hb, hml, hown, hts⟩ (c_Gang_hasHurt l E D cI cO cZ z0 M hf.gg hu) (gw_cwV 0 hts (gT_gi wm_410) rfl rfl rfl (hT _ wm_27) (hT _ wm_407) (hT _ wm_408) (hT _ wm_409) (by decide +kernel) ⟨Nat.le_of_ble_eq_true rfl, Nat.le_of_ble_eq_true rfl⟩) hF hG rfl hgg rfl hl.1 rfl (Nat.le_of_ble_eq_true rfl) d_Row_isSound_57 ⟨Nat.le_of_ble_eq_true rfl, Nat.le_of_ble_eq_true rfl⟩) hG (fun r M8 H locs hp hG => ?_)
  rw [hp.1]
  replace hG := gw_nm hp.2.symm hG
  refine lv_if_ne (tgt := 67) hx hb d_Row_isSound_60 (by decide) (fun z_ => absurd (rfl) z_) (fun c_60 => ?_)
  refine lv_iconst (v := 1) hx hb d_Row_isSound_63 (by decide) ?_
  refine lv_goto (tgt := 68) hx hb d_Row_isSound_64 (by decide) ?_
  exact gw_zret (v := 1) hx hb hr hlk hG rfl ⟨rfl, rfl⟩ (Nat.le_of_ble_eq_true rfl) (Nat.le_of_ble_eq_true rfl) d_Row_isSound_68
end
section
theorem d_Bin_init_0 : decode b_Bin_init 0 = .ok (.aload_n 0, 1) := by decide +kernel
theorem wm_155 : Cond.methodLink "ThresholdRow$Bin" 3 ⟨"java/lang/Object", "<init>", "()V"⟩ ∈ gT := gT_m (List.mem_of_getElem? (i := 155) (by decide +kernel)) (by decide +kernel)
theorem d_Bin_init_1 : decode b_Bin_init 1 = .ok (.invokespecial 3, 3) := by decide +kernel
theorem d_Bin_init_4 : decode b_Bin_init 4 = .ok (.aload_n 0, 1) := by decide +kernel
theorem d_Bin_init_5 : decode b_Bin_init 5 = .ok (.iconst (-1), 1) := by decide +kernel
theorem wm_156 : Cond.fieldLink "ThresholdRow$Bin" 9 "ThresholdRow$Bin" "crop" "I" ∈ gT := gT_m (List.mem_of_getElem? (i := 156) (by decide +kernel)) (by decide +kernel)
theorem d_Bin_init_6 : decode b_Bin_init 6 = .ok (.putfield 9, 3) := by decide +kernel
theorem d_Bin_init_9 : decode b_Bin_init 9 = .ok (.aload_n 0, 1) := by decide +kernel
theorem d_Bin_init_10 : decode b_Bin_init 10 = .ok (.iconst 0, 1) := by decide +kernel
theorem wm_158 : Cond.fieldLink "ThresholdRow$Bin" 15 "ThresholdRow$Bin" "grain" "I" ∈ gT := gT_m (List.mem_of_getElem? (i := 158) (by decide +kernel)) (by decide +kernel)
theorem d_Bin_init_11 : decode b_Bin_init 11 = .ok (.putfield 15, 3) := by decide +kernel
theorem d_Bin_init_14 : decode b_Bin_init 14 = .ok (.aload_n 0, 1) := by decide +kernel
theorem d_Bin_init_15 : decode b_Bin_init 15 = .ok (.iconst 0, 1) := by decide +kernel
theorem wm_160 : Cond.fieldLink "ThresholdRow$Bin" 18 "ThresholdRow$Bin" "bruised" "I" ∈ gT := gT_m (List.mem_of_getElem? (i := 160) (by decide +kernel)) (by decide +kernel)
theorem d_Bin_init_16 : decode b_Bin_init 16 = .ok (.putfield 18, 3) := by decide +kernel
theorem d_Bin_init_19 : decode b_Bin_init 19 = .ok (.aload_n 0, 1) := by decide +kernel
theorem d_Bin_init_20 : decode b_Bin_init 20 = .ok (.iconst 0, 1) := by decide +kernel
theorem wm_162 : Cond.fieldLink "ThresholdRow$Bin" 21 "ThresholdRow$Bin" "foreign" "I" ∈ gT := gT_m (List.mem_of_getElem? (i := 162) (by decide +kernel)) (by decide +kernel)
theorem d_Bin_init_21 : decode b_Bin_init 21 = .ok (.putfield 21, 3) := by decide +kernel
theorem d_Bin_init_24 : decode b_Bin_init 24 = .ok (.return_, 1) := by decide +kernel
theorem d_Drum_init_0 : decode b_Drum_init 0 = .ok (.aload_n 0, 1) := by decide +kernel
theorem wm_100 : Cond.methodLink "ThresholdRow$Drum" 3 ⟨"java/lang/Object", "<init>", "()V"⟩ ∈ gT := gT_m (List.mem_of_getElem? (i := 100) (by decide +kernel)) (by decide +kernel)
theorem d_Drum_init_1 : decode b_Drum_init 1 = .ok (.invokespecial 3, 3) := by decide +kernel
theorem d_Drum_init_4 : decode b_Drum_init 4 = .ok (.aload_n 0, 1) := by decide +kernel
theorem d_Drum_init_5 : decode b_Drum_init 5 = .ok (.iconst 0, 1) := by decide +kernel
theorem wm_101 : Cond.fieldLink "ThresholdRow$Drum" 9 "ThresholdRow$Drum" "hiredTill" "I" ∈ gT := gT_m (List.mem_of_getElem? (i := 101) (by decide +kernel)) (by decide +kernel)
theorem d_Drum_init_6 : decode b_Drum_init 6 = .ok (.putfield 9, 3) := by decide +kernel
theorem d_Drum_init_9 : decode b_Drum_init 9 = .ok (.aload_n 0, 1) := by decide +kernel
theorem d_Drum_init_10 : decode b_Drum_init 10 = .ok (.iconst (-1), 1) := by decide +kernel
theorem wm_102 : Cond.fieldLink "ThresholdRow$Drum" 15 "ThresholdRow$Drum" "testedOn" "I" ∈ gT := gT_m (List.mem_of_getElem? (i := 102) (by decide +kernel)) (by decide +kernel)
theorem d_Drum_init_11 : decode b_Drum_init 11 = .ok (.putfield 15, 3) := by decide +kernel
theorem d_Drum_init_14 : decode b_Drum_init 14 = .ok (.aload_n 0, 1) := by decide +kernel
theorem d_Drum_init_15 : decode b_Drum_init 15 = .ok (.iconst 0, 1) := by decide +kernel
theorem wm_103 : Cond.fieldLink "ThresholdRow$Drum" 18 "ThresholdRow$Drum" "carries" "I" ∈ gT := gT_m (List.mem_of_getElem? (i := 103) (by decide +kernel)) (by decide +kernel)
theorem d_Drum_init_16 : decode b_Drum_init 16 = .ok (.putfield 18, 3) := by decide +kernel
theorem d_Drum_init_19 : decode b_Drum_init 19 = .ok (.aload_n 0, 1) := by decide +kernel
theorem d_Drum_init_20 : decode b_Drum_init 20 = .ok (.iconst (-1), 1) := by decide +kernel
theorem wm_105 : Cond.fieldLink "ThresholdRow$Drum" 21 "ThresholdRow$Drum" "carriedCrop" "I" ∈ gT := gT_m (List.mem_of_getElem? (i := 105) (by decide +kernel)) (by decide +kernel)
theorem d_Drum_init_21 : decode b_Drum_init 21 = .ok (.putfield 21, 3) := by decide +kernel
theorem d_Drum_init_24 : decode b_Drum_init 24 = .ok (.return_, 1) := by decide +kernel
theorem d_Ledger_init_0 : decode b_Ledger_init 0 = .ok (.aload_n 0, 1) := by decide +kernel
theorem wm_120 : Cond.methodLink "ThresholdRow$Ledger" 1 ⟨"java/lang/Object", "<init>", "()V"⟩ ∈ gT := gT_m (List.mem_of_getElem? (i := 120) (by decide +kernel)) (by decide +kernel)
theorem d_Ledger_init_1 : decode b_Ledger_init 1 = .ok (.invokespecial 1, 3) := by decide +kernel
theorem d_Ledger_init_4 : decode b_Ledger_init 4 = .ok (.aload_n 0, 1) := by decide +kernel
theorem d_Ledger_init_5 : decode b_Ledger_init 5 = .ok (.iconst 0, 1) := by decide +kernel
theorem d_Ledger_init_6 : decode b_Ledger_init 6 = .ok (.putfield 7, 3) := by decide +kernel
theorem d_Ledger_init_9 : decode b_Ledger_init 9 = .ok (.aload_n 0, 1) := by decide +kernel
theorem d_Ledger_init_10 : decode b_Ledger_init 10 = .ok (.iconst 0, 1) := by decide +kernel
theorem d_Ledger_init_11 : decode b_Ledger_init 11 = .ok (.putfield 13, 3) := by decide +kernel
theorem d_Ledger_init_14 : decode b_Ledger_init 14 = .ok (.aload_n 0, 1) := by decide +kernel
theorem d_Ledger_init_15 : decode b_Ledger_init 15 = .ok (.iconst 0, 1) := by decide +kernel
theorem d_Ledger_init_16 : decode b_Ledger_init 16 = .ok (.putfield 16, 3) := by decide +kernel
theorem d_Ledger_init_19 : decode b_Ledger_init 19 = .ok (.aload_n 0, 1) := by decide +kernel
theorem d_Ledger_init_20 : decode b_Ledger_init 20 = .ok (.iconst 0, 1) := by decide +kernel
theorem d_Ledger_init_21 : decode b_Ledger_init 21 = .ok (.putfield 19, 3) := by decide +kernel
theorem d_Ledger_init_24 : decode b_Ledger_init 24 = .ok (.aload_n 0, 1) := by decide +kernel
theorem d_Ledger_init_25 : decode b_Ledger_init 25 = .ok (.iconst 0, 1) := by decide +kernel
theorem d_Ledger_init_26 : decode b_Ledger_init 26 = .ok (.putfield 22, 3) := by decide +kernel
theorem d_Ledger_init_29 : decode b_Ledger_init 29 = .ok (.aload_n 0, 1) := by decide +kernel
theorem d_Ledger_init_30 : decode b_Ledger_init 30 = .ok (.iconst 0, 1) := by decide +kernel
theorem d_Ledger_init_31 : decode b_Ledger_init 31 = .ok (.putfield 25, 3) := by decide +kernel
theorem d_Ledger_init_34 : decode b_Ledger_init 34 = .ok (.aload_n 0, 1) := by decide +kernel
theorem d_Ledger_init_35 : decode b_Ledger_init 35 = .ok (.iconst 0, 1) := by decide +kernel
theorem d_Ledger_init_36 : decode b_Ledger_init 36 = .ok (.putfield 28, 3) := by decide +kernel
theorem d_Ledger_init_39 : decode b_Ledger_init 39 = .ok (.aload_n 0, 1) := by decide +kernel
theorem d_Ledger_init_40 : decode b_Ledger_init 40 = .ok (.iconst 0, 1) := by decide +kernel
theorem d_Ledger_init_41 : decode b_Ledger_init 41 = .ok (.putfield 31, 3) := by decide +kernel
theorem d_Ledger_init_44 : decode b_Ledger_init 44 = .ok (.aload_n 0, 1) := by decide +kernel
theorem d_Ledger_init_45 : decode b_Ledger_init 45 = .ok (.iconst 0, 1) := by decide +kernel
theorem d_Ledger_init_46 : decode b_Ledger_init 46 = .ok (.putfield 34, 3) := by decide +kernel
theorem d_Ledger_init_49 : decode b_Ledger_init 49 = .ok (.return_, 1) := by decide +kernel
theorem d_Row_init_0 : decode b_Row_init 0 = .ok (.aload_n 0, 1) := by decide +kernel
theorem wm_54 : Cond.methodLink "ThresholdRow" 1 ⟨"java/lang/Object", "<init>", "()V"⟩ ∈ gT := gT_m (List.mem_of_getElem? (i := 54) (by decide +kernel)) (by decide +kernel)
theorem d_Row_init_1 : decode b_Row_init 1 = .ok (.invokespecial 1, 3) := by decide +kernel
theorem d_Row_init_4 : decode b_Row_init 4 = .ok (.aload_n 0, 1) := by decide +kernel
theorem wm_57 : Cond.classLink "ThresholdRow" 7 "java/util/ArrayList" ∈ gT := gT_m (List.mem_of_getElem? (i := 57) (by decide +kernel)) (by decide +kernel)
theorem d_Row_init_5 : decode b_Row_init 5 = .ok (.new 7, 3) := by decide +kernel
theorem d_Row_init_8 : decode b_Row_init 8 = .ok (.dup, 1) := by decide +kernel
theorem wm_59 : Cond.methodLink "ThresholdRow" 9 ⟨"java/util/ArrayList", "<init>", "()V"⟩ ∈ gT := gT_m (List.mem_of_getElem? (i := 59) (by decide +kernel)) (by decide +kernel)
theorem d_Row_init_9 : decode b_Row_init 9 = .ok (.invokespecial 9, 3) := by decide +kernel
theorem d_Row_init_12 : decode b_Row_init 12 = .ok (.putfield 10, 3) := by decide +kernel
theorem d_Row_init_15 : decode b_Row_init 15 = .ok (.aload_n 0, 1) := by decide +kernel
theorem d_Row_init_16 : decode b_Row_init 16 = .ok (.new 7, 3) := by decide +kernel
theorem d_Row_init_19 : decode b_Row_init 19 = .ok (.dup, 1) := by decide +kernel
theorem d_Row_init_20 : decode b_Row_init 20 = .ok (.invokespecial 9, 3) := by decide +kernel
theorem d_Row_init_23 : decode b_Row_init 23 = .ok (.putfield 16, 3) := by decide +kernel
theorem d_Row_init_26 : decode b_Row_init 26 = .ok (.aload_n 0, 1) := by decide +kernel
theorem d_Row_init_27 : decode b_Row_init 27 = .ok (.new 7, 3) := by decide +kernel
theorem d_Row_init_30 : decode b_Row_init 30 = .ok (.dup, 1) := by decide +kernel
theorem d_Row_init_31 : decode b_Row_init 31 = .ok (.invokespecial 9, 3) := by decide +kernel
theorem d_Row_init_34 : decode b_Row_init 34 = .ok (.putfield 19, 3) := by decide +kernel
theorem d_Row_init_37 : decode b_Row_init 37 = .ok (.aload_n 0, 1) := by decide +kernel
theorem wm_83 : Cond.classLink "ThresholdRow" 22 "ThresholdRow$Gang" ∈ gT := gT_m (List.mem_of_getElem? (i := 83) (by decide +kernel)) (by decide +kernel)
theorem wm_84 : Cond.instantiable "ThresholdRow$Gang" 1 ∈ gT := gT_m (List.mem_of_getElem? (i := 84) (by decide +kernel)) (by decide +kernel)
theorem d_Row_init_38 : decode b_Row_init 38 = .ok (.new 22, 3) := by decide +kernel
theorem d_Row_init_41 : decode b_Row_init 41 = .ok (.dup, 1) := by decide +kernel
theorem d_Row_init_42 : decode b_Row_init 42 = .ok (.invokespecial 24, 3) := by decide +kernel
theorem wq_85 : Cond.methodLinkNest "ThresholdRow" 24 ⟨"ThresholdRow$Gang", "<init>", "()V"⟩ "ThresholdRow" ∈ lw_tbl := List.mem_of_getElem? (i := 85) (by decide +kernel)
theorem wm_87 : Cond.code ⟨"ThresholdRow$Gang", "<init>", "()V"⟩ prog_4_method_1_code 1 none ∈ gT := gT_m (List.mem_of_getElem? (i := 87) (by decide +kernel)) (by decide +kernel)
theorem wm_86 : Cond.instanceMethod ⟨"ThresholdRow$Gang", "<init>", "()V"⟩ ∈ gT := gT_m (List.mem_of_getElem? (i := 86) (by decide +kernel)) (by decide +kernel)
theorem d_Row_init_45 : decode b_Row_init 45 = .ok (.putfield 25, 3) := by decide +kernel
theorem d_Row_init_48 : decode b_Row_init 48 = .ok (.aload_n 0, 1) := by decide +kernel
theorem wm_95 : Cond.classLink "ThresholdRow" 29 "ThresholdRow$Drum" ∈ gT := gT_m (List.mem_of_getElem? (i := 95) (by decide +kernel)) (by decide +kernel)
theorem wm_96 : Cond.instantiable "ThresholdRow$Drum" 4 ∈ gT := gT_m (List.mem_of_getElem? (i := 96) (by decide +kernel)) (by decide +kernel)
theorem wm_28 : Cond.initialized "ThresholdRow$Drum" ∈ gT := gT_m (List.mem_of_getElem? (i := 28) (by decide +kernel)) (by decide +kernel)
theorem d_Row_init_49 : decode b_Row_init 49 = .ok (.new 29, 3) := by decide +kernel
theorem d_Row_init_52 : decode b_Row_init 52 = .ok (.dup, 1) := by decide +kernel
theorem d_Row_init_53 : decode b_Row_init 53 = .ok (.invokespecial 31, 3) := by decide +kernel
theorem wq_97 : Cond.methodLinkNest "ThresholdRow" 31 ⟨"ThresholdRow$Drum", "<init>", "()V"⟩ "ThresholdRow" ∈ lw_tbl := List.mem_of_getElem? (i := 97) (by decide +kernel)
theorem wm_99 : Cond.code ⟨"ThresholdRow$Drum", "<init>", "()V"⟩ prog_3_method_1_code 1 none ∈ gT := gT_m (List.mem_of_getElem? (i := 99) (by decide +kernel)) (by decide +kernel)
theorem wm_98 : Cond.instanceMethod ⟨"ThresholdRow$Drum", "<init>", "()V"⟩ ∈ gT := gT_m (List.mem_of_getElem? (i := 98) (by decide +kernel)) (by decide +kernel)
theorem d_Row_init_56 : decode b_Row_init 56 = .ok (.putfield 32, 3) := by decide +kernel
theorem d_Row_init_59 : decode b_Row_init 59 = .ok (.aload_n 0, 1) := by decide +kernel
theorem wm_115 : Cond.classLink "ThresholdRow" 36 "ThresholdRow$Ledger" ∈ gT := gT_m (List.mem_of_getElem? (i := 115) (by decide +kernel)) (by decide +kernel)
theorem wm_116 : Cond.instantiable "ThresholdRow$Ledger" 9 ∈ gT := gT_m (List.mem_of_getElem? (i := 116) (by decide +kernel)) (by decide +kernel)
theorem d_Row_init_60 : decode b_Row_init 60 = .ok (.new 36, 3) := by decide +kernel
theorem d_Row_init_63 : decode b_Row_init 63 = .ok (.dup, 1) := by decide +kernel
theorem d_Row_init_64 : decode b_Row_init 64 = .ok (.invokespecial 38, 3) := by decide +kernel
theorem wq_117 : Cond.methodLinkNest "ThresholdRow" 38 ⟨"ThresholdRow$Ledger", "<init>", "()V"⟩ "ThresholdRow" ∈ lw_tbl := List.mem_of_getElem? (i := 117) (by decide +kernel)
theorem wm_119 : Cond.code ⟨"ThresholdRow$Ledger", "<init>", "()V"⟩ prog_6_method_1_code 1 none ∈ gT := gT_m (List.mem_of_getElem? (i := 119) (by decide +kernel)) (by decide +kernel)
theorem wm_118 : Cond.instanceMethod ⟨"ThresholdRow$Ledger", "<init>", "()V"⟩ ∈ gT := gT_m (List.mem_of_getElem? (i := 118) (by decide +kernel)) (by decide +kernel)
theorem d_Row_init_67 : decode b_Row_init 67 = .ok (.putfield 39, 3) := by decide +kernel
theorem d_Row_init_70 : decode b_Row_init 70 = .ok (.aload_n 0, 1) := by decide +kernel
theorem d_Row_init_71 : decode b_Row_init 71 = .ok (.iconst 4, 1) := by decide +kernel
theorem wm_173 : Cond.arrayClass .int ∈ gT := gT_m (List.mem_of_getElem? (i := 173) (by decide +kernel)) (by decide +kernel)
theorem d_Row_init_72 : decode b_Row_init 72 = .ok (.newarray .int, 2) := by decide +kernel
theorem wm_242 : Cond.fieldLink "ThresholdRow" 43 "ThresholdRow" "bushelPints" "[I" ∈ gT := gT_m (List.mem_of_getElem? (i := 242) (by decide +kernel)) (by decide +kernel)
theorem d_Row_init_74 : decode b_Row_init 74 = .ok (.putfield 43, 3) := by decide +kernel
theorem d_Row_init_77 : decode b_Row_init 77 = .ok (.aload_n 0, 1) := by decide +kernel
theorem d_Row_init_78 : decode b_Row_init 78 = .ok (.iconst 4, 1) := by decide +kernel
theorem wm_174 : Cond.arrayClass .boolean ∈ gT := gT_m (List.mem_of_getElem? (i := 174) (by decide +kernel)) (by decide +kernel)
theorem d_Row_init_79 : decode b_Row_init 79 = .ok (.newarray .boolean, 2) := by decide +kernel
theorem wm_243 : Cond.fieldLink "ThresholdRow" 47 "ThresholdRow" "customs" "[Z" ∈ gT := gT_m (List.mem_of_getElem? (i := 243) (by decide +kernel)) (by decide +kernel)
theorem d_Row_init_81 : decode b_Row_init 81 = .ok (.putfield 47, 3) := by decide +kernel
theorem d_Row_init_84 : decode b_Row_init 84 = .ok (.aload_n 0, 1) := by decide +kernel
theorem d_Row_init_85 : decode b_Row_init 85 = .ok (.iconst 0, 1) := by decide +kernel
theorem d_Row_init_86 : decode b_Row_init 86 = .ok (.putfield 51, 3) := by decide +kernel
theorem d_Row_init_89 : decode b_Row_init 89 = .ok (.aload_n 0, 1) := by decide +kernel
theorem d_Row_init_90 : decode b_Row_init 90 = .ok (.iconst 1, 1) := by decide +kernel
theorem wm_245 : Cond.fieldLink "ThresholdRow" 55 "ThresholdRow" "z" "I" ∈ gT := gT_m (List.mem_of_getElem? (i := 245) (by decide +kernel)) (by decide +kernel)
theorem d_Row_init_91 : decode b_Row_init 91 = .ok (.putfield 55, 3) := by decide +kernel
theorem d_Row_init_94 : decode b_Row_init 94 = .ok (.aload_n 0, 1) := by decide +kernel
theorem d_Row_init_95 : decode b_Row_init 95 = .ok (.iconst 0, 1) := by decide +kernel
theorem d_Row_init_96 : decode b_Row_init 96 = .ok (.putfield 58, 3) := by decide +kernel
theorem d_Row_init_99 : decode b_Row_init 99 = .ok (.aload_n 0, 1) := by decide +kernel
theorem d_Row_init_100 : decode b_Row_init 100 = .ok (.iconst 0, 1) := by decide +kernel
theorem wm_247 : Cond.fieldLink "ThresholdRow" 61 "ThresholdRow" "owls" "I" ∈ gT := gT_m (List.mem_of_getElem? (i := 247) (by decide +kernel)) (by decide +kernel)
theorem d_Row_init_101 : decode b_Row_init 101 = .ok (.putfield 61, 3) := by decide +kernel
theorem d_Row_init_104 : decode b_Row_init 104 = .ok (.aload_n 0, 1) := by decide +kernel
theorem d_Row_init_105 : decode b_Row_init 105 = .ok (.iconst 0, 1) := by decide +kernel
theorem wm_248 : Cond.fieldLink "ThresholdRow" 64 "ThresholdRow" "flour" "I" ∈ gT := gT_m (List.mem_of_getElem? (i := 248) (by decide +kernel)) (by decide +kernel)
theorem d_Row_init_106 : decode b_Row_init 106 = .ok (.putfield 64, 3) := by decide +kernel
theorem d_Row_init_109 : decode b_Row_init 109 = .ok (.aload_n 0, 1) := by decide +kernel
theorem d_Row_init_110 : decode b_Row_init 110 = .ok (.iconst 0, 1) := by decide +kernel
theorem wm_249 : Cond.fieldLink "ThresholdRow" 67 "ThresholdRow" "money" "I" ∈ gT := gT_m (List.mem_of_getElem? (i := 249) (by decide +kernel)) (by decide +kernel)
theorem d_Row_init_111 : decode b_Row_init 111 = .ok (.putfield 67, 3) := by decide +kernel
theorem d_Row_init_114 : decode b_Row_init 114 = .ok (.iconst 0, 1) := by decide +kernel
theorem d_Row_init_115 : decode b_Row_init 115 = .ok (.istore_n 1, 1) := by decide +kernel
theorem d_Row_init_116 : decode b_Row_init 116 = .ok (.iload_n 1, 1) := by decide +kernel
theorem d_Row_init_117 : decode b_Row_init 117 = .ok (.bipush 6, 2) := by decide +kernel
theorem d_Row_init_119 : decode b_Row_init 119 = .ok (.if_icmp .ge 24, 3) := by decide +kernel
theorem d_Row_init_122 : decode b_Row_init 122 = .ok (.aload_n 0, 1) := by decide +kernel
theorem d_Row_init_123 : decode b_Row_init 123 = .ok (.getfield 19, 3) := by decide +kernel
theorem wm_151 : Cond.instantiable "ThresholdRow$Bin" 4 ∈ gT := gT_m (List.mem_of_getElem? (i := 151) (by decide +kernel)) (by decide +kernel)
theorem wm_30 : Cond.initialized "ThresholdRow$Bin" ∈ gT := gT_m (List.mem_of_getElem? (i := 30) (by decide +kernel)) (by decide +kernel)
theorem d_Row_init_126 : decode b_Row_init 126 = .ok (.new 70, 3) := by decide +kernel
theorem d_Row_init_129 : decode b_Row_init 129 = .ok (.dup, 1) := by decide +kernel
theorem d_Row_init_130 : decode b_Row_init 130 = .ok (.invokespecial 72, 3) := by decide +kernel
theorem wq_152 : Cond.methodLinkNest "ThresholdRow" 72 ⟨"ThresholdRow$Bin", "<init>", "()V"⟩ "ThresholdRow" ∈ lw_tbl := List.mem_of_getElem? (i := 152) (by decide +kernel)
theorem wm_154 : Cond.code ⟨"ThresholdRow$Bin", "<init>", "()V"⟩ prog_2_method_1_code 1 none ∈ gT := gT_m (List.mem_of_getElem? (i := 154) (by decide +kernel)) (by decide +kernel)
theorem wm_153 : Cond.instanceMethod ⟨"ThresholdRow$Bin", "<init>", "()V"⟩ ∈ gT := gT_m (List.mem_of_getElem? (i := 153) (by decide +kernel)) (by decide +kernel)
theorem wq_793 : Cond.castable "ThresholdRow$Bin" "java/lang/Object" ∈ lw_tbl := List.mem_of_getElem? (i := 793) (by decide +kernel)
theorem d_Row_init_133 : decode b_Row_init 133 = .ok (.invokevirtual 73, 3) := by decide +kernel
theorem d_Row_init_136 : decode b_Row_init 136 = .ok (.pop, 1) := by decide +kernel
theorem d_Row_init_137 : decode b_Row_init 137 = .ok (.iinc 1 1, 3) := by decide +kernel
theorem d_Row_init_140 : decode b_Row_init 140 = .ok (.goto (-24), 3) := by decide +kernel
theorem d_Row_init_143 : decode b_Row_init 143 = .ok (.iconst 0, 1) := by decide +kernel
theorem d_Row_init_144 : decode b_Row_init 144 = .ok (.istore_n 1, 1) := by decide +kernel
theorem d_Row_init_145 : decode b_Row_init 145 = .ok (.iload_n 1, 1) := by decide +kernel
theorem d_Row_init_146 : decode b_Row_init 146 = .ok (.aload_n 0, 1) := by decide +kernel
theorem d_Row_init_147 : decode b_Row_init 147 = .ok (.getfield 43, 3) := by decide +kernel
theorem d_Row_init_150 : decode b_Row_init 150 = .ok (.arraylength, 1) := by decide +kernel
theorem d_Row_init_151 : decode b_Row_init 151 = .ok (.if_icmp .ge 17, 3) := by decide +kernel
theorem d_Row_init_154 : decode b_Row_init 154 = .ok (.aload_n 0, 1) := by decide +kernel
theorem d_Row_init_155 : decode b_Row_init 155 = .ok (.getfield 43, 3) := by decide +kernel
theorem d_Row_init_158 : decode b_Row_init 158 = .ok (.iload_n 1, 1) := by decide +kernel
theorem d_Row_init_159 : decode b_Row_init 159 = .ok (.bipush 64, 2) := by decide +kernel
theorem d_Row_init_161 : decode b_Row_init 161 = .ok (.iastore, 1) := by decide +kernel
theorem d_Row_init_162 : decode b_Row_init 162 = .ok (.iinc 1 1, 3) := by decide +kernel
theorem d_Row_init_165 : decode b_Row_init 165 = .ok (.goto (-20), 3) := by decide +kernel
theorem d_Row_init_168 : decode b_Row_init 168 = .ok (.iconst 0, 1) := by decide +kernel
theorem d_Row_init_169 : decode b_Row_init 169 = .ok (.istore_n 1, 1) := by decide +kernel
theorem d_Row_init_170 : decode b_Row_init 170 = .ok (.iload_n 1, 1) := by decide +kernel
theorem d_Row_init_171 : decode b_Row_init 171 = .ok (.aload_n 0, 1) := by decide +kernel
theorem d_Row_init_172 : decode b_Row_init 172 = .ok (.getfield 47, 3) := by decide +kernel
theorem d_Row_init_175 : decode b_Row_init 175 = .ok (.arraylength, 1) := by decide +kernel
theorem d_Row_init_176 : decode b_Row_init 176 = .ok (.if_icmp .ge 16, 3) := by decide +kernel
theorem d_Row_init_179 : decode b_Row_init 179 = .ok (.aload_n 0, 1) := by decide +kernel
theorem d_Row_init_180 : decode b_Row_init 180 = .ok (.getfield 47, 3) := by decide +kernel
theorem d_Row_init_183 : decode b_Row_init 183 = .ok (.iload_n 1, 1) := by decide +kernel
theorem d_Row_init_184 : decode b_Row_init 184 = .ok (.iconst 1, 1) := by decide +kernel
theorem d_Row_init_185 : decode b_Row_init 185 = .ok (.bastore, 1) := by decide +kernel
theorem d_Row_init_186 : decode b_Row_init 186 = .ok (.iinc 1 1, 3) := by decide +kernel
theorem d_Row_init_189 : decode b_Row_init 189 = .ok (.goto (-19), 3) := by decide +kernel
theorem d_Row_init_192 : decode b_Row_init 192 = .ok (.return_, 1) := by decide +kernel
theorem gw_fa.upI {z0 : Nat} {cO : ClassId} {M : gM} {o n : Nat} {day : Int32} {S : gS} {Z ad bn : Nat → Nat} (h : gw_fa z0 cO M o n day S Z ad bn) {a : Nat} {e e' : va_E} (ha : M a = some e) (he : gw_isI e) : gw_fa z0 cO (gw_up M a e') o n day S Z ad bn := h.kept (fun b f hb hf => gw_miss (fun z => hf (by rw [z, ha] at hb; cases hb; exact he)))
theorem gw_fa.newI {z0 : Nat} {cO : ClassId} {M : gM} {o n : Nat} {day : Int32} {S : gS} {Z ad bn : Nat → Nat} (h : gw_fa z0 cO M o n day S Z ad bn) {a : Nat} {e' : va_E} (ha : M a = none) : gw_fa z0 cO (gw_up M a e') o n day S Z ad bn := h.kept (fun b f hb _ => gw_miss (gw_neF ha hb))
section GZ
variable {p : Program} {l : Launch} {e : Env} {R : Room} {s : State} {m : MethodId} {args : Array Value} {below : List Frame} {meth : Method} {c : Code} {H : Heap} {locs : List Loc} {cells slots : Nat} {Q : State → Prop}
variable {cc : ByteArray} {pc : Nat} {ls : Array Slot} {rest : List Value} {D : va_G} {a : Nat} {E : Nat} {M : gM} {cI cO cZ : ClassId}
theorem gw_zast (hx : p.tables.exec = Jvm.exec) (hb : c.code = cc) (hK : va_K D classes (gw_ty cI cO cZ) s) (hG : gw_H E D M s H locs) {n : Nat} {f : Nat → Int32} (he : M a = some (.inl (cZ, n, .inl f))) {i x : Int32} (hin : vp_in i n) (hdg : decode cc pc = .ok (.bastore, 1))
    (kk : ∀ (H1 : Heap) (locs1 : List Loc), gw_H E D (gw_up M a (.inl (cZ, n, .inl (upd f i.toNatClampNeg (vp_nar .boolean x))))) s H1 locs1 → W p l e R s m args below meth c H1 locs1 cells slots Q (F0 m (pc + 1) ls rest)) : W p l e R s m args below meth c H locs cells slots Q (F0 m pc ls (.int x :: .int i :: .ref a :: rest)) := by
  obtain ⟨ws, hP, hD, hm⟩ := gw_list hG.1 hG.2.1
  obtain ⟨i0, hi⟩ := (hm a _).mp he
  exact va_zast hx hb hK hP hD hG.2.2 i0 2 hi rfl hin hdg (fun H1 locs1 h1 _ h3 => kk H1 locs1 ⟨gw_set (E := E) (H := H) hm hi h1, gw_setE hG.2.1 he, h3⟩)
end GZ
/-- the bins' list while the bins come -/
abbrev gw_bin : va_E := .inr (5, [.int (-1), .int 0, .int 0, .int 0])
def gw_bs (z0 : Nat) (cO : ClassId) (M0 X : gM) (bl bt i : Nat) (bn : Nat → Nat) : Prop := gw_L z0 cO X bl bt i bn ∧ (∀ p, p < i → X (bn p) = some gw_bin) ∧ (∀ b e, M0 b = some e → b ≠ bl → X b = M0 b) ∧ (bt = z0 ∨ M0 bt = none)
theorem gw_bs.step {z0 : Nat} {cO : ClassId} {M0 X M2 X' : gM} {bl bt i q : Nat} {bn : Nat → Nat} (h : gw_bs z0 cO M0 X bl bt i bn) (hz : X z0 = none) {e0 : va_E} (hbl : M0 bl = some e0) (hq : X q = none) (hM2 : ∀ b, b ≠ q → M2 b = X b) (hM2q : M2 q = some gw_bin) (hz2 : M2 z0 = none) (hadd : ∃ t', (t' = bt ∨ M2 t' = none) ∧ gw_L z0 cO X' bl t' (i + 1) (va_up bn i q) ∧ ∀ b, b ≠ bl → b ≠ t' → X' b = M2 b) : ∃ t', gw_bs z0 cO M0 X' bl t' (i + 1) (va_up bn i q) := by
  obtain ⟨hL, hb, hfr, ht⟩ := h
  obtain ⟨t', h1, h2, h3⟩ := hadd
  obtain ⟨k, ha, -, hf⟩ := hL
  have hqz : q ≠ z0 := fun z => by rw [← z, hM2q] at hz2; cases hz2
  have hqbl : q ≠ bl := fun z => by rw [z, ha] at hq; cases hq
  have hqt : q ≠ t' := by
    rcases h1 with h1 | h1
    · rw [h1]
      rcases hf with ⟨-, hf⟩ | ⟨f, hf, -⟩
      · rw [hf]; exact hqz
      · exact fun z => by rw [z, hf] at hq; cases hq
    · exact fun z => by rw [← z, hM2q] at h1; cases h1
  have ot : ∀ b j fs, X b = some (.inr (j, fs)) → b ≠ t' := by
    intro b j fs hbb
    rcases h1 with h1 | h1
    · rw [h1]
      rcases hf with ⟨-, hf⟩ | ⟨f, hf, -⟩
      · rw [hf]; exact gw_neF hz hbb
      · exact (gw_neA hf hbb).symm
    · intro z
      rw [← z, hM2 b (gw_neF hq hbb), hbb] at h1; cases h1
  refine ⟨t', h2, fun p hp => ?_, fun b e hb0 hbb => ?_, ?_⟩
  · unfold va_up
    by_cases hpi : p = i
    · rw [if_pos hpi, h3 q hqbl hqt]; exact hM2q
    · rw [if_neg hpi]
      have e1 := hb p (by omega)
      rw [h3 _ (gw_neO e1 ha (by decide)) (ot _ _ _ e1), hM2 _ (gw_neF hq e1)]
      exact e1
  · have e1 := (hfr b e hb0 hbb).trans hb0
    have hbq : b ≠ q := gw_neF hq e1
    have hbt : b ≠ t' := by
      rcases h1 with h1 | h1
      · rw [h1]
        rcases ht with ht | ht
        · rw [ht]; exact gw_neF hz e1
        · exact gw_neF ht hb0
      · exact fun z => by rw [← z, hM2 b hbq, e1] at h1; cases h1
    rw [h3 b hbb hbt, hM2 b hbq]
    exact hfr b e hb0 hbb
  · rcases h1 with h1 | h1
    · rw [h1]; exact ht
    · refine Or.inr ?_
      cases h0 : M0 t' with
      | none => rfl
      | some e =>
        by_cases hbl2 : t' = bl
        · rw [hbl2, hM2 bl hqbl.symm, ha] at h1; cases h1
        · have e1 := (hfr t' e h0 hbl2).trans h0
          rw [hM2 t' hqt.symm, e1] at h1; cases h1
set_option maxHeartbeats 4000000 in
set_option maxRecDepth 100000 in
theorem c_Bin_init (l : Launch) (E : Nat) (D : va_G) (cI cO cZ : ClassId) (z0 : Nat) (M : gM) {a : Nat} (ha : M a = some (.inr (5, [.int 0, .int 0, .int 0, .int 0]))) : Met l y_Bin_init (Cond.code y_Bin_init b_Bin_init 1 none :: gT) ({ frames := 1, cells := 0, slots := 0, locals := 12 }) (gw_Pc E D cI cO cZ z0 M [.ref a]) (gw_Qv E D (fun M' => M' = gw_up M a (.inr (5, [.int (-1), .int 0, .int 0, .int 0])))) 0 0 (gw_A E) := by
  refine gw_ofW (cc := b_Bin_init) (maxL := 1) (ret := none) (by decide) rfl (Nat.le_of_ble_eq_true rfl) ?_
  intro p e s m args below meth c hx hb hr hml hts hown hlk hnm hF hG ls hl
  have hT : ∀ w ∈ gT, w.before args s = true := fun w h => hts w (List.mem_cons_of_mem _ h)
  have hK := hF.1
  have hl : lv_has ls 1 [(0, .ref a)] := hl
  refine lv_aload_n hx hb d_Bin_init_0 rfl (lv_at hl 0 rfl) ?_
  refine gw_objI hx hb hown (hml.trans hl.1.symm) (hT _ wm_155) (hT _ wm_55) (hT _ wm_56) (Nat.le_of_ble_eq_true rfl) (Nat.le_of_ble_eq_true rfl) d_Bin_init_1 ?_
  refine lv_aload_n hx hb d_Bin_init_4 rfl (lv_at hl 0 rfl) ?_
  refine lv_iconst (v := (-1)) hx hb d_Bin_init_5 (by decide) ?_
  refine gw_put (v := .int (-1)) hx hb hT i_Bin t_Bin t_Bin_ok n_Bin hown hK hG ha rfl 0 (by decide) (hT _ wm_156) (fun _ h => h) rfl rfl rfl (Nat.le_of_ble_eq_true rfl) d_Bin_init_6 (fun H locs hG => ?_)
  obtain ⟨M1, e_M1⟩ : ∃ Y_ : gM, Y_ = gw_up M a (.inr (5, [.int (-1), .int 0, .int 0, .int 0])) := ⟨_, rfl⟩
  replace hG := gw_nm e_M1 hG
  have hM1_a := (congrFun e_M1 a).trans gw_hit
  refine lv_aload_n hx hb d_Bin_init_9 rfl (lv_at hl 0 rfl) ?_
  refine lv_iconst (v := 0) hx hb d_Bin_init_10 (by decide) ?_
  refine gw_put (v := .int 0) hx hb hT i_Bin t_Bin t_Bin_ok n_Bin hown hK hG hM1_a rfl 1 (by decide) (hT _ wm_158) (fun _ h => h) rfl rfl rfl (Nat.le_of_ble_eq_true rfl) d_Bin_init_11 (fun H locs hG => ?_)
  obtain ⟨M2, e_M2⟩ : ∃ Y_ : gM, Y_ = gw_up M1 a (.inr (5, [.int (-1), .int 0, .int 0, .int 0])) := ⟨_, rfl⟩
  replace hG := gw_nm e_M2 hG
  have hM2_a := (congrFun e_M2 a).trans gw_hit
  refine lv_aload_n hx hb d_Bin_init_14 rfl (lv_at hl 0 rfl) ?_
  refine lv_iconst (v := 0) hx hb d_Bin_init_15 (by decide) ?_
  refine gw_put (v := .int 0) hx hb hT i_Bin t_Bin t_Bin_ok n_Bin hown hK hG hM2_a rfl 2 (by decide) (hT _ wm_160) (fun _ h => h) rfl rfl rfl (Nat.le_of_ble_eq_true rfl) d_Bin_init_16 (fun H locs hG => ?_)
  obtain ⟨M3, e_M3⟩ : ∃ Y_ : gM, Y_ = gw_up M2 a (.inr (5, [.int (-1), .int 0, .int 0, .int 0])) := ⟨_, rfl⟩
  replace hG := gw_nm e_M3 hG
  have hM3_a := (congrFun e_M3 a).trans gw_hit
  refine lv_aload_n hx hb d_Bin_init_19 rfl (lv_at hl 0 rfl) ?_
  refine lv_iconst (v := 0) hx hb d_Bin_init_20 (by decide) ?_
  refine gw_put (v := .int 0) hx hb hT i_Bin t_Bin t_Bin_ok n_Bin hown hK hG hM3_a rfl 3 (by decide) (hT _ wm_162) (fun _ h => h) rfl rfl rfl (Nat.le_of_ble_eq_true rfl) d_Bin_init_21 (fun H locs hG => ?_)
  obtain ⟨M4, e_M4⟩ : ∃ Y_ : gM, Y_ = gw_up M3 a (.inr (5, [.int (-1), .int 0, .int 0, .int 0])) := ⟨_, rfl⟩
  replace hG := gw_nm e_M4 hG
  have hM4_a := (congrFun e_M4 a).trans gw_hit
  exact gw_vret hx hb hr hlk hG (by rw [e_M4, e_M3, e_M2, e_M1, gw_twice, gw_twice, gw_twice]) (Nat.le_of_ble_eq_true rfl) (Nat.le_of_ble_eq_true rfl) d_Bin_init_24
set_option maxHeartbeats 4000000 in
set_option maxRecDepth 100000 in
theorem c_Drum_init (l : Launch) (E : Nat) (D : va_G) (cI cO cZ : ClassId) (z0 : Nat) (M : gM) {a : Nat} (ha : M a = some (.inr (3, [.int 0, .int 0, .int 0, .int 0]))) : Met l y_Drum_init (Cond.code y_Drum_init b_Drum_init 1 none :: gT) ({ frames := 1, cells := 0, slots := 0, locals := 12 }) (gw_Pc E D cI cO cZ z0 M [.ref a]) (gw_Qv E D (fun M' => M' = gw_up M a (.inr (3, [.int 0, .int (-1), .int 0, .int (-1)])))) 0 0 (gw_A E) := by
  refine gw_ofW (cc := b_Drum_init) (maxL := 1) (ret := none) (by decide) rfl (Nat.le_of_ble_eq_true rfl) ?_
  intro p e s m args below meth c hx hb hr hml hts hown hlk hnm hF hG ls hl
  have hT : ∀ w ∈ gT, w.before args s = true := fun w h => hts w (List.mem_cons_of_mem _ h)
  have hK := hF.1
  have hl : lv_has ls 1 [(0, .ref a)] := hl
  refine lv_aload_n hx hb d_Drum_init_0 rfl (lv_at hl 0 rfl) ?_
  refine gw_objI hx hb hown (hml.trans hl.1.symm) (hT _ wm_100) (hT _ wm_55) (hT _ wm_56) (Nat.le_of_ble_eq_true rfl) (Nat.le_of_ble_eq_true rfl) d_Drum_init_1 ?_
  refine lv_aload_n hx hb d_Drum_init_4 rfl (lv_at hl 0 rfl) ?_
  refine lv_iconst (v := 0) hx hb d_Drum_init_5 (by decide) ?_
  refine gw_put (v := .int 0) hx hb hT i_Drum t_Drum t_Drum_ok n_Drum hown hK hG ha rfl 0 (by decide) (hT _ wm_101) (fun _ h => h) rfl rfl rfl (Nat.le_of_ble_eq_true rfl) d_Drum_init_6 (fun H locs hG => ?_)
  obtain ⟨M1, e_M1⟩ : ∃ Y_ : gM, Y_ = gw_up M a (.inr (3, [.int 0, .int 0, .int 0, .int 0])) := ⟨_, rfl⟩
  replace hG := gw_nm e_M1 hG
  have hM1_a := (congrFun e_M1 a).trans gw_hit
  refine lv_aload_n hx hb d_Drum_init_9 rfl (lv_at hl 0 rfl) ?_
  refine lv_iconst (v := (-1)) hx hb d_Drum_init_10 (by decide) ?_
  refine gw_put (v := .int (-1)) hx hb hT i_Drum t_Drum t_Drum_ok n_Drum hown hK hG hM1_a rfl 1 (by decide) (hT _ wm_102) (fun _ h => h) rfl rfl rfl (Nat.le_of_ble_eq_true rfl) d_Drum_init_11 (fun H locs hG => ?_)
  obtain ⟨M2, e_M2⟩ : ∃ Y_ : gM, Y_ = gw_up M1 a (.inr (3, [.int 0, .int (-1), .int 0, .int 0])) := ⟨_, rfl⟩
  replace hG := gw_nm e_M2 hG
  have hM2_a := (congrFun e_M2 a).trans gw_hit
  refine lv_aload_n hx hb d_Drum_init_14 rfl (lv_at hl 0 rfl) ?_
  refine lv_iconst (v := 0) hx hb d_Drum_init_15 (by decide) ?_
  refine gw_put (v := .int 0) hx hb hT i_Drum t_Drum t_Drum_ok n_Drum hown hK hG hM2_a rfl 2 (by decide) (hT _ wm_103) (fun _ h => h) rfl rfl rfl (Nat.le_of_ble_eq_true rfl) d_Drum_init_16 (fun H locs hG => ?_)
  obtain ⟨M3, e_M3⟩ : ∃ Y_ : gM, Y_ = gw_up M2 a (.inr (3, [.int 0, .int (-1), .int 0, .int 0])) := ⟨_, rfl⟩
  replace hG := gw_nm e_M3 hG
  have hM3_a := (congrFun e_M3 a).trans gw_hit
  refine lv_aload_n hx hb d_Drum_init_19 rfl (lv_at hl 0 rfl) ?_
  refine lv_iconst (v := (-1)) hx hb d_Drum_init_20 (by decide) ?_
  refine gw_put (v := .int (-1)) hx hb hT i_Drum t_Drum t_Drum_ok n_Drum hown hK hG hM3_a rfl 3 (by decide) (hT _ wm_105) (fun _ h => h) rfl rfl rfl (Nat.le_of_ble_eq_true rfl) d_Drum_init_21 (fun H locs hG => ?_)
  obtain ⟨M4, e_M4⟩ : ∃ Y_ : gM, Y_ = gw_up M3 a (.inr (3, [.int 0, .int (-1), .int 0, .int (-1)])) := ⟨_, rfl⟩
  replace hG := gw_nm e_M4 hG
  have hM4_a := (congrFun e_M4 a).trans gw_hit
  exact gw_vret hx hb hr hlk hG (by rw [e_M4, e_M3, e_M2, e_M1, gw_twice, gw_twice, gw_twice]) (Nat.le_of_ble_eq_true rfl) (Nat.le_of_ble_eq_true rfl) d_Drum_init_24
set_option maxHeartbeats 4000000 in
set_option maxRecDepth 100000 in
theorem c_Ledger_init (l : Launch) (E : Nat) (D : va_G) (cI cO cZ : ClassId) (z0 : Nat) (M : gM) {a : Nat} (ha : M a = some (.inr (4, [.int 0, .int 0, .int 0, .int 0, .int 0, .int 0, .int 0, .int 0, .int 0]))) : Met l y_Ledger_init (Cond.code y_Ledger_init b_Ledger_init 1 none :: gT) ({ frames := 1, cells := 0, slots := 0, locals := 12 }) (gw_Pc E D cI cO cZ z0 M [.ref a]) (gw_Qv E D (fun M' => M' = gw_up M a (.inr (4, [.int 0, .int 0, .int 0, .int 0, .int 0, .int 0, .int 0, .int 0, .int 0])))) 0 0 (gw_A E) := by
  refine gw_ofW (cc := b_Ledger_init) (maxL := 1) (ret := none) (by decide) rfl (Nat.le_of_ble_eq_true rfl) ?_
  intro p e s m args below meth c hx hb hr hml hts hown hlk hnm hF hG ls hl
  have hT : ∀ w ∈ gT, w.before args s = true := fun w h => hts w (List.mem_cons_of_mem _ h)
  have hK := hF.1
  have hl : lv_has ls 1 [(0, .ref a)] := hl
  refine lv_aload_n hx hb d_Ledger_init_0 rfl (lv_at hl 0 rfl) ?_
  refine gw_objI hx hb hown (hml.trans hl.1.symm) (hT _ wm_120) (hT _ wm_55) (hT _ wm_56) (Nat.le_of_ble_eq_true rfl) (Nat.le_of_ble_eq_true rfl) d_Ledger_init_1 ?_
  refine lv_aload_n hx hb d_Ledger_init_4 rfl (lv_at hl 0 rfl) ?_
  refine lv_iconst (v := 0) hx hb d_Ledger_init_5 (by decide) ?_
  refine gw_put (v := .int 0) hx hb hT i_Ledger t_Ledger t_Ledger_ok n_Ledger hown hK hG ha rfl 0 (by decide) (hT _ wm_121) (fun _ h => h) rfl rfl rfl (Nat.le_of_ble_eq_true rfl) d_Ledger_init_6 (fun H locs hG => ?_)
  obtain ⟨M1, e_M1⟩ : ∃ Y_ : gM, Y_ = gw_up M a (.inr (4, [.int 0, .int 0, .int 0, .int 0, .int 0, .int 0, .int 0, .int 0, .int 0])) := ⟨_, rfl⟩
  replace hG := gw_nm e_M1 hG
  have hM1_a := (congrFun e_M1 a).trans gw_hit
  refine lv_aload_n hx hb d_Ledger_init_9 rfl (lv_at hl 0 rfl) ?_
  refine lv_iconst (v := 0) hx hb d_Ledger_init_10 (by decide) ?_
  refine gw_put (v := .int 0) hx hb hT i_Ledger t_Ledger t_Ledger_ok n_Ledger hown hK hG hM1_a rfl 1 (by decide) (hT _ wm_122) (fun _ h => h) rfl rfl rfl (Nat.le_of_ble_eq_true rfl) d_Ledger_init_11 (fun H locs hG => ?_)
  obtain ⟨M2, e_M2⟩ : ∃ Y_ : gM, Y_ = gw_up M1 a (.inr (4, [.int 0, .int 0, .int 0, .int 0, .int 0, .int 0, .int 0, .int 0, .int 0])) := ⟨_, rfl⟩
  replace hG := gw_nm e_M2 hG
  have hM2_a := (congrFun e_M2 a).trans gw_hit
  refine lv_aload_n hx hb d_Ledger_init_14 rfl (lv_at hl 0 rfl) ?_
  refine lv_iconst (v := 0) hx hb d_Ledger_init_15 (by decide) ?_
  refine gw_put (v := .int 0) hx hb hT i_Ledger t_Ledger t_Ledger_ok n_Ledger hown hK hG hM2_a rfl 2 (by decide) (hT _ wm_123) (fun _ h => h) rfl rfl rfl (Nat.le_of_ble_eq_true rfl) d_Ledger_init_16 (fun H locs hG => ?_)
  obtain ⟨M3, e_M3⟩ : ∃ Y_ : gM, Y_ = gw_up M2 a (.inr (4, [.int 0, .int 0, .int 0, .int 0, .int 0, .int 0, .int 0, .int 0, .int 0])) := ⟨_, rfl⟩
  replace hG := gw_nm e_M3 hG
  have hM3_a := (congrFun e_M3 a).trans gw_hit
  refine lv_aload_n hx hb d_Ledger_init_19 rfl (lv_at hl 0 rfl) ?_
  refine lv_iconst (v := 0) hx hb d_Ledger_init_20 (by decide) ?_
  refine gw_put (v := .int 0) hx hb hT i_Ledger t_Ledger t_Ledger_ok n_Ledger hown hK hG hM3_a rfl 3 (by decide) (hT _ wm_124) (fun _ h => h) rfl rfl rfl (Nat.le_of_ble_eq_true rfl) d_Ledger_init_21 (fun H locs hG => ?_)
  obtain ⟨M4, e_M4⟩ : ∃ Y_ : gM, Y_ = gw_up M3 a (.inr (4, [.int 0, .int 0, .int 0, .int 0, .int 0, .int 0, .int 0, .int 0, .int 0])) := ⟨_, rfl⟩
  replace hG := gw_nm e_M4 hG
  have hM4_a := (congrFun e_M4 a).trans gw_hit
  refine lv_aload_n hx hb d_Ledger_init_24 rfl (lv_at hl 0 rfl) ?_
  refine lv_iconst (v := 0) hx hb d_Ledger_init_25 (by decide) ?_
  refine gw_put (v := .int 0) hx hb hT i_Ledger t_Ledger t_Ledger_ok n_Ledger hown hK hG hM4_a rfl 4 (by decide) (hT _ wm_125) (fun _ h => h) rfl rfl rfl (Nat.le_of_ble_eq_true rfl) d_Ledger_init_26 (fun H locs hG => ?_)
  obtain ⟨M5, e_M5⟩ : ∃ Y_ : gM, Y_ = gw_up M4 a (.inr (4, [.int 0, .int 0, .int 0, .int 0, .int 0, .int 0, .int 0, .int 0, .int 0])) := ⟨_, rfl⟩
  replace hG := gw_nm e_M5 hG
  have hM5_a := (congrFun e_M5 a).trans gw_hit
  refine lv_aload_n hx hb d_Ledger_init_29 rfl (lv_at hl 0 rfl) ?_
  refine lv_iconst (v := 0) hx hb d_Ledger_init_30 (by decide) ?_
  refine gw_put (v := .int 0) hx hb hT i_Ledger t_Ledger t_Ledger_ok n_Ledger hown hK hG hM5_a rfl 5 (by decide) (hT _ wm_126) (fun _ h => h) rfl rfl rfl (Nat.le_of_ble_eq_true rfl) d_Ledger_init_31 (fun H locs hG => ?_)
  obtain ⟨M6, e_M6⟩ : ∃ Y_ : gM, Y_ = gw_up M5 a (.inr (4, [.int 0, .int 0, .int 0, .int 0, .int 0, .int 0, .int 0, .int 0, .int 0])) := ⟨_, rfl⟩
  replace hG := gw_nm e_M6 hG
  have hM6_a := (congrFun e_M6 a).trans gw_hit
  refine lv_aload_n hx hb d_Ledger_init_34 rfl (lv_at hl 0 rfl) ?_
  refine lv_iconst (v := 0) hx hb d_Ledger_init_35 (by decide) ?_
  refine gw_put (v := .int 0) hx hb hT i_Ledger t_Ledger t_Ledger_ok n_Ledger hown hK hG hM6_a rfl 6 (by decide) (hT _ wm_127) (fun _ h => h) rfl rfl rfl (Nat.le_of_ble_eq_true rfl) d_Ledger_init_36 (fun H locs hG => ?_)
  obtain ⟨M7, e_M7⟩ : ∃ Y_ : gM, Y_ = gw_up M6 a (.inr (4, [.int 0, .int 0, .int 0, .int 0, .int 0, .int 0, .int 0, .int 0, .int 0])) := ⟨_, rfl⟩
  replace hG := gw_nm e_M7 hG
  have hM7_a := (congrFun e_M7 a).trans gw_hit
  refine lv_aload_n hx hb d_Ledger_init_39 rfl (lv_at hl 0 rfl) ?_
  refine lv_iconst (v := 0) hx hb d_Ledger_init_40 (by decide) ?_
  refine gw_put (v := .int 0) hx hb hT i_Ledger t_Ledger t_Ledger_ok n_Ledger hown hK hG hM7_a rfl 7 (by decide) (hT _ wm_129) (fun _ h => h) rfl rfl rfl (Nat.le_of_ble_eq_true rfl) d_Ledger_init_41 (fun H locs hG => ?_)
  obtain ⟨M8, e_M8⟩ : ∃ Y_ : gM, Y_ = gw_up M7 a (.inr (4, [.int 0, .int 0, .int 0, .int 0, .int 0, .int 0, .int 0, .int 0, .int 0])) := ⟨_, rfl⟩
  replace hG := gw_nm e_M8 hG
  have hM8_a := (congrFun e_M8 a).trans gw_hit
  refine lv_aload_n hx hb d_Ledger_init_44 rfl (lv_at hl 0 rfl) ?_
  refine lv_iconst (v := 0) hx hb d_Ledger_init_45 (by decide) ?_
  refine gw_put (v := .int 0) hx hb hT i_Ledger t_Ledger t_Ledger_ok n_Ledger hown hK hG hM8_a rfl 8 (by decide) (hT _ wm_130) (fun _ h => h) rfl rfl rfl (Nat.le_of_ble_eq_true rfl) d_Ledger_init_46 (fun H locs hG => ?_)
  obtain ⟨M9, e_M9⟩ : ∃ Y_ : gM, Y_ = gw_up M8 a (.inr (4, [.int 0, .int 0, .int 0, .int 0, .int 0, .int 0, .int 0, .int 0, .int 0])) := ⟨_, rfl⟩
  replace hG := gw_nm e_M9 hG
  have hM9_a := (congrFun e_M9 a).trans gw_hit
  exact gw_vret hx hb hr hlk hG (by rw [e_M9, e_M8, e_M7, e_M6, e_M5, e_M4, e_M3, e_M2, e_M1, gw_twice, gw_twice, gw_twice, gw_twice, gw_twice, gw_twice, gw_twice, gw_twice]) (Nat.le_of_ble_eq_true rfl) (Nat.le_of_ble_eq_true rfl) d_Ledger_init_49
set_option maxHeartbeats 4000000 in
set_option maxRecDepth 100000 in
theorem c_Row_init (l : Launch) (E : Nat) (D : va_G) (cI cO cZ : ClassId) (z0 : Nat) (M : gM) {o : Nat} (ho : M o = some (.inr (0, [.null, .null, .null, .null, .null, .null, .null, .null, .int 0, .int 0, .int 0, .int 0, .int 0, .int 0]))) : Met l y_Row_init (Cond.code y_Row_init b_Row_init 2 none :: gT) ({ frames := 5, cells := 21, slots := 118, locals := 101 }) (gw_Pc E D cI cO cZ z0 M [.ref o]) (gw_Qv E D (fun M' => ∃ (Z ad bn : Nat → Nat), gw_fa z0 cO M' o 0 0 (0, fun p => p, fun _ => (0, 0, 0, 0, 0, 0)) Z ad bn)) 21 118 (gw_A E) := by
  refine gw_ofW (cc := b_Row_init) (maxL := 2) (ret := none) (by decide) rfl (Nat.le_of_ble_eq_true rfl) ?_
  intro p e s m args below meth c hx hb hr hml hts hown hlk hnm hF hG ls hl
  have hT : ∀ w ∈ gT, w.before args s = true := fun w h => hts w (List.mem_cons_of_mem _ h)
  have hK := hF.1
  have hl : lv_has ls 2 [(0, .ref o)] := hl
  refine lv_aload_n hx hb d_Row_init_0 rfl (lv_at hl 0 rfl) ?_
  refine gw_objI hx hb hown (hml.trans hl.1.symm) (hT _ wm_54) (hT _ wm_55) (hT _ wm_56) (Nat.le_of_ble_eq_true rfl) (Nat.le_of_ble_eq_true rfl) d_Row_init_1 ?_
  refine lv_aload_n hx hb d_Row_init_4 rfl (lv_at hl 0 rfl) ?_
  refine gw_new (fs := [.int 0, .null, .int 0]) (C := R_List) (T := F_List) (N := 3) (ci := 1) hx hb hT i_List t_List t_List_ok hown (hT _ wm_57) (hT _ wm_58) (hT _ wm_26) hK hF.2.1 hG rfl (fun j hj => by rcases (show j = 0 ∨ j = 1 ∨ j = 2 by omega) with rfl | rfl | rfl <;> rfl) (Nat.le_of_ble_eq_true rfl) (Nat.le_of_ble_eq_true rfl) d_Row_init_5 (fun qh H hq_qh hG => ?_)
  have ne_o_qh : o ≠ qh := gw_neF hq_qh ho
  obtain ⟨M1, e_M1⟩ : ∃ Y_ : gM, Y_ = gw_up M qh (.inr (1, [.int 0, .null, .int 0])) := ⟨_, rfl⟩
  replace hG := gw_nm e_M1 hG
  have hM1_o := (congrFun e_M1 o).trans ((gw_miss ne_o_qh).trans ho)
  have hM1_qh := (congrFun e_M1 qh).trans gw_hit
  refine lv_dup hx hb d_Row_init_8 rfl ?_
  refine gw_callv (gw_runI (As := []) (rest := [.ref qh, .ref o]) ⟨hx, hb, hml, hown, hts⟩ (c_AL_init l E D cI cO cZ z0 M1 hM1_qh) (cwI 0 hts (gT_gi wm_61) rfl rfl rfl (hT _ wm_26) (hT _ wm_59) (hT _ wm_60) rfl (by decide +kernel) ⟨Nat.le_of_ble_eq_true rfl, Nat.le_of_ble_eq_true rfl⟩) hF hG rfl hl.1 rfl (Nat.le_of_ble_eq_true rfl) d_Row_init_9 ⟨Nat.le_of_ble_eq_true rfl, Nat.le_of_ble_eq_true rfl⟩) hG (fun M2 H locs hp hG => ?_)
  have hM2_o := (congrFun hp o).trans ((gw_miss ne_o_qh).trans hM1_o)
  have hM2_qh := (congrFun hp qh).trans gw_hit
  have e_M2 := hp
  refine gw_putF (v := .ref qh) hx hb hT i_Row t_Row t_Row_ok n_Row hown hK hG hM2_o rfl 0 (by decide) (hT _ wm_236) (fun _ h => h) rfl hnm rfl rfl rfl (Nat.le_of_ble_eq_true rfl) d_Row_init_12 (fun H locs hG => ?_)
  obtain ⟨M3, e_M3⟩ : ∃ Y_ : gM, Y_ = gw_up M2 o (.inr (0, [.ref qh, .null, .null, .null, .null, .null, .null, .null, .int 0, .int 0, .int 0, .int 0, .int 0, .int 0])) := ⟨_, rfl⟩
  replace hG := gw_nm e_M3 hG
  have hM3_qh := (congrFun e_M3 qh).trans ((gw_miss ne_o_qh.symm).trans hM2_qh)
  have hM3_o := (congrFun e_M3 o).trans gw_hit
  refine lv_aload_n hx hb d_Row_init_15 rfl (lv_at hl 0 rfl) ?_
  refine gw_new (fs := [.int 0, .null, .int 0]) (C := R_List) (T := F_List) (N := 3) (ci := 1) hx hb hT i_List t_List t_List_ok hown (hT _ wm_57) (hT _ wm_58) (hT _ wm_26) hK hF.2.1 hG rfl (fun j hj => by rcases (show j = 0 ∨ j = 1 ∨ j = 2 by omega) with rfl | rfl | rfl <;> rfl) (Nat.le_of_ble_eq_true rfl) (Nat.le_of_ble_eq_true rfl) d_Row_init_16 (fun ql H hq_ql hG => ?_)
  have ne_qh_ql : qh ≠ ql := gw_neF hq_ql hM3_qh
  have ne_o_ql : o ≠ ql := gw_neF hq_ql hM3_o
  obtain ⟨M4, e_M4⟩ : ∃ Y_ : gM, Y_ = gw_up M3 ql (.inr (1, [.int 0, .null, .int 0])) := ⟨_, rfl⟩
  replace hG := gw_nm e_M4 hG
  have hM4_qh := (congrFun e_M4 qh).trans ((gw_miss ne_qh_ql).trans hM3_qh)
  have hM4_o := (congrFun e_M4 o).trans ((gw_miss ne_o_ql).trans hM3_o)
  have hM4_ql := (congrFun e_M4 ql).trans gw_hit
  refine lv_dup hx hb d_Row_init_19 rfl ?_
  refine gw_callv (gw_runI (As := []) (rest := [.ref ql, .ref o]) ⟨hx, hb, hml, hown, hts⟩ (c_AL_init l E D cI cO cZ z0 M4 hM4_ql) (cwI 0 hts (gT_gi wm_61) rfl rfl rfl (hT _ wm_26) (hT _ wm_59) (hT _ wm_60) rfl (by decide +kernel) ⟨Nat.le_of_ble_eq_true rfl, Nat.le_of_ble_eq_true rfl⟩) hF hG rfl hl.1 rfl (Nat.le_of_ble_eq_true rfl) d_Row_init_20 ⟨Nat.le_of_ble_eq_true rfl, Nat.le_of_ble_eq_true rfl⟩) hG (fun M5 H locs hp hG => ?_)
  have hM5_qh := (congrFun hp qh).trans ((gw_miss ne_qh_ql).trans hM4_qh)
  have hM5_o := (congrFun hp o).trans ((gw_miss ne_o_ql).trans hM4_o)
  have hM5_ql := (congrFun hp ql).trans gw_hit
  have e_M5 := hp
  refine gw_putF (v := .ref ql) hx hb hT i_Row t_Row t_Row_ok n_Row hown hK hG hM5_o rfl 1 (by decide) (hT _ wm_237) (fun _ h => h) rfl hnm rfl rfl rfl (Nat.le_of_ble_eq_true rfl) d_Row_init_23 (fun H locs hG => ?_)
  obtain ⟨M6, e_M6⟩ : ∃ Y_ : gM, Y_ = gw_up M5 o (.inr (0, [.ref qh, .ref ql, .null, .null, .null, .null, .null, .null, .int 0, .int 0, .int 0, .int 0, .int 0, .int 0])) := ⟨_, rfl⟩
  replace hG := gw_nm e_M6 hG
  have hM6_qh := (congrFun e_M6 qh).trans ((gw_miss ne_o_qh.symm).trans hM5_qh)
  have hM6_ql := (congrFun e_M6 ql).trans ((gw_miss ne_o_ql.symm).trans hM5_ql)
  have hM6_o := (congrFun e_M6 o).trans gw_hit
  refine lv_aload_n hx hb d_Row_init_26 rfl (lv_at hl 0 rfl) ?_
  refine gw_new (fs := [.int 0, .null, .int 0]) (C := R_List) (T := F_List) (N := 3) (ci := 1) hx hb hT i_List t_List t_List_ok hown (hT _ wm_57) (hT _ wm_58) (hT _ wm_26) hK hF.2.1 hG rfl (fun j hj => by rcases (show j = 0 ∨ j = 1 ∨ j = 2 by omega) with rfl | rfl | rfl <;> rfl) (Nat.le_of_ble_eq_true rfl) (Nat.le_of_ble_eq_true rfl) d_Row_init_27 (fun qb H hq_qb hG => ?_)
  have ne_qh_qb : qh ≠ qb := gw_neF hq_qb hM6_qh
  have ne_ql_qb : ql ≠ qb := gw_neF hq_qb hM6_ql
  have ne_o_qb : o ≠ qb := gw_neF hq_qb hM6_o
  obtain ⟨M7, e_M7⟩ : ∃ Y_ : gM, Y_ = gw_up M6 qb (.inr (1, [.int 0, .null, .int 0])) := ⟨_, rfl⟩
  replace hG := gw_nm e_M7 hG
  have hM7_qh := (congrFun e_M7 qh).trans ((gw_miss ne_qh_qb).trans hM6_qh)
  have hM7_ql := (congrFun e_M7 ql).trans ((gw_miss ne_ql_qb).trans hM6_ql)
  have hM7_o := (congrFun e_M7 o).trans ((gw_miss ne_o_qb).trans hM6_o)
  have hM7_qb := (congrFun e_M7 qb).trans gw_hit
  refine lv_dup hx hb d_Row_init_30 rfl ?_
  refine gw_callv (gw_runI (As := []) (rest := [.ref qb, .ref o]) ⟨hx, hb, hml, hown, hts⟩ (c_AL_init l E D cI cO cZ z0 M7 hM7_qb) (cwI 0 hts (gT_gi wm_61) rfl rfl rfl (hT _ wm_26) (hT _ wm_59) (hT _ wm_60) rfl (by decide +kernel) ⟨Nat.le_of_ble_eq_true rfl, Nat.le_of_ble_eq_true rfl⟩) hF hG rfl hl.1 rfl (Nat.le_of_ble_eq_true rfl) d_Row_init_31 ⟨Nat.le_of_ble_eq_true rfl, Nat.le_of_ble_eq_true rfl⟩) hG (fun M8 H locs hp hG => ?_)
  have hM8_qh := (congrFun hp qh).trans ((gw_miss ne_qh_qb).trans hM7_qh)
  have hM8_ql := (congrFun hp ql).trans ((gw_miss ne_ql_qb).trans hM7_ql)
  have hM8_o := (congrFun hp o).trans ((gw_miss ne_o_qb).trans hM7_o)
  have hM8_qb := (congrFun hp qb).trans gw_hit
  have e_M8 := hp
  refine gw_putF (v := .ref qb) hx hb hT i_Row t_Row t_Row_ok n_Row hown hK hG hM8_o rfl 2 (by decide) (hT _ wm_238) (fun _ h => h) rfl hnm rfl rfl rfl (Nat.le_of_ble_eq_true rfl) d_Row_init_34 (fun H locs hG => ?_)
  obtain ⟨M9, e_M9⟩ : ∃ Y_ : gM, Y_ = gw_up M8 o (.inr (0, [.ref qh, .ref ql, .ref qb, .null, .null, .null, .null, .null, .int 0, .int 0, .int 0, .int 0, .int 0, .int 0])) := ⟨_, rfl⟩
  replace hG := gw_nm e_M9 hG
  have hM9_qh := (congrFun e_M9 qh).trans ((gw_miss ne_o_qh.symm).trans hM8_qh)
  have hM9_ql := (congrFun e_M9 ql).trans ((gw_miss ne_o_ql.symm).trans hM8_ql)
  have hM9_qb := (congrFun e_M9 qb).trans ((gw_miss ne_o_qb.symm).trans hM8_qb)
  have hM9_o := (congrFun e_M9 o).trans gw_hit
  refine lv_aload_n hx hb d_Row_init_37 rfl (lv_at hl 0 rfl) ?_
  refine gw_new (fs := [.null]) (C := R_Gang) (T := F_Gang) (N := 1) (ci := 2) hx hb hT i_Gang t_Gang t_Gang_ok hown (hT _ wm_83) (hT _ wm_84) (hT _ wm_27) hK hF.2.1 hG rfl (fun j hj => by rcases (show j = 0 by omega) with rfl <;> rfl) (Nat.le_of_ble_eq_true rfl) (Nat.le_of_ble_eq_true rfl) d_Row_init_38 (fun gg H hq_gg hG => ?_)
  have ne_qh_gg : qh ≠ gg := gw_neF hq_gg hM9_qh
  have ne_ql_gg : ql ≠ gg := gw_neF hq_gg hM9_ql
  have ne_qb_gg : qb ≠ gg := gw_neF hq_gg hM9_qb
  have ne_o_gg : o ≠ gg := gw_neF hq_gg hM9_o
  obtain ⟨M10, e_M10⟩ : ∃ Y_ : gM, Y_ = gw_up M9 gg (.inr (2, [.null])) := ⟨_, rfl⟩
  replace hG := gw_nm e_M10 hG
  have hM10_qh := (congrFun e_M10 qh).trans ((gw_miss ne_qh_gg).trans hM9_qh)
  have hM10_ql := (congrFun e_M10 ql).trans ((gw_miss ne_ql_gg).trans hM9_ql)
  have hM10_qb := (congrFun e_M10 qb).trans ((gw_miss ne_qb_gg).trans hM9_qb)
  have hM10_o := (congrFun e_M10 o).trans ((gw_miss ne_o_gg).trans hM9_o)
  have hM10_gg := (congrFun e_M10 gg).trans gw_hit
  refine lv_dup hx hb d_Row_init_41 rfl ?_
  refine gw_callv (gw_runIN (As := []) (rest := [.ref gg, .ref o]) ⟨hx, hb, hml, hown, hts⟩ (c_Gang_init l E D cI cO cZ z0 M10 hM10_gg) ⟨va_cnB 0 hts (gT_gi wm_87) rfl rfl rfl (gW_m hF.2.2.2.2.2.2 wq_85 rfl) (hT _ wm_27) (by decide +kernel) ⟨Nat.le_of_ble_eq_true rfl, Nat.le_of_ble_eq_true rfl⟩, rfl, (hT _ wm_86)⟩ hF hG rfl hl.1 rfl (Nat.le_of_ble_eq_true rfl) d_Row_init_42 ⟨Nat.le_of_ble_eq_true rfl, Nat.le_of_ble_eq_true rfl⟩) hG (fun M11 H locs hp hG => ?_)
  obtain ⟨qg, hq_qg, e0_M11⟩ := hp
  have ne_qh_qg : qh ≠ qg := gw_neF hq_qg hM10_qh
  have ne_ql_qg : ql ≠ qg := gw_neF hq_qg hM10_ql
  have ne_qb_qg : qb ≠ qg := gw_neF hq_qg hM10_qb
  have ne_o_qg : o ≠ qg := gw_neF hq_qg hM10_o
  have ne_gg_qg : gg ≠ qg := gw_neF hq_qg hM10_gg
  obtain ⟨M12, e_M12⟩ : ∃ Y_ : gM, Y_ = gw_up M10 qg (.inr (1, [.int 0, .ref z0, .int 0])) := ⟨_, rfl⟩
  rw [← e_M12] at e0_M11
  have hM12_qh := (congrFun e_M12 qh).trans ((gw_miss ne_qh_qg).trans hM10_qh)
  have hM12_ql := (congrFun e_M12 ql).trans ((gw_miss ne_ql_qg).trans hM10_ql)
  have hM12_qb := (congrFun e_M12 qb).trans ((gw_miss ne_qb_qg).trans hM10_qb)
  have hM12_o := (congrFun e_M12 o).trans ((gw_miss ne_o_qg).trans hM10_o)
  have hM12_gg := (congrFun e_M12 gg).trans ((gw_miss ne_gg_qg).trans hM10_gg)
  have hM12_qg := (congrFun e_M12 qg).trans gw_hit
  have hM11_qh := (congrFun e0_M11 qh).trans ((gw_miss ne_qh_gg).trans hM12_qh)
  have hM11_ql := (congrFun e0_M11 ql).trans ((gw_miss ne_ql_gg).trans hM12_ql)
  have hM11_qb := (congrFun e0_M11 qb).trans ((gw_miss ne_qb_gg).trans hM12_qb)
  have hM11_o := (congrFun e0_M11 o).trans ((gw_miss ne_o_gg).trans hM12_o)
  have hM11_qg := (congrFun e0_M11 qg).trans ((gw_miss ne_gg_qg.symm).trans hM12_qg)
  have hM11_gg := (congrFun e0_M11 gg).trans gw_hit
  refine gw_putF (v := .ref gg) hx hb hT i_Row t_Row t_Row_ok n_Row hown hK hG hM11_o rfl 3 (by decide) (hT _ wm_239) (fun _ h => h) rfl hnm rfl rfl rfl (Nat.le_of_ble_eq_true rfl) d_Row_init_45 (fun H locs hG => ?_)
  obtain ⟨M13, e_M13⟩ : ∃ Y_ : gM, Y_ = gw_up M11 o (.inr (0, [.ref qh, .ref ql, .ref qb, .ref gg, .null, .null, .null, .null, .int 0, .int 0, .int 0, .int 0, .int 0, .int 0])) := ⟨_, rfl⟩
  replace hG := gw_nm e_M13 hG
  have hM13_qh := (congrFun e_M13 qh).trans ((gw_miss ne_o_qh.symm).trans hM11_qh)
  have hM13_ql := (congrFun e_M13 ql).trans ((gw_miss ne_o_ql.symm).trans hM11_ql)
  have hM13_qb := (congrFun e_M13 qb).trans ((gw_miss ne_o_qb.symm).trans hM11_qb)
  have hM13_qg := (congrFun e_M13 qg).trans ((gw_miss ne_o_qg.symm).trans hM11_qg)
  have hM13_gg := (congrFun e_M13 gg).trans ((gw_miss ne_o_gg.symm).trans hM11_gg)
  have hM13_o := (congrFun e_M13 o).trans gw_hit
  refine lv_aload_n hx hb d_Row_init_48 rfl (lv_at hl 0 rfl) ?_
  refine gw_new (fs := [.int 0, .int 0, .int 0, .int 0]) (C := R_Drum) (T := F_Drum) (N := 4) (ci := 3) hx hb hT i_Drum t_Drum t_Drum_ok hown (hT _ wm_95) (hT _ wm_96) (hT _ wm_28) hK hF.2.1 hG rfl (fun j hj => by rcases (show j = 0 ∨ j = 1 ∨ j = 2 ∨ j = 3 by omega) with rfl | rfl | rfl | rfl <;> rfl) (Nat.le_of_ble_eq_true rfl) (Nat.le_of_ble_eq_true rfl) d_Row_init_49 (fun dr H hq_dr hG => ?_)
  have ne_qh_dr : qh ≠ dr := gw_neF hq_dr hM13_qh
  have ne_ql_dr : ql ≠ dr := gw_neF hq_dr hM13_ql
  have ne_qb_dr : qb ≠ dr := gw_neF hq_dr hM13_qb
  have ne_qg_dr : qg ≠ dr := gw_neF hq_dr hM13_qg
  have ne_gg_dr : gg ≠ dr := gw_neF hq_dr hM13_gg
  have ne_o_dr : o ≠ dr := gw_neF hq_dr hM13_o
  obtain ⟨M14, e_M14⟩ : ∃ Y_ : gM, Y_ = gw_up M13 dr (.inr (3, [.int 0, .int 0, .int 0, .int 0])) := ⟨_, rfl⟩
  replace hG := gw_nm e_M14 hG
  have hM14_qh := (congrFun e_M14 qh).trans ((gw_miss ne_qh_dr).trans hM13_qh)
  have hM14_ql := (congrFun e_M14 ql).trans ((gw_miss ne_ql_dr).trans hM13_ql)
  have hM14_qb := (congrFun e_M14 qb).trans ((gw_miss ne_qb_dr).trans hM13_qb)
  have hM14_qg := (congrFun e_M14 qg).trans ((gw_miss ne_qg_dr).trans hM13_qg)
  have hM14_gg := (congrFun e_M14 gg).trans ((gw_miss ne_gg_dr).trans hM13_gg)
  have hM14_o := (congrFun e_M14 o).trans ((gw_miss ne_o_dr).trans hM13_o)
  have hM14_dr := (congrFun e_M14 dr).trans gw_hit
  refine lv_dup hx hb d_Row_init_52 rfl ?_
  refine gw_callv (gw_runIN (As := []) (rest := [.ref dr, .ref o]) ⟨hx, hb, hml, hown, hts⟩ (c_Drum_init l E D cI cO cZ z0 M14 hM14_dr) ⟨va_cnB 0 hts (gT_gi wm_99) rfl rfl rfl (gW_m hF.2.2.2.2.2.2 wq_97 rfl) (hT _ wm_28) (by decide +kernel) ⟨Nat.le_of_ble_eq_true rfl, Nat.le_of_ble_eq_true rfl⟩, rfl, (hT _ wm_98)⟩ hF hG rfl hl.1 rfl (Nat.le_of_ble_eq_true rfl) d_Row_init_53 ⟨Nat.le_of_ble_eq_true rfl, Nat.le_of_ble_eq_true rfl⟩) hG (fun M15 H locs hp hG => ?_)
  have hM15_qh := (congrFun hp qh).trans ((gw_miss ne_qh_dr).trans hM14_qh)
  have hM15_ql := (congrFun hp ql).trans ((gw_miss ne_ql_dr).trans hM14_ql)
  have hM15_qb := (congrFun hp qb).trans ((gw_miss ne_qb_dr).trans hM14_qb)
  have hM15_qg := (congrFun hp qg).trans ((gw_miss ne_qg_dr).trans hM14_qg)
  have hM15_gg := (congrFun hp gg).trans ((gw_miss ne_gg_dr).trans hM14_gg)
  have hM15_o := (congrFun hp o).trans ((gw_miss ne_o_dr).trans hM14_o)
  have hM15_dr := (congrFun hp dr).trans gw_hit
  have e_M15 := hp
  refine gw_putF (v := .ref dr) hx hb hT i_Row t_Row t_Row_ok n_Row hown hK hG hM15_o rfl 4 (by decide) (hT _ wm_240) (fun _ h => h) rfl hnm rfl rfl rfl (Nat.le_of_ble_eq_true rfl) d_Row_init_56 (fun H locs hG => ?_)
  obtain ⟨M16, e_M16⟩ : ∃ Y_ : gM, Y_ = gw_up M15 o (.inr (0, [.ref qh, .ref ql, .ref qb, .ref gg, .ref dr, .null, .null, .null, .int 0, .int 0, .int 0, .int 0, .int 0, .int 0])) := ⟨_, rfl⟩
  replace hG := gw_nm e_M16 hG
  have hM16_qh := (congrFun e_M16 qh).trans ((gw_miss ne_o_qh.symm).trans hM15_qh)
  have hM16_ql := (congrFun e_M16 ql).trans ((gw_miss ne_o_ql.symm).trans hM15_ql)
  have hM16_qb := (congrFun e_M16 qb).trans ((gw_miss ne_o_qb.symm).trans hM15_qb)
  have hM16_qg := (congrFun e_M16 qg).trans ((gw_miss ne_o_qg.symm).trans hM15_qg)
  have hM16_gg := (congrFun e_M16 gg).trans ((gw_miss ne_o_gg.symm).trans hM15_gg)
  have hM16_dr := (congrFun e_M16 dr).trans ((gw_miss ne_o_dr.symm).trans hM15_dr)
  have hM16_o := (congrFun e_M16 o).trans gw_hit
  refine lv_aload_n hx hb d_Row_init_59 rfl (lv_at hl 0 rfl) ?_
  refine gw_new (fs := [.int 0, .int 0, .int 0, .int 0, .int 0, .int 0, .int 0, .int 0, .int 0]) (C := R_Ledger) (T := F_Ledger) (N := 9) (ci := 4) hx hb hT i_Ledger t_Ledger t_Ledger_ok hown (hT _ wm_115) (hT _ wm_116) (hT _ wm_29) hK hF.2.1 hG rfl (fun j hj => by rcases (show j = 0 ∨ j = 1 ∨ j = 2 ∨ j = 3 ∨ j = 4 ∨ j = 5 ∨ j = 6 ∨ j = 7 ∨ j = 8 by omega) with rfl | rfl | rfl | rfl | rfl | rfl | rfl | rfl | rfl <;> rfl) (Nat.le_of_ble_eq_true rfl) (Nat.le_of_ble_eq_true rfl) d_Row_init_60 (fun lg H hq_lg hG => ?_)
  have ne_qh_lg : qh ≠ lg := gw_neF hq_lg hM16_qh
  have ne_ql_lg : ql ≠ lg := gw_neF hq_lg hM16_ql
  have ne_qb_lg : qb ≠ lg := gw_neF hq_lg hM16_qb
  have ne_qg_lg : qg ≠ lg := gw_neF hq_lg hM16_qg
  have ne_gg_lg : gg ≠ lg := gw_neF hq_lg hM16_gg
  have ne_dr_lg : dr ≠ lg := gw_neF hq_lg hM16_dr
  have ne_o_lg : o ≠ lg := gw_neF hq_lg hM16_o
  obtain ⟨M17, e_M17⟩ : ∃ Y_ : gM, Y_ = gw_up M16 lg (.inr (4, [.int 0, .int 0, .int 0, .int 0, .int 0, .int 0, .int 0, .int 0, .int 0])) := ⟨_, rfl⟩
  replace hG := gw_nm e_M17 hG
  have hM17_qh := (congrFun e_M17 qh).trans ((gw_miss ne_qh_lg).trans hM16_qh)
  have hM17_ql := (congrFun e_M17 ql).trans ((gw_miss ne_ql_lg).trans hM16_ql)
  have hM17_qb := (congrFun e_M17 qb).trans ((gw_miss ne_qb_lg).trans hM16_qb)
  have hM17_qg := (congrFun e_M17 qg).trans ((gw_miss ne_qg_lg).trans hM16_qg)
  have hM17_gg := (congrFun e_M17 gg).trans ((gw_miss ne_gg_lg).trans hM16_gg)
  have hM17_dr := (congrFun e_M17 dr).trans ((gw_miss ne_dr_lg).trans hM16_dr)
  have hM17_o := (congrFun e_M17 o).trans ((gw_miss ne_o_lg).trans hM16_o)
  have hM17_lg := (congrFun e_M17 lg).trans gw_hit
  refine lv_dup hx hb d_Row_init_63 rfl ?_
  refine gw_callv (gw_runIN (As := []) (rest := [.ref lg, .ref o]) ⟨hx, hb, hml, hown, hts⟩ (c_Ledger_init l E D cI cO cZ z0 M17 hM17_lg) ⟨va_cnB 0 hts (gT_gi wm_119) rfl rfl rfl (gW_m hF.2.2.2.2.2.2 wq_117 rfl) (hT _ wm_29) (by decide +kernel) ⟨Nat.le_of_ble_eq_true rfl, Nat.le_of_ble_eq_true rfl⟩, rfl, (hT _ wm_118)⟩ hF hG rfl hl.1 rfl (Nat.le_of_ble_eq_true rfl) d_Row_init_64 ⟨Nat.le_of_ble_eq_true rfl, Nat.le_of_ble_eq_true rfl⟩) hG (fun M18 H locs hp hG => ?_)
  have hM18_qh := (congrFun hp qh).trans ((gw_miss ne_qh_lg).trans hM17_qh)
  have hM18_ql := (congrFun hp ql).trans ((gw_miss ne_ql_lg).trans hM17_ql)
  have hM18_qb := (congrFun hp qb).trans ((gw_miss ne_qb_lg).trans hM17_qb)
  have hM18_qg := (congrFun hp qg).trans ((gw_miss ne_qg_lg).trans hM17_qg)
  have hM18_gg := (congrFun hp gg).trans ((gw_miss ne_gg_lg).trans hM17_gg)
  have hM18_dr := (congrFun hp dr).trans ((gw_miss ne_dr_lg).trans hM17_dr)
  have hM18_o := (congrFun hp o).trans ((gw_miss ne_o_lg).trans hM17_o)
  have hM18_lg := (congrFun hp lg).trans gw_hit
  have e_M18 := hp
  refine gw_putF (v := .ref lg) hx hb hT i_Row t_Row t_Row_ok n_Row hown hK hG hM18_o rfl 5 (by decide) (hT _ wm_241) (fun _ h => h) rfl hnm rfl rfl rfl (Nat.le_of_ble_eq_true rfl) d_Row_init_67 (fun H locs hG => ?_)
  obtain ⟨M19, e_M19⟩ : ∃ Y_ : gM, Y_ = gw_up M18 o (.inr (0, [.ref qh, .ref ql, .ref qb, .ref gg, .ref dr, .ref lg, .null, .null, .int 0, .int 0, .int 0, .int 0, .int 0, .int 0])) := ⟨_, rfl⟩
  replace hG := gw_nm e_M19 hG
  have hM19_qh := (congrFun e_M19 qh).trans ((gw_miss ne_o_qh.symm).trans hM18_qh)
  have hM19_ql := (congrFun e_M19 ql).trans ((gw_miss ne_o_ql.symm).trans hM18_ql)
  have hM19_qb := (congrFun e_M19 qb).trans ((gw_miss ne_o_qb.symm).trans hM18_qb)
  have hM19_qg := (congrFun e_M19 qg).trans ((gw_miss ne_o_qg.symm).trans hM18_qg)
  have hM19_gg := (congrFun e_M19 gg).trans ((gw_miss ne_o_gg.symm).trans hM18_gg)
  have hM19_dr := (congrFun e_M19 dr).trans ((gw_miss ne_o_dr.symm).trans hM18_dr)
  have hM19_lg := (congrFun e_M19 lg).trans ((gw_miss ne_o_lg.symm).trans hM18_lg)
  have hM19_o := (congrFun e_M19 o).trans gw_hit
  refine lv_aload_n hx hb d_Row_init_70 rfl (lv_at hl 0 rfl) ?_
  refine lv_iconst (v := 4) hx hb d_Row_init_71 (by decide) ?_
  refine gw_newI (N := 4) hx hb (hT _ wm_173) hK hF.2.1 hG (by decide) (by decide) (Nat.le_of_ble_eq_true rfl) (Nat.le_of_ble_eq_true rfl) (Nat.le_of_ble_eq_true rfl) d_Row_init_72 (fun bp H hq_bp hG => ?_)
  have ne_qh_bp : qh ≠ bp := gw_neF hq_bp hM19_qh
  have ne_ql_bp : ql ≠ bp := gw_neF hq_bp hM19_ql
  have ne_qb_bp : qb ≠ bp := gw_neF hq_bp hM19_qb
  have ne_qg_bp : qg ≠ bp := gw_neF hq_bp hM19_qg
  have ne_gg_bp : gg ≠ bp := gw_neF hq_bp hM19_gg
  have ne_dr_bp : dr ≠ bp := gw_neF hq_bp hM19_dr
  have ne_lg_bp : lg ≠ bp := gw_neF hq_bp hM19_lg
  have ne_o_bp : o ≠ bp := gw_neF hq_bp hM19_o
  obtain ⟨M20, e_M20⟩ : ∃ Y_ : gM, Y_ = gw_up M19 bp (.inl (cI, 4, .inl (fun _ => 0))) := ⟨_, rfl⟩
  replace hG := gw_nm e_M20 hG
  have hM20_qh := (congrFun e_M20 qh).trans ((gw_miss ne_qh_bp).trans hM19_qh)
  have hM20_ql := (congrFun e_M20 ql).trans ((gw_miss ne_ql_bp).trans hM19_ql)
  have hM20_qb := (congrFun e_M20 qb).trans ((gw_miss ne_qb_bp).trans hM19_qb)
  have hM20_qg := (congrFun e_M20 qg).trans ((gw_miss ne_qg_bp).trans hM19_qg)
  have hM20_gg := (congrFun e_M20 gg).trans ((gw_miss ne_gg_bp).trans hM19_gg)
  have hM20_dr := (congrFun e_M20 dr).trans ((gw_miss ne_dr_bp).trans hM19_dr)
  have hM20_lg := (congrFun e_M20 lg).trans ((gw_miss ne_lg_bp).trans hM19_lg)
  have hM20_o := (congrFun e_M20 o).trans ((gw_miss ne_o_bp).trans hM19_o)
  have hM20_bp := (congrFun e_M20 bp).trans gw_hit
  refine gw_putF (v := .ref bp) hx hb hT i_Row t_Row t_Row_ok n_Row hown hK hG hM20_o rfl 6 (by decide) (hT _ wm_242) (fun _ h => h) rfl hnm rfl rfl rfl (Nat.le_of_ble_eq_true rfl) d_Row_init_74 (fun H locs hG => ?_)
  obtain ⟨M21, e_M21⟩ : ∃ Y_ : gM, Y_ = gw_up M20 o (.inr (0, [.ref qh, .ref ql, .ref qb, .ref gg, .ref dr, .ref lg, .ref bp, .null, .int 0, .int 0, .int 0, .int 0, .int 0, .int 0])) := ⟨_, rfl⟩
  replace hG := gw_nm e_M21 hG
  have hM21_qh := (congrFun e_M21 qh).trans ((gw_miss ne_o_qh.symm).trans hM20_qh)
  have hM21_ql := (congrFun e_M21 ql).trans ((gw_miss ne_o_ql.symm).trans hM20_ql)
  have hM21_qb := (congrFun e_M21 qb).trans ((gw_miss ne_o_qb.symm).trans hM20_qb)
  have hM21_qg := (congrFun e_M21 qg).trans ((gw_miss ne_o_qg.symm).trans hM20_qg)
  have hM21_gg := (congrFun e_M21 gg).trans ((gw_miss ne_o_gg.symm).trans hM20_gg)
  have hM21_dr := (congrFun e_M21 dr).trans ((gw_miss ne_o_dr.symm).trans hM20_dr)
  have hM21_lg := (congrFun e_M21 lg).trans ((gw_miss ne_o_lg.symm).trans hM20_lg)
  have hM21_bp := (congrFun e_M21 bp).trans ((gw_miss ne_o_bp.symm).trans hM20_bp)
  have hM21_o := (congrFun e_M21 o).trans gw_hit
  refine lv_aload_n hx hb d_Row_init_77 rfl (lv_at hl 0 rfl) ?_
  refine lv_iconst (v := 4) hx hb d_Row_init_78 (by decide) ?_
  refine gw_newZ (N := 4) hx hb (hT _ wm_174) hK hF.2.1 hG (by decide) (by decide) (Nat.le_of_ble_eq_true rfl) (Nat.le_of_ble_eq_true rfl) (Nat.le_of_ble_eq_true rfl) d_Row_init_79 (fun cu H hq_cu hG => ?_)
  have ne_qh_cu : qh ≠ cu := gw_neF hq_cu hM21_qh
  have ne_ql_cu : ql ≠ cu := gw_neF hq_cu hM21_ql
  have ne_qb_cu : qb ≠ cu := gw_neF hq_cu hM21_qb
  have ne_qg_cu : qg ≠ cu := gw_neF hq_cu hM21_qg
  have ne_gg_cu : gg ≠ cu := gw_neF hq_cu hM21_gg
  have ne_dr_cu : dr ≠ cu := gw_neF hq_cu hM21_dr
  have ne_lg_cu : lg ≠ cu := gw_neF hq_cu hM21_lg
  have ne_bp_cu : bp ≠ cu := gw_neF hq_cu hM21_bp
  have ne_o_cu : o ≠ cu := gw_neF hq_cu hM21_o
  obtain ⟨M22, e_M22⟩ : ∃ Y_ : gM, Y_ = gw_up M21 cu (.inl (cZ, 4, .inl (fun _ => 0))) := ⟨_, rfl⟩
  replace hG := gw_nm e_M22 hG
  have hM22_qh := (congrFun e_M22 qh).trans ((gw_miss ne_qh_cu).trans hM21_qh)
  have hM22_ql := (congrFun e_M22 ql).trans ((gw_miss ne_ql_cu).trans hM21_ql)
  have hM22_qb := (congrFun e_M22 qb).trans ((gw_miss ne_qb_cu).trans hM21_qb)
  have hM22_qg := (congrFun e_M22 qg).trans ((gw_miss ne_qg_cu).trans hM21_qg)
  have hM22_gg := (congrFun e_M22 gg).trans ((gw_miss ne_gg_cu).trans hM21_gg)
  have hM22_dr := (congrFun e_M22 dr).trans ((gw_miss ne_dr_cu).trans hM21_dr)
  have hM22_lg := (congrFun e_M22 lg).trans ((gw_miss ne_lg_cu).trans hM21_lg)
  have hM22_bp := (congrFun e_M22 bp).trans ((gw_miss ne_bp_cu).trans hM21_bp)
  have hM22_o := (congrFun e_M22 o).trans ((gw_miss ne_o_cu).trans hM21_o)
  have hM22_cu := (congrFun e_M22 cu).trans gw_hit
  refine gw_putF (v := .ref cu) hx hb hT i_Row t_Row t_Row_ok n_Row hown hK hG hM22_o rfl 7 (by decide) (hT _ wm_243) (fun _ h => h) rfl hnm rfl rfl rfl (Nat.le_of_ble_eq_true rfl) d_Row_init_81 (fun H locs hG => ?_)
  obtain ⟨M23, e_M23⟩ : ∃ Y_ : gM, Y_ = gw_up M22 o (.inr (0, [.ref qh, .ref ql, .ref qb, .ref gg, .ref dr, .ref lg, .ref bp, .ref cu, .int 0, .int 0, .int 0, .int 0, .int 0, .int 0])) := ⟨_, rfl⟩
  replace hG := gw_nm e_M23 hG
  have hM23_qh := (congrFun e_M23 qh).trans ((gw_miss ne_o_qh.symm).trans hM22_qh)
  have hM23_ql := (congrFun e_M23 ql).trans ((gw_miss ne_o_ql.symm).trans hM22_ql)
  have hM23_qb := (congrFun e_M23 qb).trans ((gw_miss ne_o_qb.symm).trans hM22_qb)
  have hM23_qg := (congrFun e_M23 qg).trans ((gw_miss ne_o_qg.symm).trans hM22_qg)
  have hM23_gg := (congrFun e_M23 gg).trans ((gw_miss ne_o_gg.symm).trans hM22_gg)
  have hM23_dr := (congrFun e_M23 dr).trans ((gw_miss ne_o_dr.symm).trans hM22_dr)
  have hM23_lg := (congrFun e_M23 lg).trans ((gw_miss ne_o_lg.symm).trans hM22_lg)
  have hM23_bp := (congrFun e_M23 bp).trans ((gw_miss ne_o_bp.symm).trans hM22_bp)
  have hM23_cu := (congrFun e_M23 cu).trans ((gw_miss ne_o_cu.symm).trans hM22_cu)
  have hM23_o := (congrFun e_M23 o).trans gw_hit
  refine lv_aload_n hx hb d_Row_init_84 rfl (lv_at hl 0 rfl) ?_
  refine lv_iconst (v := 0) hx hb d_Row_init_85 (by decide) ?_
  refine gw_put (v := .int 0) hx hb hT i_Row t_Row t_Row_ok n_Row hown hK hG hM23_o rfl 8 (by decide) (hT _ wm_244) (fun _ h => h) rfl rfl rfl (Nat.le_of_ble_eq_true rfl) d_Row_init_86 (fun H locs hG => ?_)
  obtain ⟨M24, e_M24⟩ : ∃ Y_ : gM, Y_ = gw_up M23 o (.inr (0, [.ref qh, .ref ql, .ref qb, .ref gg, .ref dr, .ref lg, .ref bp, .ref cu, .int 0, .int 0, .int 0, .int 0, .int 0, .int 0])) := ⟨_, rfl⟩
  replace hG := gw_nm e_M24 hG
  have hM24_qh := (congrFun e_M24 qh).trans ((gw_miss ne_o_qh.symm).trans hM23_qh)
  have hM24_ql := (congrFun e_M24 ql).trans ((gw_miss ne_o_ql.symm).trans hM23_ql)
  have hM24_qb := (congrFun e_M24 qb).trans ((gw_miss ne_o_qb.symm).trans hM23_qb)
  have hM24_qg := (congrFun e_M24 qg).trans ((gw_miss ne_o_qg.symm).trans hM23_qg)
  have hM24_gg := (congrFun e_M24 gg).trans ((gw_miss ne_o_gg.symm).trans hM23_gg)
  have hM24_dr := (congrFun e_M24 dr).trans ((gw_miss ne_o_dr.symm).trans hM23_dr)
  have hM24_lg := (congrFun e_M24 lg).trans ((gw_miss ne_o_lg.symm).trans hM23_lg)
  have hM24_bp := (congrFun e_M24 bp).trans ((gw_miss ne_o_bp.symm).trans hM23_bp)
  have hM24_cu := (congrFun e_M24 cu).trans ((gw_miss ne_o_cu.symm).trans hM23_cu)
  have hM24_o := (congrFun e_M24 o).trans gw_hit
  refine lv_aload_n hx hb d_Row_init_89 rfl (lv_at hl 0 rfl) ?_
  refine lv_iconst (v := 1) hx hb d_Row_init_90 (by decide) ?_
  refine gw_put (v := .int 1) hx hb hT i_Row t_Row t_Row_ok n_Row hown hK hG hM24_o rfl 9 (by decide) (hT _ wm_245) (fun _ h => h) rfl rfl rfl (Nat.le_of_ble_eq_true rfl) d_Row_init_91 (fun H locs hG => ?_)
  obtain ⟨M25, e_M25⟩ : ∃ Y_ : gM, Y_ = gw_up M24 o (.inr (0, [.ref qh, .ref ql, .ref qb, .ref gg, .ref dr, .ref lg, .ref bp, .ref cu, .int 0, .int 1, .int 0, .int 0, .int 0, .int 0])) := ⟨_, rfl⟩
  replace hG := gw_nm e_M25 hG
  have hM25_qh := (congrFun e_M25 qh).trans ((gw_miss ne_o_qh.symm).trans hM24_qh)
  have hM25_ql := (congrFun e_M25 ql).trans ((gw_miss ne_o_ql.symm).trans hM24_ql)
  have hM25_qb := (congrFun e_M25 qb).trans ((gw_miss ne_o_qb.symm).trans hM24_qb)
  have hM25_qg := (congrFun e_M25 qg).trans ((gw_miss ne_o_qg.symm).trans hM24_qg)
  have hM25_gg := (congrFun e_M25 gg).trans ((gw_miss ne_o_gg.symm).trans hM24_gg)
  have hM25_dr := (congrFun e_M25 dr).trans ((gw_miss ne_o_dr.symm).trans hM24_dr)
  have hM25_lg := (congrFun e_M25 lg).trans ((gw_miss ne_o_lg.symm).trans hM24_lg)
  have hM25_bp := (congrFun e_M25 bp).trans ((gw_miss ne_o_bp.symm).trans hM24_bp)
  have hM25_cu := (congrFun e_M25 cu).trans ((gw_miss ne_o_cu.symm).trans hM24_cu)
  have hM25_o := (congrFun e_M25 o).trans gw_hit
  refine lv_aload_n hx hb d_Row_init_94 rfl (lv_at hl 0 rfl) ?_
  refine lv_iconst (v := 0) hx hb d_Row_init_95 (by decide) ?_
  refine gw_put (v := .int 0) hx hb hT i_Row t_Row t_Row_ok n_Row hown hK hG hM25_o rfl 10 (by decide) (hT _ wm_246) (fun _ h => h) rfl rfl rfl (Nat.le_of_ble_eq_true rfl) d_Row_init_96 (fun H locs hG => ?_)
  obtain ⟨M26, e_M26⟩ : ∃ Y_ : gM, Y_ = gw_up M25 o (.inr (0, [.ref qh, .ref ql, .ref qb, .ref gg, .ref dr, .ref lg, .ref bp, .ref cu, .int 0, .int 1, .int 0, .int 0, .int 0, .int 0])) := ⟨_, rfl⟩
  replace hG := gw_nm e_M26 hG
  have hM26_qh := (congrFun e_M26 qh).trans ((gw_miss ne_o_qh.symm).trans hM25_qh)
  have hM26_ql := (congrFun e_M26 ql).trans ((gw_miss ne_o_ql.symm).trans hM25_ql)
  have hM26_qb := (congrFun e_M26 qb).trans ((gw_miss ne_o_qb.symm).trans hM25_qb)
  have hM26_qg := (congrFun e_M26 qg).trans ((gw_miss ne_o_qg.symm).trans hM25_qg)
  have hM26_gg := (congrFun e_M26 gg).trans ((gw_miss ne_o_gg.symm).trans hM25_gg)
  have hM26_dr := (congrFun e_M26 dr).trans ((gw_miss ne_o_dr.symm).trans hM25_dr)
  have hM26_lg := (congrFun e_M26 lg).trans ((gw_miss ne_o_lg.symm).trans hM25_lg)
  have hM26_bp := (congrFun e_M26 bp).trans ((gw_miss ne_o_bp.symm).trans hM25_bp)
  have hM26_cu := (congrFun e_M26 cu).trans ((gw_miss ne_o_cu.symm).trans hM25_cu)
  have hM26_o := (congrFun e_M26 o).trans gw_hit
  refine lv_aload_n hx hb d_Row_init_99 rfl (lv_at hl 0 rfl) ?_
  refine lv_iconst (v := 0) hx hb d_Row_init_100 (by decide) ?_
  refine gw_put (v := .int 0) hx hb hT i_Row t_Row t_Row_ok n_Row hown hK hG hM26_o rfl 11 (by decide) (hT _ wm_247) (fun _ h => h) rfl rfl rfl (Nat.le_of_ble_eq_true rfl) d_Row_init_101 (fun H locs hG => ?_)
  obtain ⟨M27, e_M27⟩ : ∃ Y_ : gM, Y_ = gw_up M26 o (.inr (0, [.ref qh, .ref ql, .ref qb, .ref gg, .ref dr, .ref lg, .ref bp, .ref cu, .int 0, .int 1, .int 0, .int 0, .int 0, .int 0])) := ⟨_, rfl⟩
  replace hG := gw_nm e_M27 hG
  have hM27_qh := (congrFun e_M27 qh).trans ((gw_miss ne_o_qh.symm).trans hM26_qh)
  have hM27_ql := (congrFun e_M27 ql).trans ((gw_miss ne_o_ql.symm).trans hM26_ql)
  have hM27_qb := (congrFun e_M27 qb).trans ((gw_miss ne_o_qb.symm).trans hM26_qb)
  have hM27_qg := (congrFun e_M27 qg).trans ((gw_miss ne_o_qg.symm).trans hM26_qg)
  have hM27_gg := (congrFun e_M27 gg).trans ((gw_miss ne_o_gg.symm).trans hM26_gg)
  have hM27_dr := (congrFun e_M27 dr).trans ((gw_miss ne_o_dr.symm).trans hM26_dr)
  have hM27_lg := (congrFun e_M27 lg).trans ((gw_miss ne_o_lg.symm).trans hM26_lg)
  have hM27_bp := (congrFun e_M27 bp).trans ((gw_miss ne_o_bp.symm).trans hM26_bp)
  have hM27_cu := (congrFun e_M27 cu).trans ((gw_miss ne_o_cu.symm).trans hM26_cu)
  have hM27_o := (congrFun e_M27 o).trans gw_hit
  refine lv_aload_n hx hb d_Row_init_104 rfl (lv_at hl 0 rfl) ?_
  refine lv_iconst (v := 0) hx hb d_Row_init_105 (by decide) ?_
  refine gw_put (v := .int 0) hx hb hT i_Row t_Row t_Row_ok n_Row hown hK hG hM27_o rfl 12 (by decide) (hT _ wm_248) (fun _ h => h) rfl rfl rfl (Nat.le_of_ble_eq_true rfl) d_Row_init_106 (fun H locs hG => ?_)
  obtain ⟨M28, e_M28⟩ : ∃ Y_ : gM, Y_ = gw_up M27 o (.inr (0, [.ref qh, .ref ql, .ref qb, .ref gg, .ref dr, .ref lg, .ref bp, .ref cu, .int 0, .int 1, .int 0, .int 0, .int 0, .int 0])) := ⟨_, rfl⟩
  replace hG := gw_nm e_M28 hG
  have hM28_qh := (congrFun e_M28 qh).trans ((gw_miss ne_o_qh.symm).trans hM27_qh)
  have hM28_ql := (congrFun e_M28 ql).trans ((gw_miss ne_o_ql.symm).trans hM27_ql)
  have hM28_qb := (congrFun e_M28 qb).trans ((gw_miss ne_o_qb.symm).trans hM27_qb)
  have hM28_qg := (congrFun e_M28 qg).trans ((gw_miss ne_o_qg.symm).trans hM27_qg)
  have hM28_gg := (congrFun e_M28 gg).trans ((gw_miss ne_o_gg.symm).trans hM27_gg)
  have hM28_dr := (congrFun e_M28 dr).trans ((gw_miss ne_o_dr.symm).trans hM27_dr)
  have hM28_lg := (congrFun e_M28 lg).trans ((gw_miss ne_o_lg.symm).trans hM27_lg)
  have hM28_bp := (congrFun e_M28 bp).trans ((gw_miss ne_o_bp.symm).trans hM27_bp)
  have hM28_cu := (congrFun e_M28 cu).trans ((gw_miss ne_o_cu.symm).trans hM27_cu)
  have hM28_o := (congrFun e_M28 o).trans gw_hit
  refine lv_aload_n hx hb d_Row_init_109 rfl (lv_at hl 0 rfl) ?_
  refine lv_iconst (v := 0) hx hb d_Row_init_110 (by decide) ?_
  refine gw_put (v := .int 0) hx hb hT i_Row t_Row t_Row_ok n_Row hown hK hG hM28_o rfl 13 (by decide) (hT _ wm_249) (fun _ h => h) rfl rfl rfl (Nat.le_of_ble_eq_true rfl) d_Row_init_111 (fun H locs hG => ?_)
  obtain ⟨M29, e_M29⟩ : ∃ Y_ : gM, Y_ = gw_up M28 o (.inr (0, [.ref qh, .ref ql, .ref qb, .ref gg, .ref dr, .ref lg, .ref bp, .ref cu, .int 0, .int 1, .int 0, .int 0, .int 0, .int 0])) := ⟨_, rfl⟩
  replace hG := gw_nm e_M29 hG
  have hM29_qh := (congrFun e_M29 qh).trans ((gw_miss ne_o_qh.symm).trans hM28_qh)
  have hM29_ql := (congrFun e_M29 ql).trans ((gw_miss ne_o_ql.symm).trans hM28_ql)
  have hM29_qb := (congrFun e_M29 qb).trans ((gw_miss ne_o_qb.symm).trans hM28_qb)
  have hM29_qg := (congrFun e_M29 qg).trans ((gw_miss ne_o_qg.symm).trans hM28_qg)
  have hM29_gg := (congrFun e_M29 gg).trans ((gw_miss ne_o_gg.symm).trans hM28_gg)
  have hM29_dr := (congrFun e_M29 dr).trans ((gw_miss ne_o_dr.symm).trans hM28_dr)
  have hM29_lg := (congrFun e_M29 lg).trans ((gw_miss ne_o_lg.symm).trans hM28_lg)
  have hM29_bp := (congrFun e_M29 bp).trans ((gw_miss ne_o_bp.symm).trans hM28_bp)
  have hM29_cu := (congrFun e_M29 cu).trans ((gw_miss ne_o_cu.symm).trans hM28_cu)
  have hM29_o := (congrFun e_M29 o).trans gw_hit
  refine lv_iconst (v := 0) hx hb d_Row_init_114 (by decide) ?_
  refine lv_istore_n (lv' := [(1, .int 0), (0, .ref o)]) hx hb d_Row_init_115 rfl hl (by decide) rfl (fun ls hl => ?_)
  have h0_qh := hM29_qh
  have h0_ql := hM29_ql
  have h0_qb := hM29_qb
  have h0_qg := hM29_qg
  have h0_gg := hM29_gg
  have h0_dr := hM29_dr
  have h0_lg := hM29_lg
  have h0_bp := hM29_bp
  have h0_cu := hM29_cu
  have h0_o := hM29_o
  have hbs0 : gw_bs z0 cO M29 M29 qb z0 0 (fun _ => 0) := ⟨⟨0, h0_qb, by omega, Or.inl ⟨rfl, rfl⟩⟩, fun p hp => by omega, fun _ _ _ _ => rfl, Or.inl rfl⟩
  have hzz0 := gw_z0 hF hG
  refine lv_iload_n hx hb d_Row_init_116 rfl (lv_at hl 0 rfl) ?_
  refine lv_bipush (v := 6) hx hb d_Row_init_117 (by decide) ?_
  refine lv_icmp_ge (tgt := 143) hx hb d_Row_init_119 (by decide) (fun z_ => absurd z_ (by decide)) (fun c_119 => ?_)
  refine lv_aload_n hx hb d_Row_init_122 rfl (lv_at hl 1 rfl) ?_
  refine gw_get hx hb hT i_Row hown hK hG hM29_o rfl 2 (by decide) (hT _ wm_238) (fun _ h => h) rfl d_Row_init_123 ?_
  refine gw_new (fs := [.int 0, .int 0, .int 0, .int 0]) (C := R_Bin) (T := F_Bin) (N := 4) (ci := 5) hx hb hT i_Bin t_Bin t_Bin_ok hown (hT _ wm_150) (hT _ wm_151) (hT _ wm_30) hK hF.2.1 hG rfl (fun j hj => by rcases (show j = 0 ∨ j = 1 ∨ j = 2 ∨ j = 3 by omega) with rfl | rfl | rfl | rfl <;> rfl) (Nat.le_of_ble_eq_true rfl) (Nat.le_of_ble_eq_true rfl) d_Row_init_126 (fun b0 H hq_b0 hG => ?_)
  have ne_qb_b0 : qb ≠ b0 := gw_neF hq_b0 hM29_qb
  have ne_o_b0 : o ≠ b0 := gw_neF hq_b0 hM29_o
  obtain ⟨M30, e_M30⟩ : ∃ Y_ : gM, Y_ = gw_up M29 b0 (.inr (5, [.int 0, .int 0, .int 0, .int 0])) := ⟨_, rfl⟩
  replace hG := gw_nm e_M30 hG
  have hM30_qb := (congrFun e_M30 qb).trans ((gw_miss ne_qb_b0).trans hM29_qb)
  have hM30_o := (congrFun e_M30 o).trans ((gw_miss ne_o_b0).trans hM29_o)
  have hM30_b0 := (congrFun e_M30 b0).trans gw_hit
  refine lv_dup hx hb d_Row_init_129 rfl ?_
  refine gw_callv (gw_runIN (As := []) (rest := [.ref b0, .ref qb]) ⟨hx, hb, hml, hown, hts⟩ (c_Bin_init l E D cI cO cZ z0 M30 hM30_b0) ⟨va_cnB 0 hts (gT_gi wm_154) rfl rfl rfl (gW_m hF.2.2.2.2.2.2 wq_152 rfl) (hT _ wm_30) (by decide +kernel) ⟨Nat.le_of_ble_eq_true rfl, Nat.le_of_ble_eq_true rfl⟩, rfl, (hT _ wm_153)⟩ hF hG rfl hl.1 rfl (Nat.le_of_ble_eq_true rfl) d_Row_init_130 ⟨Nat.le_of_ble_eq_true rfl, Nat.le_of_ble_eq_true rfl⟩) hG (fun M31 H locs hp hG => ?_)
  have hM31_qb := (congrFun hp qb).trans ((gw_miss ne_qb_b0).trans hM30_qb)
  have hM31_o := (congrFun hp o).trans ((gw_miss ne_o_b0).trans hM30_o)
  have hM31_b0 := (congrFun hp b0).trans gw_hit
  have e_M31 := hp
  have hM2_0 : ∀ b, b ≠ b0 → M31 b = M29 b := fun b h => by rw [e_M31, gw_miss h, e_M30, gw_miss h]
  have hz2_0 := gw_z0 hF hG
  have hL2_0 : gw_L z0 cO M31 qb z0 0 (fun _ => 0) := hbs0.1.kept (hM2_0 _ ne_qb_b0) (fun f hf => hM2_0 _ (gw_neF hq_b0 hf))
  refine gw_calli (gw_runV (As := [.ref b0]) (rest := []) ⟨hx, hb, hml, hown, hts⟩ (c_AL_add l E D cI cO cZ z0 M31 hL2_0 hM31_b0 rfl wq_793 (by omega) (ne_qb_b0.symm)) (gw_cwV 1 hts (gT_gi wm_178) rfl rfl rfl (hT _ wm_26) (hT _ wm_175) (hT _ wm_176) (hT _ wm_177) (by decide +kernel) ⟨Nat.le_of_ble_eq_true rfl, Nat.le_of_ble_eq_true rfl⟩) hF hG rfl hM31_qb rfl hl.1 rfl (Nat.le_of_ble_eq_true rfl) d_Row_init_133 ⟨Nat.le_of_ble_eq_true rfl, Nat.le_of_ble_eq_true rfl⟩) hG (fun r M32 H locs hp hG => ?_)
  obtain ⟨rfl, hadd0⟩ := hp
  obtain ⟨t0, hbs1⟩ := hbs0.step hzz0 h0_qb hq_b0 hM2_0 hM31_b0 hz2_0 hadd0
  have ho_0 := (hbs1.2.2.1 o _ h0_o (gw_neO h0_o h0_qb (by decide))).trans h0_o
  obtain ⟨kb0, hbq_0, -⟩ := id hbs1.1
  refine lv_pop hx hb d_Row_init_136 rfl ?_
  refine lv_iinc (v := 1) (lv' := [(1, .int 1), (0, .ref o)]) hx hb d_Row_init_137 hl (k := 0) rfl (by decide) (by decide) rfl (fun ls hl => ?_)
  refine lv_goto (tgt := 116) hx hb d_Row_init_140 (by decide) ?_
  have hzz1 := gw_z0 hF hG
  refine lv_iload_n hx hb d_Row_init_116 rfl (lv_at hl 0 rfl) ?_
  refine lv_bipush (v := 6) hx hb d_Row_init_117 (by decide) ?_
  refine lv_icmp_ge (tgt := 143) hx hb d_Row_init_119 (by decide) (fun z_ => absurd z_ (by decide)) (fun c_119 => ?_)
  refine lv_aload_n hx hb d_Row_init_122 rfl (lv_at hl 1 rfl) ?_
  refine gw_get hx hb hT i_Row hown hK hG ho_0 rfl 2 (by decide) (hT _ wm_238) (fun _ h => h) rfl d_Row_init_123 ?_
  refine gw_new (fs := [.int 0, .int 0, .int 0, .int 0]) (C := R_Bin) (T := F_Bin) (N := 4) (ci := 5) hx hb hT i_Bin t_Bin t_Bin_ok hown (hT _ wm_150) (hT _ wm_151) (hT _ wm_30) hK hF.2.1 hG rfl (fun j hj => by rcases (show j = 0 ∨ j = 1 ∨ j = 2 ∨ j = 3 by omega) with rfl | rfl | rfl | rfl <;> rfl) (Nat.le_of_ble_eq_true rfl) (Nat.le_of_ble_eq_true rfl) d_Row_init_126 (fun b1 H hq_b1 hG => ?_)
  have ne_o_b1 : o ≠ b1 := gw_neF hq_b1 ho_0
  have ne_qb_b1 : qb ≠ b1 := gw_neF hq_b1 hbq_0
  obtain ⟨M33, e_M33⟩ : ∃ Y_ : gM, Y_ = gw_up M32 b1 (.inr (5, [.int 0, .int 0, .int 0, .int 0])) := ⟨_, rfl⟩
  replace hG := gw_nm e_M33 hG
  have hM33_o := (congrFun e_M33 o).trans ((gw_miss ne_o_b1).trans ho_0)
  have hM33_qb := (congrFun e_M33 qb).trans ((gw_miss ne_qb_b1).trans hbq_0)
  have hM33_b1 := (congrFun e_M33 b1).trans gw_hit
  refine lv_dup hx hb d_Row_init_129 rfl ?_
  refine gw_callv (gw_runIN (As := []) (rest := [.ref b1, .ref qb]) ⟨hx, hb, hml, hown, hts⟩ (c_Bin_init l E D cI cO cZ z0 M33 hM33_b1) ⟨va_cnB 0 hts (gT_gi wm_154) rfl rfl rfl (gW_m hF.2.2.2.2.2.2 wq_152 rfl) (hT _ wm_30) (by decide +kernel) ⟨Nat.le_of_ble_eq_true rfl, Nat.le_of_ble_eq_true rfl⟩, rfl, (hT _ wm_153)⟩ hF hG rfl hl.1 rfl (Nat.le_of_ble_eq_true rfl) d_Row_init_130 ⟨Nat.le_of_ble_eq_true rfl, Nat.le_of_ble_eq_true rfl⟩) hG (fun M34 H locs hp hG => ?_)
  have hM34_o := (congrFun hp o).trans ((gw_miss ne_o_b1).trans hM33_o)
  have hM34_qb := (congrFun hp qb).trans ((gw_miss ne_qb_b1).trans hM33_qb)
  have hM34_b1 := (congrFun hp b1).trans gw_hit
  have e_M34 := hp
  have hM2_1 : ∀ b, b ≠ b1 → M34 b = M32 b := fun b h => by rw [e_M34, gw_miss h, e_M33, gw_miss h]
  have hz2_1 := gw_z0 hF hG
  have hL2_1 : gw_L z0 cO M34 qb t0 1 (va_up (fun _ => 0) 0 b0) := hbs1.1.kept (hM2_1 _ ne_qb_b1) (fun f hf => hM2_1 _ (gw_neF hq_b1 hf))
  refine gw_calli (gw_runV (As := [.ref b1]) (rest := []) ⟨hx, hb, hml, hown, hts⟩ (c_AL_add l E D cI cO cZ z0 M34 hL2_1 hM34_b1 rfl wq_793 (by omega) (ne_qb_b1.symm)) (gw_cwV 1 hts (gT_gi wm_178) rfl rfl rfl (hT _ wm_26) (hT _ wm_175) (hT _ wm_176) (hT _ wm_177) (by decide +kernel) ⟨Nat.le_of_ble_eq_true rfl, Nat.le_of_ble_eq_true rfl⟩) hF hG rfl hM34_qb rfl hl.1 rfl (Nat.le_of_ble_eq_true rfl) d_Row_init_133 ⟨Nat.le_of_ble_eq_true rfl, Nat.le_of_ble_eq_true rfl⟩) hG (fun r M35 H locs hp hG => ?_)
  obtain ⟨rfl, hadd1⟩ := hp
  obtain ⟨t1, hbs2⟩ := hbs1.step hzz1 h0_qb hq_b1 hM2_1 hM34_b1 hz2_1 hadd1
  have ho_1 := (hbs2.2.2.1 o _ h0_o (gw_neO h0_o h0_qb (by decide))).trans h0_o
  obtain ⟨kb1, hbq_1, -⟩ := id hbs2.1
  refine lv_pop hx hb d_Row_init_136 rfl ?_
  refine lv_iinc (v := 2) (lv' := [(1, .int 2), (0, .ref o)]) hx hb d_Row_init_137 hl (k := 0) rfl (by decide) (by decide) rfl (fun ls hl => ?_)
  refine lv_goto (tgt := 116) hx hb d_Row_init_140 (by decide) ?_
  have hzz2 := gw_z0 hF hG
  refine lv_iload_n hx hb d_Row_init_116 rfl (lv_at hl 0 rfl) ?_
  refine lv_bipush (v := 6) hx hb d_Row_init_117 (by decide) ?_
  refine lv_icmp_ge (tgt := 143) hx hb d_Row_init_119 (by decide) (fun z_ => absurd z_ (by decide)) (fun c_119 => ?_)
  refine lv_aload_n hx hb d_Row_init_122 rfl (lv_at hl 1 rfl) ?_
  refine gw_get hx hb hT i_Row hown hK hG ho_1 rfl 2 (by decide) (hT _ wm_238) (fun _ h => h) rfl d_Row_init_123 ?_
  refine gw_new (fs := [.int 0, .int 0, .int 0, .int 0]) (C := R_Bin) (T := F_Bin) (N := 4) (ci := 5) hx hb hT i_Bin t_Bin t_Bin_ok hown (hT _ wm_150) (hT _ wm_151) (hT _ wm_30) hK hF.2.1 hG rfl (fun j hj => by rcases (show j = 0 ∨ j = 1 ∨ j = 2 ∨ j = 3 by omega) with rfl | rfl | rfl | rfl <;> rfl) (Nat.le_of_ble_eq_true rfl) (Nat.le_of_ble_eq_true rfl) d_Row_init_126 (fun b2 H hq_b2 hG => ?_)
  have ne_o_b2 : o ≠ b2 := gw_neF hq_b2 ho_1
  have ne_qb_b2 : qb ≠ b2 := gw_neF hq_b2 hbq_1
  obtain ⟨M36, e_M36⟩ : ∃ Y_ : gM, Y_ = gw_up M35 b2 (.inr (5, [.int 0, .int 0, .int 0, .int 0])) := ⟨_, rfl⟩
  replace hG := gw_nm e_M36 hG
  have hM36_o := (congrFun e_M36 o).trans ((gw_miss ne_o_b2).trans ho_1)
  have hM36_qb := (congrFun e_M36 qb).trans ((gw_miss ne_qb_b2).trans hbq_1)
  have hM36_b2 := (congrFun e_M36 b2).trans gw_hit
  refine lv_dup hx hb d_Row_init_129 rfl ?_
  refine gw_callv (gw_runIN (As := []) (rest := [.ref b2, .ref qb]) ⟨hx, hb, hml, hown, hts⟩ (c_Bin_init l E D cI cO cZ z0 M36 hM36_b2) ⟨va_cnB 0 hts (gT_gi wm_154) rfl rfl rfl (gW_m hF.2.2.2.2.2.2 wq_152 rfl) (hT _ wm_30) (by decide +kernel) ⟨Nat.le_of_ble_eq_true rfl, Nat.le_of_ble_eq_true rfl⟩, rfl, (hT _ wm_153)⟩ hF hG rfl hl.1 rfl (Nat.le_of_ble_eq_true rfl) d_Row_init_130 ⟨Nat.le_of_ble_eq_true rfl, Nat.le_of_ble_eq_true rfl⟩) hG (fun M37 H locs hp hG => ?_)
  have hM37_o := (congrFun hp o).trans ((gw_miss ne_o_b2).trans hM36_o)
  have hM37_qb := (congrFun hp qb).trans ((gw_miss ne_qb_b2).trans hM36_qb)
  have hM37_b2 := (congrFun hp b2).trans gw_hit
  have e_M37 := hp
  have hM2_2 : ∀ b, b ≠ b2 → M37 b = M35 b := fun b h => by rw [e_M37, gw_miss h, e_M36, gw_miss h]
  have hz2_2 := gw_z0 hF hG
  have hL2_2 : gw_L z0 cO M37 qb t1 2 (va_up (va_up (fun _ => 0) 0 b0) 1 b1) := hbs2.1.kept (hM2_2 _ ne_qb_b2) (fun f hf => hM2_2 _ (gw_neF hq_b2 hf))
  refine gw_calli (gw_runV (As := [.ref b2]) (rest := []) ⟨hx, hb, hml, hown, hts⟩ (c_AL_add l E D cI cO cZ z0 M37 hL2_2 hM37_b2 rfl wq_793 (by omega) (ne_qb_b2.symm)) (gw_cwV 1 hts (gT_gi wm_178) rfl rfl rfl (hT _ wm_26) (hT _ wm_175) (hT _ wm_176) (hT _ wm_177) (by decide +kernel) ⟨Nat.le_of_ble_eq_true rfl, Nat.le_of_ble_eq_true rfl⟩) hF hG rfl hM37_qb rfl hl.1 rfl (Nat.le_of_ble_eq_true rfl) d_Row_init_133 ⟨Nat.le_of_ble_eq_true rfl, Nat.le_of_ble_eq_true rfl⟩) hG (fun r M38 H locs hp hG => ?_)
  obtain ⟨rfl, hadd2⟩ := hp
  obtain ⟨t2, hbs3⟩ := hbs2.step hzz2 h0_qb hq_b2 hM2_2 hM37_b2 hz2_2 hadd2
  have ho_2 := (hbs3.2.2.1 o _ h0_o (gw_neO h0_o h0_qb (by decide))).trans h0_o
  obtain ⟨kb2, hbq_2, -⟩ := id hbs3.1
  refine lv_pop hx hb d_Row_init_136 rfl ?_
  refine lv_iinc (v := 3) (lv' := [(1, .int 3), (0, .ref o)]) hx hb d_Row_init_137 hl (k := 0) rfl (by decide) (by decide) rfl (fun ls hl => ?_)
  refine lv_goto (tgt := 116) hx hb d_Row_init_140 (by decide) ?_
  have hzz3 := gw_z0 hF hG
  refine lv_iload_n hx hb d_Row_init_116 rfl (lv_at hl 0 rfl) ?_
  refine lv_bipush (v := 6) hx hb d_Row_init_117 (by decide) ?_
  refine lv_icmp_ge (tgt := 143) hx hb d_Row_init_119 (by decide) (fun z_ => absurd z_ (by decide)) (fun c_119 => ?_)
  refine lv_aload_n hx hb d_Row_init_122 rfl (lv_at hl 1 rfl) ?_
  refine gw_get hx hb hT i_Row hown hK hG ho_2 rfl 2 (by decide) (hT _ wm_238) (fun _ h => h) rfl d_Row_init_123 ?_
  refine gw_new (fs := [.int 0, .int 0, .int 0, .int 0]) (C := R_Bin) (T := F_Bin) (N := 4) (ci := 5) hx hb hT i_Bin t_Bin t_Bin_ok hown (hT _ wm_150) (hT _ wm_151) (hT _ wm_30) hK hF.2.1 hG rfl (fun j hj => by rcases (show j = 0 ∨ j = 1 ∨ j = 2 ∨ j = 3 by omega) with rfl | rfl | rfl | rfl <;> rfl) (Nat.le_of_ble_eq_true rfl) (Nat.le_of_ble_eq_true rfl) d_Row_init_126 (fun b3 H hq_b3 hG => ?_)
  have ne_o_b3 : o ≠ b3 := gw_neF hq_b3 ho_2
  have ne_qb_b3 : qb ≠ b3 := gw_neF hq_b3 hbq_2
  obtain ⟨M39, e_M39⟩ : ∃ Y_ : gM, Y_ = gw_up M38 b3 (.inr (5, [.int 0, .int 0, .int 0, .int 0])) := ⟨_, rfl⟩
  replace hG := gw_nm e_M39 hG
  have hM39_o := (congrFun e_M39 o).trans ((gw_miss ne_o_b3).trans ho_2)
  have hM39_qb := (congrFun e_M39 qb).trans ((gw_miss ne_qb_b3).trans hbq_2)
  have hM39_b3 := (congrFun e_M39 b3).trans gw_hit
  refine lv_dup hx hb d_Row_init_129 rfl ?_
  refine gw_callv (gw_runIN (As := []) (rest := [.ref b3, .ref qb]) ⟨hx, hb, hml, hown, hts⟩ (c_Bin_init l E D cI cO cZ z0 M39 hM39_b3) ⟨va_cnB 0 hts (gT_gi wm_154) rfl rfl rfl (gW_m hF.2.2.2.2.2.2 wq_152 rfl) (hT _ wm_30) (by decide +kernel) ⟨Nat.le_of_ble_eq_true rfl, Nat.le_of_ble_eq_true rfl⟩, rfl, (hT _ wm_153)⟩ hF hG rfl hl.1 rfl (Nat.le_of_ble_eq_true rfl) d_Row_init_130 ⟨Nat.le_of_ble_eq_true rfl, Nat.le_of_ble_eq_true rfl⟩) hG (fun M40 H locs hp hG => ?_)
  have hM40_o := (congrFun hp o).trans ((gw_miss ne_o_b3).trans hM39_o)
  have hM40_qb := (congrFun hp qb).trans ((gw_miss ne_qb_b3).trans hM39_qb)
  have hM40_b3 := (congrFun hp b3).trans gw_hit
  have e_M40 := hp
  have hM2_3 : ∀ b, b ≠ b3 → M40 b = M38 b := fun b h => by rw [e_M40, gw_miss h, e_M39, gw_miss h]
  have hz2_3 := gw_z0 hF hG
  have hL2_3 : gw_L z0 cO M40 qb t2 3 (va_up (va_up (va_up (fun _ => 0) 0 b0) 1 b1) 2 b2) := hbs3.1.kept (hM2_3 _ ne_qb_b3) (fun f hf => hM2_3 _ (gw_neF hq_b3 hf))
  refine gw_calli (gw_runV (As := [.ref b3]) (rest := []) ⟨hx, hb, hml, hown, hts⟩ (c_AL_add l E D cI cO cZ z0 M40 hL2_3 hM40_b3 rfl wq_793 (by omega) (ne_qb_b3.symm)) (gw_cwV 1 hts (gT_gi wm_178) rfl rfl rfl (hT _ wm_26) (hT _ wm_175) (hT _ wm_176) (hT _ wm_177) (by decide +kernel) ⟨Nat.le_of_ble_eq_true rfl, Nat.le_of_ble_eq_true rfl⟩) hF hG rfl hM40_qb rfl hl.1 rfl (Nat.le_of_ble_eq_true rfl) d_Row_init_133 ⟨Nat.le_of_ble_eq_true rfl, Nat.le_of_ble_eq_true rfl⟩) hG (fun r M41 H locs hp hG => ?_)
  obtain ⟨rfl, hadd3⟩ := hp
  obtain ⟨t3, hbs4⟩ := hbs3.step hzz3 h0_qb hq_b3 hM2_3 hM40_b3 hz2_3 hadd3
  have ho_3 := (hbs4.2.2.1 o _ h0_o (gw_neO h0_o h0_qb (by decide))).trans h0_o
  obtain ⟨kb3, hbq_3, -⟩ := id hbs4.1
  refine lv_pop hx hb d_Row_init_136 rfl ?_
  refine lv_iinc (v := 4) (lv' := [(1, .int 4), (0, .ref o)]) hx hb d_Row_init_137 hl (k := 0) rfl (by decide) (by decide) rfl (fun ls hl => ?_)
  refine lv_goto (tgt := 116) hx hb d_Row_init_140 (by decide) ?_
  have hzz4 := gw_z0 hF hG
  refine lv_iload_n hx hb d_Row_init_116 rfl (lv_at hl 0 rfl) ?_
  refine lv_bipush (v := 6) hx hb d_Row_init_117 (by decide) ?_
  refine lv_icmp_ge (tgt := 143) hx hb d_Row_init_119 (by decide) (fun z_ => absurd z_ (by decide)) (fun c_119 => ?_)
  refine lv_aload_n hx hb d_Row_init_122 rfl (lv_at hl 1 rfl) ?_
  refine gw_get hx hb hT i_Row hown hK hG ho_3 rfl 2 (by decide) (hT _ wm_238) (fun _ h => h) rfl d_Row_init_123 ?_
  refine gw_new (fs := [.int 0, .int 0, .int 0, .int 0]) (C := R_Bin) (T := F_Bin) (N := 4) (ci := 5) hx hb hT i_Bin t_Bin t_Bin_ok hown (hT _ wm_150) (hT _ wm_151) (hT _ wm_30) hK hF.2.1 hG rfl (fun j hj => by rcases (show j = 0 ∨ j = 1 ∨ j = 2 ∨ j = 3 by omega) with rfl | rfl | rfl | rfl <;> rfl) (Nat.le_of_ble_eq_true rfl) (Nat.le_of_ble_eq_true rfl) d_Row_init_126 (fun b4 H hq_b4 hG => ?_)
  have ne_o_b4 : o ≠ b4 := gw_neF hq_b4 ho_3
  have ne_qb_b4 : qb ≠ b4 := gw_neF hq_b4 hbq_3
  obtain ⟨M42, e_M42⟩ : ∃ Y_ : gM, Y_ = gw_up M41 b4 (.inr (5, [.int 0, .int 0, .int 0, .int 0])) := ⟨_, rfl⟩
  replace hG := gw_nm e_M42 hG
  have hM42_o := (congrFun e_M42 o).trans ((gw_miss ne_o_b4).trans ho_3)
  have hM42_qb := (congrFun e_M42 qb).trans ((gw_miss ne_qb_b4).trans hbq_3)
  have hM42_b4 := (congrFun e_M42 b4).trans gw_hit
  refine lv_dup hx hb d_Row_init_129 rfl ?_
  refine gw_callv (gw_runIN (As := []) (rest := [.ref b4, .ref qb]) ⟨hx, hb, hml, hown, hts⟩ (c_Bin_init l E D cI cO cZ z0 M42 hM42_b4) ⟨va_cnB 0 hts (gT_gi wm_154) rfl rfl rfl (gW_m hF.2.2.2.2.2.2 wq_152 rfl) (hT _ wm_30) (by decide +kernel) ⟨Nat.le_of_ble_eq_true rfl, Nat.le_of_ble_eq_true rfl⟩, rfl, (hT _ wm_153)⟩ hF hG rfl hl.1 rfl (Nat.le_of_ble_eq_true rfl) d_Row_init_130 ⟨Nat.le_of_ble_eq_true rfl, Nat.le_of_ble_eq_true rfl⟩) hG (fun M43 H locs hp hG => ?_)
  have hM43_o := (congrFun hp o).trans ((gw_miss ne_o_b4).trans hM42_o)
  have hM43_qb := (congrFun hp qb).trans ((gw_miss ne_qb_b4).trans hM42_qb)
  have hM43_b4 := (congrFun hp b4).trans gw_hit
  have e_M43 := hp
  have hM2_4 : ∀ b, b ≠ b4 → M43 b = M41 b := fun b h => by rw [e_M43, gw_miss h, e_M42, gw_miss h]
  have hz2_4 := gw_z0 hF hG
  have hL2_4 : gw_L z0 cO M43 qb t3 4 (va_up (va_up (va_up (va_up (fun _ => 0) 0 b0) 1 b1) 2 b2) 3 b3) := hbs4.1.kept (hM2_4 _ ne_qb_b4) (fun f hf => hM2_4 _ (gw_neF hq_b4 hf))
  refine gw_calli (gw_runV (As := [.ref b4]) (rest := []) ⟨hx, hb, hml, hown, hts⟩ (c_AL_add l E D cI cO cZ z0 M43 hL2_4 hM43_b4 rfl wq_793 (by omega) (ne_qb_b4.symm)) (gw_cwV 1 hts (gT_gi wm_178) rfl rfl rfl (hT _ wm_26) (hT _ wm_175) (hT _ wm_176) (hT _ wm_177) (by decide +kernel) ⟨Nat.le_of_ble_eq_true rfl, Nat.le_of_ble_eq_true rfl⟩) hF hG rfl hM43_qb rfl hl.1 rfl (Nat.le_of_ble_eq_true rfl) d_Row_init_133 ⟨Nat.le_of_ble_eq_true rfl, Nat.le_of_ble_eq_true rfl⟩) hG (fun r M44 H locs hp hG => ?_)
  obtain ⟨rfl, hadd4⟩ := hp
  obtain ⟨t4, hbs5⟩ := hbs4.step hzz4 h0_qb hq_b4 hM2_4 hM43_b4 hz2_4 hadd4
  have ho_4 := (hbs5.2.2.1 o _ h0_o (gw_neO h0_o h0_qb (by decide))).trans h0_o
  obtain ⟨kb4, hbq_4, -⟩ := id hbs5.1
  refine lv_pop hx hb d_Row_init_136 rfl ?_
  refine lv_iinc (v := 5) (lv' := [(1, .int 5), (0, .ref o)]) hx hb d_Row_init_137 hl (k := 0) rfl (by decide) (by decide) rfl (fun ls hl => ?_)
  refine lv_goto (tgt := 116) hx hb d_Row_init_140 (by decide) ?_
  have hzz5 := gw_z0 hF hG
  refine lv_iload_n hx hb d_Row_init_116 rfl (lv_at hl 0 rfl) ?_
  refine lv_bipush (v := 6) hx hb d_Row_init_117 (by decide) ?_
  refine lv_icmp_ge (tgt := 143) hx hb d_Row_init_119 (by decide) (fun z_ => absurd z_ (by decide)) (fun c_119 => ?_)
  refine lv_aload_n hx hb d_Row_init_122 rfl (lv_at hl 1 rfl) ?_
  refine gw_get hx hb hT i_Row hown hK hG ho_4 rfl 2 (by decide) (hT _ wm_238) (fun _ h => h) rfl d_Row_init_123 ?_
  refine gw_new (fs := [.int 0, .int 0, .int 0, .int 0]) (C := R_Bin) (T := F_Bin) (N := 4) (ci := 5) hx hb hT i_Bin t_Bin t_Bin_ok hown (hT _ wm_150) (hT _ wm_151) (hT _ wm_30) hK hF.2.1 hG rfl (fun j hj => by rcases (show j = 0 ∨ j = 1 ∨ j = 2 ∨ j = 3 by omega) with rfl | rfl | rfl | rfl <;> rfl) (Nat.le_of_ble_eq_true rfl) (Nat.le_of_ble_eq_true rfl) d_Row_init_126 (fun b5 H hq_b5 hG => ?_)
  have ne_o_b5 : o ≠ b5 := gw_neF hq_b5 ho_4
  have ne_qb_b5 : qb ≠ b5 := gw_neF hq_b5 hbq_4
  obtain ⟨M45, e_M45⟩ : ∃ Y_ : gM, Y_ = gw_up M44 b5 (.inr (5, [.int 0, .int 0, .int 0, .int 0])) := ⟨_, rfl⟩
  replace hG := gw_nm e_M45 hG
  have hM45_o := (congrFun e_M45 o).trans ((gw_miss ne_o_b5).trans ho_4)
  have hM45_qb := (congrFun e_M45 qb).trans ((gw_miss ne_qb_b5).trans hbq_4)
  have hM45_b5 := (congrFun e_M45 b5).trans gw_hit
  refine lv_dup hx hb d_Row_init_129 rfl ?_
  refine gw_callv (gw_runIN (As := []) (rest := [.ref b5, .ref qb]) ⟨hx, hb, hml, hown, hts⟩ (c_Bin_init l E D cI cO cZ z0 M45 hM45_b5) ⟨va_cnB 0 hts (gT_gi wm_154) rfl rfl rfl (gW_m hF.2.2.2.2.2.2 wq_152 rfl) (hT _ wm_30) (by decide +kernel) ⟨Nat.le_of_ble_eq_true rfl, Nat.le_of_ble_eq_true rfl⟩, rfl, (hT _ wm_153)⟩ hF hG rfl hl.1 rfl (Nat.le_of_ble_eq_true rfl) d_Row_init_130 ⟨Nat.le_of_ble_eq_true rfl, Nat.le_of_ble_eq_true rfl⟩) hG (fun M46 H locs hp hG => ?_)
  have hM46_o := (congrFun hp o).trans ((gw_miss ne_o_b5).trans hM45_o)
  have hM46_qb := (congrFun hp qb).trans ((gw_miss ne_qb_b5).trans hM45_qb)
  have hM46_b5 := (congrFun hp b5).trans gw_hit
  have e_M46 := hp
  have hM2_5 : ∀ b, b ≠ b5 → M46 b = M44 b := fun b h => by rw [e_M46, gw_miss h, e_M45, gw_miss h]
  have hz2_5 := gw_z0 hF hG
  have hL2_5 : gw_L z0 cO M46 qb t4 5 (va_up (va_up (va_up (va_up (va_up (fun _ => 0) 0 b0) 1 b1) 2 b2) 3 b3) 4 b4) := hbs5.1.kept (hM2_5 _ ne_qb_b5) (fun f hf => hM2_5 _ (gw_neF hq_b5 hf))
  refine gw_calli (gw_runV (As := [.ref b5]) (rest := []) ⟨hx, hb, hml, hown, hts⟩ (c_AL_add l E D cI cO cZ z0 M46 hL2_5 hM46_b5 rfl wq_793 (by omega) (ne_qb_b5.symm)) (gw_cwV 1 hts (gT_gi wm_178) rfl rfl rfl (hT _ wm_26) (hT _ wm_175) (hT _ wm_176) (hT _ wm_177) (by decide +kernel) ⟨Nat.le_of_ble_eq_true rfl, Nat.le_of_ble_eq_true rfl⟩) hF hG rfl hM46_qb rfl hl.1 rfl (Nat.le_of_ble_eq_true rfl) d_Row_init_133 ⟨Nat.le_of_ble_eq_true rfl, Nat.le_of_ble_eq_true rfl⟩) hG (fun r M47 H locs hp hG => ?_)
  obtain ⟨rfl, hadd5⟩ := hp
  obtain ⟨t5, hbs6⟩ := hbs5.step hzz5 h0_qb hq_b5 hM2_5 hM46_b5 hz2_5 hadd5
  have ho_5 := (hbs6.2.2.1 o _ h0_o (gw_neO h0_o h0_qb (by decide))).trans h0_o
  obtain ⟨kb5, hbq_5, -⟩ := id hbs6.1
  refine lv_pop hx hb d_Row_init_136 rfl ?_
  refine lv_iinc (v := 6) (lv' := [(1, .int 6), (0, .ref o)]) hx hb d_Row_init_137 hl (k := 0) rfl (by decide) (by decide) rfl (fun ls hl => ?_)
  refine lv_goto (tgt := 116) hx hb d_Row_init_140 (by decide) ?_
  refine lv_iload_n hx hb d_Row_init_116 rfl (lv_at hl 0 rfl) ?_
  refine lv_bipush (v := 6) hx hb d_Row_init_117 (by decide) ?_
  refine lv_icmp_ge (tgt := 143) hx hb d_Row_init_119 (by decide) (fun c_119 => ?_) (fun z_ => absurd (by decide) z_)
  have hx_o := (hbs6.2.2.1 o _ h0_o (gw_neO h0_o h0_qb (by decide))).trans h0_o
  have hx_qh := (hbs6.2.2.1 qh _ h0_qh ne_qh_qb).trans h0_qh
  have hx_ql := (hbs6.2.2.1 ql _ h0_ql ne_ql_qb).trans h0_ql
  have hx_gg := (hbs6.2.2.1 gg _ h0_gg (gw_neO h0_gg h0_qb (by decide))).trans h0_gg
  have hx_qg := (hbs6.2.2.1 qg _ h0_qg ne_qb_qg.symm).trans h0_qg
  have hx_dr := (hbs6.2.2.1 dr _ h0_dr (gw_neO h0_dr h0_qb (by decide))).trans h0_dr
  have hx_lg := (hbs6.2.2.1 lg _ h0_lg (gw_neO h0_lg h0_qb (by decide))).trans h0_lg
  have hx_bp := (hbs6.2.2.1 bp _ h0_bp (gw_neA h0_bp h0_qb)).trans h0_bp
  have hx_cu := (hbs6.2.2.1 cu _ h0_cu (gw_neA h0_cu h0_qb)).trans h0_cu
  have hfa : gw_fa z0 cO M47 o 0 0 (0, fun p => p, fun _ => (0, 0, 0, 0, 0, 0)) (fun k => ([qh, z0, ql, qb, t5, gg, qg, z0, dr, lg, bp, cu] : List Nat).getD k 0) (fun p => p) (va_up (va_up (va_up (va_up (va_up (va_up (fun _ => 0) 0 b0) 1 b1) 2 b2) 3 b3) 4 b4) 5 b5) := ⟨hx_o, ⟨0, hx_qh, by omega, Or.inl ⟨rfl, rfl⟩⟩, ⟨0, hx_ql, by omega, Or.inl ⟨rfl, rfl⟩⟩, hbs6.1, hbs6.2.1, hx_gg, ⟨0, hx_qg, by omega, Or.inl ⟨rfl, rfl⟩⟩, hx_dr, hx_lg, fun i hi => by omega, fun i j hi => by omega, fun p hp => absurd hp (Nat.not_lt_zero p), fun p q hp => absurd hp (Nat.not_lt_zero p), ⟨ne_qh_ql, ne_qh_qb, ne_qh_qg, ne_ql_qb, ne_ql_qg, ne_qb_qg⟩, fun _ => rfl, fun _ => rfl, fun h => h⟩
  refine lv_iconst (v := 0) hx hb d_Row_init_143 (by decide) ?_
  refine lv_istore_n (lv' := [(1, .int 0), (0, .ref o)]) hx hb d_Row_init_144 rfl hl (by decide) rfl (fun ls hl => ?_)
  refine lv_iload_n hx hb d_Row_init_145 rfl (lv_at hl 0 rfl) ?_
  refine lv_aload_n hx hb d_Row_init_146 rfl (lv_at hl 1 rfl) ?_
  refine gw_get hx hb hT i_Row hown hK hG hx_o rfl 6 (by decide) (hT _ wm_242) (fun _ h => h) rfl d_Row_init_147 ?_
  refine gw_alen (v := 4) hx hb hK hG 0 hx_bp rfl rfl d_Row_init_150 ?_
  refine lv_icmp_ge (tgt := 168) hx hb d_Row_init_151 (by decide) (fun z_ => absurd z_ (by decide)) (fun c_151 => ?_)
  refine lv_aload_n hx hb d_Row_init_154 rfl (lv_at hl 1 rfl) ?_
  refine gw_get hx hb hT i_Row hown hK hG hx_o rfl 6 (by decide) (hT _ wm_242) (fun _ h => h) rfl d_Row_init_155 ?_
  refine lv_iload_n hx hb d_Row_init_158 rfl (lv_at hl 0 rfl) ?_
  refine lv_bipush (v := 64) hx hb d_Row_init_159 (by decide) ?_
  refine gw_iast hx hb hK hG hx_bp (by unfold vp_in; decide) d_Row_init_161 (fun H locs hG => ?_)
  obtain ⟨M48, e_M48⟩ : ∃ Y_ : gM, Y_ = gw_up M47 bp (.inl (cI, 4, .inl (upd (fun _ => 0) (0 : Int32).toNatClampNeg 64))) := ⟨_, rfl⟩
  replace hG := gw_nm e_M48 hG
  have hM48_o := (congrFun e_M48 o).trans ((gw_miss (gw_neA hx_bp hx_o).symm).trans hx_o)
  have hM48_cu := (congrFun e_M48 cu).trans ((gw_miss ne_bp_cu.symm).trans hx_cu)
  have hM48_bp := (congrFun e_M48 bp).trans gw_hit
  have hfa_M48 := hfa.upI (e' := .inl (cI, 4, .inl (upd (fun _ => 0) (0 : Int32).toNatClampNeg 64))) hx_bp ⟨_, _, _, rfl⟩
  rw [← e_M48] at hfa_M48
  refine lv_iinc (v := 1) (lv' := [(1, .int 1), (0, .ref o)]) hx hb d_Row_init_162 hl (k := 0) rfl (by decide) (by decide) rfl (fun ls hl => ?_)
  refine lv_goto (tgt := 145) hx hb d_Row_init_165 (by decide) ?_
  refine lv_iload_n hx hb d_Row_init_145 rfl (lv_at hl 0 rfl) ?_
  refine lv_aload_n hx hb d_Row_init_146 rfl (lv_at hl 1 rfl) ?_
  refine gw_get hx hb hT i_Row hown hK hG hM48_o rfl 6 (by decide) (hT _ wm_242) (fun _ h => h) rfl d_Row_init_147 ?_
  refine gw_alen (v := 4) hx hb hK hG 0 hM48_bp rfl rfl d_Row_init_150 ?_
  refine lv_icmp_ge (tgt := 168) hx hb d_Row_init_151 (by decide) (fun z_ => absurd z_ (by decide)) (fun c_151 => ?_)
  refine lv_aload_n hx hb d_Row_init_154 rfl (lv_at hl 1 rfl) ?_
  refine gw_get hx hb hT i_Row hown hK hG hM48_o rfl 6 (by decide) (hT _ wm_242) (fun _ h => h) rfl d_Row_init_155 ?_
  refine lv_iload_n hx hb d_Row_init_158 rfl (lv_at hl 0 rfl) ?_
  refine lv_bipush (v := 64) hx hb d_Row_init_159 (by decide) ?_
  refine gw_iast hx hb hK hG hM48_bp (by unfold vp_in; decide) d_Row_init_161 (fun H locs hG => ?_)
  obtain ⟨M49, e_M49⟩ : ∃ Y_ : gM, Y_ = gw_up M48 bp (.inl (cI, 4, .inl (upd (upd (fun _ => 0) (0 : Int32).toNatClampNeg 64) (1 : Int32).toNatClampNeg 64))) := ⟨_, rfl⟩
  replace hG := gw_nm e_M49 hG
  have hM49_o := (congrFun e_M49 o).trans ((gw_miss (gw_neA hM48_bp hM48_o).symm).trans hM48_o)
  have hM49_cu := (congrFun e_M49 cu).trans ((gw_miss ne_bp_cu.symm).trans hM48_cu)
  have hM49_bp := (congrFun e_M49 bp).trans gw_hit
  have hfa_M49 := hfa_M48.upI (e' := .inl (cI, 4, .inl (upd (upd (fun _ => 0) (0 : Int32).toNatClampNeg 64) (1 : Int32).toNatClampNeg 64))) hM48_bp ⟨_, _, _, rfl⟩
  rw [← e_M49] at hfa_M49
  refine lv_iinc (v := 2) (lv' := [(1, .int 2), (0, .ref o)]) hx hb d_Row_init_162 hl (k := 0) rfl (by decide) (by decide) rfl (fun ls hl => ?_)
  refine lv_goto (tgt := 145) hx hb d_Row_init_165 (by decide) ?_
  refine lv_iload_n hx hb d_Row_init_145 rfl (lv_at hl 0 rfl) ?_
  refine lv_aload_n hx hb d_Row_init_146 rfl (lv_at hl 1 rfl) ?_
  refine gw_get hx hb hT i_Row hown hK hG hM49_o rfl 6 (by decide) (hT _ wm_242) (fun _ h => h) rfl d_Row_init_147 ?_
  refine gw_alen (v := 4) hx hb hK hG 0 hM49_bp rfl rfl d_Row_init_150 ?_
  refine lv_icmp_ge (tgt := 168) hx hb d_Row_init_151 (by decide) (fun z_ => absurd z_ (by decide)) (fun c_151 => ?_)
  refine lv_aload_n hx hb d_Row_init_154 rfl (lv_at hl 1 rfl) ?_
  refine gw_get hx hb hT i_Row hown hK hG hM49_o rfl 6 (by decide) (hT _ wm_242) (fun _ h => h) rfl d_Row_init_155 ?_
  refine lv_iload_n hx hb d_Row_init_158 rfl (lv_at hl 0 rfl) ?_
  refine lv_bipush (v := 64) hx hb d_Row_init_159 (by decide) ?_
  refine gw_iast hx hb hK hG hM49_bp (by unfold vp_in; decide) d_Row_init_161 (fun H locs hG => ?_)
  obtain ⟨M50, e_M50⟩ : ∃ Y_ : gM, Y_ = gw_up M49 bp (.inl (cI, 4, .inl (upd (upd (upd (fun _ => 0) (0 : Int32).toNatClampNeg 64) (1 : Int32).toNatClampNeg 64) (2 : Int32).toNatClampNeg 64))) := ⟨_, rfl⟩
  replace hG := gw_nm e_M50 hG
  have hM50_o := (congrFun e_M50 o).trans ((gw_miss (gw_neA hM49_bp hM49_o).symm).trans hM49_o)
  have hM50_cu := (congrFun e_M50 cu).trans ((gw_miss ne_bp_cu.symm).trans hM49_cu)
  have hM50_bp := (congrFun e_M50 bp).trans gw_hit
  have hfa_M50 := hfa_M49.upI (e' := .inl (cI, 4, .inl (upd (upd (upd (fun _ => 0) (0 : Int32).toNatClampNeg 64) (1 : Int32).toNatClampNeg 64) (2 : Int32).toNatClampNeg 64))) hM49_bp ⟨_, _, _, rfl⟩
  rw [← e_M50] at hfa_M50
  refine lv_iinc (v := 3) (lv' := [(1, .int 3), (0, .ref o)]) hx hb d_Row_init_162 hl (k := 0) rfl (by decide) (by decide) rfl (fun ls hl => ?_)
  refine lv_goto (tgt := 145) hx hb d_Row_init_165 (by decide) ?_
  refine lv_iload_n hx hb d_Row_init_145 rfl (lv_at hl 0 rfl) ?_
  refine lv_aload_n hx hb d_Row_init_146 rfl (lv_at hl 1 rfl) ?_
  refine gw_get hx hb hT i_Row hown hK hG hM50_o rfl 6 (by decide) (hT _ wm_242) (fun _ h => h) rfl d_Row_init_147 ?_
  refine gw_alen (v := 4) hx hb hK hG 0 hM50_bp rfl rfl d_Row_init_150 ?_
  refine lv_icmp_ge (tgt := 168) hx hb d_Row_init_151 (by decide) (fun z_ => absurd z_ (by decide)) (fun c_151 => ?_)
  refine lv_aload_n hx hb d_Row_init_154 rfl (lv_at hl 1 rfl) ?_
  refine gw_get hx hb hT i_Row hown hK hG hM50_o rfl 6 (by decide) (hT _ wm_242) (fun _ h => h) rfl d_Row_init_155 ?_
  refine lv_iload_n hx hb d_Row_init_158 rfl (lv_at hl 0 rfl) ?_
  refine lv_bipush (v := 64) hx hb d_Row_init_159 (by decide) ?_
  refine gw_iast hx hb hK hG hM50_bp (by unfold vp_in; decide) d_Row_init_161 (fun H locs hG => ?_)
  obtain ⟨M51, e_M51⟩ : ∃ Y_ : gM, Y_ = gw_up M50 bp (.inl (cI, 4, .inl (upd (upd (upd (upd (fun _ => 0) (0 : Int32).toNatClampNeg 64) (1 : Int32).toNatClampNeg 64) (2 : Int32).toNatClampNeg 64) (3 : Int32).toNatClampNeg 64))) := ⟨_, rfl⟩
  replace hG := gw_nm e_M51 hG
  have hM51_o := (congrFun e_M51 o).trans ((gw_miss (gw_neA hM50_bp hM50_o).symm).trans hM50_o)
  have hM51_cu := (congrFun e_M51 cu).trans ((gw_miss ne_bp_cu.symm).trans hM50_cu)
  have hM51_bp := (congrFun e_M51 bp).trans gw_hit
  have hfa_M51 := hfa_M50.upI (e' := .inl (cI, 4, .inl (upd (upd (upd (upd (fun _ => 0) (0 : Int32).toNatClampNeg 64) (1 : Int32).toNatClampNeg 64) (2 : Int32).toNatClampNeg 64) (3 : Int32).toNatClampNeg 64))) hM50_bp ⟨_, _, _, rfl⟩
  rw [← e_M51] at hfa_M51
  refine lv_iinc (v := 4) (lv' := [(1, .int 4), (0, .ref o)]) hx hb d_Row_init_162 hl (k := 0) rfl (by decide) (by decide) rfl (fun ls hl => ?_)
  refine lv_goto (tgt := 145) hx hb d_Row_init_165 (by decide) ?_
  refine lv_iload_n hx hb d_Row_init_145 rfl (lv_at hl 0 rfl) ?_
  refine lv_aload_n hx hb d_Row_init_146 rfl (lv_at hl 1 rfl) ?_
  refine gw_get hx hb hT i_Row hown hK hG hM51_o rfl 6 (by decide) (hT _ wm_242) (fun _ h => h) rfl d_Row_init_147 ?_
  refine gw_alen (v := 4) hx hb hK hG 0 hM51_bp rfl rfl d_Row_init_150 ?_
  refine lv_icmp_ge (tgt := 168) hx hb d_Row_init_151 (by decide) (fun c_151 => ?_) (fun z_ => absurd (by decide) z_)
  refine lv_iconst (v := 0) hx hb d_Row_init_168 (by decide) ?_
  refine lv_istore_n (lv' := [(1, .int 0), (0, .ref o)]) hx hb d_Row_init_169 rfl hl (by decide) rfl (fun ls hl => ?_)
  refine lv_iload_n hx hb d_Row_init_170 rfl (lv_at hl 0 rfl) ?_
  refine lv_aload_n hx hb d_Row_init_171 rfl (lv_at hl 1 rfl) ?_
  refine gw_get hx hb hT i_Row hown hK hG hM51_o rfl 7 (by decide) (hT _ wm_243) (fun _ h => h) rfl d_Row_init_172 ?_
  refine gw_alen (v := 4) hx hb hK hG 2 hM51_cu rfl rfl d_Row_init_175 ?_
  refine lv_icmp_ge (tgt := 192) hx hb d_Row_init_176 (by decide) (fun z_ => absurd z_ (by decide)) (fun c_176 => ?_)
  refine lv_aload_n hx hb d_Row_init_179 rfl (lv_at hl 1 rfl) ?_
  refine gw_get hx hb hT i_Row hown hK hG hM51_o rfl 7 (by decide) (hT _ wm_243) (fun _ h => h) rfl d_Row_init_180 ?_
  refine lv_iload_n hx hb d_Row_init_183 rfl (lv_at hl 0 rfl) ?_
  refine lv_iconst (v := 1) hx hb d_Row_init_184 (by decide) ?_
  refine gw_zast hx hb hK hG hM51_cu (by unfold vp_in; decide) d_Row_init_185 (fun H locs hG => ?_)
  obtain ⟨M52, e_M52⟩ : ∃ Y_ : gM, Y_ = gw_up M51 cu (.inl (cZ, 4, .inl (upd (fun _ => 0) (0 : Int32).toNatClampNeg (vp_nar .boolean 1)))) := ⟨_, rfl⟩
  replace hG := gw_nm e_M52 hG
  have hM52_o := (congrFun e_M52 o).trans ((gw_miss (gw_neA hM51_cu hM51_o).symm).trans hM51_o)
  have hM52_bp := (congrFun e_M52 bp).trans ((gw_miss ne_bp_cu).trans hM51_bp)
  have hM52_cu := (congrFun e_M52 cu).trans gw_hit
  have hfa_M52 := hfa_M51.upI (e' := .inl (cZ, 4, .inl (upd (fun _ => 0) (0 : Int32).toNatClampNeg (vp_nar .boolean 1)))) hM51_cu ⟨_, _, _, rfl⟩
  rw [← e_M52] at hfa_M52
  refine lv_iinc (v := 1) (lv' := [(1, .int 1), (0, .ref o)]) hx hb d_Row_init_186 hl (k := 0) rfl (by decide) (by decide) rfl (fun ls hl => ?_)
  refine lv_goto (tgt := 170) hx hb d_Row_init_189 (by decide) ?_
  refine lv_iload_n hx hb d_Row_init_170 rfl (lv_at hl 0 rfl) ?_
  refine lv_aload_n hx hb d_Row_init_171 rfl (lv_at hl 1 rfl) ?_
  refine gw_get hx hb hT i_Row hown hK hG hM52_o rfl 7 (by decide) (hT _ wm_243) (fun _ h => h) rfl d_Row_init_172 ?_
  refine gw_alen (v := 4) hx hb hK hG 2 hM52_cu rfl rfl d_Row_init_175 ?_
  refine lv_icmp_ge (tgt := 192) hx hb d_Row_init_176 (by decide) (fun z_ => absurd z_ (by decide)) (fun c_176 => ?_)
  refine lv_aload_n hx hb d_Row_init_179 rfl (lv_at hl 1 rfl) ?_
  refine gw_get hx hb hT i_Row hown hK hG hM52_o rfl 7 (by decide) (hT _ wm_243) (fun _ h => h) rfl d_Row_init_180 ?_
  refine lv_iload_n hx hb d_Row_init_183 rfl (lv_at hl 0 rfl) ?_
  refine lv_iconst (v := 1) hx hb d_Row_init_184 (by decide) ?_
  refine gw_zast hx hb hK hG hM52_cu (by unfold vp_in; decide) d_Row_init_185 (fun H locs hG => ?_)
  obtain ⟨M53, e_M53⟩ : ∃ Y_ : gM, Y_ = gw_up M52 cu (.inl (cZ, 4, .inl (upd (upd (fun _ => 0) (0 : Int32).toNatClampNeg (vp_nar .boolean 1)) (1 : Int32).toNatClampNeg (vp_nar .boolean 1)))) := ⟨_, rfl⟩
  replace hG := gw_nm e_M53 hG
  have hM53_o := (congrFun e_M53 o).trans ((gw_miss (gw_neA hM52_cu hM52_o).symm).trans hM52_o)
  have hM53_bp := (congrFun e_M53 bp).trans ((gw_miss ne_bp_cu).trans hM52_bp)
  have hM53_cu := (congrFun e_M53 cu).trans gw_hit
  have hfa_M53 := hfa_M52.upI (e' := .inl (cZ, 4, .inl (upd (upd (fun _ => 0) (0 : Int32).toNatClampNeg (vp_nar .boolean 1)) (1 : Int32).toNatClampNeg (vp_nar .boolean 1)))) hM52_cu ⟨_, _, _, rfl⟩
  rw [← e_M53] at hfa_M53
  refine lv_iinc (v := 2) (lv' := [(1, .int 2), (0, .ref o)]) hx hb d_Row_init_186 hl (k := 0) rfl (by decide) (by decide) rfl (fun ls hl => ?_)
  refine lv_goto (tgt := 170) hx hb d_Row_init_189 (by decide) ?_
  refine lv_iload_n hx hb d_Row_init_170 rfl (lv_at hl 0 rfl) ?_
  refine lv_aload_n hx hb d_Row_init_171 rfl (lv_at hl 1 rfl) ?_
  refine gw_get hx hb hT i_Row hown hK hG hM53_o rfl 7 (by decide) (hT _ wm_243) (fun _ h => h) rfl d_Row_init_172 ?_
  refine gw_alen (v := 4) hx hb hK hG 2 hM53_cu rfl rfl d_Row_init_175 ?_
  refine lv_icmp_ge (tgt := 192) hx hb d_Row_init_176 (by decide) (fun z_ => absurd z_ (by decide)) (fun c_176 => ?_)
  refine lv_aload_n hx hb d_Row_init_179 rfl (lv_at hl 1 rfl) ?_
  refine gw_get hx hb hT i_Row hown hK hG hM53_o rfl 7 (by decide) (hT _ wm_243) (fun _ h => h) rfl d_Row_init_180 ?_
  refine lv_iload_n hx hb d_Row_init_183 rfl (lv_at hl 0 rfl) ?_
  refine lv_iconst (v := 1) hx hb d_Row_init_184 (by decide) ?_
  refine gw_zast hx hb hK hG hM53_cu (by unfold vp_in; decide) d_Row_init_185 (fun H locs hG => ?_)
  obtain ⟨M54, e_M54⟩ : ∃ Y_ : gM, Y_ = gw_up M53 cu (.inl (cZ, 4, .inl (upd (upd (upd (fun _ => 0) (0 : Int32).toNatClampNeg (vp_nar .boolean 1)) (1 : Int32).toNatClampNeg (vp_nar .boolean 1)) (2 : Int32).toNatClampNeg (vp_nar .boolean 1)))) := ⟨_, rfl⟩
  replace hG := gw_nm e_M54 hG
  have hM54_o := (congrFun e_M54 o).trans ((gw_miss (gw_neA hM53_cu hM53_o).symm).trans hM53_o)
  have hM54_bp := (congrFun e_M54 bp).trans ((gw_miss ne_bp_cu).trans hM53_bp)
  have hM54_cu := (congrFun e_M54 cu).trans gw_hit
  have hfa_M54 := hfa_M53.upI (e' := .inl (cZ, 4, .inl (upd (upd (upd (fun _ => 0) (0 : Int32).toNatClampNeg (vp_nar .boolean 1)) (1 : Int32).toNatClampNeg (vp_nar .boolean 1)) (2 : Int32).toNatClampNeg (vp_nar .boolean 1)))) hM53_cu ⟨_, _, _, rfl⟩
  rw [← e_M54] at hfa_M54
  refine lv_iinc (v := 3) (lv' := [(1, .int 3), (0, .ref o)]) hx hb d_Row_init_186 hl (k := 0) rfl (by decide) (by decide) rfl (fun ls hl => ?_)
  refine lv_goto (tgt := 170) hx hb d_Row_init_189 (by decide) ?_
  refine lv_iload_n hx hb d_Row_init_170 rfl (lv_at hl 0 rfl) ?_
  refine lv_aload_n hx hb d_Row_init_171 rfl (lv_at hl 1 rfl) ?_
  refine gw_get hx hb hT i_Row hown hK hG hM54_o rfl 7 (by decide) (hT _ wm_243) (fun _ h => h) rfl d_Row_init_172 ?_
  refine gw_alen (v := 4) hx hb hK hG 2 hM54_cu rfl rfl d_Row_init_175 ?_
  refine lv_icmp_ge (tgt := 192) hx hb d_Row_init_176 (by decide) (fun z_ => absurd z_ (by decide)) (fun c_176 => ?_)
  refine lv_aload_n hx hb d_Row_init_179 rfl (lv_at hl 1 rfl) ?_
  refine gw_get hx hb hT i_Row hown hK hG hM54_o rfl 7 (by decide) (hT _ wm_243) (fun _ h => h) rfl d_Row_init_180 ?_
  refine lv_iload_n hx hb d_Row_init_183 rfl (lv_at hl 0 rfl) ?_
  refine lv_iconst (v := 1) hx hb d_Row_init_184 (by decide) ?_
  refine gw_zast hx hb hK hG hM54_cu (by unfold vp_in; decide) d_Row_init_185 (fun H locs hG => ?_)
  obtain ⟨M55, e_M55⟩ : ∃ Y_ : gM, Y_ = gw_up M54 cu (.inl (cZ, 4, .inl (upd (upd (upd (upd (fun _ => 0) (0 : Int32).toNatClampNeg (vp_nar .boolean 1)) (1 : Int32).toNatClampNeg (vp_nar .boolean 1)) (2 : Int32).toNatClampNeg (vp_nar .boolean 1)) (3 : Int32).toNatClampNeg (vp_nar .boolean 1)))) := ⟨_, rfl⟩
  replace hG := gw_nm e_M55 hG
  have hM55_o := (congrFun e_M55 o).trans ((gw_miss (gw_neA hM54_cu hM54_o).symm).trans hM54_o)
  have hM55_bp := (congrFun e_M55 bp).trans ((gw_miss ne_bp_cu).trans hM54_bp)
  have hM55_cu := (congrFun e_M55 cu).trans gw_hit
  have hfa_M55 := hfa_M54.upI (e' := .inl (cZ, 4, .inl (upd (upd (upd (upd (fun _ => 0) (0 : Int32).toNatClampNeg (vp_nar .boolean 1)) (1 : Int32).toNatClampNeg (vp_nar .boolean 1)) (2 : Int32).toNatClampNeg (vp_nar .boolean 1)) (3 : Int32).toNatClampNeg (vp_nar .boolean 1)))) hM54_cu ⟨_, _, _, rfl⟩
  rw [← e_M55] at hfa_M55
  refine lv_iinc (v := 4) (lv' := [(1, .int 4), (0, .ref o)]) hx hb d_Row_init_186 hl (k := 0) rfl (by decide) (by decide) rfl (fun ls hl => ?_)
  refine lv_goto (tgt := 170) hx hb d_Row_init_189 (by decide) ?_
  refine lv_iload_n hx hb d_Row_init_170 rfl (lv_at hl 0 rfl) ?_
  refine lv_aload_n hx hb d_Row_init_171 rfl (lv_at hl 1 rfl) ?_
  refine gw_get hx hb hT i_Row hown hK hG hM55_o rfl 7 (by decide) (hT _ wm_243) (fun _ h => h) rfl d_Row_init_172 ?_
  refine gw_alen (v := 4) hx hb hK hG 2 hM55_cu rfl rfl d_Row_init_175 ?_
  refine lv_icmp_ge (tgt := 192) hx hb d_Row_init_176 (by decide) (fun c_176 => ?_) (fun z_ => absurd (by decide) z_)
  exact gw_vret hx hb hr hlk hG (⟨_, _, _, hfa_M55⟩) (Nat.le_of_ble_eq_true rfl) (Nat.le_of_ble_eq_true rfl) d_Row_init_192
end
