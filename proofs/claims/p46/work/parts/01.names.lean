-- ===== PART A: goes FIRST, ahead of the names: the tables' words, and 'selects' of the private methods out of them =====
/-- a private method of a class that the tables say can be made, by its rows of tables_1 -/
def lw_okq (q : MethodName × Nat) : Prop := (q.1.cls ≠ "java/lang/invoke/MethodHandle" ∧ q.1.cls ≠ "java/lang/invoke/VarHandle") ∧ Cond.instantiable q.1.cls q.2 ∈ tables_1 ∧ Cond.privateMethod q.1 ∈ tables_1 ∧ Cond.instanceMethod q.1 ∈ tables_1
theorem lw_p0 : lw_okq (⟨"java/util/ArrayList", "add", "(Ljava/lang/Object;[Ljava/lang/Object;I)V"⟩, 3) := ⟨⟨by decide +kernel, by decide +kernel⟩, List.mem_of_getElem? (i := 36) (by decide +kernel), List.mem_of_getElem? (i := 158) (by decide +kernel), List.mem_of_getElem? (i := 159) (by decide +kernel)⟩
theorem lw_p1 : lw_okq (⟨"java/util/ArrayList", "grow", "()[Ljava/lang/Object;"⟩, 3) := ⟨⟨by decide +kernel, by decide +kernel⟩, List.mem_of_getElem? (i := 36) (by decide +kernel), List.mem_of_getElem? (i := 162) (by decide +kernel), List.mem_of_getElem? (i := 163) (by decide +kernel)⟩
theorem lw_p2 : lw_okq (⟨"java/util/ArrayList", "grow", "(I)[Ljava/lang/Object;"⟩, 3) := ⟨⟨by decide +kernel, by decide +kernel⟩, List.mem_of_getElem? (i := 36) (by decide +kernel), List.mem_of_getElem? (i := 166) (by decide +kernel), List.mem_of_getElem? (i := 167) (by decide +kernel)⟩
theorem lw_p3 : lw_okq (⟨"java/lang/Throwable", "fillInStackTrace", "(I)Ljava/lang/Throwable;"⟩, 6) := ⟨⟨by decide +kernel, by decide +kernel⟩, List.mem_of_getElem? (i := 308) (by decide +kernel), List.mem_of_getElem? (i := 306) (by decide +kernel), List.mem_of_getElem? (i := 307) (by decide +kernel)⟩
theorem lw_p4 : lw_okq (⟨"ThresholdRow", "sumEars", "()I"⟩, 14) := ⟨⟨by decide +kernel, by decide +kernel⟩, List.mem_of_getElem? (i := 28) (by decide +kernel), List.mem_of_getElem? (i := 357) (by decide +kernel), List.mem_of_getElem? (i := 358) (by decide +kernel)⟩
theorem lw_p5 : lw_okq (⟨"ThresholdRow", "sumHeaps", "()I"⟩, 14) := ⟨⟨by decide +kernel, by decide +kernel⟩, List.mem_of_getElem? (i := 28) (by decide +kernel), List.mem_of_getElem? (i := 362) (by decide +kernel), List.mem_of_getElem? (i := 363) (by decide +kernel)⟩
theorem lw_p6 : lw_okq (⟨"ThresholdRow", "sumBins", "()I"⟩, 14) := ⟨⟨by decide +kernel, by decide +kernel⟩, List.mem_of_getElem? (i := 28) (by decide +kernel), List.mem_of_getElem? (i := 366) (by decide +kernel), List.mem_of_getElem? (i := 367) (by decide +kernel)⟩
theorem lw_p7 : lw_okq (⟨"ThresholdRow", "sumCame", "()I"⟩, 14) := ⟨⟨by decide +kernel, by decide +kernel⟩, List.mem_of_getElem? (i := 28) (by decide +kernel), List.mem_of_getElem? (i := 374) (by decide +kernel), List.mem_of_getElem? (i := 375) (by decide +kernel)⟩
theorem lw_p8 : lw_okq (⟨"ThresholdRow", "heapsSound", "()Z"⟩, 14) := ⟨⟨by decide +kernel, by decide +kernel⟩, List.mem_of_getElem? (i := 28) (by decide +kernel), List.mem_of_getElem? (i := 378) (by decide +kernel), List.mem_of_getElem? (i := 379) (by decide +kernel)⟩
theorem lw_p9 : lw_okq (⟨"ThresholdRow", "binsSound", "()Z"⟩, 14) := ⟨⟨by decide +kernel, by decide +kernel⟩, List.mem_of_getElem? (i := 28) (by decide +kernel), List.mem_of_getElem? (i := 382) (by decide +kernel), List.mem_of_getElem? (i := 383) (by decide +kernel)⟩
theorem lw_p10 : lw_okq (⟨"ThresholdRow", "handAt", "(I)LThresholdRow$Hand;"⟩, 14) := ⟨⟨by decide +kernel, by decide +kernel⟩, List.mem_of_getElem? (i := 28) (by decide +kernel), List.mem_of_getElem? (i := 515) (by decide +kernel), List.mem_of_getElem? (i := 516) (by decide +kernel)⟩
theorem lw_p11 : lw_okq (⟨"java/util/ArrayList", "fastRemove", "([Ljava/lang/Object;I)V"⟩, 3) := ⟨⟨by decide +kernel, by decide +kernel⟩, List.mem_of_getElem? (i := 36) (by decide +kernel), List.mem_of_getElem? (i := 580) (by decide +kernel), List.mem_of_getElem? (i := 581) (by decide +kernel)⟩
theorem lw_p12 : lw_okq (⟨"ThresholdRow", "placeNeeded", "(LThresholdRow$Hand;)I"⟩, 14) := ⟨⟨by decide +kernel, by decide +kernel⟩, List.mem_of_getElem? (i := 28) (by decide +kernel), List.mem_of_getElem? (i := 600) (by decide +kernel), List.mem_of_getElem? (i := 601) (by decide +kernel)⟩
theorem lw_p13 : lw_okq (⟨"ThresholdRow", "checkGang", "()V"⟩, 14) := ⟨⟨by decide +kernel, by decide +kernel⟩, List.mem_of_getElem? (i := 28) (by decide +kernel), List.mem_of_getElem? (i := 658) (by decide +kernel), List.mem_of_getElem? (i := 659) (by decide +kernel)⟩
theorem lw_p14 : lw_okq (⟨"ThresholdRow$Gang", "leanOnOneAnother", "()V"⟩, 1) := ⟨⟨by decide +kernel, by decide +kernel⟩, List.mem_of_getElem? (i := 62) (by decide +kernel), List.mem_of_getElem? (i := 667) (by decide +kernel), List.mem_of_getElem? (i := 668) (by decide +kernel)⟩
theorem lw_p15 : lw_okq (⟨"ThresholdRow$Gang", "findLoser", "()LThresholdRow$Hand;"⟩, 1) := ⟨⟨by decide +kernel, by decide +kernel⟩, List.mem_of_getElem? (i := 62) (by decide +kernel), List.mem_of_getElem? (i := 675) (by decide +kernel), List.mem_of_getElem? (i := 676) (by decide +kernel)⟩
def lw_privs_1 : List (MethodName × Nat) := [(⟨"java/util/ArrayList", "add", "(Ljava/lang/Object;[Ljava/lang/Object;I)V"⟩, 3), (⟨"java/util/ArrayList", "grow", "()[Ljava/lang/Object;"⟩, 3), (⟨"java/util/ArrayList", "grow", "(I)[Ljava/lang/Object;"⟩, 3), (⟨"java/lang/Throwable", "fillInStackTrace", "(I)Ljava/lang/Throwable;"⟩, 6), (⟨"ThresholdRow", "sumEars", "()I"⟩, 14), (⟨"ThresholdRow", "sumHeaps", "()I"⟩, 14), (⟨"ThresholdRow", "sumBins", "()I"⟩, 14), (⟨"ThresholdRow", "sumCame", "()I"⟩, 14), (⟨"ThresholdRow", "heapsSound", "()Z"⟩, 14), (⟨"ThresholdRow", "binsSound", "()Z"⟩, 14), (⟨"ThresholdRow", "handAt", "(I)LThresholdRow$Hand;"⟩, 14), (⟨"java/util/ArrayList", "fastRemove", "([Ljava/lang/Object;I)V"⟩, 3), (⟨"ThresholdRow", "placeNeeded", "(LThresholdRow$Hand;)I"⟩, 14), (⟨"ThresholdRow", "checkGang", "()V"⟩, 14), (⟨"ThresholdRow$Gang", "leanOnOneAnother", "()V"⟩, 1), (⟨"ThresholdRow$Gang", "findLoser", "()LThresholdRow$Hand;"⟩, 1)]
theorem lw_r1 : ∀ q ∈ lw_privs_1, lw_okq q := List.forall_mem_cons.mpr ⟨lw_p0, List.forall_mem_cons.mpr ⟨lw_p1, List.forall_mem_cons.mpr ⟨lw_p2, List.forall_mem_cons.mpr ⟨lw_p3, List.forall_mem_cons.mpr ⟨lw_p4, List.forall_mem_cons.mpr ⟨lw_p5, List.forall_mem_cons.mpr ⟨lw_p6, List.forall_mem_cons.mpr ⟨lw_p7, List.forall_mem_cons.mpr ⟨lw_p8, List.forall_mem_cons.mpr ⟨lw_p9, List.forall_mem_cons.mpr ⟨lw_p10, List.forall_mem_cons.mpr ⟨lw_p11, List.forall_mem_cons.mpr ⟨lw_p12, List.forall_mem_cons.mpr ⟨lw_p13, List.forall_mem_cons.mpr ⟨lw_p14, List.forall_mem_cons.mpr ⟨lw_p15, fun _ h => absurd h List.not_mem_nil⟩⟩⟩⟩⟩⟩⟩⟩⟩⟩⟩⟩⟩⟩⟩⟩
theorem lw_p16 : lw_okq (⟨"ThresholdRow$Gang", "tireAll", "()V"⟩, 1) := ⟨⟨by decide +kernel, by decide +kernel⟩, List.mem_of_getElem? (i := 62) (by decide +kernel), List.mem_of_getElem? (i := 686) (by decide +kernel), List.mem_of_getElem? (i := 687) (by decide +kernel)⟩
theorem lw_p17 : lw_okq (⟨"ThresholdRow$Gang", "forgetErrors", "()V"⟩, 1) := ⟨⟨by decide +kernel, by decide +kernel⟩, List.mem_of_getElem? (i := 62) (by decide +kernel), List.mem_of_getElem? (i := 695) (by decide +kernel), List.mem_of_getElem? (i := 696) (by decide +kernel)⟩
theorem lw_p18 : lw_okq (⟨"ThresholdRow", "restHands", "()V"⟩, 14) := ⟨⟨by decide +kernel, by decide +kernel⟩, List.mem_of_getElem? (i := 28) (by decide +kernel), List.mem_of_getElem? (i := 708) (by decide +kernel), List.mem_of_getElem? (i := 709) (by decide +kernel)⟩
theorem lw_p19 : lw_okq (⟨"ThresholdRow", "feedRats", "()V"⟩, 14) := ⟨⟨by decide +kernel, by decide +kernel⟩, List.mem_of_getElem? (i := 28) (by decide +kernel), List.mem_of_getElem? (i := 717) (by decide +kernel), List.mem_of_getElem? (i := 718) (by decide +kernel)⟩
theorem lw_p20 : lw_okq (⟨"ThresholdRow", "fullestBin", "()LThresholdRow$Bin;"⟩, 14) := ⟨⟨by decide +kernel, by decide +kernel⟩, List.mem_of_getElem? (i := 28) (by decide +kernel), List.mem_of_getElem? (i := 721) (by decide +kernel), List.mem_of_getElem? (i := 722) (by decide +kernel)⟩
theorem lw_p21 : lw_okq (⟨"ThresholdRow", "binAt", "(I)LThresholdRow$Bin;"⟩, 14) := ⟨⟨by decide +kernel, by decide +kernel⟩, List.mem_of_getElem? (i := 28) (by decide +kernel), List.mem_of_getElem? (i := 725) (by decide +kernel), List.mem_of_getElem? (i := 726) (by decide +kernel)⟩
def lw_privs_2 : List (MethodName × Nat) := [(⟨"ThresholdRow$Gang", "tireAll", "()V"⟩, 1), (⟨"ThresholdRow$Gang", "forgetErrors", "()V"⟩, 1), (⟨"ThresholdRow", "restHands", "()V"⟩, 14), (⟨"ThresholdRow", "feedRats", "()V"⟩, 14), (⟨"ThresholdRow", "fullestBin", "()LThresholdRow$Bin;"⟩, 14), (⟨"ThresholdRow", "binAt", "(I)LThresholdRow$Bin;"⟩, 14)]
theorem lw_r2 : ∀ q ∈ lw_privs_2, lw_okq q := List.forall_mem_cons.mpr ⟨lw_p16, List.forall_mem_cons.mpr ⟨lw_p17, List.forall_mem_cons.mpr ⟨lw_p18, List.forall_mem_cons.mpr ⟨lw_p19, List.forall_mem_cons.mpr ⟨lw_p20, List.forall_mem_cons.mpr ⟨lw_p21, fun _ h => absurd h List.not_mem_nil⟩⟩⟩⟩⟩⟩
def lw_privs : List (MethodName × Nat) := lw_privs_1 ++ (lw_privs_2)
def lw_tbl : List Cond := k2_sels lw_privs ++ tables_1
theorem lw_privs_ok : ∀ q ∈ lw_privs, lw_okq q := by
  show ∀ q ∈ lw_privs_1 ++ (lw_privs_2), lw_okq q
  exact List.forall_mem_append.mpr ⟨lw_r1, lw_r2⟩
/-- the streams that the claim lets the run draw from -/
abbrev lw_cs : List Choice := [Jvm.Choice.named "NaN.bits"]
theorem lw_bits : nanBits ∈ lw_cs := by first | decide | exact List.mem_cons_self | simp [lw_cs, nanBits]
/-- the tables' words that a call carries on -/
def gT : List Cond := lw_tbl.filter goodWord
theorem gT_m {w : Cond} (h : w ∈ lw_tbl) (hg : goodWord w = true) : w ∈ gT := List.mem_filter.mpr ⟨h, hg⟩
theorem gT_all {ws : List Cond} (h : ∀ w ∈ ws, w ∈ lw_tbl) (hg : ws.all goodWord = true) : ∀ w ∈ ws, w ∈ gT := fun w k => gT_m (h w k) (List.all_eq_true.mp hg w k)
theorem gT_hts {args : Array Value} {s : State} (h : ∀ w ∈ lw_tbl, w.before args s = true) : ∀ w ∈ gT, w.before args s = true := fun w k => h w (List.mem_filter.mp k).1
theorem gT_gi {c0 c : Cond} (h : c ∈ gT) : GoodIn (c0 :: gT) (c :: gT) := by
  intro w hw
  have hm : w ∈ gT := by
    rcases List.mem_cons.mp hw with rfl | h1
    · exact h
    · exact h1
  exact ⟨List.mem_cons_of_mem _ hm, good_of_word (List.mem_filter.mp hm).2⟩
theorem gT_gi0 {c : Cond} (h : c ∈ gT) : GoodIn lw_tbl (c :: gT) := by
  intro w hw
  have hm : w ∈ gT := by
    rcases List.mem_cons.mp hw with rfl | h1
    · exact h
    · exact h1
  exact ⟨(List.mem_filter.mp hm).1, good_of_word (List.mem_filter.mp hm).2⟩
def R_Row : String := "ThresholdRow"
def F_Row : u_T := fun k => match k with
  | 0 => ("ThresholdRow", "hands", "Ljava/util/ArrayList;", true)
  | 1 => ("ThresholdRow", "lots", "Ljava/util/ArrayList;", true)
  | 2 => ("ThresholdRow", "bins", "Ljava/util/ArrayList;", true)
  | 3 => ("ThresholdRow", "gang", "LThresholdRow$Gang;", true)
  | 4 => ("ThresholdRow", "drum", "LThresholdRow$Drum;", true)
  | 5 => ("ThresholdRow", "ledger", "LThresholdRow$Ledger;", true)
  | 6 => ("ThresholdRow", "bushelPints", "[I", true)
  | 7 => ("ThresholdRow", "customs", "[Z", true)
  | 8 => ("ThresholdRow", "day", "I", false)
  | 9 => ("ThresholdRow", "z", "I", false)
  | 10 => ("ThresholdRow", "rats", "I", false)
  | 11 => ("ThresholdRow", "owls", "I", false)
  | 12 => ("ThresholdRow", "flour", "I", false)
  | _ => ("ThresholdRow", "money", "I", false)
def t_Row : Nat → FieldType := fun k => match k with
  | 0 => .object "java/util/ArrayList"
  | 1 => .object "java/util/ArrayList"
  | 2 => .object "java/util/ArrayList"
  | 3 => .object "ThresholdRow$Gang"
  | 4 => .object "ThresholdRow$Drum"
  | 5 => .object "ThresholdRow$Ledger"
  | 6 => .array .int
  | 7 => .array .boolean
  | 8 => .int
  | 9 => .int
  | 10 => .int
  | 11 => .int
  | 12 => .int
  | _ => .int
abbrev w_Row : List Cond := u_ws R_Row F_Row 14
def R_List : String := "java/util/ArrayList"
def F_List : u_T := fun k => match k with
  | 0 => ("java/util/AbstractList", "modCount", "I", false)
  | 1 => ("java/util/ArrayList", "elementData", "[Ljava/lang/Object;", false)
  | _ => ("java/util/ArrayList", "size", "I", false)
def t_List : Nat → FieldType := fun k => match k with
  | 0 => .int
  | 1 => .array (.object "java/lang/Object")
  | _ => .int
abbrev w_List : List Cond := u_ws R_List F_List 3
def R_Gang : String := "ThresholdRow$Gang"
def F_Gang : u_T := fun k => match k with
  | _ => ("ThresholdRow$Gang", "order", "Ljava/util/ArrayList;", true)
def t_Gang : Nat → FieldType := fun k => match k with
  | _ => .object "java/util/ArrayList"
abbrev w_Gang : List Cond := u_ws R_Gang F_Gang 1
def R_Drum : String := "ThresholdRow$Drum"
def F_Drum : u_T := fun k => match k with
  | 0 => ("ThresholdRow$Drum", "hiredTill", "I", false)
  | 1 => ("ThresholdRow$Drum", "testedOn", "I", false)
  | 2 => ("ThresholdRow$Drum", "carries", "I", false)
  | _ => ("ThresholdRow$Drum", "carriedCrop", "I", false)
def t_Drum : Nat → FieldType := fun k => match k with
  | 0 => .int
  | 1 => .int
  | 2 => .int
  | _ => .int
abbrev w_Drum : List Cond := u_ws R_Drum F_Drum 4
def R_Ledger : String := "ThresholdRow$Ledger"
def F_Ledger : u_T := fun k => match k with
  | 0 => ("ThresholdRow$Ledger", "tithe", "I", false)
  | 1 => ("ThresholdRow$Ledger", "gleaned", "I", false)
  | 2 => ("ThresholdRow$Ledger", "straw", "I", false)
  | 3 => ("ThresholdRow$Ledger", "blown", "I", false)
  | 4 => ("ThresholdRow$Ledger", "burnt", "I", false)
  | 5 => ("ThresholdRow$Ledger", "cleaned", "I", false)
  | 6 => ("ThresholdRow$Ledger", "eaten", "I", false)
  | 7 => ("ThresholdRow$Ledger", "ground", "I", false)
  | _ => ("ThresholdRow$Ledger", "sold", "I", false)
def t_Ledger : Nat → FieldType := fun k => match k with
  | 0 => .int
  | 1 => .int
  | 2 => .int
  | 3 => .int
  | 4 => .int
  | 5 => .int
  | 6 => .int
  | 7 => .int
  | _ => .int
abbrev w_Ledger : List Cond := u_ws R_Ledger F_Ledger 9
def R_Bin : String := "ThresholdRow$Bin"
def F_Bin : u_T := fun k => match k with
  | 0 => ("ThresholdRow$Bin", "crop", "I", false)
  | 1 => ("ThresholdRow$Bin", "grain", "I", false)
  | 2 => ("ThresholdRow$Bin", "bruised", "I", false)
  | _ => ("ThresholdRow$Bin", "foreign", "I", false)
def t_Bin : Nat → FieldType := fun k => match k with
  | 0 => .int
  | 1 => .int
  | 2 => .int
  | _ => .int
abbrev w_Bin : List Cond := u_ws R_Bin F_Bin 4
def R_Hand : String := "ThresholdRow$Hand"
def F_Hand : u_T := fun k => match k with
  | 0 => ("ThresholdRow$Hand", "strength", "I", true)
  | 1 => ("ThresholdRow$Hand", "habit", "I", true)
  | 2 => ("ThresholdRow$Hand", "fatigue", "I", false)
  | 3 => ("ThresholdRow$Hand", "hurt", "I", false)
  | 4 => ("ThresholdRow$Hand", "lost", "I", false)
  | 5 => ("ThresholdRow$Hand", "error", "I", false)
  | 6 => ("ThresholdRow$Hand", "way", "C", false)
  | 7 => ("ThresholdRow$Hand", "rate", "I", false)
  | 8 => ("ThresholdRow$Hand", "owed", "I", false)
  | _ => ("ThresholdRow$Hand", "workedOn", "I", false)
def t_Hand : Nat → FieldType := fun k => match k with
  | 0 => .int
  | 1 => .int
  | 2 => .int
  | 3 => .int
  | 4 => .int
  | 5 => .int
  | 6 => .char
  | 7 => .int
  | 8 => .int
  | _ => .int
abbrev w_Hand : List Cond := u_ws R_Hand F_Hand 10
abbrev classes : List vw_C := [(R_Row, F_Row, 14), (R_List, F_List, 3), (R_Gang, F_Gang, 1), (R_Drum, F_Drum, 4), (R_Ledger, F_Ledger, 9), (R_Bin, F_Bin, 4), (R_Hand, F_Hand, 10)]
theorem n_Row : ∀ a, a < 14 → ∀ b, b < 14 → a ≠ b → (F_Row a).2.1 ≠ (F_Row b).2.1 := by decide +kernel
theorem t_Row_ok : ∀ k, k < 14 → parseFieldDescriptor (F_Row k).2.2.1 = some (t_Row k) := by decide +kernel
theorem j_Row : ∀ w ∈ w_Row, w ∈ lw_tbl := by decide +kernel
theorem i_Row : ∀ w ∈ w_Row, w ∈ gT := gT_all j_Row (by decide +kernel)
theorem n_List : ∀ a, a < 3 → ∀ b, b < 3 → a ≠ b → (F_List a).2.1 ≠ (F_List b).2.1 := by decide +kernel
theorem t_List_ok : ∀ k, k < 3 → parseFieldDescriptor (F_List k).2.2.1 = some (t_List k) := by decide +kernel
theorem j_List : ∀ w ∈ w_List, w ∈ lw_tbl := by decide +kernel
theorem i_List : ∀ w ∈ w_List, w ∈ gT := gT_all j_List (by decide +kernel)
theorem n_Gang : ∀ a, a < 1 → ∀ b, b < 1 → a ≠ b → (F_Gang a).2.1 ≠ (F_Gang b).2.1 := by decide +kernel
theorem t_Gang_ok : ∀ k, k < 1 → parseFieldDescriptor (F_Gang k).2.2.1 = some (t_Gang k) := by decide +kernel
theorem j_Gang : ∀ w ∈ w_Gang, w ∈ lw_tbl := by decide +kernel
theorem i_Gang : ∀ w ∈ w_Gang, w ∈ gT := gT_all j_Gang (by decide +kernel)
theorem n_Drum : ∀ a, a < 4 → ∀ b, b < 4 → a ≠ b → (F_Drum a).2.1 ≠ (F_Drum b).2.1 := by decide +kernel
theorem t_Drum_ok : ∀ k, k < 4 → parseFieldDescriptor (F_Drum k).2.2.1 = some (t_Drum k) := by decide +kernel
theorem j_Drum : ∀ w ∈ w_Drum, w ∈ lw_tbl := by decide +kernel
theorem i_Drum : ∀ w ∈ w_Drum, w ∈ gT := gT_all j_Drum (by decide +kernel)
theorem n_Ledger : ∀ a, a < 9 → ∀ b, b < 9 → a ≠ b → (F_Ledger a).2.1 ≠ (F_Ledger b).2.1 := by decide +kernel
theorem t_Ledger_ok : ∀ k, k < 9 → parseFieldDescriptor (F_Ledger k).2.2.1 = some (t_Ledger k) := by decide +kernel
theorem j_Ledger : ∀ w ∈ w_Ledger, w ∈ lw_tbl := by decide +kernel
theorem i_Ledger : ∀ w ∈ w_Ledger, w ∈ gT := gT_all j_Ledger (by decide +kernel)
theorem n_Bin : ∀ a, a < 4 → ∀ b, b < 4 → a ≠ b → (F_Bin a).2.1 ≠ (F_Bin b).2.1 := by decide +kernel
theorem t_Bin_ok : ∀ k, k < 4 → parseFieldDescriptor (F_Bin k).2.2.1 = some (t_Bin k) := by decide +kernel
theorem j_Bin : ∀ w ∈ w_Bin, w ∈ lw_tbl := by decide +kernel
theorem i_Bin : ∀ w ∈ w_Bin, w ∈ gT := gT_all j_Bin (by decide +kernel)
theorem n_Hand : ∀ a, a < 10 → ∀ b, b < 10 → a ≠ b → (F_Hand a).2.1 ≠ (F_Hand b).2.1 := by decide +kernel
theorem t_Hand_ok : ∀ k, k < 10 → parseFieldDescriptor (F_Hand k).2.2.1 = some (t_Hand k) := by decide +kernel
theorem j_Hand : ∀ w ∈ w_Hand, w ∈ lw_tbl := by decide +kernel
theorem i_Hand : ∀ w ∈ w_Hand, w ∈ gT := gT_all j_Hand (by decide +kernel)
abbrev b_Row_init : ByteArray := prog_1_method_1_code
def y_Row_init : MethodName := ⟨"ThresholdRow", "<init>", "()V"⟩
abbrev b_Object_init : ByteArray := object_method_1_code
def y_Object_init : MethodName := ⟨"java/lang/Object", "<init>", "()V"⟩
abbrev b_AL_init : ByteArray := prog_30_method_2_code
def y_AL_init : MethodName := ⟨"java/util/ArrayList", "<init>", "()V"⟩
abbrev b_AbstractList_init : ByteArray := prog_29_method_1_code
def y_AbstractList_init : MethodName := ⟨"java/util/AbstractList", "<init>", "()V"⟩
abbrev b_AbstractCollection_init : ByteArray := prog_28_method_1_code
def y_AbstractCollection_init : MethodName := ⟨"java/util/AbstractCollection", "<init>", "()V"⟩
abbrev b_Gang_init : ByteArray := prog_4_method_1_code
def y_Gang_init : MethodName := ⟨"ThresholdRow$Gang", "<init>", "()V"⟩
abbrev b_Drum_init : ByteArray := prog_3_method_1_code
def y_Drum_init : MethodName := ⟨"ThresholdRow$Drum", "<init>", "()V"⟩
abbrev b_Ledger_init : ByteArray := prog_6_method_1_code
def y_Ledger_init : MethodName := ⟨"ThresholdRow$Ledger", "<init>", "()V"⟩
abbrev b_Bin_init : ByteArray := prog_2_method_1_code
def y_Bin_init : MethodName := ⟨"ThresholdRow$Bin", "<init>", "()V"⟩
abbrev b_AL_add : ByteArray := prog_30_method_25_code
def y_AL_add : MethodName := ⟨"java/util/ArrayList", "add", "(Ljava/lang/Object;)Z"⟩
abbrev b_AL_add_2 : ByteArray := prog_30_method_24_code
def y_AL_add_2 : MethodName := ⟨"java/util/ArrayList", "add", "(Ljava/lang/Object;[Ljava/lang/Object;I)V"⟩
abbrev b_AL_grow : ByteArray := prog_30_method_7_code
def y_AL_grow : MethodName := ⟨"java/util/ArrayList", "grow", "()[Ljava/lang/Object;"⟩
abbrev b_AL_grow_2 : ByteArray := prog_30_method_6_code
def y_AL_grow_2 : MethodName := ⟨"java/util/ArrayList", "grow", "(I)[Ljava/lang/Object;"⟩
abbrev b_ArraysSupport_newLength : ByteArray := prog_38_method_27_code
def y_ArraysSupport_newLength : MethodName := ⟨"jdk/internal/util/ArraysSupport", "newLength", "(III)I"⟩
abbrev b_Math_max : ByteArray := prog_22_method_65_code
def y_Math_max : MethodName := ⟨"java/lang/Math", "max", "(II)I"⟩
abbrev b_ArraysSupport_hugeLength : ByteArray := prog_38_method_28_code
def y_ArraysSupport_hugeLength : MethodName := ⟨"jdk/internal/util/ArraysSupport", "hugeLength", "(II)I"⟩
abbrev b_Arrays_copyOf : ByteArray := prog_31_method_119_code
def y_Arrays_copyOf : MethodName := ⟨"java/util/Arrays", "copyOf", "([Ljava/lang/Object;I)[Ljava/lang/Object;"⟩
abbrev b_Arrays_copyOf_2 : ByteArray := prog_31_method_120_code
def y_Arrays_copyOf_2 : MethodName := ⟨"java/util/Arrays", "copyOf", "([Ljava/lang/Object;ILjava/lang/Class;)[Ljava/lang/Object;"⟩
abbrev b_Math_min : ByteArray := prog_22_method_69_code
def y_Math_min : MethodName := ⟨"java/lang/Math", "min", "(II)I"⟩
abbrev b_Row_meanFatigue : ByteArray := prog_1_method_43_code
def y_Row_meanFatigue : MethodName := ⟨"ThresholdRow", "meanFatigue", "()D"⟩
abbrev b_AL_size : ByteArray := prog_30_method_8_code
def y_AL_size : MethodName := ⟨"java/util/ArrayList", "size", "()I"⟩
abbrev b_Throwable_init : ByteArray := prog_26_method_1_code
def y_Throwable_init : MethodName := ⟨"java/lang/Throwable", "<init>", "()V"⟩
abbrev b_Throwable_fillInStackTrace : ByteArray := prog_26_method_18_code
def y_Throwable_fillInStackTrace : MethodName := ⟨"java/lang/Throwable", "fillInStackTrace", "()Ljava/lang/Throwable;"⟩
abbrev b_ArithmeticException_init : ByteArray := prog_14_method_2_code
def y_ArithmeticException_init : MethodName := ⟨"java/lang/ArithmeticException", "<init>", "(Ljava/lang/String;)V"⟩
abbrev b_RuntimeException_init : ByteArray := prog_23_method_2_code
def y_RuntimeException_init : MethodName := ⟨"java/lang/RuntimeException", "<init>", "(Ljava/lang/String;)V"⟩
abbrev b_Exception_init : ByteArray := prog_17_method_2_code
def y_Exception_init : MethodName := ⟨"java/lang/Exception", "<init>", "(Ljava/lang/String;)V"⟩
abbrev b_Throwable_init_2 : ByteArray := prog_26_method_2_code
def y_Throwable_init_2 : MethodName := ⟨"java/lang/Throwable", "<init>", "(Ljava/lang/String;)V"⟩
abbrev b_AL_get : ByteArray := prog_30_method_20_code
def y_AL_get : MethodName := ⟨"java/util/ArrayList", "get", "(I)Ljava/lang/Object;"⟩
abbrev b_Objects_checkIndex : ByteArray := prog_35_method_17_code
def y_Objects_checkIndex : MethodName := ⟨"java/util/Objects", "checkIndex", "(II)I"⟩
abbrev b_Preconditions_checkIndex : ByteArray := prog_39_method_11_code
def y_Preconditions_checkIndex : MethodName := ⟨"jdk/internal/util/Preconditions", "checkIndex", "(IILjava/util/function/BiFunction;)I"⟩
abbrev b_AL_elementData : ByteArray := prog_30_method_18_code
def y_AL_elementData : MethodName := ⟨"java/util/ArrayList", "elementData", "(I)Ljava/lang/Object;"⟩
abbrev b_Row_isSound : ByteArray := prog_1_method_44_code
def y_Row_isSound : MethodName := ⟨"ThresholdRow", "isSound", "()Z"⟩
abbrev b_Row_sumEars : ByteArray := prog_1_method_60_code
def y_Row_sumEars : MethodName := ⟨"ThresholdRow", "sumEars", "()I"⟩
abbrev b_Row_sumHeaps : ByteArray := prog_1_method_61_code
def y_Row_sumHeaps : MethodName := ⟨"ThresholdRow", "sumHeaps", "()I"⟩
abbrev b_Row_sumBins : ByteArray := prog_1_method_62_code
def y_Row_sumBins : MethodName := ⟨"ThresholdRow", "sumBins", "()I"⟩
abbrev b_Ledger_sumGone : ByteArray := prog_6_method_3_code
def y_Ledger_sumGone : MethodName := ⟨"ThresholdRow$Ledger", "sumGone", "()I"⟩
abbrev b_Row_sumCame : ByteArray := prog_1_method_59_code
def y_Row_sumCame : MethodName := ⟨"ThresholdRow", "sumCame", "()I"⟩
abbrev b_Row_heapsSound : ByteArray := prog_1_method_63_code
def y_Row_heapsSound : MethodName := ⟨"ThresholdRow", "heapsSound", "()Z"⟩
abbrev b_Row_binsSound : ByteArray := prog_1_method_64_code
def y_Row_binsSound : MethodName := ⟨"ThresholdRow", "binsSound", "()Z"⟩
abbrev b_Gang_hasHurt : ByteArray := prog_4_method_16_code
def y_Gang_hasHurt : MethodName := ⟨"ThresholdRow$Gang", "hasHurt", "()Z"⟩
abbrev b_Law_addHand : ByteArray := method_3_code
def y_Law_addHand : MethodName := ⟨"ThresholdRowLaw", "addHand", "(LThresholdRow;II)I"⟩
abbrev b_Row_addHand : ByteArray := prog_1_method_2_code
def y_Row_addHand : MethodName := ⟨"ThresholdRow", "addHand", "(II)I"⟩
abbrev b_Row_checkRange : ByteArray := prog_1_method_45_code
def y_Row_checkRange : MethodName := ⟨"ThresholdRow", "checkRange", "(III)V"⟩
abbrev b_IllegalArgumentException_init : ByteArray := prog_18_method_2_code
def y_IllegalArgumentException_init : MethodName := ⟨"java/lang/IllegalArgumentException", "<init>", "(Ljava/lang/String;)V"⟩
abbrev b_IllegalStateException_init : ByteArray := prog_19_method_2_code
def y_IllegalStateException_init : MethodName := ⟨"java/lang/IllegalStateException", "<init>", "(Ljava/lang/String;)V"⟩
abbrev b_Hand_init : ByteArray := prog_5_method_1_code
def y_Hand_init : MethodName := ⟨"ThresholdRow$Hand", "<init>", "(II)V"⟩
abbrev b_Law_stand : ByteArray := method_4_code
def y_Law_stand : MethodName := ⟨"ThresholdRowLaw", "stand", "(LThresholdRow;I)I"⟩
abbrev b_ArrayIndexOutOfBoundsException_init : ByteArray := prog_15_method_2_code
def y_ArrayIndexOutOfBoundsException_init : MethodName := ⟨"java/lang/ArrayIndexOutOfBoundsException", "<init>", "(Ljava/lang/String;)V"⟩
abbrev b_IndexOutOfBoundsException_init : ByteArray := prog_20_method_2_code
def y_IndexOutOfBoundsException_init : MethodName := ⟨"java/lang/IndexOutOfBoundsException", "<init>", "(Ljava/lang/String;)V"⟩
abbrev b_Row_stand : ByteArray := prog_1_method_3_code
def y_Row_stand : MethodName := ⟨"ThresholdRow", "stand", "(I)I"⟩
abbrev b_Row_handAt : ByteArray := prog_1_method_47_code
def y_Row_handAt : MethodName := ⟨"ThresholdRow", "handAt", "(I)LThresholdRow$Hand;"⟩
abbrev b_Gang_placeFor : ByteArray := prog_4_method_3_code
def y_Gang_placeFor : MethodName := ⟨"ThresholdRow$Gang", "placeFor", "(LThresholdRow$Hand;)I"⟩
abbrev b_UnsupportedOperationException_init : ByteArray := prog_27_method_2_code
def y_UnsupportedOperationException_init : MethodName := ⟨"java/lang/UnsupportedOperationException", "<init>", "(Ljava/lang/String;)V"⟩
abbrev b_Gang_count : ByteArray := prog_4_method_2_code
def y_Gang_count : MethodName := ⟨"ThresholdRow$Gang", "count", "()I"⟩
abbrev b_Gang_takeIn : ByteArray := prog_4_method_4_code
def y_Gang_takeIn : MethodName := ⟨"ThresholdRow$Gang", "takeIn", "(LThresholdRow$Hand;)V"⟩
abbrev b_Law_leave : ByteArray := method_5_code
def y_Law_leave : MethodName := ⟨"ThresholdRowLaw", "leave", "(LThresholdRow;I)I"⟩
abbrev b_Row_leave : ByteArray := prog_1_method_4_code
def y_Row_leave : MethodName := ⟨"ThresholdRow", "leave", "(I)I"⟩
abbrev b_Gang_letGo : ByteArray := prog_4_method_5_code
def y_Gang_letGo : MethodName := ⟨"ThresholdRow$Gang", "letGo", "(LThresholdRow$Hand;)V"⟩
abbrev b_AL_remove : ByteArray := prog_30_method_29_code
def y_AL_remove : MethodName := ⟨"java/util/ArrayList", "remove", "(I)Ljava/lang/Object;"⟩
abbrev b_AL_fastRemove : ByteArray := prog_30_method_39_code
def y_AL_fastRemove : MethodName := ⟨"java/util/ArrayList", "fastRemove", "([Ljava/lang/Object;I)V"⟩
abbrev b_Law_placeOf : ByteArray := method_6_code
def y_Law_placeOf : MethodName := ⟨"ThresholdRowLaw", "placeOf", "(LThresholdRow;I)I"⟩
abbrev b_Row_placeOf : ByteArray := prog_1_method_5_code
def y_Row_placeOf : MethodName := ⟨"ThresholdRow", "placeOf", "(I)I"⟩
abbrev b_Law_errorOf : ByteArray := method_7_code
def y_Law_errorOf : MethodName := ⟨"ThresholdRowLaw", "errorOf", "(LThresholdRow;I)I"⟩
abbrev b_Row_errorOf : ByteArray := prog_1_method_6_code
def y_Row_errorOf : MethodName := ⟨"ThresholdRow", "errorOf", "(I)I"⟩
abbrev b_Row_placeNeeded : ByteArray := prog_1_method_51_code
def y_Row_placeNeeded : MethodName := ⟨"ThresholdRow", "placeNeeded", "(LThresholdRow$Hand;)I"⟩
abbrev b_NoSuchElementException_init : ByteArray := prog_34_method_4_code
def y_NoSuchElementException_init : MethodName := ⟨"java/util/NoSuchElementException", "<init>", "(Ljava/lang/String;)V"⟩
abbrev b_Law_strokeOf : ByteArray := method_8_code
def y_Law_strokeOf : MethodName := ⟨"ThresholdRowLaw", "strokeOf", "(LThresholdRow;I)I"⟩
abbrev b_Row_strokeOf : ByteArray := prog_1_method_7_code
def y_Row_strokeOf : MethodName := ⟨"ThresholdRow", "strokeOf", "(I)I"⟩
abbrev b_Gang_tickAt : ByteArray := prog_4_method_6_code
def y_Gang_tickAt : MethodName := ⟨"ThresholdRow$Gang", "tickAt", "(I)I"⟩
abbrev b_Law_fatigue : ByteArray := method_9_code
def y_Law_fatigue : MethodName := ⟨"ThresholdRowLaw", "fatigue", "(LThresholdRow;I)I"⟩
abbrev b_Row_fatigue : ByteArray := prog_1_method_8_code
def y_Row_fatigue : MethodName := ⟨"ThresholdRow", "fatigue", "(I)I"⟩
abbrev b_Law_hurt : ByteArray := method_10_code
def y_Law_hurt : MethodName := ⟨"ThresholdRowLaw", "hurt", "(LThresholdRow;I)I"⟩
abbrev b_Row_hurt : ByteArray := prog_1_method_9_code
def y_Row_hurt : MethodName := ⟨"ThresholdRow", "hurt", "(I)I"⟩
abbrev b_Law_lost : ByteArray := method_11_code
def y_Law_lost : MethodName := ⟨"ThresholdRowLaw", "lost", "(LThresholdRow;I)I"⟩
abbrev b_Row_lost : ByteArray := prog_1_method_10_code
def y_Row_lost : MethodName := ⟨"ThresholdRow", "lost", "(I)I"⟩
abbrev b_Law_practise : ByteArray := method_12_code
def y_Law_practise : MethodName := ⟨"ThresholdRowLaw", "practise", "(LThresholdRow;I)I"⟩
abbrev b_Row_practise : ByteArray := prog_1_method_11_code
def y_Row_practise : MethodName := ⟨"ThresholdRow", "practise", "(I)I"⟩
abbrev b_Row_checkGang : ByteArray := prog_1_method_46_code
def y_Row_checkGang : MethodName := ⟨"ThresholdRow", "checkGang", "()V"⟩
abbrev b_Gang_beatRound : ByteArray := prog_4_method_7_code
def y_Gang_beatRound : MethodName := ⟨"ThresholdRow$Gang", "beatRound", "()Z"⟩
abbrev b_Gang_leanOnOneAnother : ByteArray := prog_4_method_8_code
def y_Gang_leanOnOneAnother : MethodName := ⟨"ThresholdRow$Gang", "leanOnOneAnother", "()V"⟩
abbrev b_Hand_drift : ByteArray := prog_5_method_2_code
def y_Hand_drift : MethodName := ⟨"ThresholdRow$Hand", "drift", "()I"⟩
abbrev b_Gang_findLoser : ByteArray := prog_4_method_9_code
def y_Gang_findLoser : MethodName := ⟨"ThresholdRow$Gang", "findLoser", "()LThresholdRow$Hand;"⟩
abbrev b_Gang_worseOf : ByteArray := prog_4_method_10_code
def y_Gang_worseOf : MethodName := ⟨"ThresholdRow$Gang", "worseOf", "(LThresholdRow$Hand;LThresholdRow$Hand;)LThresholdRow$Hand;"⟩
abbrev b_Math_abs : ByteArray := prog_22_method_59_code
def y_Math_abs : MethodName := ⟨"java/lang/Math", "abs", "(I)I"⟩
abbrev b_Gang_tireAll : ByteArray := prog_4_method_11_code
def y_Gang_tireAll : MethodName := ⟨"ThresholdRow$Gang", "tireAll", "()V"⟩
abbrev b_Hand_tire : ByteArray := prog_5_method_3_code
def y_Hand_tire : MethodName := ⟨"ThresholdRow$Hand", "tire", "()V"⟩
abbrev b_Gang_forgetErrors : ByteArray := prog_4_method_12_code
def y_Gang_forgetErrors : MethodName := ⟨"ThresholdRow$Gang", "forgetErrors", "()V"⟩
abbrev b_Law_pass : ByteArray := method_13_code
def y_Law_pass : MethodName := ⟨"ThresholdRowLaw", "pass", "(LThresholdRow;I)I"⟩
abbrev b_Row_pass : ByteArray := prog_1_method_34_code
def y_Row_pass : MethodName := ⟨"ThresholdRow", "pass", "(I)I"⟩
abbrev b_Row_restHands : ByteArray := prog_1_method_56_code
def y_Row_restHands : MethodName := ⟨"ThresholdRow", "restHands", "()V"⟩
abbrev b_Hand_rest : ByteArray := prog_5_method_4_code
def y_Hand_rest : MethodName := ⟨"ThresholdRow$Hand", "rest", "()V"⟩
abbrev b_Row_feedRats : ByteArray := prog_1_method_57_code
def y_Row_feedRats : MethodName := ⟨"ThresholdRow", "feedRats", "()V"⟩
abbrev b_Row_fullestBin : ByteArray := prog_1_method_58_code
def y_Row_fullestBin : MethodName := ⟨"ThresholdRow", "fullestBin", "()LThresholdRow$Bin;"⟩
abbrev b_Row_binAt : ByteArray := prog_1_method_49_code
def y_Row_binAt : MethodName := ⟨"ThresholdRow", "binAt", "(I)LThresholdRow$Bin;"⟩
abbrev b_Bin_takeOut : ByteArray := prog_2_method_4_code
def y_Bin_takeOut : MethodName := ⟨"ThresholdRow$Bin", "takeOut", "(I)V"⟩
abbrev b_Law_in : ByteArray := method_14_code
def y_Law_in : MethodName := ⟨"ThresholdRowLaw", "in", "([III)I"⟩
abbrev b_Law_cell : ByteArray := method_2_code
def y_Law_cell : MethodName := ⟨"ThresholdRowLaw", "cell", "([II)I"⟩
abbrev b_Law_goes : ByteArray := method_16_code
def y_Law_goes : MethodName := ⟨"ThresholdRowLaw", "goes", "([I[I[I[I[I[I)Z"⟩
abbrev b_Law_amount : ByteArray := method_15_code
def y_Law_amount : MethodName := ⟨"ThresholdRowLaw", "amount", "(I)I"⟩
abbrev b_Law_leaves : ByteArray := method_17_code
def y_Law_leaves : MethodName := ⟨"ThresholdRowLaw", "leaves", "([II)V"⟩
abbrev b_Law_placeIn : ByteArray := method_18_code
def y_Law_placeIn : MethodName := ⟨"ThresholdRowLaw", "placeIn", "([II)I"⟩
