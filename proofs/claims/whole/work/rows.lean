section
-- ===== PART A: goes FIRST, ahead of the names: the tables' words, and 'selects' of the private methods out of them =====
/-- a private method of a class that the tables say can be made, by its rows of tables_1 -/
def lw_okq (q : MethodName × Nat) : Prop := (q.1.cls ≠ "java/lang/invoke/MethodHandle" ∧ q.1.cls ≠ "java/lang/invoke/VarHandle") ∧ Cond.instantiable q.1.cls q.2 ∈ tables_1 ∧ Cond.privateMethod q.1 ∈ tables_1 ∧ Cond.instanceMethod q.1 ∈ tables_1
theorem lw_p0 : lw_okq (⟨"PartsAccumulator$Ring", "findNegatedInverse", "()V"⟩, 11) := ⟨⟨by decide +kernel, by decide +kernel⟩, List.mem_of_getElem? (i := 30) (by decide +kernel), List.mem_of_getElem? (i := 172) (by decide +kernel), List.mem_of_getElem? (i := 173) (by decide +kernel)⟩
theorem lw_p1 : lw_okq (⟨"PartsAccumulator$Ring", "findThird", "()V"⟩, 11) := ⟨⟨by decide +kernel, by decide +kernel⟩, List.mem_of_getElem? (i := 30) (by decide +kernel), List.mem_of_getElem? (i := 177) (by decide +kernel), List.mem_of_getElem? (i := 178) (by decide +kernel)⟩
theorem lw_p2 : lw_okq (⟨"PartsAccumulator$Ring", "shiftBy128", "([J)V"⟩, 11) := ⟨⟨by decide +kernel, by decide +kernel⟩, List.mem_of_getElem? (i := 30) (by decide +kernel), List.mem_of_getElem? (i := 184) (by decide +kernel), List.mem_of_getElem? (i := 185) (by decide +kernel)⟩
theorem lw_p3 : lw_okq (⟨"PartsAccumulator$Ring", "reduceTotal", "([J)V"⟩, 11) := ⟨⟨by decide +kernel, by decide +kernel⟩, List.mem_of_getElem? (i := 30) (by decide +kernel), List.mem_of_getElem? (i := 188) (by decide +kernel), List.mem_of_getElem? (i := 189) (by decide +kernel)⟩
theorem lw_p4 : lw_okq (⟨"PartsAccumulator", "publish", "(LPartsAccumulator$Epoch;)V"⟩, 11) := ⟨⟨by decide +kernel, by decide +kernel⟩, List.mem_of_getElem? (i := 11) (by decide +kernel), List.mem_of_getElem? (i := 192) (by decide +kernel), List.mem_of_getElem? (i := 193) (by decide +kernel)⟩
theorem lw_p5 : lw_okq (⟨"PartsAccumulator$Ring", "montgomery", "([J[J[J)V"⟩, 11) := ⟨⟨by decide +kernel, by decide +kernel⟩, List.mem_of_getElem? (i := 30) (by decide +kernel), List.mem_of_getElem? (i := 216) (by decide +kernel), List.mem_of_getElem? (i := 217) (by decide +kernel)⟩
theorem lw_p6 : lw_okq (⟨"PartsAccumulator$Ring", "addProduct", "([JJ)V"⟩, 11) := ⟨⟨by decide +kernel, by decide +kernel⟩, List.mem_of_getElem? (i := 30) (by decide +kernel), List.mem_of_getElem? (i := 221) (by decide +kernel), List.mem_of_getElem? (i := 222) (by decide +kernel)⟩
theorem lw_p7 : lw_okq (⟨"PartsAccumulator$Ring", "dropLowestLimb", "()V"⟩, 11) := ⟨⟨by decide +kernel, by decide +kernel⟩, List.mem_of_getElem? (i := 30) (by decide +kernel), List.mem_of_getElem? (i := 225) (by decide +kernel), List.mem_of_getElem? (i := 226) (by decide +kernel)⟩
theorem lw_p8 : lw_okq (⟨"PartsAccumulator$SerialPrimes", "hash", "(JI)I"⟩, 1) := ⟨⟨by decide +kernel, by decide +kernel⟩, List.mem_of_getElem? (i := 19) (by decide +kernel), List.mem_of_getElem? (i := 247) (by decide +kernel), List.mem_of_getElem? (i := 248) (by decide +kernel)⟩
theorem lw_p9 : lw_okq (⟨"PartsAccumulator$SerialPrimes", "fillSchedule", "(JI)V"⟩, 1) := ⟨⟨by decide +kernel, by decide +kernel⟩, List.mem_of_getElem? (i := 19) (by decide +kernel), List.mem_of_getElem? (i := 251) (by decide +kernel), List.mem_of_getElem? (i := 252) (by decide +kernel)⟩
theorem lw_p10 : lw_okq (⟨"PartsAccumulator", "primeOrRefusal", "(J)I"⟩, 11) := ⟨⟨by decide +kernel, by decide +kernel⟩, List.mem_of_getElem? (i := 11) (by decide +kernel), List.mem_of_getElem? (i := 287) (by decide +kernel), List.mem_of_getElem? (i := 288) (by decide +kernel)⟩
theorem lw_p11 : lw_okq (⟨"PartsAccumulator", "isEpoch", "(I)Z"⟩, 11) := ⟨⟨by decide +kernel, by decide +kernel⟩, List.mem_of_getElem? (i := 11) (by decide +kernel), List.mem_of_getElem? (i := 337) (by decide +kernel), List.mem_of_getElem? (i := 338) (by decide +kernel)⟩
theorem lw_p12 : lw_okq (⟨"PartsAccumulator", "computeIssued", "(J[J)V"⟩, 11) := ⟨⟨by decide +kernel, by decide +kernel⟩, List.mem_of_getElem? (i := 11) (by decide +kernel), List.mem_of_getElem? (i := 361) (by decide +kernel), List.mem_of_getElem? (i := 362) (by decide +kernel)⟩
theorem lw_p13 : lw_okq (⟨"PartsAccumulator", "primeOrRefusal", "(JI)I"⟩, 11) := ⟨⟨by decide +kernel, by decide +kernel⟩, List.mem_of_getElem? (i := 11) (by decide +kernel), List.mem_of_getElem? (i := 399) (by decide +kernel), List.mem_of_getElem? (i := 400) (by decide +kernel)⟩
theorem lw_p14 : lw_okq (⟨"PartsAccumulator", "holdsWitness", "(II)Z"⟩, 11) := ⟨⟨by decide +kernel, by decide +kernel⟩, List.mem_of_getElem? (i := 11) (by decide +kernel), List.mem_of_getElem? (i := 403) (by decide +kernel), List.mem_of_getElem? (i := 404) (by decide +kernel)⟩
theorem lw_p15 : lw_okq (⟨"PartsAccumulator", "isPresentSince", "(JI)Z"⟩, 11) := ⟨⟨by decide +kernel, by decide +kernel⟩, List.mem_of_getElem? (i := 11) (by decide +kernel), List.mem_of_getElem? (i := 414) (by decide +kernel), List.mem_of_getElem? (i := 415) (by decide +kernel)⟩
def lw_privs_1 : List (MethodName × Nat) := [(⟨"PartsAccumulator$Ring", "findNegatedInverse", "()V"⟩, 11), (⟨"PartsAccumulator$Ring", "findThird", "()V"⟩, 11), (⟨"PartsAccumulator$Ring", "shiftBy128", "([J)V"⟩, 11), (⟨"PartsAccumulator$Ring", "reduceTotal", "([J)V"⟩, 11), (⟨"PartsAccumulator", "publish", "(LPartsAccumulator$Epoch;)V"⟩, 11), (⟨"PartsAccumulator$Ring", "montgomery", "([J[J[J)V"⟩, 11), (⟨"PartsAccumulator$Ring", "addProduct", "([JJ)V"⟩, 11), (⟨"PartsAccumulator$Ring", "dropLowestLimb", "()V"⟩, 11), (⟨"PartsAccumulator$SerialPrimes", "hash", "(JI)I"⟩, 1), (⟨"PartsAccumulator$SerialPrimes", "fillSchedule", "(JI)V"⟩, 1), (⟨"PartsAccumulator", "primeOrRefusal", "(J)I"⟩, 11), (⟨"PartsAccumulator", "isEpoch", "(I)Z"⟩, 11), (⟨"PartsAccumulator", "computeIssued", "(J[J)V"⟩, 11), (⟨"PartsAccumulator", "primeOrRefusal", "(JI)I"⟩, 11), (⟨"PartsAccumulator", "holdsWitness", "(II)Z"⟩, 11), (⟨"PartsAccumulator", "isPresentSince", "(JI)Z"⟩, 11)]
theorem lw_r1 : ∀ q ∈ lw_privs_1, lw_okq q := List.forall_mem_cons.mpr ⟨lw_p0, List.forall_mem_cons.mpr ⟨lw_p1, List.forall_mem_cons.mpr ⟨lw_p2, List.forall_mem_cons.mpr ⟨lw_p3, List.forall_mem_cons.mpr ⟨lw_p4, List.forall_mem_cons.mpr ⟨lw_p5, List.forall_mem_cons.mpr ⟨lw_p6, List.forall_mem_cons.mpr ⟨lw_p7, List.forall_mem_cons.mpr ⟨lw_p8, List.forall_mem_cons.mpr ⟨lw_p9, List.forall_mem_cons.mpr ⟨lw_p10, List.forall_mem_cons.mpr ⟨lw_p11, List.forall_mem_cons.mpr ⟨lw_p12, List.forall_mem_cons.mpr ⟨lw_p13, List.forall_mem_cons.mpr ⟨lw_p14, List.forall_mem_cons.mpr ⟨lw_p15, fun _ h => absurd h List.not_mem_nil⟩⟩⟩⟩⟩⟩⟩⟩⟩⟩⟩⟩⟩⟩⟩⟩
theorem lw_p16 : lw_okq (⟨"PartsAccumulator", "takeInAdded", "(I)V"⟩, 11) := ⟨⟨by decide +kernel, by decide +kernel⟩, List.mem_of_getElem? (i := 11) (by decide +kernel), List.mem_of_getElem? (i := 418) (by decide +kernel), List.mem_of_getElem? (i := 419) (by decide +kernel)⟩
theorem lw_p17 : lw_okq (⟨"PartsAccumulator", "takeOutRemoved", "(II)V"⟩, 11) := ⟨⟨by decide +kernel, by decide +kernel⟩, List.mem_of_getElem? (i := 11) (by decide +kernel), List.mem_of_getElem? (i := 426) (by decide +kernel), List.mem_of_getElem? (i := 427) (by decide +kernel)⟩
theorem lw_p18 : lw_okq (⟨"PartsAccumulator", "inverseThenQuotient", "(I)I"⟩, 11) := ⟨⟨by decide +kernel, by decide +kernel⟩, List.mem_of_getElem? (i := 11) (by decide +kernel), List.mem_of_getElem? (i := 430) (by decide +kernel), List.mem_of_getElem? (i := 431) (by decide +kernel)⟩
theorem lw_p19 : lw_okq (⟨"PartsAccumulatorModel", "hash", "(JI)I"⟩, 22) := ⟨⟨by decide +kernel, by decide +kernel⟩, List.mem_of_getElem? (i := 458) (by decide +kernel), List.mem_of_getElem? (i := 571) (by decide +kernel), List.mem_of_getElem? (i := 572) (by decide +kernel)⟩
theorem lw_p20 : lw_okq (⟨"PartsAccumulatorModel", "findThird", "()V"⟩, 22) := ⟨⟨by decide +kernel, by decide +kernel⟩, List.mem_of_getElem? (i := 458) (by decide +kernel), List.mem_of_getElem? (i := 602) (by decide +kernel), List.mem_of_getElem? (i := 603) (by decide +kernel)⟩
theorem lw_p21 : lw_okq (⟨"PartsAccumulatorModel", "plus", "(JJJJ)V"⟩, 22) := ⟨⟨by decide +kernel, by decide +kernel⟩, List.mem_of_getElem? (i := 458) (by decide +kernel), List.mem_of_getElem? (i := 606) (by decide +kernel), List.mem_of_getElem? (i := 607) (by decide +kernel)⟩
theorem lw_p22 : lw_okq (⟨"PartsAccumulatorModel", "isBelowN", "(JJ)Z"⟩, 22) := ⟨⟨by decide +kernel, by decide +kernel⟩, List.mem_of_getElem? (i := 458) (by decide +kernel), List.mem_of_getElem? (i := 614) (by decide +kernel), List.mem_of_getElem? (i := 615) (by decide +kernel)⟩
theorem lw_p23 : lw_okq (⟨"PartsAccumulatorModel", "pendingAt", "(J)I"⟩, 22) := ⟨⟨by decide +kernel, by decide +kernel⟩, List.mem_of_getElem? (i := 458) (by decide +kernel), List.mem_of_getElem? (i := 623) (by decide +kernel), List.mem_of_getElem? (i := 624) (by decide +kernel)⟩
theorem lw_p24 : lw_okq (⟨"PartsAccumulatorModel", "power", "(JJI)V"⟩, 22) := ⟨⟨by decide +kernel, by decide +kernel⟩, List.mem_of_getElem? (i := 458) (by decide +kernel), List.mem_of_getElem? (i := 635) (by decide +kernel), List.mem_of_getElem? (i := 636) (by decide +kernel)⟩
theorem lw_p25 : lw_okq (⟨"PartsAccumulatorModel", "multiply", "(JJJJ)V"⟩, 22) := ⟨⟨by decide +kernel, by decide +kernel⟩, List.mem_of_getElem? (i := 458) (by decide +kernel), List.mem_of_getElem? (i := 639) (by decide +kernel), List.mem_of_getElem? (i := 640) (by decide +kernel)⟩
theorem lw_p26 : lw_okq (⟨"PartsAccumulatorModel", "placeIn", "(IJ)I"⟩, 22) := ⟨⟨by decide +kernel, by decide +kernel⟩, List.mem_of_getElem? (i := 458) (by decide +kernel), List.mem_of_getElem? (i := 651) (by decide +kernel), List.mem_of_getElem? (i := 652) (by decide +kernel)⟩
theorem lw_p27 : lw_okq (⟨"PartsAccumulatorModel", "isEpoch", "(I)Z"⟩, 22) := ⟨⟨by decide +kernel, by decide +kernel⟩, List.mem_of_getElem? (i := 458) (by decide +kernel), List.mem_of_getElem? (i := 659) (by decide +kernel), List.mem_of_getElem? (i := 660) (by decide +kernel)⟩
theorem lw_p28 : lw_okq (⟨"PartsAccumulatorModel", "issued", "(I)V"⟩, 22) := ⟨⟨by decide +kernel, by decide +kernel⟩, List.mem_of_getElem? (i := 458) (by decide +kernel), List.mem_of_getElem? (i := 671) (by decide +kernel), List.mem_of_getElem? (i := 672) (by decide +kernel)⟩
theorem lw_p29 : lw_okq (⟨"PartsAccumulatorModel", "isWitness", "(II)Z"⟩, 22) := ⟨⟨by decide +kernel, by decide +kernel⟩, List.mem_of_getElem? (i := 458) (by decide +kernel), List.mem_of_getElem? (i := 695) (by decide +kernel), List.mem_of_getElem? (i := 696) (by decide +kernel)⟩
theorem lw_p30 : lw_okq (⟨"PartsAccumulatorModel", "moveTo", "(II)V"⟩, 22) := ⟨⟨by decide +kernel, by decide +kernel⟩, List.mem_of_getElem? (i := 458) (by decide +kernel), List.mem_of_getElem? (i := 703) (by decide +kernel), List.mem_of_getElem? (i := 704) (by decide +kernel)⟩
theorem lw_p31 : lw_okq (⟨"PartsAccumulatorModel", "beginWords", "()V"⟩, 22) := ⟨⟨by decide +kernel, by decide +kernel⟩, List.mem_of_getElem? (i := 458) (by decide +kernel), List.mem_of_getElem? (i := 707) (by decide +kernel), List.mem_of_getElem? (i := 708) (by decide +kernel)⟩
def lw_privs_2 : List (MethodName × Nat) := [(⟨"PartsAccumulator", "takeInAdded", "(I)V"⟩, 11), (⟨"PartsAccumulator", "takeOutRemoved", "(II)V"⟩, 11), (⟨"PartsAccumulator", "inverseThenQuotient", "(I)I"⟩, 11), (⟨"PartsAccumulatorModel", "hash", "(JI)I"⟩, 22), (⟨"PartsAccumulatorModel", "findThird", "()V"⟩, 22), (⟨"PartsAccumulatorModel", "plus", "(JJJJ)V"⟩, 22), (⟨"PartsAccumulatorModel", "isBelowN", "(JJ)Z"⟩, 22), (⟨"PartsAccumulatorModel", "pendingAt", "(J)I"⟩, 22), (⟨"PartsAccumulatorModel", "power", "(JJI)V"⟩, 22), (⟨"PartsAccumulatorModel", "multiply", "(JJJJ)V"⟩, 22), (⟨"PartsAccumulatorModel", "placeIn", "(IJ)I"⟩, 22), (⟨"PartsAccumulatorModel", "isEpoch", "(I)Z"⟩, 22), (⟨"PartsAccumulatorModel", "issued", "(I)V"⟩, 22), (⟨"PartsAccumulatorModel", "isWitness", "(II)Z"⟩, 22), (⟨"PartsAccumulatorModel", "moveTo", "(II)V"⟩, 22), (⟨"PartsAccumulatorModel", "beginWords", "()V"⟩, 22)]
theorem lw_r2 : ∀ q ∈ lw_privs_2, lw_okq q := List.forall_mem_cons.mpr ⟨lw_p16, List.forall_mem_cons.mpr ⟨lw_p17, List.forall_mem_cons.mpr ⟨lw_p18, List.forall_mem_cons.mpr ⟨lw_p19, List.forall_mem_cons.mpr ⟨lw_p20, List.forall_mem_cons.mpr ⟨lw_p21, List.forall_mem_cons.mpr ⟨lw_p22, List.forall_mem_cons.mpr ⟨lw_p23, List.forall_mem_cons.mpr ⟨lw_p24, List.forall_mem_cons.mpr ⟨lw_p25, List.forall_mem_cons.mpr ⟨lw_p26, List.forall_mem_cons.mpr ⟨lw_p27, List.forall_mem_cons.mpr ⟨lw_p28, List.forall_mem_cons.mpr ⟨lw_p29, List.forall_mem_cons.mpr ⟨lw_p30, List.forall_mem_cons.mpr ⟨lw_p31, fun _ h => absurd h List.not_mem_nil⟩⟩⟩⟩⟩⟩⟩⟩⟩⟩⟩⟩⟩⟩⟩⟩
theorem lw_p32 : lw_okq (⟨"PartsAccumulatorModel", "multiplyWords", "(I)V"⟩, 22) := ⟨⟨by decide +kernel, by decide +kernel⟩, List.mem_of_getElem? (i := 458) (by decide +kernel), List.mem_of_getElem? (i := 711) (by decide +kernel), List.mem_of_getElem? (i := 712) (by decide +kernel)⟩
theorem lw_p33 : lw_okq (⟨"PartsAccumulatorModel", "invertWords", "(I)I"⟩, 22) := ⟨⟨by decide +kernel, by decide +kernel⟩, List.mem_of_getElem? (i := 458) (by decide +kernel), List.mem_of_getElem? (i := 716) (by decide +kernel), List.mem_of_getElem? (i := 717) (by decide +kernel)⟩
theorem lw_p34 : lw_okq (⟨"PartsAccumulatorModel", "restOfWords", "(I)J"⟩, 22) := ⟨⟨by decide +kernel, by decide +kernel⟩, List.mem_of_getElem? (i := 458) (by decide +kernel), List.mem_of_getElem? (i := 720) (by decide +kernel), List.mem_of_getElem? (i := 721) (by decide +kernel)⟩
theorem lw_p35 : lw_okq (⟨"PartsAccumulatorModel", "powerOfWords", "(JJ)V"⟩, 22) := ⟨⟨by decide +kernel, by decide +kernel⟩, List.mem_of_getElem? (i := 458) (by decide +kernel), List.mem_of_getElem? (i := 725) (by decide +kernel), List.mem_of_getElem? (i := 726) (by decide +kernel)⟩
def lw_privs_3 : List (MethodName × Nat) := [(⟨"PartsAccumulatorModel", "multiplyWords", "(I)V"⟩, 22), (⟨"PartsAccumulatorModel", "invertWords", "(I)I"⟩, 22), (⟨"PartsAccumulatorModel", "restOfWords", "(I)J"⟩, 22), (⟨"PartsAccumulatorModel", "powerOfWords", "(JJ)V"⟩, 22)]
theorem lw_r3 : ∀ q ∈ lw_privs_3, lw_okq q := List.forall_mem_cons.mpr ⟨lw_p32, List.forall_mem_cons.mpr ⟨lw_p33, List.forall_mem_cons.mpr ⟨lw_p34, List.forall_mem_cons.mpr ⟨lw_p35, fun _ h => absurd h List.not_mem_nil⟩⟩⟩⟩
def lw_privs : List (MethodName × Nat) := lw_privs_1 ++ (lw_privs_2 ++ (lw_privs_3))
def lw_tbl : List Cond := k2_sels lw_privs ++ tables_1
theorem lw_privs_ok : ∀ q ∈ lw_privs, lw_okq q := by
  show ∀ q ∈ lw_privs_1 ++ (lw_privs_2 ++ (lw_privs_3)), lw_okq q
  exact List.forall_mem_append.mpr ⟨lw_r1, List.forall_mem_append.mpr ⟨lw_r2, lw_r3⟩⟩

/-! the tables' words that stay as they are, and where each stands -/
def tb_ : List Cond := lw_tbl.filter goodWord
theorem tb_mem {w : Cond} (i : Nat) (h : tables_1[i]? = some w) (g : goodWord w = true) : w ∈ tb_ := List.mem_filter.mpr ⟨List.mem_append_right _ (List.mem_of_getElem? h), g⟩
theorem tb_memP {w : Cond} (i : Nat) (h : (k2_sels lw_privs)[i]? = some w) (g : goodWord w = true) : w ∈ tb_ := List.mem_filter.mpr ⟨List.mem_append_left _ (List.mem_of_getElem? h), g⟩
theorem tb_good {x : Cond} {ws : List Cond} (hx : x ∈ tb_) (hs : ∀ w ∈ tb_, w ∈ ws) : GoodIn ws (x :: tb_) := by
  intro w hw
  rcases List.mem_cons.mp hw with rfl | h
  · exact ⟨hs _ hx, good_of_word (List.mem_filter.mp hx).2⟩
  · exact ⟨hs _ h, good_of_word (List.mem_filter.mp h).2⟩
abbrev rn_E : String := "PartsAccumulator$Epoch"
def ft_E : u_T := fun k => match k with
  | 0 => ("PartsAccumulator$Epoch", "roster", "LPartsAccumulator$Roster;", true)
  | 1 => ("PartsAccumulator$Epoch", "published", "[J", true)
  | _ => ("PartsAccumulator$Epoch", "inverse", "[J", true)
def ty_E : Nat → FieldType := fun k => match k with
  | 0 => .object "PartsAccumulator$Roster"
  | 1 => .array .long
  | _ => .array .long
theorem nm_E : ∀ a, a < 3 → ∀ b, b < 3 → a ≠ b → (ft_E a).2.1 ≠ (ft_E b).2.1 := by decide +kernel
theorem ok_E : ∀ k, k < 3 → parseFieldDescriptor (ft_E k).2.2.1 = some (ty_E k) := by decide +kernel
abbrev rn_N : String := "PartsAccumulator$Natural"
def ft_N : u_T := fun k => match k with
  | _ => ("PartsAccumulator$Natural", "limbs", "[J", true)
def ty_N : Nat → FieldType := fun k => match k with
  | _ => .array .long
theorem nm_N : ∀ a, a < 1 → ∀ b, b < 1 → a ≠ b → (ft_N a).2.1 ≠ (ft_N b).2.1 := by decide +kernel
theorem ok_N : ∀ k, k < 1 → parseFieldDescriptor (ft_N k).2.2.1 = some (ty_N k) := by decide +kernel
abbrev rn_R : String := "PartsAccumulator$Ring"
def ft_R : u_T := fun k => match k with
  | 0 => ("PartsAccumulator$Ring", "three", "[J", true)
  | 1 => ("PartsAccumulator$Ring", "third", "[J", true)
  | 2 => ("PartsAccumulator$Ring", "unit", "[J", true)
  | 3 => ("PartsAccumulator$Ring", "modulusLimbs", "[J", true)
  | 4 => ("PartsAccumulator$Ring", "montgomeryOne", "[J", true)
  | 5 => ("PartsAccumulator$Ring", "montgomerySquare", "[J", true)
  | 6 => ("PartsAccumulator$Ring", "total", "[J", true)
  | 7 => ("PartsAccumulator$Ring", "reduced", "[J", true)
  | 8 => ("PartsAccumulator$Ring", "base", "[J", true)
  | 9 => ("PartsAccumulator$Ring", "result", "[J", true)
  | _ => ("PartsAccumulator$Ring", "negatedInverse", "J", false)
def ty_R : Nat → FieldType := fun k => match k with
  | 0 => .array .long
  | 1 => .array .long
  | 2 => .array .long
  | 3 => .array .long
  | 4 => .array .long
  | 5 => .array .long
  | 6 => .array .long
  | 7 => .array .long
  | 8 => .array .long
  | 9 => .array .long
  | _ => .long
theorem nm_R : ∀ a, a < 11 → ∀ b, b < 11 → a ≠ b → (ft_R a).2.1 ≠ (ft_R b).2.1 := by decide +kernel
theorem ok_R : ∀ k, k < 11 → parseFieldDescriptor (ft_R k).2.2.1 = some (ty_R k) := by decide +kernel
abbrev rn_T : String := "PartsAccumulator$Roster"
def ft_T : u_T := fun k => match k with
  | 0 => ("PartsAccumulator$Roster", "serials", "[J", true)
  | 1 => ("PartsAccumulator$Roster", "primes", "[I", true)
  | _ => ("PartsAccumulator$Roster", "count", "I", false)
def ty_T : Nat → FieldType := fun k => match k with
  | 0 => .array .long
  | 1 => .array .int
  | _ => .int
theorem nm_T : ∀ a, a < 3 → ∀ b, b < 3 → a ≠ b → (ft_T a).2.1 ≠ (ft_T b).2.1 := by decide +kernel
theorem ok_T : ∀ k, k < 3 → parseFieldDescriptor (ft_T k).2.2.1 = some (ty_T k) := by decide +kernel
abbrev rn_S : String := "PartsAccumulator$SerialPrimes"
def ft_S : u_T := fun k => match k with
  | _ => ("PartsAccumulator$SerialPrimes", "w", "[I", true)
def ty_S : Nat → FieldType := fun k => match k with
  | _ => .array .int
theorem nm_S : ∀ a, a < 1 → ∀ b, b < 1 → a ≠ b → (ft_S a).2.1 ≠ (ft_S b).2.1 := by decide +kernel
theorem ok_S : ∀ k, k < 1 → parseFieldDescriptor (ft_S k).2.2.1 = some (ty_S k) := by decide +kernel
abbrev rn_P : String := "PartsAccumulator"
def ft_P : u_T := fun k => match k with
  | 0 => ("PartsAccumulator", "serialPrimes", "LPartsAccumulator$SerialPrimes;", true)
  | 1 => ("PartsAccumulator", "ring", "LPartsAccumulator$Ring;", true)
  | 2 => ("PartsAccumulator", "pending", "LPartsAccumulator$Roster;", true)
  | 3 => ("PartsAccumulator", "epochs", "[LPartsAccumulator$Epoch;", true)
  | 4 => ("PartsAccumulator", "held", "[J", true)
  | 5 => ("PartsAccumulator", "scratch", "[J", true)
  | 6 => ("PartsAccumulator", "otherScratch", "[J", true)
  | 7 => ("PartsAccumulator", "exponent", "LPartsAccumulator$Natural;", true)
  | 8 => ("PartsAccumulator", "hasModulus", "Z", false)
  | 9 => ("PartsAccumulator", "now", "I", false)
  | _ => ("PartsAccumulator", "heldFactor", "I", false)
def ty_P : Nat → FieldType := fun k => match k with
  | 0 => .object "PartsAccumulator$SerialPrimes"
  | 1 => .object "PartsAccumulator$Ring"
  | 2 => .object "PartsAccumulator$Roster"
  | 3 => .array (.object "PartsAccumulator$Epoch")
  | 4 => .array .long
  | 5 => .array .long
  | 6 => .array .long
  | 7 => .object "PartsAccumulator$Natural"
  | 8 => .boolean
  | 9 => .int
  | _ => .int
theorem nm_P : ∀ a, a < 11 → ∀ b, b < 11 → a ≠ b → (ft_P a).2.1 ≠ (ft_P b).2.1 := by decide +kernel
theorem ok_P : ∀ k, k < 11 → parseFieldDescriptor (ft_P k).2.2.1 = some (ty_P k) := by decide +kernel
abbrev rn_M : String := "PartsAccumulatorModel"
def ft_M : u_T := fun k => match k with
  | 0 => ("PartsAccumulatorModel", "k", "[J", true)
  | 1 => ("PartsAccumulatorModel", "w", "[I", true)
  | 2 => ("PartsAccumulatorModel", "has", "Z", false)
  | 3 => ("PartsAccumulatorModel", "n1", "J", false)
  | 4 => ("PartsAccumulatorModel", "n0", "J", false)
  | 5 => ("PartsAccumulatorModel", "v1", "J", false)
  | 6 => ("PartsAccumulatorModel", "v0", "J", false)
  | 7 => ("PartsAccumulatorModel", "pending", "I", false)
  | 8 => ("PartsAccumulatorModel", "pendingSerials", "[J", true)
  | 9 => ("PartsAccumulatorModel", "pendingPrimes", "[I", true)
  | 10 => ("PartsAccumulatorModel", "now", "I", false)
  | 11 => ("PartsAccumulatorModel", "counts", "[I", true)
  | 12 => ("PartsAccumulatorModel", "serials", "[J", true)
  | 13 => ("PartsAccumulatorModel", "primes", "[I", true)
  | 14 => ("PartsAccumulatorModel", "upper", "[J", true)
  | 15 => ("PartsAccumulatorModel", "lower", "[J", true)
  | 16 => ("PartsAccumulatorModel", "hand1", "J", false)
  | 17 => ("PartsAccumulatorModel", "hand0", "J", false)
  | 18 => ("PartsAccumulatorModel", "factor", "I", false)
  | 19 => ("PartsAccumulatorModel", "r1", "J", false)
  | 20 => ("PartsAccumulatorModel", "r0", "J", false)
  | _ => ("PartsAccumulatorModel", "words", "[I", true)
def ty_M : Nat → FieldType := fun k => match k with
  | 0 => .array .long
  | 1 => .array .int
  | 2 => .boolean
  | 3 => .long
  | 4 => .long
  | 5 => .long
  | 6 => .long
  | 7 => .int
  | 8 => .array .long
  | 9 => .array .int
  | 10 => .int
  | 11 => .array .int
  | 12 => .array .long
  | 13 => .array .int
  | 14 => .array .long
  | 15 => .array .long
  | 16 => .long
  | 17 => .long
  | 18 => .int
  | 19 => .long
  | 20 => .long
  | _ => .array .int
theorem nm_M : ∀ a, a < 22 → ∀ b, b < 22 → a ≠ b → (ft_M a).2.1 ≠ (ft_M b).2.1 := by decide +kernel
theorem ok_M : ∀ k, k < 22 → parseFieldDescriptor (ft_M k).2.2.1 = some (ty_M k) := by decide +kernel
abbrev cl_ : List vw_C := [(rn_E, ft_E, 3), (rn_N, ft_N, 1), (rn_R, ft_R, 11), (rn_T, ft_T, 3), (rn_S, ft_S, 1), (rn_P, ft_P, 11), (rn_M, ft_M, 22)]
abbrev cd_P_init : ByteArray := prog_1_method_1_code
abbrev my_P_init : MethodName := ⟨"PartsAccumulator", "<init>", "()V"⟩
abbrev cd_P_modulus : ByteArray := prog_1_method_2_code
abbrev my_P_modulus : MethodName := ⟨"PartsAccumulator", "modulus", "(JJ)Z"⟩
abbrev cd_P_prime : ByteArray := prog_1_method_3_code
abbrev my_P_prime : MethodName := ⟨"PartsAccumulator", "prime", "(J)I"⟩
abbrev cd_P_add : ByteArray := prog_1_method_4_code
abbrev my_P_add : MethodName := ⟨"PartsAccumulator", "add", "(J)I"⟩
abbrev cd_P_remove : ByteArray := prog_1_method_5_code
abbrev my_P_remove : MethodName := ⟨"PartsAccumulator", "remove", "(J)I"⟩
abbrev cd_P_close : ByteArray := prog_1_method_6_code
abbrev my_P_close : MethodName := ⟨"PartsAccumulator", "close", "()I"⟩
abbrev cd_P_size : ByteArray := prog_1_method_7_code
abbrev my_P_size : MethodName := ⟨"PartsAccumulator", "size", "(I)I"⟩
abbrev cd_P_state : ByteArray := prog_1_method_8_code
abbrev my_P_state : MethodName := ⟨"PartsAccumulator", "state", "(J)I"⟩
abbrev cd_P_accumulator : ByteArray := prog_1_method_9_code
abbrev my_P_accumulator : MethodName := ⟨"PartsAccumulator", "accumulator", "(IZ)J"⟩
abbrev cd_P_note : ByteArray := prog_1_method_10_code
abbrev my_P_note : MethodName := ⟨"PartsAccumulator", "note", "(III)I"⟩
abbrev cd_P_witness : ByteArray := prog_1_method_11_code
abbrev my_P_witness : MethodName := ⟨"PartsAccumulator", "witness", "(JZ)J"⟩
abbrev cd_P_issue : ByteArray := prog_1_method_12_code
abbrev my_P_issue : MethodName := ⟨"PartsAccumulator", "issue", "(J)I"⟩
abbrev cd_P_hold : ByteArray := prog_1_method_13_code
abbrev my_P_hold : MethodName := ⟨"PartsAccumulator", "hold", "(JJI)Z"⟩
abbrev cd_P_hand : ByteArray := prog_1_method_14_code
abbrev my_P_hand : MethodName := ⟨"PartsAccumulator", "hand", "(Z)J"⟩
abbrev cd_P_factor : ByteArray := prog_1_method_15_code
abbrev my_P_factor : MethodName := ⟨"PartsAccumulator", "factor", "()I"⟩
abbrev cd_P_check : ByteArray := prog_1_method_16_code
abbrev my_P_check : MethodName := ⟨"PartsAccumulator", "check", "(JI)I"⟩
abbrev cd_P_advance : ByteArray := prog_1_method_17_code
abbrev my_P_advance : MethodName := ⟨"PartsAccumulator", "advance", "(JI)I"⟩
abbrev cd_P_exclude : ByteArray := prog_1_method_18_code
abbrev my_P_exclude : MethodName := ⟨"PartsAccumulator", "exclude", "(J)I"⟩
abbrev cd_P_checkExclude : ByteArray := prog_1_method_19_code
abbrev my_P_checkExclude : MethodName := ⟨"PartsAccumulator", "checkExclude", "(JI)I"⟩
abbrev cd_P_primeOrRefusal_J : ByteArray := prog_1_method_20_code
abbrev my_P_primeOrRefusal_J : MethodName := ⟨"PartsAccumulator", "primeOrRefusal", "(J)I"⟩
abbrev cd_P_primeOrRefusal_JI : ByteArray := prog_1_method_21_code
abbrev my_P_primeOrRefusal_JI : MethodName := ⟨"PartsAccumulator", "primeOrRefusal", "(JI)I"⟩
abbrev cd_P_isEpoch : ByteArray := prog_1_method_22_code
abbrev my_P_isEpoch : MethodName := ⟨"PartsAccumulator", "isEpoch", "(I)Z"⟩
abbrev cd_P_isPresentSince : ByteArray := prog_1_method_23_code
abbrev my_P_isPresentSince : MethodName := ⟨"PartsAccumulator", "isPresentSince", "(JI)Z"⟩
abbrev cd_P_holdsWitness : ByteArray := prog_1_method_24_code
abbrev my_P_holdsWitness : MethodName := ⟨"PartsAccumulator", "holdsWitness", "(II)Z"⟩
abbrev cd_P_publish : ByteArray := prog_1_method_25_code
abbrev my_P_publish : MethodName := ⟨"PartsAccumulator", "publish", "(LPartsAccumulator$Epoch;)V"⟩
abbrev cd_P_computeIssued : ByteArray := prog_1_method_26_code
abbrev my_P_computeIssued : MethodName := ⟨"PartsAccumulator", "computeIssued", "(J[J)V"⟩
abbrev cd_P_takeInAdded : ByteArray := prog_1_method_27_code
abbrev my_P_takeInAdded : MethodName := ⟨"PartsAccumulator", "takeInAdded", "(I)V"⟩
abbrev cd_P_takeOutRemoved : ByteArray := prog_1_method_28_code
abbrev my_P_takeOutRemoved : MethodName := ⟨"PartsAccumulator", "takeOutRemoved", "(II)V"⟩
abbrev cd_P_inverseThenQuotient : ByteArray := prog_1_method_29_code
abbrev my_P_inverseThenQuotient : MethodName := ⟨"PartsAccumulator", "inverseThenQuotient", "(I)I"⟩
abbrev cd_M_init : ByteArray := prog_8_method_1_code
abbrev my_M_init : MethodName := ⟨"PartsAccumulatorModel", "<init>", "()V"⟩
abbrev cd_M_right : ByteArray := prog_8_method_2_code
abbrev my_M_right : MethodName := ⟨"PartsAccumulatorModel", "right", "(II)I"⟩
abbrev cd_M_hash : ByteArray := prog_8_method_3_code
abbrev my_M_hash : MethodName := ⟨"PartsAccumulatorModel", "hash", "(JI)I"⟩
abbrev cd_M_isPrime : ByteArray := prog_8_method_4_code
abbrev my_M_isPrime : MethodName := ⟨"PartsAccumulatorModel", "isPrime", "(I)Z"⟩
abbrev cd_M_isSerial : ByteArray := prog_8_method_5_code
abbrev my_M_isSerial : MethodName := ⟨"PartsAccumulatorModel", "isSerial", "(J)Z"⟩
abbrev cd_M_prime : ByteArray := prog_8_method_6_code
abbrev my_M_prime : MethodName := ⟨"PartsAccumulatorModel", "prime", "(J)I"⟩
abbrev cd_M_isLess : ByteArray := prog_8_method_7_code
abbrev my_M_isLess : MethodName := ⟨"PartsAccumulatorModel", "isLess", "(JJ)Z"⟩
abbrev cd_M_isBelowN : ByteArray := prog_8_method_8_code
abbrev my_M_isBelowN : MethodName := ⟨"PartsAccumulatorModel", "isBelowN", "(JJ)Z"⟩
abbrev cd_M_plus : ByteArray := prog_8_method_9_code
abbrev my_M_plus : MethodName := ⟨"PartsAccumulatorModel", "plus", "(JJJJ)V"⟩
abbrev cd_M_multiply : ByteArray := prog_8_method_10_code
abbrev my_M_multiply : MethodName := ⟨"PartsAccumulatorModel", "multiply", "(JJJJ)V"⟩
abbrev cd_M_power : ByteArray := prog_8_method_11_code
abbrev my_M_power : MethodName := ⟨"PartsAccumulatorModel", "power", "(JJI)V"⟩
abbrev cd_M_powerOfWords : ByteArray := prog_8_method_12_code
abbrev my_M_powerOfWords : MethodName := ⟨"PartsAccumulatorModel", "powerOfWords", "(JJ)V"⟩
abbrev cd_M_beginWords : ByteArray := prog_8_method_13_code
abbrev my_M_beginWords : MethodName := ⟨"PartsAccumulatorModel", "beginWords", "()V"⟩
abbrev cd_M_multiplyWords : ByteArray := prog_8_method_14_code
abbrev my_M_multiplyWords : MethodName := ⟨"PartsAccumulatorModel", "multiplyWords", "(I)V"⟩
abbrev cd_M_restOfWords : ByteArray := prog_8_method_15_code
abbrev my_M_restOfWords : MethodName := ⟨"PartsAccumulatorModel", "restOfWords", "(I)J"⟩
abbrev cd_M_invertWords : ByteArray := prog_8_method_16_code
abbrev my_M_invertWords : MethodName := ⟨"PartsAccumulatorModel", "invertWords", "(I)I"⟩
abbrev cd_M_thirds : ByteArray := prog_8_method_17_code
abbrev my_M_thirds : MethodName := ⟨"PartsAccumulatorModel", "thirds", "(J)J"⟩
abbrev cd_M_modulus : ByteArray := prog_8_method_18_code
abbrev my_M_modulus : MethodName := ⟨"PartsAccumulatorModel", "modulus", "(JJ)Z"⟩
abbrev cd_M_findThird : ByteArray := prog_8_method_19_code
abbrev my_M_findThird : MethodName := ⟨"PartsAccumulatorModel", "findThird", "()V"⟩
abbrev cd_M_pendingAt : ByteArray := prog_8_method_20_code
abbrev my_M_pendingAt : MethodName := ⟨"PartsAccumulatorModel", "pendingAt", "(J)I"⟩
abbrev cd_M_placeIn : ByteArray := prog_8_method_21_code
abbrev my_M_placeIn : MethodName := ⟨"PartsAccumulatorModel", "placeIn", "(IJ)I"⟩
abbrev cd_M_add : ByteArray := prog_8_method_22_code
abbrev my_M_add : MethodName := ⟨"PartsAccumulatorModel", "add", "(J)I"⟩
abbrev cd_M_remove : ByteArray := prog_8_method_23_code
abbrev my_M_remove : MethodName := ⟨"PartsAccumulatorModel", "remove", "(J)I"⟩
abbrev cd_M_close : ByteArray := prog_8_method_24_code
abbrev my_M_close : MethodName := ⟨"PartsAccumulatorModel", "close", "()I"⟩
abbrev cd_M_size : ByteArray := prog_8_method_25_code
abbrev my_M_size : MethodName := ⟨"PartsAccumulatorModel", "size", "(I)I"⟩
abbrev cd_M_state : ByteArray := prog_8_method_26_code
abbrev my_M_state : MethodName := ⟨"PartsAccumulatorModel", "state", "(J)I"⟩
abbrev cd_M_isEpoch : ByteArray := prog_8_method_27_code
abbrev my_M_isEpoch : MethodName := ⟨"PartsAccumulatorModel", "isEpoch", "(I)Z"⟩
abbrev cd_M_accumulator : ByteArray := prog_8_method_28_code
abbrev my_M_accumulator : MethodName := ⟨"PartsAccumulatorModel", "accumulator", "(IZ)J"⟩
abbrev cd_M_note : ByteArray := prog_8_method_29_code
abbrev my_M_note : MethodName := ⟨"PartsAccumulatorModel", "note", "(III)I"⟩
abbrev cd_M_issued : ByteArray := prog_8_method_30_code
abbrev my_M_issued : MethodName := ⟨"PartsAccumulatorModel", "issued", "(I)V"⟩
abbrev cd_M_witness : ByteArray := prog_8_method_31_code
abbrev my_M_witness : MethodName := ⟨"PartsAccumulatorModel", "witness", "(JZ)J"⟩
abbrev cd_M_issue : ByteArray := prog_8_method_32_code
abbrev my_M_issue : MethodName := ⟨"PartsAccumulatorModel", "issue", "(J)I"⟩
abbrev cd_M_hold : ByteArray := prog_8_method_33_code
abbrev my_M_hold : MethodName := ⟨"PartsAccumulatorModel", "hold", "(JJI)Z"⟩
abbrev cd_M_hand : ByteArray := prog_8_method_34_code
abbrev my_M_hand : MethodName := ⟨"PartsAccumulatorModel", "hand", "(Z)J"⟩
abbrev cd_M_factor : ByteArray := prog_8_method_35_code
abbrev my_M_factor : MethodName := ⟨"PartsAccumulatorModel", "factor", "()I"⟩
abbrev cd_M_isWitness : ByteArray := prog_8_method_36_code
abbrev my_M_isWitness : MethodName := ⟨"PartsAccumulatorModel", "isWitness", "(II)Z"⟩
abbrev cd_M_check : ByteArray := prog_8_method_37_code
abbrev my_M_check : MethodName := ⟨"PartsAccumulatorModel", "check", "(JI)I"⟩
abbrev cd_M_moveTo : ByteArray := prog_8_method_38_code
abbrev my_M_moveTo : MethodName := ⟨"PartsAccumulatorModel", "moveTo", "(II)V"⟩
abbrev cd_M_advance : ByteArray := prog_8_method_39_code
abbrev my_M_advance : MethodName := ⟨"PartsAccumulatorModel", "advance", "(JI)I"⟩
abbrev cd_M_exclude : ByteArray := prog_8_method_40_code
abbrev my_M_exclude : MethodName := ⟨"PartsAccumulatorModel", "exclude", "(J)I"⟩
abbrev cd_M_checkExclude : ByteArray := prog_8_method_41_code
abbrev my_M_checkExclude : MethodName := ⟨"PartsAccumulatorModel", "checkExclude", "(JI)I"⟩
abbrev cd_E_init : ByteArray := prog_2_method_1_code
abbrev my_E_init : MethodName := ⟨"PartsAccumulator$Epoch", "<init>", "()V"⟩
abbrev cd_N_init : ByteArray := prog_3_method_1_code
abbrev my_N_init : MethodName := ⟨"PartsAccumulator$Natural", "<init>", "()V"⟩
abbrev cd_N_become : ByteArray := prog_3_method_2_code
abbrev my_N_become : MethodName := ⟨"PartsAccumulator$Natural", "become", "(I)V"⟩
abbrev cd_N_multiply : ByteArray := prog_3_method_3_code
abbrev my_N_multiply : MethodName := ⟨"PartsAccumulator$Natural", "multiply", "(I)V"⟩
abbrev cd_N_remainder : ByteArray := prog_3_method_4_code
abbrev my_N_remainder : MethodName := ⟨"PartsAccumulator$Natural", "remainder", "(I)I"⟩
abbrev cd_N_divide : ByteArray := prog_3_method_5_code
abbrev my_N_divide : MethodName := ⟨"PartsAccumulator$Natural", "divide", "(I)V"⟩
abbrev cd_N_bit : ByteArray := prog_3_method_6_code
abbrev my_N_bit : MethodName := ⟨"PartsAccumulator$Natural", "bit", "(I)Z"⟩
abbrev cd_N_highestBit : ByteArray := prog_3_method_7_code
abbrev my_N_highestBit : MethodName := ⟨"PartsAccumulator$Natural", "highestBit", "()I"⟩
abbrev cd_R_init : ByteArray := prog_4_method_1_code
abbrev my_R_init : MethodName := ⟨"PartsAccumulator$Ring", "<init>", "()V"⟩
abbrev cd_R_accepts : ByteArray := prog_4_method_2_code
abbrev my_R_accepts : MethodName := ⟨"PartsAccumulator$Ring", "accepts", "(JJ)Z"⟩
abbrev cd_R_split : ByteArray := prog_4_method_3_code
abbrev my_R_split : MethodName := ⟨"PartsAccumulator$Ring", "split", "(JJ[J)V"⟩
abbrev cd_R_word : ByteArray := prog_4_method_4_code
abbrev my_R_word : MethodName := ⟨"PartsAccumulator$Ring", "word", "([JZ)J"⟩
abbrev cd_R_same : ByteArray := prog_4_method_5_code
abbrev my_R_same : MethodName := ⟨"PartsAccumulator$Ring", "same", "([J[J)Z"⟩
abbrev cd_R_begin : ByteArray := prog_4_method_6_code
abbrev my_R_begin : MethodName := ⟨"PartsAccumulator$Ring", "begin", "(JJ)V"⟩
abbrev cd_R_isBelowModulus : ByteArray := prog_4_method_7_code
abbrev my_R_isBelowModulus : MethodName := ⟨"PartsAccumulator$Ring", "isBelowModulus", "(JJ)Z"⟩
abbrev cd_R_multiply : ByteArray := prog_4_method_8_code
abbrev my_R_multiply : MethodName := ⟨"PartsAccumulator$Ring", "multiply", "([J[J[J)V"⟩
abbrev cd_R_power : ByteArray := prog_4_method_9_code
abbrev my_R_power : MethodName := ⟨"PartsAccumulator$Ring", "power", "([JLPartsAccumulator$Natural;[J)V"⟩
abbrev cd_R_isBelow : ByteArray := prog_4_method_10_code
abbrev my_R_isBelow : MethodName := ⟨"PartsAccumulator$Ring", "isBelow", "(JJ)Z"⟩
abbrev cd_R_findNegatedInverse : ByteArray := prog_4_method_11_code
abbrev my_R_findNegatedInverse : MethodName := ⟨"PartsAccumulator$Ring", "findNegatedInverse", "()V"⟩
abbrev cd_R_findThird : ByteArray := prog_4_method_12_code
abbrev my_R_findThird : MethodName := ⟨"PartsAccumulator$Ring", "findThird", "()V"⟩
abbrev cd_R_shiftBy128 : ByteArray := prog_4_method_13_code
abbrev my_R_shiftBy128 : MethodName := ⟨"PartsAccumulator$Ring", "shiftBy128", "([J)V"⟩
abbrev cd_R_montgomery : ByteArray := prog_4_method_14_code
abbrev my_R_montgomery : MethodName := ⟨"PartsAccumulator$Ring", "montgomery", "([J[J[J)V"⟩
abbrev cd_R_addProduct : ByteArray := prog_4_method_15_code
abbrev my_R_addProduct : MethodName := ⟨"PartsAccumulator$Ring", "addProduct", "([JJ)V"⟩
abbrev cd_R_dropLowestLimb : ByteArray := prog_4_method_16_code
abbrev my_R_dropLowestLimb : MethodName := ⟨"PartsAccumulator$Ring", "dropLowestLimb", "()V"⟩
abbrev cd_R_reduceTotal : ByteArray := prog_4_method_17_code
abbrev my_R_reduceTotal : MethodName := ⟨"PartsAccumulator$Ring", "reduceTotal", "([J)V"⟩
abbrev cd_T_init : ByteArray := prog_5_method_1_code
abbrev my_T_init : MethodName := ⟨"PartsAccumulator$Roster", "<init>", "()V"⟩
abbrev cd_T_placeOf : ByteArray := prog_5_method_2_code
abbrev my_T_placeOf : MethodName := ⟨"PartsAccumulator$Roster", "placeOf", "(J)I"⟩
abbrev cd_T_has : ByteArray := prog_5_method_3_code
abbrev my_T_has : MethodName := ⟨"PartsAccumulator$Roster", "has", "(J)Z"⟩
abbrev cd_T_hasPrime : ByteArray := prog_5_method_4_code
abbrev my_T_hasPrime : MethodName := ⟨"PartsAccumulator$Roster", "hasPrime", "(I)Z"⟩
abbrev cd_T_insert : ByteArray := prog_5_method_5_code
abbrev my_T_insert : MethodName := ⟨"PartsAccumulator$Roster", "insert", "(JI)V"⟩
abbrev cd_T_delete : ByteArray := prog_5_method_6_code
abbrev my_T_delete : MethodName := ⟨"PartsAccumulator$Roster", "delete", "(I)V"⟩
abbrev cd_T_become : ByteArray := prog_5_method_7_code
abbrev my_T_become : MethodName := ⟨"PartsAccumulator$Roster", "become", "(LPartsAccumulator$Roster;)V"⟩
abbrev cd_T_countOutside : ByteArray := prog_5_method_8_code
abbrev my_T_countOutside : MethodName := ⟨"PartsAccumulator$Roster", "countOutside", "(LPartsAccumulator$Roster;)I"⟩
abbrev cd_T_primeOutside : ByteArray := prog_5_method_9_code
abbrev my_T_primeOutside : MethodName := ⟨"PartsAccumulator$Roster", "primeOutside", "(LPartsAccumulator$Roster;I)I"⟩
abbrev cd_T_multiplyInto : ByteArray := prog_5_method_10_code
abbrev my_T_multiplyInto : MethodName := ⟨"PartsAccumulator$Roster", "multiplyInto", "(LPartsAccumulator$Natural;)V"⟩
abbrev cd_T_multiplyOthersInto : ByteArray := prog_5_method_11_code
abbrev my_T_multiplyOthersInto : MethodName := ⟨"PartsAccumulator$Roster", "multiplyOthersInto", "(JLPartsAccumulator$Natural;)V"⟩
abbrev cd_T_multiplyOutsideInto : ByteArray := prog_5_method_12_code
abbrev my_T_multiplyOutsideInto : MethodName := ⟨"PartsAccumulator$Roster", "multiplyOutsideInto", "(LPartsAccumulator$Roster;LPartsAccumulator$Natural;)V"⟩
abbrev cd_S_init : ByteArray := prog_6_method_1_code
abbrev my_S_init : MethodName := ⟨"PartsAccumulator$SerialPrimes", "<init>", "()V"⟩
abbrev cd_S_primeOf : ByteArray := prog_6_method_2_code
abbrev my_S_primeOf : MethodName := ⟨"PartsAccumulator$SerialPrimes", "primeOf", "(J)I"⟩
abbrev cd_S_hash : ByteArray := prog_6_method_3_code
abbrev my_S_hash : MethodName := ⟨"PartsAccumulator$SerialPrimes", "hash", "(JI)I"⟩
abbrev cd_S_fillSchedule : ByteArray := prog_6_method_4_code
abbrev my_S_fillSchedule : MethodName := ⟨"PartsAccumulator$SerialPrimes", "fillSchedule", "(JI)V"⟩
abbrev cd_S_turn : ByteArray := prog_6_method_5_code
abbrev my_S_turn : MethodName := ⟨"PartsAccumulator$SerialPrimes", "turn", "(II)I"⟩
abbrev cd_S_isPrime : ByteArray := prog_6_method_6_code
abbrev my_S_isPrime : MethodName := ⟨"PartsAccumulator$SerialPrimes", "isPrime", "(I)Z"⟩
abbrev cd_S_passes : ByteArray := prog_6_method_7_code
abbrev my_S_passes : MethodName := ⟨"PartsAccumulator$SerialPrimes", "passes", "(II)Z"⟩
abbrev cd_S_inverse : ByteArray := prog_6_method_8_code
abbrev my_S_inverse : MethodName := ⟨"PartsAccumulator$SerialPrimes", "inverse", "(II)I"⟩
abbrev cd_S_power : ByteArray := prog_6_method_9_code
abbrev my_S_power : MethodName := ⟨"PartsAccumulator$SerialPrimes", "power", "(JII)J"⟩
abbrev cd_L_law : ByteArray := code
abbrev my_L_law : MethodName := ⟨"PartsAccumulatorLaw", "law", "([I)Z"⟩
abbrev cd_A_fill_aII : ByteArray := prog_10_method_103_code
abbrev my_A_fill_aII : MethodName := ⟨"java/util/Arrays", "fill", "([II)V"⟩
abbrev cd_A_fill_aJJ : ByteArray := prog_10_method_101_code
abbrev my_A_fill_aJJ : MethodName := ⟨"java/util/Arrays", "fill", "([JJ)V"⟩
theorem tw_0 : Cond.initialized "PartsAccumulatorLaw" ∈ tb_ := tb_mem 0 (by decide +kernel) (by decide +kernel)
theorem tw_1 : Cond.initialized "PartsAccumulator" ∈ tb_ := tb_mem 1 (by decide +kernel) (by decide +kernel)
theorem tw_2 : Cond.initialized "PartsAccumulator$SerialPrimes" ∈ tb_ := tb_mem 2 (by decide +kernel) (by decide +kernel)
theorem tw_3 : Cond.initialized "PartsAccumulator$Ring" ∈ tb_ := tb_mem 3 (by decide +kernel) (by decide +kernel)
theorem tw_4 : Cond.initialized "PartsAccumulator$Roster" ∈ tb_ := tb_mem 4 (by decide +kernel) (by decide +kernel)
theorem tw_5 : Cond.initialized "PartsAccumulator$Epoch" ∈ tb_ := tb_mem 5 (by decide +kernel) (by decide +kernel)
theorem tw_6 : Cond.initialized "PartsAccumulator$Natural" ∈ tb_ := tb_mem 6 (by decide +kernel) (by decide +kernel)
theorem tw_7 : Cond.initialized "PartsAccumulatorModel" ∈ tb_ := tb_mem 7 (by decide +kernel) (by decide +kernel)
theorem tw_8 : Cond.initialized "java/lang/System" ∈ tb_ := tb_mem 8 (by decide +kernel) (by decide +kernel)
theorem tw_9 : Cond.initialized "java/util/Arrays" ∈ tb_ := tb_mem 9 (by decide +kernel) (by decide +kernel)
theorem tw_10 : Cond.classLink "PartsAccumulatorLaw" 7 "PartsAccumulator" ∈ tb_ := tb_mem 10 (by decide +kernel) (by decide +kernel)
theorem tw_11 : Cond.instantiable "PartsAccumulator" 11 ∈ tb_ := tb_mem 11 (by decide +kernel) (by decide +kernel)
theorem tw_12 : Cond.methodLink "PartsAccumulatorLaw" 9 my_P_init ∈ tb_ := tb_mem 12 (by decide +kernel) (by decide +kernel)
theorem tw_13 : Cond.instanceMethod my_P_init ∈ tb_ := tb_mem 13 (by decide +kernel) (by decide +kernel)
theorem tw_14 : Cond.code my_P_init prog_1_method_1_code 2 (Option.none : Option FieldType) ∈ tb_ := tb_mem 14 (by decide +kernel) (by decide +kernel)
theorem tw_15 : Cond.methodLink "PartsAccumulator" 1 objectInit ∈ tb_ := tb_mem 15 (by decide +kernel) (by decide +kernel)
theorem tw_16 : Cond.instanceMethod objectInit ∈ tb_ := tb_mem 16 (by decide +kernel) (by decide +kernel)
theorem tw_17 : Cond.code objectInit object_method_1_code 1 (Option.none : Option FieldType) ∈ tb_ := tb_mem 17 (by decide +kernel) (by decide +kernel)
theorem tw_18 : Cond.classLink "PartsAccumulator" 7 "PartsAccumulator$SerialPrimes" ∈ tb_ := tb_mem 18 (by decide +kernel) (by decide +kernel)
theorem tw_19 : Cond.instantiable "PartsAccumulator$SerialPrimes" 1 ∈ tb_ := tb_mem 19 (by decide +kernel) (by decide +kernel)
theorem tw_21 : Cond.instanceMethod my_S_init ∈ tb_ := tb_mem 21 (by decide +kernel) (by decide +kernel)
theorem tw_22 : Cond.code my_S_init prog_6_method_1_code 1 (Option.none : Option FieldType) ∈ tb_ := tb_mem 22 (by decide +kernel) (by decide +kernel)
theorem tw_23 : Cond.methodLink "PartsAccumulator$SerialPrimes" 3 objectInit ∈ tb_ := tb_mem 23 (by decide +kernel) (by decide +kernel)
theorem tw_24 : Cond.fieldLink "PartsAccumulator$SerialPrimes" 11 "PartsAccumulator$SerialPrimes" "w" "[I" ∈ tb_ := tb_mem 24 (by decide +kernel) (by decide +kernel)
theorem tw_25 : Cond.laysFinal "PartsAccumulator$SerialPrimes" "PartsAccumulator$SerialPrimes" "w" "[I" ∈ tb_ := tb_mem 25 (by decide +kernel) (by decide +kernel)
theorem tw_28 : Cond.arrayClass FieldType.int ∈ tb_ := tb_mem 28 (by decide +kernel) (by decide +kernel)
theorem tw_29 : Cond.classLink "PartsAccumulator" 16 "PartsAccumulator$Ring" ∈ tb_ := tb_mem 29 (by decide +kernel) (by decide +kernel)
theorem tw_30 : Cond.instantiable "PartsAccumulator$Ring" 11 ∈ tb_ := tb_mem 30 (by decide +kernel) (by decide +kernel)
theorem tw_32 : Cond.instanceMethod my_R_init ∈ tb_ := tb_mem 32 (by decide +kernel) (by decide +kernel)
theorem tw_33 : Cond.code my_R_init prog_4_method_1_code 1 (Option.none : Option FieldType) ∈ tb_ := tb_mem 33 (by decide +kernel) (by decide +kernel)
theorem tw_34 : Cond.methodLink "PartsAccumulator$Ring" 1 objectInit ∈ tb_ := tb_mem 34 (by decide +kernel) (by decide +kernel)
theorem tw_35 : Cond.constantLong "PartsAccumulator$Ring" 7 (3 : Int64) ∈ tb_ := tb_mem 35 (by decide +kernel) (by decide +kernel)
theorem tw_36 : Cond.fieldLink "PartsAccumulator$Ring" 9 "PartsAccumulator$Ring" "three" "[J" ∈ tb_ := tb_mem 36 (by decide +kernel) (by decide +kernel)
theorem tw_37 : Cond.fieldLink "PartsAccumulator" 181 "PartsAccumulator$Ring" "three" "[J" ∈ tb_ := tb_mem 37 (by decide +kernel) (by decide +kernel)
theorem tw_38 : Cond.fieldLink "PartsAccumulator$Ring" 15 "PartsAccumulator$Ring" "third" "[J" ∈ tb_ := tb_mem 38 (by decide +kernel) (by decide +kernel)
theorem tw_39 : Cond.fieldLink "PartsAccumulator" 170 "PartsAccumulator$Ring" "third" "[J" ∈ tb_ := tb_mem 39 (by decide +kernel) (by decide +kernel)
theorem tw_40 : Cond.fieldLink "PartsAccumulator$Ring" 18 "PartsAccumulator$Ring" "unit" "[J" ∈ tb_ := tb_mem 40 (by decide +kernel) (by decide +kernel)
theorem tw_41 : Cond.fieldLink "PartsAccumulator$Ring" 21 "PartsAccumulator$Ring" "modulusLimbs" "[J" ∈ tb_ := tb_mem 41 (by decide +kernel) (by decide +kernel)
theorem tw_42 : Cond.fieldLink "PartsAccumulator$Ring" 24 "PartsAccumulator$Ring" "montgomeryOne" "[J" ∈ tb_ := tb_mem 42 (by decide +kernel) (by decide +kernel)
theorem tw_43 : Cond.fieldLink "PartsAccumulator$Ring" 27 "PartsAccumulator$Ring" "montgomerySquare" "[J" ∈ tb_ := tb_mem 43 (by decide +kernel) (by decide +kernel)
theorem tw_44 : Cond.fieldLink "PartsAccumulator$Ring" 30 "PartsAccumulator$Ring" "total" "[J" ∈ tb_ := tb_mem 44 (by decide +kernel) (by decide +kernel)
theorem tw_45 : Cond.fieldLink "PartsAccumulator$Ring" 33 "PartsAccumulator$Ring" "reduced" "[J" ∈ tb_ := tb_mem 45 (by decide +kernel) (by decide +kernel)
theorem tw_46 : Cond.fieldLink "PartsAccumulator$Ring" 36 "PartsAccumulator$Ring" "base" "[J" ∈ tb_ := tb_mem 46 (by decide +kernel) (by decide +kernel)
theorem tw_47 : Cond.fieldLink "PartsAccumulator$Ring" 39 "PartsAccumulator$Ring" "result" "[J" ∈ tb_ := tb_mem 47 (by decide +kernel) (by decide +kernel)
theorem tw_48 : Cond.fieldLink "PartsAccumulator$Ring" 92 "PartsAccumulator$Ring" "negatedInverse" "J" ∈ tb_ := tb_mem 48 (by decide +kernel) (by decide +kernel)
theorem tw_49 : Cond.laysFinal "PartsAccumulator$Ring" "PartsAccumulator$Ring" "three" "[J" ∈ tb_ := tb_mem 49 (by decide +kernel) (by decide +kernel)
theorem tw_51 : Cond.laysFinal "PartsAccumulator$Ring" "PartsAccumulator$Ring" "third" "[J" ∈ tb_ := tb_mem 51 (by decide +kernel) (by decide +kernel)
theorem tw_53 : Cond.laysFinal "PartsAccumulator$Ring" "PartsAccumulator$Ring" "unit" "[J" ∈ tb_ := tb_mem 53 (by decide +kernel) (by decide +kernel)
theorem tw_55 : Cond.laysFinal "PartsAccumulator$Ring" "PartsAccumulator$Ring" "modulusLimbs" "[J" ∈ tb_ := tb_mem 55 (by decide +kernel) (by decide +kernel)
theorem tw_57 : Cond.laysFinal "PartsAccumulator$Ring" "PartsAccumulator$Ring" "montgomeryOne" "[J" ∈ tb_ := tb_mem 57 (by decide +kernel) (by decide +kernel)
theorem tw_59 : Cond.laysFinal "PartsAccumulator$Ring" "PartsAccumulator$Ring" "montgomerySquare" "[J" ∈ tb_ := tb_mem 59 (by decide +kernel) (by decide +kernel)
theorem tw_61 : Cond.laysFinal "PartsAccumulator$Ring" "PartsAccumulator$Ring" "total" "[J" ∈ tb_ := tb_mem 61 (by decide +kernel) (by decide +kernel)
theorem tw_63 : Cond.laysFinal "PartsAccumulator$Ring" "PartsAccumulator$Ring" "reduced" "[J" ∈ tb_ := tb_mem 63 (by decide +kernel) (by decide +kernel)
theorem tw_65 : Cond.laysFinal "PartsAccumulator$Ring" "PartsAccumulator$Ring" "base" "[J" ∈ tb_ := tb_mem 65 (by decide +kernel) (by decide +kernel)
theorem tw_67 : Cond.laysFinal "PartsAccumulator$Ring" "PartsAccumulator$Ring" "result" "[J" ∈ tb_ := tb_mem 67 (by decide +kernel) (by decide +kernel)
theorem tw_69 : Cond.lays "PartsAccumulator$Ring" "PartsAccumulator$Ring" "negatedInverse" "J" ∈ tb_ := tb_mem 69 (by decide +kernel) (by decide +kernel)
theorem tw_72 : Cond.arrayClass FieldType.long ∈ tb_ := tb_mem 72 (by decide +kernel) (by decide +kernel)
theorem tw_73 : Cond.classLink "PartsAccumulator" 23 "PartsAccumulator$Roster" ∈ tb_ := tb_mem 73 (by decide +kernel) (by decide +kernel)
theorem tw_74 : Cond.instantiable "PartsAccumulator$Roster" 3 ∈ tb_ := tb_mem 74 (by decide +kernel) (by decide +kernel)
theorem tw_76 : Cond.instanceMethod my_T_init ∈ tb_ := tb_mem 76 (by decide +kernel) (by decide +kernel)
theorem tw_77 : Cond.code my_T_init prog_5_method_1_code 1 (Option.none : Option FieldType) ∈ tb_ := tb_mem 77 (by decide +kernel) (by decide +kernel)
theorem tw_78 : Cond.methodLink "PartsAccumulator$Roster" 3 objectInit ∈ tb_ := tb_mem 78 (by decide +kernel) (by decide +kernel)
theorem tw_79 : Cond.fieldLink "PartsAccumulator$Roster" 11 "PartsAccumulator$Roster" "serials" "[J" ∈ tb_ := tb_mem 79 (by decide +kernel) (by decide +kernel)
theorem tw_80 : Cond.fieldLink "PartsAccumulator$Roster" 15 "PartsAccumulator$Roster" "primes" "[I" ∈ tb_ := tb_mem 80 (by decide +kernel) (by decide +kernel)
theorem tw_81 : Cond.fieldLink "PartsAccumulator$Roster" 19 "PartsAccumulator$Roster" "count" "I" ∈ tb_ := tb_mem 81 (by decide +kernel) (by decide +kernel)
theorem tw_82 : Cond.fieldLink "PartsAccumulator" 85 "PartsAccumulator$Roster" "count" "I" ∈ tb_ := tb_mem 82 (by decide +kernel) (by decide +kernel)
theorem tw_83 : Cond.laysFinal "PartsAccumulator$Roster" "PartsAccumulator$Roster" "serials" "[J" ∈ tb_ := tb_mem 83 (by decide +kernel) (by decide +kernel)
theorem tw_85 : Cond.laysFinal "PartsAccumulator$Roster" "PartsAccumulator$Roster" "primes" "[I" ∈ tb_ := tb_mem 85 (by decide +kernel) (by decide +kernel)
theorem tw_87 : Cond.lays "PartsAccumulator$Roster" "PartsAccumulator$Roster" "count" "I" ∈ tb_ := tb_mem 87 (by decide +kernel) (by decide +kernel)
theorem tw_90 : Cond.classLink "PartsAccumulator" 30 "PartsAccumulator$Epoch" ∈ tb_ := tb_mem 90 (by decide +kernel) (by decide +kernel)
theorem tw_92 : Cond.instantiable "PartsAccumulator$Epoch" 3 ∈ tb_ := tb_mem 92 (by decide +kernel) (by decide +kernel)
theorem tw_94 : Cond.instanceMethod my_E_init ∈ tb_ := tb_mem 94 (by decide +kernel) (by decide +kernel)
theorem tw_95 : Cond.code my_E_init prog_2_method_1_code 1 (Option.none : Option FieldType) ∈ tb_ := tb_mem 95 (by decide +kernel) (by decide +kernel)
theorem tw_96 : Cond.methodLink "PartsAccumulator$Epoch" 1 objectInit ∈ tb_ := tb_mem 96 (by decide +kernel) (by decide +kernel)
theorem tw_97 : Cond.classLink "PartsAccumulator$Epoch" 7 "PartsAccumulator$Roster" ∈ tb_ := tb_mem 97 (by decide +kernel) (by decide +kernel)
theorem tw_99 : Cond.fieldLink "PartsAccumulator$Epoch" 10 "PartsAccumulator$Epoch" "roster" "LPartsAccumulator$Roster;" ∈ tb_ := tb_mem 99 (by decide +kernel) (by decide +kernel)
theorem tw_100 : Cond.fieldLink "PartsAccumulator" 103 "PartsAccumulator$Epoch" "roster" "LPartsAccumulator$Roster;" ∈ tb_ := tb_mem 100 (by decide +kernel) (by decide +kernel)
theorem tw_101 : Cond.fieldLink "PartsAccumulator$Epoch" 18 "PartsAccumulator$Epoch" "published" "[J" ∈ tb_ := tb_mem 101 (by decide +kernel) (by decide +kernel)
theorem tw_102 : Cond.fieldLink "PartsAccumulator" 113 "PartsAccumulator$Epoch" "published" "[J" ∈ tb_ := tb_mem 102 (by decide +kernel) (by decide +kernel)
theorem tw_103 : Cond.fieldLink "PartsAccumulator$Epoch" 22 "PartsAccumulator$Epoch" "inverse" "[J" ∈ tb_ := tb_mem 103 (by decide +kernel) (by decide +kernel)
theorem tw_104 : Cond.fieldLink "PartsAccumulator" 188 "PartsAccumulator$Epoch" "inverse" "[J" ∈ tb_ := tb_mem 104 (by decide +kernel) (by decide +kernel)
theorem tw_105 : Cond.laysFinal "PartsAccumulator$Epoch" "PartsAccumulator$Epoch" "roster" "LPartsAccumulator$Roster;" ∈ tb_ := tb_mem 105 (by decide +kernel) (by decide +kernel)
theorem tw_107 : Cond.laysFinal "PartsAccumulator$Epoch" "PartsAccumulator$Epoch" "published" "[J" ∈ tb_ := tb_mem 107 (by decide +kernel) (by decide +kernel)
theorem tw_109 : Cond.laysFinal "PartsAccumulator$Epoch" "PartsAccumulator$Epoch" "inverse" "[J" ∈ tb_ := tb_mem 109 (by decide +kernel) (by decide +kernel)
theorem tw_112 : Cond.classLink "PartsAccumulator" 47 "PartsAccumulator$Natural" ∈ tb_ := tb_mem 112 (by decide +kernel) (by decide +kernel)
theorem tw_113 : Cond.instantiable "PartsAccumulator$Natural" 1 ∈ tb_ := tb_mem 113 (by decide +kernel) (by decide +kernel)
theorem tw_115 : Cond.instanceMethod my_N_init ∈ tb_ := tb_mem 115 (by decide +kernel) (by decide +kernel)
theorem tw_116 : Cond.code my_N_init prog_3_method_1_code 1 (Option.none : Option FieldType) ∈ tb_ := tb_mem 116 (by decide +kernel) (by decide +kernel)
theorem tw_117 : Cond.methodLink "PartsAccumulator$Natural" 3 objectInit ∈ tb_ := tb_mem 117 (by decide +kernel) (by decide +kernel)
theorem tw_118 : Cond.fieldLink "PartsAccumulator$Natural" 9 "PartsAccumulator$Natural" "limbs" "[J" ∈ tb_ := tb_mem 118 (by decide +kernel) (by decide +kernel)
theorem tw_119 : Cond.laysFinal "PartsAccumulator$Natural" "PartsAccumulator$Natural" "limbs" "[J" ∈ tb_ := tb_mem 119 (by decide +kernel) (by decide +kernel)
theorem tw_122 : Cond.fieldLink "PartsAccumulator" 10 "PartsAccumulator" "serialPrimes" "LPartsAccumulator$SerialPrimes;" ∈ tb_ := tb_mem 122 (by decide +kernel) (by decide +kernel)
theorem tw_123 : Cond.fieldLink "PartsAccumulator" 19 "PartsAccumulator" "ring" "LPartsAccumulator$Ring;" ∈ tb_ := tb_mem 123 (by decide +kernel) (by decide +kernel)
theorem tw_124 : Cond.fieldLink "PartsAccumulator" 26 "PartsAccumulator" "pending" "LPartsAccumulator$Roster;" ∈ tb_ := tb_mem 124 (by decide +kernel) (by decide +kernel)
theorem tw_125 : Cond.fieldLink "PartsAccumulator" 32 "PartsAccumulator" "epochs" "[LPartsAccumulator$Epoch;" ∈ tb_ := tb_mem 125 (by decide +kernel) (by decide +kernel)
theorem tw_126 : Cond.fieldLink "PartsAccumulator" 37 "PartsAccumulator" "held" "[J" ∈ tb_ := tb_mem 126 (by decide +kernel) (by decide +kernel)
theorem tw_127 : Cond.fieldLink "PartsAccumulator" 41 "PartsAccumulator" "scratch" "[J" ∈ tb_ := tb_mem 127 (by decide +kernel) (by decide +kernel)
theorem tw_128 : Cond.fieldLink "PartsAccumulator" 44 "PartsAccumulator" "otherScratch" "[J" ∈ tb_ := tb_mem 128 (by decide +kernel) (by decide +kernel)
theorem tw_129 : Cond.fieldLink "PartsAccumulator" 50 "PartsAccumulator" "exponent" "LPartsAccumulator$Natural;" ∈ tb_ := tb_mem 129 (by decide +kernel) (by decide +kernel)
theorem tw_130 : Cond.fieldLink "PartsAccumulator" 54 "PartsAccumulator" "hasModulus" "Z" ∈ tb_ := tb_mem 130 (by decide +kernel) (by decide +kernel)
theorem tw_131 : Cond.fieldLink "PartsAccumulator" 100 "PartsAccumulator" "now" "I" ∈ tb_ := tb_mem 131 (by decide +kernel) (by decide +kernel)
theorem tw_132 : Cond.fieldLink "PartsAccumulator" 132 "PartsAccumulator" "heldFactor" "I" ∈ tb_ := tb_mem 132 (by decide +kernel) (by decide +kernel)
theorem tw_133 : Cond.laysFinal "PartsAccumulator" "PartsAccumulator" "serialPrimes" "LPartsAccumulator$SerialPrimes;" ∈ tb_ := tb_mem 133 (by decide +kernel) (by decide +kernel)
theorem tw_135 : Cond.laysFinal "PartsAccumulator" "PartsAccumulator" "ring" "LPartsAccumulator$Ring;" ∈ tb_ := tb_mem 135 (by decide +kernel) (by decide +kernel)
theorem tw_137 : Cond.laysFinal "PartsAccumulator" "PartsAccumulator" "pending" "LPartsAccumulator$Roster;" ∈ tb_ := tb_mem 137 (by decide +kernel) (by decide +kernel)
theorem tw_139 : Cond.laysFinal "PartsAccumulator" "PartsAccumulator" "epochs" "[LPartsAccumulator$Epoch;" ∈ tb_ := tb_mem 139 (by decide +kernel) (by decide +kernel)
theorem tw_141 : Cond.laysFinal "PartsAccumulator" "PartsAccumulator" "held" "[J" ∈ tb_ := tb_mem 141 (by decide +kernel) (by decide +kernel)
theorem tw_143 : Cond.laysFinal "PartsAccumulator" "PartsAccumulator" "scratch" "[J" ∈ tb_ := tb_mem 143 (by decide +kernel) (by decide +kernel)
theorem tw_145 : Cond.laysFinal "PartsAccumulator" "PartsAccumulator" "otherScratch" "[J" ∈ tb_ := tb_mem 145 (by decide +kernel) (by decide +kernel)
theorem tw_147 : Cond.laysFinal "PartsAccumulator" "PartsAccumulator" "exponent" "LPartsAccumulator$Natural;" ∈ tb_ := tb_mem 147 (by decide +kernel) (by decide +kernel)
theorem tw_149 : Cond.lays "PartsAccumulator" "PartsAccumulator" "hasModulus" "Z" ∈ tb_ := tb_mem 149 (by decide +kernel) (by decide +kernel)
theorem tw_151 : Cond.lays "PartsAccumulator" "PartsAccumulator" "now" "I" ∈ tb_ := tb_mem 151 (by decide +kernel) (by decide +kernel)
theorem tw_153 : Cond.lays "PartsAccumulator" "PartsAccumulator" "heldFactor" "I" ∈ tb_ := tb_mem 153 (by decide +kernel) (by decide +kernel)
theorem tw_156 : Cond.methodLink "PartsAccumulatorLaw" 15 my_P_modulus ∈ tb_ := tb_mem 156 (by decide +kernel) (by decide +kernel)
theorem tw_157 : Cond.instanceMethod my_P_modulus ∈ tb_ := tb_mem 157 (by decide +kernel) (by decide +kernel)
theorem tw_158 : Cond.selects "PartsAccumulator" my_P_modulus my_P_modulus ∈ tb_ := tb_mem 158 (by decide +kernel) (by decide +kernel)
theorem tw_159 : Cond.code my_P_modulus prog_1_method_2_code 5 (Option.some FieldType.boolean) ∈ tb_ := tb_mem 159 (by decide +kernel) (by decide +kernel)
theorem tw_160 : Cond.methodLink "PartsAccumulator" 58 my_R_accepts ∈ tb_ := tb_mem 160 (by decide +kernel) (by decide +kernel)
theorem tw_161 : Cond.static my_R_accepts ∈ tb_ := tb_mem 161 (by decide +kernel) (by decide +kernel)
theorem tw_162 : Cond.code my_R_accepts prog_4_method_2_code 8 (Option.some FieldType.boolean) ∈ tb_ := tb_mem 162 (by decide +kernel) (by decide +kernel)
theorem tw_163 : Cond.constantLong "PartsAccumulator$Ring" 42 (4294967295 : Int64) ∈ tb_ := tb_mem 163 (by decide +kernel) (by decide +kernel)
theorem tw_164 : Cond.methodLink "PartsAccumulator" 62 my_R_begin ∈ tb_ := tb_mem 164 (by decide +kernel) (by decide +kernel)
theorem tw_165 : Cond.instanceMethod my_R_begin ∈ tb_ := tb_mem 165 (by decide +kernel) (by decide +kernel)
theorem tw_166 : Cond.selects "PartsAccumulator$Ring" my_R_begin my_R_begin ∈ tb_ := tb_mem 166 (by decide +kernel) (by decide +kernel)
theorem tw_167 : Cond.code my_R_begin prog_4_method_6_code 5 (Option.none : Option FieldType) ∈ tb_ := tb_mem 167 (by decide +kernel) (by decide +kernel)
theorem tw_168 : Cond.methodLink "PartsAccumulator$Ring" 44 my_R_split ∈ tb_ := tb_mem 168 (by decide +kernel) (by decide +kernel)
theorem tw_169 : Cond.static my_R_split ∈ tb_ := tb_mem 169 (by decide +kernel) (by decide +kernel)
theorem tw_170 : Cond.code my_R_split prog_4_method_3_code 5 (Option.none : Option FieldType) ∈ tb_ := tb_mem 170 (by decide +kernel) (by decide +kernel)
theorem tw_171 : Cond.methodLink "PartsAccumulator$Ring" 48 my_R_findNegatedInverse ∈ tb_ := tb_mem 171 (by decide +kernel) (by decide +kernel)
theorem tw_173 : Cond.instanceMethod my_R_findNegatedInverse ∈ tb_ := tb_mem 173 (by decide +kernel) (by decide +kernel)
theorem tw_174 : Cond.code my_R_findNegatedInverse prog_4_method_11_code 6 (Option.none : Option FieldType) ∈ tb_ := tb_mem 174 (by decide +kernel) (by decide +kernel)
theorem tw_175 : Cond.constantLong "PartsAccumulator$Ring" 90 (2 : Int64) ∈ tb_ := tb_mem 175 (by decide +kernel) (by decide +kernel)
theorem tw_176 : Cond.methodLink "PartsAccumulator$Ring" 51 my_R_findThird ∈ tb_ := tb_mem 176 (by decide +kernel) (by decide +kernel)
theorem tw_178 : Cond.instanceMethod my_R_findThird ∈ tb_ := tb_mem 178 (by decide +kernel) (by decide +kernel)
theorem tw_179 : Cond.code my_R_findThird prog_4_method_12_code 10 (Option.none : Option FieldType) ∈ tb_ := tb_mem 179 (by decide +kernel) (by decide +kernel)
theorem tw_180 : Cond.methodLink "PartsAccumulator$Ring" 54 arraycopyName ∈ tb_ := tb_mem 180 (by decide +kernel) (by decide +kernel)
theorem tw_181 : Cond.static arraycopyName ∈ tb_ := tb_mem 181 (by decide +kernel) (by decide +kernel)
theorem tw_182 : Cond.native arraycopyName ∈ tb_ := tb_mem 182 (by decide +kernel) (by decide +kernel)
theorem tw_183 : Cond.methodLink "PartsAccumulator$Ring" 60 my_R_shiftBy128 ∈ tb_ := tb_mem 183 (by decide +kernel) (by decide +kernel)
theorem tw_185 : Cond.instanceMethod my_R_shiftBy128 ∈ tb_ := tb_mem 185 (by decide +kernel) (by decide +kernel)
theorem tw_186 : Cond.code my_R_shiftBy128 prog_4_method_13_code 8 (Option.none : Option FieldType) ∈ tb_ := tb_mem 186 (by decide +kernel) (by decide +kernel)
theorem tw_187 : Cond.methodLink "PartsAccumulator$Ring" 96 my_R_reduceTotal ∈ tb_ := tb_mem 187 (by decide +kernel) (by decide +kernel)
theorem tw_189 : Cond.instanceMethod my_R_reduceTotal ∈ tb_ := tb_mem 189 (by decide +kernel) (by decide +kernel)
theorem tw_190 : Cond.code my_R_reduceTotal prog_4_method_17_code 7 (Option.none : Option FieldType) ∈ tb_ := tb_mem 190 (by decide +kernel) (by decide +kernel)
theorem tw_191 : Cond.methodLink "PartsAccumulator" 66 my_P_publish ∈ tb_ := tb_mem 191 (by decide +kernel) (by decide +kernel)
theorem tw_193 : Cond.instanceMethod my_P_publish ∈ tb_ := tb_mem 193 (by decide +kernel) (by decide +kernel)
theorem tw_194 : Cond.code my_P_publish prog_1_method_25_code 2 (Option.none : Option FieldType) ∈ tb_ := tb_mem 194 (by decide +kernel) (by decide +kernel)
theorem tw_195 : Cond.methodLink "PartsAccumulator" 160 my_N_become ∈ tb_ := tb_mem 195 (by decide +kernel) (by decide +kernel)
theorem tw_196 : Cond.instanceMethod my_N_become ∈ tb_ := tb_mem 196 (by decide +kernel) (by decide +kernel)
theorem tw_197 : Cond.selects "PartsAccumulator$Natural" my_N_become my_N_become ∈ tb_ := tb_mem 197 (by decide +kernel) (by decide +kernel)
theorem tw_198 : Cond.code my_N_become prog_3_method_2_code 2 (Option.none : Option FieldType) ∈ tb_ := tb_mem 198 (by decide +kernel) (by decide +kernel)
theorem tw_199 : Cond.methodLink "PartsAccumulator$Natural" 13 my_A_fill_aJJ ∈ tb_ := tb_mem 199 (by decide +kernel) (by decide +kernel)
theorem tw_200 : Cond.static my_A_fill_aJJ ∈ tb_ := tb_mem 200 (by decide +kernel) (by decide +kernel)
theorem tw_201 : Cond.code my_A_fill_aJJ prog_10_method_101_code 5 (Option.none : Option FieldType) ∈ tb_ := tb_mem 201 (by decide +kernel) (by decide +kernel)
theorem tw_202 : Cond.methodLink "PartsAccumulator" 162 my_T_multiplyInto ∈ tb_ := tb_mem 202 (by decide +kernel) (by decide +kernel)
theorem tw_203 : Cond.instanceMethod my_T_multiplyInto ∈ tb_ := tb_mem 203 (by decide +kernel) (by decide +kernel)
theorem tw_204 : Cond.selects "PartsAccumulator$Roster" my_T_multiplyInto my_T_multiplyInto ∈ tb_ := tb_mem 204 (by decide +kernel) (by decide +kernel)
theorem tw_205 : Cond.code my_T_multiplyInto prog_5_method_10_code 3 (Option.none : Option FieldType) ∈ tb_ := tb_mem 205 (by decide +kernel) (by decide +kernel)
theorem tw_206 : Cond.methodLink "PartsAccumulator$Roster" 37 my_N_multiply ∈ tb_ := tb_mem 206 (by decide +kernel) (by decide +kernel)
theorem tw_207 : Cond.instanceMethod my_N_multiply ∈ tb_ := tb_mem 207 (by decide +kernel) (by decide +kernel)
theorem tw_208 : Cond.selects "PartsAccumulator$Natural" my_N_multiply my_N_multiply ∈ tb_ := tb_mem 208 (by decide +kernel) (by decide +kernel)
theorem tw_209 : Cond.code my_N_multiply prog_3_method_3_code 7 (Option.none : Option FieldType) ∈ tb_ := tb_mem 209 (by decide +kernel) (by decide +kernel)
theorem tw_210 : Cond.constantLong "PartsAccumulator$Natural" 19 (4294967295 : Int64) ∈ tb_ := tb_mem 210 (by decide +kernel) (by decide +kernel)
theorem tw_211 : Cond.methodLink "PartsAccumulator" 173 my_R_power ∈ tb_ := tb_mem 211 (by decide +kernel) (by decide +kernel)
theorem tw_212 : Cond.instanceMethod my_R_power ∈ tb_ := tb_mem 212 (by decide +kernel) (by decide +kernel)
theorem tw_213 : Cond.selects "PartsAccumulator$Ring" my_R_power my_R_power ∈ tb_ := tb_mem 213 (by decide +kernel) (by decide +kernel)
theorem tw_214 : Cond.code my_R_power prog_4_method_9_code 5 (Option.none : Option FieldType) ∈ tb_ := tb_mem 214 (by decide +kernel) (by decide +kernel)
theorem tw_215 : Cond.methodLink "PartsAccumulator$Ring" 72 my_R_montgomery ∈ tb_ := tb_mem 215 (by decide +kernel) (by decide +kernel)
theorem tw_217 : Cond.instanceMethod my_R_montgomery ∈ tb_ := tb_mem 217 (by decide +kernel) (by decide +kernel)
theorem tw_218 : Cond.code my_R_montgomery prog_4_method_14_code 5 (Option.none : Option FieldType) ∈ tb_ := tb_mem 218 (by decide +kernel) (by decide +kernel)
theorem tw_219 : Cond.methodLink "PartsAccumulator$Ring" 99 my_A_fill_aJJ ∈ tb_ := tb_mem 219 (by decide +kernel) (by decide +kernel)
theorem tw_220 : Cond.methodLink "PartsAccumulator$Ring" 105 my_R_addProduct ∈ tb_ := tb_mem 220 (by decide +kernel) (by decide +kernel)
theorem tw_222 : Cond.instanceMethod my_R_addProduct ∈ tb_ := tb_mem 222 (by decide +kernel) (by decide +kernel)
theorem tw_223 : Cond.code my_R_addProduct prog_4_method_15_code 9 (Option.none : Option FieldType) ∈ tb_ := tb_mem 223 (by decide +kernel) (by decide +kernel)
theorem tw_224 : Cond.methodLink "PartsAccumulator$Ring" 108 my_R_dropLowestLimb ∈ tb_ := tb_mem 224 (by decide +kernel) (by decide +kernel)
theorem tw_226 : Cond.instanceMethod my_R_dropLowestLimb ∈ tb_ := tb_mem 226 (by decide +kernel) (by decide +kernel)
theorem tw_227 : Cond.code my_R_dropLowestLimb prog_4_method_16_code 8 (Option.none : Option FieldType) ∈ tb_ := tb_mem 227 (by decide +kernel) (by decide +kernel)
theorem tw_228 : Cond.methodLink "PartsAccumulator$Ring" 76 my_N_highestBit ∈ tb_ := tb_mem 228 (by decide +kernel) (by decide +kernel)
theorem tw_229 : Cond.instanceMethod my_N_highestBit ∈ tb_ := tb_mem 229 (by decide +kernel) (by decide +kernel)
theorem tw_230 : Cond.selects "PartsAccumulator$Natural" my_N_highestBit my_N_highestBit ∈ tb_ := tb_mem 230 (by decide +kernel) (by decide +kernel)
theorem tw_231 : Cond.code my_N_highestBit prog_3_method_7_code 2 (Option.some FieldType.int) ∈ tb_ := tb_mem 231 (by decide +kernel) (by decide +kernel)
theorem tw_232 : Cond.methodLink "PartsAccumulator$Natural" 21 my_N_bit ∈ tb_ := tb_mem 232 (by decide +kernel) (by decide +kernel)
theorem tw_233 : Cond.instanceMethod my_N_bit ∈ tb_ := tb_mem 233 (by decide +kernel) (by decide +kernel)
theorem tw_234 : Cond.selects "PartsAccumulator$Natural" my_N_bit my_N_bit ∈ tb_ := tb_mem 234 (by decide +kernel) (by decide +kernel)
theorem tw_235 : Cond.code my_N_bit prog_3_method_6_code 2 (Option.some FieldType.boolean) ∈ tb_ := tb_mem 235 (by decide +kernel) (by decide +kernel)
theorem tw_236 : Cond.methodLink "PartsAccumulator$Ring" 82 my_N_bit ∈ tb_ := tb_mem 236 (by decide +kernel) (by decide +kernel)
theorem tw_237 : Cond.methodLink "PartsAccumulatorLaw" 20 my_P_prime ∈ tb_ := tb_mem 237 (by decide +kernel) (by decide +kernel)
theorem tw_238 : Cond.instanceMethod my_P_prime ∈ tb_ := tb_mem 238 (by decide +kernel) (by decide +kernel)
theorem tw_239 : Cond.selects "PartsAccumulator" my_P_prime my_P_prime ∈ tb_ := tb_mem 239 (by decide +kernel) (by decide +kernel)
theorem tw_240 : Cond.code my_P_prime prog_1_method_3_code 3 (Option.some FieldType.int) ∈ tb_ := tb_mem 240 (by decide +kernel) (by decide +kernel)
theorem tw_241 : Cond.methodLink "PartsAccumulator" 70 my_S_primeOf ∈ tb_ := tb_mem 241 (by decide +kernel) (by decide +kernel)
theorem tw_242 : Cond.instanceMethod my_S_primeOf ∈ tb_ := tb_mem 242 (by decide +kernel) (by decide +kernel)
theorem tw_243 : Cond.selects "PartsAccumulator$SerialPrimes" my_S_primeOf my_S_primeOf ∈ tb_ := tb_mem 243 (by decide +kernel) (by decide +kernel)
theorem tw_244 : Cond.code my_S_primeOf prog_6_method_2_code 5 (Option.some FieldType.int) ∈ tb_ := tb_mem 244 (by decide +kernel) (by decide +kernel)
theorem tw_245 : Cond.constantLong "PartsAccumulator$SerialPrimes" 15 (1099511627776 : Int64) ∈ tb_ := tb_mem 245 (by decide +kernel) (by decide +kernel)
theorem tw_246 : Cond.methodLink "PartsAccumulator$SerialPrimes" 17 my_S_hash ∈ tb_ := tb_mem 246 (by decide +kernel) (by decide +kernel)
theorem tw_248 : Cond.instanceMethod my_S_hash ∈ tb_ := tb_mem 248 (by decide +kernel) (by decide +kernel)
theorem tw_249 : Cond.code my_S_hash prog_6_method_3_code 15 (Option.some FieldType.int) ∈ tb_ := tb_mem 249 (by decide +kernel) (by decide +kernel)
theorem tw_250 : Cond.methodLink "PartsAccumulator$SerialPrimes" 27 my_S_fillSchedule ∈ tb_ := tb_mem 250 (by decide +kernel) (by decide +kernel)
theorem tw_252 : Cond.instanceMethod my_S_fillSchedule ∈ tb_ := tb_mem 252 (by decide +kernel) (by decide +kernel)
theorem tw_253 : Cond.code my_S_fillSchedule prog_6_method_4_code 7 (Option.none : Option FieldType) ∈ tb_ := tb_mem 253 (by decide +kernel) (by decide +kernel)
theorem tw_254 : Cond.methodLink "PartsAccumulator$SerialPrimes" 46 my_A_fill_aII ∈ tb_ := tb_mem 254 (by decide +kernel) (by decide +kernel)
theorem tw_255 : Cond.static my_A_fill_aII ∈ tb_ := tb_mem 255 (by decide +kernel) (by decide +kernel)
theorem tw_256 : Cond.code my_A_fill_aII prog_10_method_103_code 4 (Option.none : Option FieldType) ∈ tb_ := tb_mem 256 (by decide +kernel) (by decide +kernel)
theorem tw_257 : Cond.constant "PartsAccumulator$SerialPrimes" 52 (-2147483648 : Int32) ∈ tb_ := tb_mem 257 (by decide +kernel) (by decide +kernel)
theorem tw_258 : Cond.methodLink "PartsAccumulator$SerialPrimes" 39 my_S_turn ∈ tb_ := tb_mem 258 (by decide +kernel) (by decide +kernel)
theorem tw_259 : Cond.static my_S_turn ∈ tb_ := tb_mem 259 (by decide +kernel) (by decide +kernel)
theorem tw_260 : Cond.code my_S_turn prog_6_method_5_code 2 (Option.some FieldType.int) ∈ tb_ := tb_mem 260 (by decide +kernel) (by decide +kernel)
theorem tw_261 : Cond.constant "PartsAccumulator$SerialPrimes" 31 (1779033703 : Int32) ∈ tb_ := tb_mem 261 (by decide +kernel) (by decide +kernel)
theorem tw_262 : Cond.constant "PartsAccumulator$SerialPrimes" 32 (-1150833019 : Int32) ∈ tb_ := tb_mem 262 (by decide +kernel) (by decide +kernel)
theorem tw_263 : Cond.constant "PartsAccumulator$SerialPrimes" 33 (1013904242 : Int32) ∈ tb_ := tb_mem 263 (by decide +kernel) (by decide +kernel)
theorem tw_264 : Cond.constant "PartsAccumulator$SerialPrimes" 34 (-1521486534 : Int32) ∈ tb_ := tb_mem 264 (by decide +kernel) (by decide +kernel)
theorem tw_265 : Cond.constant "PartsAccumulator$SerialPrimes" 35 (1359893119 : Int32) ∈ tb_ := tb_mem 265 (by decide +kernel) (by decide +kernel)
theorem tw_266 : Cond.constant "PartsAccumulator$SerialPrimes" 36 (-1694144372 : Int32) ∈ tb_ := tb_mem 266 (by decide +kernel) (by decide +kernel)
theorem tw_267 : Cond.constant "PartsAccumulator$SerialPrimes" 37 (528734635 : Int32) ∈ tb_ := tb_mem 267 (by decide +kernel) (by decide +kernel)
theorem tw_268 : Cond.constant "PartsAccumulator$SerialPrimes" 38 (1541459225 : Int32) ∈ tb_ := tb_mem 268 (by decide +kernel) (by decide +kernel)
theorem tw_269 : Cond.fieldLink "PartsAccumulator$SerialPrimes" 43 "PartsAccumulator$SerialPrimes" "K" "[I" ∈ tb_ := tb_mem 269 (by decide +kernel) (by decide +kernel)
theorem tw_271 : Cond.constant "PartsAccumulator$SerialPrimes" 21 (2147483647 : Int32) ∈ tb_ := tb_mem 271 (by decide +kernel) (by decide +kernel)
theorem tw_272 : Cond.constant "PartsAccumulator$SerialPrimes" 22 (1073741825 : Int32) ∈ tb_ := tb_mem 272 (by decide +kernel) (by decide +kernel)
theorem tw_273 : Cond.methodLink "PartsAccumulator$SerialPrimes" 23 my_S_isPrime ∈ tb_ := tb_mem 273 (by decide +kernel) (by decide +kernel)
theorem tw_274 : Cond.static my_S_isPrime ∈ tb_ := tb_mem 274 (by decide +kernel) (by decide +kernel)
theorem tw_275 : Cond.code my_S_isPrime prog_6_method_6_code 1 (Option.some FieldType.boolean) ∈ tb_ := tb_mem 275 (by decide +kernel) (by decide +kernel)
theorem tw_276 : Cond.methodLink "PartsAccumulator$SerialPrimes" 53 my_S_passes ∈ tb_ := tb_mem 276 (by decide +kernel) (by decide +kernel)
theorem tw_277 : Cond.static my_S_passes ∈ tb_ := tb_mem 277 (by decide +kernel) (by decide +kernel)
theorem tw_278 : Cond.code my_S_passes prog_6_method_7_code 7 (Option.some FieldType.boolean) ∈ tb_ := tb_mem 278 (by decide +kernel) (by decide +kernel)
theorem tw_279 : Cond.methodLink "PartsAccumulator$SerialPrimes" 57 my_S_power ∈ tb_ := tb_mem 279 (by decide +kernel) (by decide +kernel)
theorem tw_280 : Cond.static my_S_power ∈ tb_ := tb_mem 280 (by decide +kernel) (by decide +kernel)
theorem tw_281 : Cond.code my_S_power prog_6_method_9_code 7 (Option.some FieldType.long) ∈ tb_ := tb_mem 281 (by decide +kernel) (by decide +kernel)
theorem tw_282 : Cond.methodLink "PartsAccumulatorLaw" 25 my_P_add ∈ tb_ := tb_mem 282 (by decide +kernel) (by decide +kernel)
theorem tw_283 : Cond.instanceMethod my_P_add ∈ tb_ := tb_mem 283 (by decide +kernel) (by decide +kernel)
theorem tw_284 : Cond.selects "PartsAccumulator" my_P_add my_P_add ∈ tb_ := tb_mem 284 (by decide +kernel) (by decide +kernel)
theorem tw_285 : Cond.code my_P_add prog_1_method_4_code 4 (Option.some FieldType.int) ∈ tb_ := tb_mem 285 (by decide +kernel) (by decide +kernel)
theorem tw_286 : Cond.methodLink "PartsAccumulator" 74 my_P_primeOrRefusal_J ∈ tb_ := tb_mem 286 (by decide +kernel) (by decide +kernel)
theorem tw_288 : Cond.instanceMethod my_P_primeOrRefusal_J ∈ tb_ := tb_mem 288 (by decide +kernel) (by decide +kernel)
theorem tw_289 : Cond.code my_P_primeOrRefusal_J prog_1_method_20_code 3 (Option.some FieldType.int) ∈ tb_ := tb_mem 289 (by decide +kernel) (by decide +kernel)
theorem tw_290 : Cond.methodLink "PartsAccumulator" 77 my_T_has ∈ tb_ := tb_mem 290 (by decide +kernel) (by decide +kernel)
theorem tw_291 : Cond.instanceMethod my_T_has ∈ tb_ := tb_mem 291 (by decide +kernel) (by decide +kernel)
theorem tw_292 : Cond.selects "PartsAccumulator$Roster" my_T_has my_T_has ∈ tb_ := tb_mem 292 (by decide +kernel) (by decide +kernel)
theorem tw_293 : Cond.code my_T_has prog_5_method_3_code 3 (Option.some FieldType.boolean) ∈ tb_ := tb_mem 293 (by decide +kernel) (by decide +kernel)
theorem tw_294 : Cond.methodLink "PartsAccumulator$Roster" 23 my_T_placeOf ∈ tb_ := tb_mem 294 (by decide +kernel) (by decide +kernel)
theorem tw_295 : Cond.instanceMethod my_T_placeOf ∈ tb_ := tb_mem 295 (by decide +kernel) (by decide +kernel)
theorem tw_296 : Cond.selects "PartsAccumulator$Roster" my_T_placeOf my_T_placeOf ∈ tb_ := tb_mem 296 (by decide +kernel) (by decide +kernel)
theorem tw_297 : Cond.code my_T_placeOf prog_5_method_2_code 4 (Option.some FieldType.int) ∈ tb_ := tb_mem 297 (by decide +kernel) (by decide +kernel)
theorem tw_298 : Cond.methodLink "PartsAccumulator" 81 my_T_hasPrime ∈ tb_ := tb_mem 298 (by decide +kernel) (by decide +kernel)
theorem tw_299 : Cond.instanceMethod my_T_hasPrime ∈ tb_ := tb_mem 299 (by decide +kernel) (by decide +kernel)
theorem tw_300 : Cond.selects "PartsAccumulator$Roster" my_T_hasPrime my_T_hasPrime ∈ tb_ := tb_mem 300 (by decide +kernel) (by decide +kernel)
theorem tw_301 : Cond.code my_T_hasPrime prog_5_method_4_code 3 (Option.some FieldType.boolean) ∈ tb_ := tb_mem 301 (by decide +kernel) (by decide +kernel)
theorem tw_302 : Cond.methodLink "PartsAccumulator" 89 my_T_insert ∈ tb_ := tb_mem 302 (by decide +kernel) (by decide +kernel)
theorem tw_303 : Cond.instanceMethod my_T_insert ∈ tb_ := tb_mem 303 (by decide +kernel) (by decide +kernel)
theorem tw_304 : Cond.selects "PartsAccumulator$Roster" my_T_insert my_T_insert ∈ tb_ := tb_mem 304 (by decide +kernel) (by decide +kernel)
theorem tw_305 : Cond.code my_T_insert prog_5_method_5_code 5 (Option.none : Option FieldType) ∈ tb_ := tb_mem 305 (by decide +kernel) (by decide +kernel)
theorem tw_306 : Cond.methodLink "PartsAccumulatorLaw" 29 my_P_remove ∈ tb_ := tb_mem 306 (by decide +kernel) (by decide +kernel)
theorem tw_307 : Cond.instanceMethod my_P_remove ∈ tb_ := tb_mem 307 (by decide +kernel) (by decide +kernel)
theorem tw_308 : Cond.selects "PartsAccumulator" my_P_remove my_P_remove ∈ tb_ := tb_mem 308 (by decide +kernel) (by decide +kernel)
theorem tw_309 : Cond.code my_P_remove prog_1_method_5_code 5 (Option.some FieldType.int) ∈ tb_ := tb_mem 309 (by decide +kernel) (by decide +kernel)
theorem tw_310 : Cond.methodLink "PartsAccumulator" 93 my_T_placeOf ∈ tb_ := tb_mem 310 (by decide +kernel) (by decide +kernel)
theorem tw_311 : Cond.methodLink "PartsAccumulator" 96 my_T_delete ∈ tb_ := tb_mem 311 (by decide +kernel) (by decide +kernel)
theorem tw_312 : Cond.instanceMethod my_T_delete ∈ tb_ := tb_mem 312 (by decide +kernel) (by decide +kernel)
theorem tw_313 : Cond.selects "PartsAccumulator$Roster" my_T_delete my_T_delete ∈ tb_ := tb_mem 313 (by decide +kernel) (by decide +kernel)
theorem tw_314 : Cond.code my_T_delete prog_5_method_6_code 3 (Option.none : Option FieldType) ∈ tb_ := tb_mem 314 (by decide +kernel) (by decide +kernel)
theorem tw_315 : Cond.methodLink "PartsAccumulatorLaw" 33 my_P_close ∈ tb_ := tb_mem 315 (by decide +kernel) (by decide +kernel)
theorem tw_316 : Cond.instanceMethod my_P_close ∈ tb_ := tb_mem 316 (by decide +kernel) (by decide +kernel)
theorem tw_317 : Cond.selects "PartsAccumulator" my_P_close my_P_close ∈ tb_ := tb_mem 317 (by decide +kernel) (by decide +kernel)
theorem tw_318 : Cond.code my_P_close prog_1_method_6_code 1 (Option.some FieldType.int) ∈ tb_ := tb_mem 318 (by decide +kernel) (by decide +kernel)
theorem tw_319 : Cond.methodLink "PartsAccumulator" 106 my_T_become ∈ tb_ := tb_mem 319 (by decide +kernel) (by decide +kernel)
theorem tw_320 : Cond.instanceMethod my_T_become ∈ tb_ := tb_mem 320 (by decide +kernel) (by decide +kernel)
theorem tw_321 : Cond.selects "PartsAccumulator$Roster" my_T_become my_T_become ∈ tb_ := tb_mem 321 (by decide +kernel) (by decide +kernel)
theorem tw_322 : Cond.code my_T_become prog_5_method_7_code 2 (Option.none : Option FieldType) ∈ tb_ := tb_mem 322 (by decide +kernel) (by decide +kernel)
theorem tw_323 : Cond.methodLink "PartsAccumulator$Roster" 27 arraycopyName ∈ tb_ := tb_mem 323 (by decide +kernel) (by decide +kernel)
theorem tw_324 : Cond.methodLink "PartsAccumulatorLaw" 38 my_P_size ∈ tb_ := tb_mem 324 (by decide +kernel) (by decide +kernel)
theorem tw_325 : Cond.instanceMethod my_P_size ∈ tb_ := tb_mem 325 (by decide +kernel) (by decide +kernel)
theorem tw_326 : Cond.selects "PartsAccumulator" my_P_size my_P_size ∈ tb_ := tb_mem 326 (by decide +kernel) (by decide +kernel)
theorem tw_327 : Cond.code my_P_size prog_1_method_7_code 2 (Option.some FieldType.int) ∈ tb_ := tb_mem 327 (by decide +kernel) (by decide +kernel)
theorem tw_328 : Cond.methodLink "PartsAccumulatorLaw" 43 my_P_state ∈ tb_ := tb_mem 328 (by decide +kernel) (by decide +kernel)
theorem tw_329 : Cond.instanceMethod my_P_state ∈ tb_ := tb_mem 329 (by decide +kernel) (by decide +kernel)
theorem tw_330 : Cond.selects "PartsAccumulator" my_P_state my_P_state ∈ tb_ := tb_mem 330 (by decide +kernel) (by decide +kernel)
theorem tw_331 : Cond.code my_P_state prog_1_method_8_code 4 (Option.some FieldType.int) ∈ tb_ := tb_mem 331 (by decide +kernel) (by decide +kernel)
theorem tw_332 : Cond.methodLink "PartsAccumulatorLaw" 47 my_P_accumulator ∈ tb_ := tb_mem 332 (by decide +kernel) (by decide +kernel)
theorem tw_333 : Cond.instanceMethod my_P_accumulator ∈ tb_ := tb_mem 333 (by decide +kernel) (by decide +kernel)
theorem tw_334 : Cond.selects "PartsAccumulator" my_P_accumulator my_P_accumulator ∈ tb_ := tb_mem 334 (by decide +kernel) (by decide +kernel)
theorem tw_335 : Cond.code my_P_accumulator prog_1_method_9_code 3 (Option.some FieldType.long) ∈ tb_ := tb_mem 335 (by decide +kernel) (by decide +kernel)
theorem tw_336 : Cond.methodLink "PartsAccumulator" 110 my_P_isEpoch ∈ tb_ := tb_mem 336 (by decide +kernel) (by decide +kernel)
theorem tw_338 : Cond.instanceMethod my_P_isEpoch ∈ tb_ := tb_mem 338 (by decide +kernel) (by decide +kernel)
theorem tw_339 : Cond.code my_P_isEpoch prog_1_method_22_code 2 (Option.some FieldType.boolean) ∈ tb_ := tb_mem 339 (by decide +kernel) (by decide +kernel)
theorem tw_340 : Cond.methodLink "PartsAccumulator" 116 my_R_word ∈ tb_ := tb_mem 340 (by decide +kernel) (by decide +kernel)
theorem tw_341 : Cond.static my_R_word ∈ tb_ := tb_mem 341 (by decide +kernel) (by decide +kernel)
theorem tw_342 : Cond.code my_R_word prog_4_method_4_code 2 (Option.some FieldType.long) ∈ tb_ := tb_mem 342 (by decide +kernel) (by decide +kernel)
theorem tw_343 : Cond.methodLink "PartsAccumulatorLaw" 52 my_P_note ∈ tb_ := tb_mem 343 (by decide +kernel) (by decide +kernel)
theorem tw_344 : Cond.instanceMethod my_P_note ∈ tb_ := tb_mem 344 (by decide +kernel) (by decide +kernel)
theorem tw_345 : Cond.selects "PartsAccumulator" my_P_note my_P_note ∈ tb_ := tb_mem 345 (by decide +kernel) (by decide +kernel)
theorem tw_346 : Cond.code my_P_note prog_1_method_10_code 6 (Option.some FieldType.int) ∈ tb_ := tb_mem 346 (by decide +kernel) (by decide +kernel)
theorem tw_347 : Cond.methodLink "PartsAccumulator" 120 my_T_countOutside ∈ tb_ := tb_mem 347 (by decide +kernel) (by decide +kernel)
theorem tw_348 : Cond.instanceMethod my_T_countOutside ∈ tb_ := tb_mem 348 (by decide +kernel) (by decide +kernel)
theorem tw_349 : Cond.selects "PartsAccumulator$Roster" my_T_countOutside my_T_countOutside ∈ tb_ := tb_mem 349 (by decide +kernel) (by decide +kernel)
theorem tw_350 : Cond.code my_T_countOutside prog_5_method_8_code 4 (Option.some FieldType.int) ∈ tb_ := tb_mem 350 (by decide +kernel) (by decide +kernel)
theorem tw_351 : Cond.methodLink "PartsAccumulator$Roster" 33 my_T_has ∈ tb_ := tb_mem 351 (by decide +kernel) (by decide +kernel)
theorem tw_352 : Cond.methodLink "PartsAccumulator" 124 my_T_primeOutside ∈ tb_ := tb_mem 352 (by decide +kernel) (by decide +kernel)
theorem tw_353 : Cond.instanceMethod my_T_primeOutside ∈ tb_ := tb_mem 353 (by decide +kernel) (by decide +kernel)
theorem tw_354 : Cond.selects "PartsAccumulator$Roster" my_T_primeOutside my_T_primeOutside ∈ tb_ := tb_mem 354 (by decide +kernel) (by decide +kernel)
theorem tw_355 : Cond.code my_T_primeOutside prog_5_method_9_code 5 (Option.some FieldType.int) ∈ tb_ := tb_mem 355 (by decide +kernel) (by decide +kernel)
theorem tw_356 : Cond.methodLink "PartsAccumulatorLaw" 57 my_P_witness ∈ tb_ := tb_mem 356 (by decide +kernel) (by decide +kernel)
theorem tw_357 : Cond.instanceMethod my_P_witness ∈ tb_ := tb_mem 357 (by decide +kernel) (by decide +kernel)
theorem tw_358 : Cond.selects "PartsAccumulator" my_P_witness my_P_witness ∈ tb_ := tb_mem 358 (by decide +kernel) (by decide +kernel)
theorem tw_359 : Cond.code my_P_witness prog_1_method_11_code 4 (Option.some FieldType.long) ∈ tb_ := tb_mem 359 (by decide +kernel) (by decide +kernel)
theorem tw_360 : Cond.methodLink "PartsAccumulator" 128 my_P_computeIssued ∈ tb_ := tb_mem 360 (by decide +kernel) (by decide +kernel)
theorem tw_362 : Cond.instanceMethod my_P_computeIssued ∈ tb_ := tb_mem 362 (by decide +kernel) (by decide +kernel)
theorem tw_363 : Cond.code my_P_computeIssued prog_1_method_26_code 4 (Option.none : Option FieldType) ∈ tb_ := tb_mem 363 (by decide +kernel) (by decide +kernel)
theorem tw_364 : Cond.methodLink "PartsAccumulator" 191 my_T_multiplyOthersInto ∈ tb_ := tb_mem 364 (by decide +kernel) (by decide +kernel)
theorem tw_365 : Cond.instanceMethod my_T_multiplyOthersInto ∈ tb_ := tb_mem 365 (by decide +kernel) (by decide +kernel)
theorem tw_366 : Cond.selects "PartsAccumulator$Roster" my_T_multiplyOthersInto my_T_multiplyOthersInto ∈ tb_ := tb_mem 366 (by decide +kernel) (by decide +kernel)
theorem tw_367 : Cond.code my_T_multiplyOthersInto prog_5_method_11_code 5 (Option.none : Option FieldType) ∈ tb_ := tb_mem 367 (by decide +kernel) (by decide +kernel)
theorem tw_368 : Cond.methodLink "PartsAccumulatorLaw" 62 my_P_issue ∈ tb_ := tb_mem 368 (by decide +kernel) (by decide +kernel)
theorem tw_369 : Cond.instanceMethod my_P_issue ∈ tb_ := tb_mem 369 (by decide +kernel) (by decide +kernel)
theorem tw_370 : Cond.selects "PartsAccumulator" my_P_issue my_P_issue ∈ tb_ := tb_mem 370 (by decide +kernel) (by decide +kernel)
theorem tw_371 : Cond.code my_P_issue prog_1_method_12_code 4 (Option.some FieldType.int) ∈ tb_ := tb_mem 371 (by decide +kernel) (by decide +kernel)
theorem tw_372 : Cond.methodLink "PartsAccumulatorLaw" 66 my_P_hold ∈ tb_ := tb_mem 372 (by decide +kernel) (by decide +kernel)
theorem tw_373 : Cond.instanceMethod my_P_hold ∈ tb_ := tb_mem 373 (by decide +kernel) (by decide +kernel)
theorem tw_374 : Cond.selects "PartsAccumulator" my_P_hold my_P_hold ∈ tb_ := tb_mem 374 (by decide +kernel) (by decide +kernel)
theorem tw_375 : Cond.code my_P_hold prog_1_method_13_code 6 (Option.some FieldType.boolean) ∈ tb_ := tb_mem 375 (by decide +kernel) (by decide +kernel)
theorem tw_376 : Cond.methodLink "PartsAccumulator" 135 my_R_isBelowModulus ∈ tb_ := tb_mem 376 (by decide +kernel) (by decide +kernel)
theorem tw_377 : Cond.instanceMethod my_R_isBelowModulus ∈ tb_ := tb_mem 377 (by decide +kernel) (by decide +kernel)
theorem tw_378 : Cond.selects "PartsAccumulator$Ring" my_R_isBelowModulus my_R_isBelowModulus ∈ tb_ := tb_mem 378 (by decide +kernel) (by decide +kernel)
theorem tw_379 : Cond.code my_R_isBelowModulus prog_4_method_7_code 9 (Option.some FieldType.boolean) ∈ tb_ := tb_mem 379 (by decide +kernel) (by decide +kernel)
theorem tw_380 : Cond.methodLink "PartsAccumulator$Ring" 64 my_R_word ∈ tb_ := tb_mem 380 (by decide +kernel) (by decide +kernel)
theorem tw_381 : Cond.methodLink "PartsAccumulator$Ring" 68 my_R_isBelow ∈ tb_ := tb_mem 381 (by decide +kernel) (by decide +kernel)
theorem tw_382 : Cond.static my_R_isBelow ∈ tb_ := tb_mem 382 (by decide +kernel) (by decide +kernel)
theorem tw_383 : Cond.code my_R_isBelow prog_4_method_10_code 4 (Option.some FieldType.boolean) ∈ tb_ := tb_mem 383 (by decide +kernel) (by decide +kernel)
theorem tw_384 : Cond.constantLong "PartsAccumulator$Ring" 88 (-9223372036854775808 : Int64) ∈ tb_ := tb_mem 384 (by decide +kernel) (by decide +kernel)
theorem tw_385 : Cond.methodLink "PartsAccumulator" 138 my_R_split ∈ tb_ := tb_mem 385 (by decide +kernel) (by decide +kernel)
theorem tw_386 : Cond.methodLink "PartsAccumulatorLaw" 71 my_P_hand ∈ tb_ := tb_mem 386 (by decide +kernel) (by decide +kernel)
theorem tw_387 : Cond.instanceMethod my_P_hand ∈ tb_ := tb_mem 387 (by decide +kernel) (by decide +kernel)
theorem tw_388 : Cond.selects "PartsAccumulator" my_P_hand my_P_hand ∈ tb_ := tb_mem 388 (by decide +kernel) (by decide +kernel)
theorem tw_389 : Cond.code my_P_hand prog_1_method_14_code 2 (Option.some FieldType.long) ∈ tb_ := tb_mem 389 (by decide +kernel) (by decide +kernel)
theorem tw_390 : Cond.methodLink "PartsAccumulatorLaw" 76 my_P_factor ∈ tb_ := tb_mem 390 (by decide +kernel) (by decide +kernel)
theorem tw_391 : Cond.instanceMethod my_P_factor ∈ tb_ := tb_mem 391 (by decide +kernel) (by decide +kernel)
theorem tw_392 : Cond.selects "PartsAccumulator" my_P_factor my_P_factor ∈ tb_ := tb_mem 392 (by decide +kernel) (by decide +kernel)
theorem tw_393 : Cond.code my_P_factor prog_1_method_15_code 1 (Option.some FieldType.int) ∈ tb_ := tb_mem 393 (by decide +kernel) (by decide +kernel)
theorem tw_394 : Cond.methodLink "PartsAccumulatorLaw" 80 my_P_check ∈ tb_ := tb_mem 394 (by decide +kernel) (by decide +kernel)
theorem tw_395 : Cond.instanceMethod my_P_check ∈ tb_ := tb_mem 395 (by decide +kernel) (by decide +kernel)
theorem tw_396 : Cond.selects "PartsAccumulator" my_P_check my_P_check ∈ tb_ := tb_mem 396 (by decide +kernel) (by decide +kernel)
theorem tw_397 : Cond.code my_P_check prog_1_method_16_code 5 (Option.some FieldType.int) ∈ tb_ := tb_mem 397 (by decide +kernel) (by decide +kernel)
theorem tw_398 : Cond.methodLink "PartsAccumulator" 142 my_P_primeOrRefusal_JI ∈ tb_ := tb_mem 398 (by decide +kernel) (by decide +kernel)
theorem tw_400 : Cond.instanceMethod my_P_primeOrRefusal_JI ∈ tb_ := tb_mem 400 (by decide +kernel) (by decide +kernel)
theorem tw_401 : Cond.code my_P_primeOrRefusal_JI prog_1_method_21_code 4 (Option.some FieldType.int) ∈ tb_ := tb_mem 401 (by decide +kernel) (by decide +kernel)
theorem tw_402 : Cond.methodLink "PartsAccumulator" 145 my_P_holdsWitness ∈ tb_ := tb_mem 402 (by decide +kernel) (by decide +kernel)
theorem tw_404 : Cond.instanceMethod my_P_holdsWitness ∈ tb_ := tb_mem 404 (by decide +kernel) (by decide +kernel)
theorem tw_405 : Cond.code my_P_holdsWitness prog_1_method_24_code 3 (Option.some FieldType.boolean) ∈ tb_ := tb_mem 405 (by decide +kernel) (by decide +kernel)
theorem tw_406 : Cond.methodLink "PartsAccumulator" 184 my_R_same ∈ tb_ := tb_mem 406 (by decide +kernel) (by decide +kernel)
theorem tw_407 : Cond.static my_R_same ∈ tb_ := tb_mem 407 (by decide +kernel) (by decide +kernel)
theorem tw_408 : Cond.code my_R_same prog_4_method_5_code 3 (Option.some FieldType.boolean) ∈ tb_ := tb_mem 408 (by decide +kernel) (by decide +kernel)
theorem tw_409 : Cond.methodLink "PartsAccumulatorLaw" 85 my_P_advance ∈ tb_ := tb_mem 409 (by decide +kernel) (by decide +kernel)
theorem tw_410 : Cond.instanceMethod my_P_advance ∈ tb_ := tb_mem 410 (by decide +kernel) (by decide +kernel)
theorem tw_411 : Cond.selects "PartsAccumulator" my_P_advance my_P_advance ∈ tb_ := tb_mem 411 (by decide +kernel) (by decide +kernel)
theorem tw_412 : Cond.code my_P_advance prog_1_method_17_code 6 (Option.some FieldType.int) ∈ tb_ := tb_mem 412 (by decide +kernel) (by decide +kernel)
theorem tw_413 : Cond.methodLink "PartsAccumulator" 149 my_P_isPresentSince ∈ tb_ := tb_mem 413 (by decide +kernel) (by decide +kernel)
theorem tw_415 : Cond.instanceMethod my_P_isPresentSince ∈ tb_ := tb_mem 415 (by decide +kernel) (by decide +kernel)
theorem tw_416 : Cond.code my_P_isPresentSince prog_1_method_23_code 5 (Option.some FieldType.boolean) ∈ tb_ := tb_mem 416 (by decide +kernel) (by decide +kernel)
theorem tw_417 : Cond.methodLink "PartsAccumulator" 153 my_P_takeInAdded ∈ tb_ := tb_mem 417 (by decide +kernel) (by decide +kernel)
theorem tw_419 : Cond.instanceMethod my_P_takeInAdded ∈ tb_ := tb_mem 419 (by decide +kernel) (by decide +kernel)
theorem tw_420 : Cond.code my_P_takeInAdded prog_1_method_27_code 2 (Option.none : Option FieldType) ∈ tb_ := tb_mem 420 (by decide +kernel) (by decide +kernel)
theorem tw_421 : Cond.methodLink "PartsAccumulator" 195 my_T_multiplyOutsideInto ∈ tb_ := tb_mem 421 (by decide +kernel) (by decide +kernel)
theorem tw_422 : Cond.instanceMethod my_T_multiplyOutsideInto ∈ tb_ := tb_mem 422 (by decide +kernel) (by decide +kernel)
theorem tw_423 : Cond.selects "PartsAccumulator$Roster" my_T_multiplyOutsideInto my_T_multiplyOutsideInto ∈ tb_ := tb_mem 423 (by decide +kernel) (by decide +kernel)
theorem tw_424 : Cond.code my_T_multiplyOutsideInto prog_5_method_12_code 4 (Option.none : Option FieldType) ∈ tb_ := tb_mem 424 (by decide +kernel) (by decide +kernel)
theorem tw_425 : Cond.methodLink "PartsAccumulator" 156 my_P_takeOutRemoved ∈ tb_ := tb_mem 425 (by decide +kernel) (by decide +kernel)
theorem tw_427 : Cond.instanceMethod my_P_takeOutRemoved ∈ tb_ := tb_mem 427 (by decide +kernel) (by decide +kernel)
theorem tw_428 : Cond.code my_P_takeOutRemoved prog_1_method_28_code 4 (Option.none : Option FieldType) ∈ tb_ := tb_mem 428 (by decide +kernel) (by decide +kernel)
theorem tw_429 : Cond.methodLink "PartsAccumulator" 166 my_P_inverseThenQuotient ∈ tb_ := tb_mem 429 (by decide +kernel) (by decide +kernel)
theorem tw_431 : Cond.instanceMethod my_P_inverseThenQuotient ∈ tb_ := tb_mem 431 (by decide +kernel) (by decide +kernel)
theorem tw_432 : Cond.code my_P_inverseThenQuotient prog_1_method_29_code 3 (Option.some FieldType.int) ∈ tb_ := tb_mem 432 (by decide +kernel) (by decide +kernel)
theorem tw_433 : Cond.methodLink "PartsAccumulator" 199 my_N_remainder ∈ tb_ := tb_mem 433 (by decide +kernel) (by decide +kernel)
theorem tw_434 : Cond.instanceMethod my_N_remainder ∈ tb_ := tb_mem 434 (by decide +kernel) (by decide +kernel)
theorem tw_435 : Cond.selects "PartsAccumulator$Natural" my_N_remainder my_N_remainder ∈ tb_ := tb_mem 435 (by decide +kernel) (by decide +kernel)
theorem tw_436 : Cond.code my_N_remainder prog_3_method_4_code 5 (Option.some FieldType.int) ∈ tb_ := tb_mem 436 (by decide +kernel) (by decide +kernel)
theorem tw_437 : Cond.methodLink "PartsAccumulator" 202 my_S_inverse ∈ tb_ := tb_mem 437 (by decide +kernel) (by decide +kernel)
theorem tw_438 : Cond.static my_S_inverse ∈ tb_ := tb_mem 438 (by decide +kernel) (by decide +kernel)
theorem tw_439 : Cond.code my_S_inverse prog_6_method_8_code 2 (Option.some FieldType.int) ∈ tb_ := tb_mem 439 (by decide +kernel) (by decide +kernel)
theorem tw_440 : Cond.methodLink "PartsAccumulator" 205 my_N_multiply ∈ tb_ := tb_mem 440 (by decide +kernel) (by decide +kernel)
theorem tw_441 : Cond.methodLink "PartsAccumulator" 207 my_N_divide ∈ tb_ := tb_mem 441 (by decide +kernel) (by decide +kernel)
theorem tw_442 : Cond.instanceMethod my_N_divide ∈ tb_ := tb_mem 442 (by decide +kernel) (by decide +kernel)
theorem tw_443 : Cond.selects "PartsAccumulator$Natural" my_N_divide my_N_divide ∈ tb_ := tb_mem 443 (by decide +kernel) (by decide +kernel)
theorem tw_444 : Cond.code my_N_divide prog_3_method_5_code 7 (Option.none : Option FieldType) ∈ tb_ := tb_mem 444 (by decide +kernel) (by decide +kernel)
theorem tw_445 : Cond.methodLink "PartsAccumulator" 177 my_R_multiply ∈ tb_ := tb_mem 445 (by decide +kernel) (by decide +kernel)
theorem tw_446 : Cond.instanceMethod my_R_multiply ∈ tb_ := tb_mem 446 (by decide +kernel) (by decide +kernel)
theorem tw_447 : Cond.selects "PartsAccumulator$Ring" my_R_multiply my_R_multiply ∈ tb_ := tb_mem 447 (by decide +kernel) (by decide +kernel)
theorem tw_448 : Cond.code my_R_multiply prog_4_method_8_code 4 (Option.none : Option FieldType) ∈ tb_ := tb_mem 448 (by decide +kernel) (by decide +kernel)
theorem tw_449 : Cond.methodLink "PartsAccumulatorLaw" 89 my_P_exclude ∈ tb_ := tb_mem 449 (by decide +kernel) (by decide +kernel)
theorem tw_450 : Cond.instanceMethod my_P_exclude ∈ tb_ := tb_mem 450 (by decide +kernel) (by decide +kernel)
theorem tw_451 : Cond.selects "PartsAccumulator" my_P_exclude my_P_exclude ∈ tb_ := tb_mem 451 (by decide +kernel) (by decide +kernel)
theorem tw_452 : Cond.code my_P_exclude prog_1_method_18_code 5 (Option.some FieldType.int) ∈ tb_ := tb_mem 452 (by decide +kernel) (by decide +kernel)
theorem tw_453 : Cond.methodLink "PartsAccumulatorLaw" 93 my_P_checkExclude ∈ tb_ := tb_mem 453 (by decide +kernel) (by decide +kernel)
theorem tw_454 : Cond.instanceMethod my_P_checkExclude ∈ tb_ := tb_mem 454 (by decide +kernel) (by decide +kernel)
theorem tw_455 : Cond.selects "PartsAccumulator" my_P_checkExclude my_P_checkExclude ∈ tb_ := tb_mem 455 (by decide +kernel) (by decide +kernel)
theorem tw_456 : Cond.code my_P_checkExclude prog_1_method_19_code 5 (Option.some FieldType.int) ∈ tb_ := tb_mem 456 (by decide +kernel) (by decide +kernel)
theorem tw_457 : Cond.classLink "PartsAccumulatorLaw" 10 "PartsAccumulatorModel" ∈ tb_ := tb_mem 457 (by decide +kernel) (by decide +kernel)
theorem tw_458 : Cond.instantiable "PartsAccumulatorModel" 22 ∈ tb_ := tb_mem 458 (by decide +kernel) (by decide +kernel)
theorem tw_459 : Cond.methodLink "PartsAccumulatorLaw" 12 my_M_init ∈ tb_ := tb_mem 459 (by decide +kernel) (by decide +kernel)
theorem tw_460 : Cond.instanceMethod my_M_init ∈ tb_ := tb_mem 460 (by decide +kernel) (by decide +kernel)
theorem tw_461 : Cond.code my_M_init prog_8_method_1_code 1 (Option.none : Option FieldType) ∈ tb_ := tb_mem 461 (by decide +kernel) (by decide +kernel)
theorem tw_462 : Cond.methodLink "PartsAccumulatorModel" 1 objectInit ∈ tb_ := tb_mem 462 (by decide +kernel) (by decide +kernel)
theorem tw_463 : Cond.constantLong "PartsAccumulatorModel" 7 (4794697085070296209 : Int64) ∈ tb_ := tb_mem 463 (by decide +kernel) (by decide +kernel)
theorem tw_464 : Cond.constantLong "PartsAccumulatorModel" 9 (-5349999486918337627 : Int64) ∈ tb_ := tb_mem 464 (by decide +kernel) (by decide +kernel)
theorem tw_465 : Cond.constantLong "PartsAccumulatorModel" 11 (4131703405765792241 : Int64) ∈ tb_ := tb_mem 465 (by decide +kernel) (by decide +kernel)
theorem tw_466 : Cond.constantLong "PartsAccumulatorModel" 13 (-7908458776882290987 : Int64) ∈ tb_ := tb_mem 466 (by decide +kernel) (by decide +kernel)
theorem tw_467 : Cond.constantLong "PartsAccumulatorModel" 15 (-2880145866557793535 : Int64) ∈ tb_ := tb_mem 467 (by decide +kernel) (by decide +kernel)
theorem tw_468 : Cond.constantLong "PartsAccumulatorModel" 17 (2608012711741390275 : Int64) ∈ tb_ := tb_mem 468 (by decide +kernel) (by decide +kernel)
theorem tw_469 : Cond.constantLong "PartsAccumulatorModel" 19 (8268148720858477054 : Int64) ∈ tb_ := tb_mem 469 (by decide +kernel) (by decide +kernel)
theorem tw_470 : Cond.constantLong "PartsAccumulatorModel" 21 (-7215885185376849548 : Int64) ∈ tb_ := tb_mem 470 (by decide +kernel) (by decide +kernel)
theorem tw_471 : Cond.constantLong "PartsAccumulatorModel" 23 (-1973867730000001146 : Int64) ∈ tb_ := tb_mem 471 (by decide +kernel) (by decide +kernel)
theorem tw_472 : Cond.constantLong "PartsAccumulatorModel" 25 (1135362055407968716 : Int64) ∈ tb_ := tb_mem 472 (by decide +kernel) (by decide +kernel)
theorem tw_473 : Cond.constantLong "PartsAccumulatorModel" 27 (3308224257782482090 : Int64) ∈ tb_ := tb_mem 473 (by decide +kernel) (by decide +kernel)
theorem tw_474 : Cond.constantLong "PartsAccumulatorModel" 29 (6679025011744409818 : Int64) ∈ tb_ := tb_mem 474 (by decide +kernel) (by decide +kernel)
theorem tw_475 : Cond.constantLong "PartsAccumulatorModel" 31 (-7476448915937442195 : Int64) ∈ tb_ := tb_mem 475 (by decide +kernel) (by decide +kernel)
theorem tw_476 : Cond.constantLong "PartsAccumulatorModel" 33 (-5763719354946846777 : Int64) ∈ tb_ := tb_mem 476 (by decide +kernel) (by decide +kernel)
theorem tw_477 : Cond.constantLong "PartsAccumulatorModel" 35 (-4116276917527146169 : Int64) ∈ tb_ := tb_mem 477 (by decide +kernel) (by decide +kernel)
theorem tw_478 : Cond.constantLong "PartsAccumulatorModel" 37 (489312709404862823 : Int64) ∈ tb_ := tb_mem 478 (by decide +kernel) (by decide +kernel)
theorem tw_479 : Cond.constantLong "PartsAccumulatorModel" 39 (2861767655337697592 : Int64) ∈ tb_ := tb_mem 479 (by decide +kernel) (by decide +kernel)
theorem tw_480 : Cond.constantLong "PartsAccumulatorModel" 41 (5560940570391088403 : Int64) ∈ tb_ := tb_mem 480 (by decide +kernel) (by decide +kernel)
theorem tw_481 : Cond.constantLong "PartsAccumulatorModel" 43 (7280758554198936251 : Int64) ∈ tb_ := tb_mem 481 (by decide +kernel) (by decide +kernel)
theorem tw_482 : Cond.constantLong "PartsAccumulatorModel" 45 (-9096487095472345979 : Int64) ∈ tb_ := tb_mem 482 (by decide +kernel) (by decide +kernel)
theorem tw_483 : Cond.constantLong "PartsAccumulatorModel" 47 (-6719396338005809589 : Int64) ∈ tb_ := tb_mem 483 (by decide +kernel) (by decide +kernel)
theorem tw_484 : Cond.constantLong "PartsAccumulatorModel" 49 (-4446306890599870045 : Int64) ∈ tb_ := tb_mem 484 (by decide +kernel) (by decide +kernel)
theorem tw_485 : Cond.constantLong "PartsAccumulatorModel" 51 (-3345356375510677980 : Int64) ∈ tb_ := tb_mem 485 (by decide +kernel) (by decide +kernel)
theorem tw_486 : Cond.constantLong "PartsAccumulatorModel" 53 (-860691633158840208 : Int64) ∈ tb_ := tb_mem 486 (by decide +kernel) (by decide +kernel)
theorem tw_487 : Cond.constantLong "PartsAccumulatorModel" 55 (1847814047869135880 : Int64) ∈ tb_ := tb_mem 487 (by decide +kernel) (by decide +kernel)
theorem tw_488 : Cond.constantLong "PartsAccumulatorModel" 57 (2830643534987574453 : Int64) ∈ tb_ := tb_mem 488 (by decide +kernel) (by decide +kernel)
theorem tw_489 : Cond.constantLong "PartsAccumulatorModel" 59 (4115178123771292234 : Int64) ∈ tb_ := tb_mem 489 (by decide +kernel) (by decide +kernel)
theorem tw_490 : Cond.constantLong "PartsAccumulatorModel" 61 (6601373596217405427 : Int64) ∈ tb_ := tb_mem 490 (by decide +kernel) (by decide +kernel)
theorem tw_491 : Cond.constantLong "PartsAccumulatorModel" 63 (8399075790807196527 : Int64) ∈ tb_ := tb_mem 491 (by decide +kernel) (by decide +kernel)
theorem tw_492 : Cond.constantLong "PartsAccumulatorModel" 65 (-8878714635704401400 : Int64) ∈ tb_ := tb_mem 492 (by decide +kernel) (by decide +kernel)
theorem tw_493 : Cond.constantLong "PartsAccumulatorModel" 67 (-8016688834709263125 : Int64) ∈ tb_ := tb_mem 493 (by decide +kernel) (by decide +kernel)
theorem tw_494 : Cond.constantLong "PartsAccumulatorModel" 69 (-4685533652720715534 : Int64) ∈ tb_ := tb_mem 494 (by decide +kernel) (by decide +kernel)
theorem tw_495 : Cond.fieldLink "PartsAccumulatorModel" 71 "PartsAccumulatorModel" "k" "[J" ∈ tb_ := tb_mem 495 (by decide +kernel) (by decide +kernel)
theorem tw_496 : Cond.fieldLink "PartsAccumulatorModel" 77 "PartsAccumulatorModel" "w" "[I" ∈ tb_ := tb_mem 496 (by decide +kernel) (by decide +kernel)
theorem tw_497 : Cond.fieldLink "PartsAccumulatorModel" 181 "PartsAccumulatorModel" "has" "Z" ∈ tb_ := tb_mem 497 (by decide +kernel) (by decide +kernel)
theorem tw_498 : Cond.fieldLink "PartsAccumulatorModel" 140 "PartsAccumulatorModel" "n1" "J" ∈ tb_ := tb_mem 498 (by decide +kernel) (by decide +kernel)
theorem tw_499 : Cond.fieldLink "PartsAccumulatorModel" 148 "PartsAccumulatorModel" "n0" "J" ∈ tb_ := tb_mem 499 (by decide +kernel) (by decide +kernel)
theorem tw_500 : Cond.fieldLink "PartsAccumulatorModel" 192 "PartsAccumulatorModel" "v1" "J" ∈ tb_ := tb_mem 500 (by decide +kernel) (by decide +kernel)
theorem tw_501 : Cond.fieldLink "PartsAccumulatorModel" 195 "PartsAccumulatorModel" "v0" "J" ∈ tb_ := tb_mem 501 (by decide +kernel) (by decide +kernel)
theorem tw_502 : Cond.fieldLink "PartsAccumulatorModel" 198 "PartsAccumulatorModel" "pending" "I" ∈ tb_ := tb_mem 502 (by decide +kernel) (by decide +kernel)
theorem tw_503 : Cond.fieldLink "PartsAccumulatorModel" 81 "PartsAccumulatorModel" "pendingSerials" "[J" ∈ tb_ := tb_mem 503 (by decide +kernel) (by decide +kernel)
theorem tw_504 : Cond.fieldLink "PartsAccumulatorModel" 84 "PartsAccumulatorModel" "pendingPrimes" "[I" ∈ tb_ := tb_mem 504 (by decide +kernel) (by decide +kernel)
theorem tw_505 : Cond.fieldLink "PartsAccumulatorModel" 209 "PartsAccumulatorModel" "now" "I" ∈ tb_ := tb_mem 505 (by decide +kernel) (by decide +kernel)
theorem tw_506 : Cond.fieldLink "PartsAccumulatorModel" 87 "PartsAccumulatorModel" "counts" "[I" ∈ tb_ := tb_mem 506 (by decide +kernel) (by decide +kernel)
theorem tw_507 : Cond.fieldLink "PartsAccumulatorModel" 90 "PartsAccumulatorModel" "serials" "[J" ∈ tb_ := tb_mem 507 (by decide +kernel) (by decide +kernel)
theorem tw_508 : Cond.fieldLink "PartsAccumulatorModel" 93 "PartsAccumulatorModel" "primes" "[I" ∈ tb_ := tb_mem 508 (by decide +kernel) (by decide +kernel)
theorem tw_509 : Cond.fieldLink "PartsAccumulatorModel" 96 "PartsAccumulatorModel" "upper" "[J" ∈ tb_ := tb_mem 509 (by decide +kernel) (by decide +kernel)
theorem tw_510 : Cond.fieldLink "PartsAccumulatorModel" 99 "PartsAccumulatorModel" "lower" "[J" ∈ tb_ := tb_mem 510 (by decide +kernel) (by decide +kernel)
theorem tw_511 : Cond.fieldLink "PartsAccumulatorModel" 226 "PartsAccumulatorModel" "hand1" "J" ∈ tb_ := tb_mem 511 (by decide +kernel) (by decide +kernel)
theorem tw_512 : Cond.fieldLink "PartsAccumulatorModel" 229 "PartsAccumulatorModel" "hand0" "J" ∈ tb_ := tb_mem 512 (by decide +kernel) (by decide +kernel)
theorem tw_513 : Cond.fieldLink "PartsAccumulatorModel" 232 "PartsAccumulatorModel" "factor" "I" ∈ tb_ := tb_mem 513 (by decide +kernel) (by decide +kernel)
theorem tw_514 : Cond.fieldLink "PartsAccumulatorModel" 154 "PartsAccumulatorModel" "r1" "J" ∈ tb_ := tb_mem 514 (by decide +kernel) (by decide +kernel)
theorem tw_515 : Cond.fieldLink "PartsAccumulatorModel" 151 "PartsAccumulatorModel" "r0" "J" ∈ tb_ := tb_mem 515 (by decide +kernel) (by decide +kernel)
theorem tw_516 : Cond.fieldLink "PartsAccumulatorModel" 102 "PartsAccumulatorModel" "words" "[I" ∈ tb_ := tb_mem 516 (by decide +kernel) (by decide +kernel)
theorem tw_517 : Cond.laysFinal "PartsAccumulatorModel" "PartsAccumulatorModel" "k" "[J" ∈ tb_ := tb_mem 517 (by decide +kernel) (by decide +kernel)
theorem tw_519 : Cond.laysFinal "PartsAccumulatorModel" "PartsAccumulatorModel" "w" "[I" ∈ tb_ := tb_mem 519 (by decide +kernel) (by decide +kernel)
theorem tw_521 : Cond.lays "PartsAccumulatorModel" "PartsAccumulatorModel" "has" "Z" ∈ tb_ := tb_mem 521 (by decide +kernel) (by decide +kernel)
theorem tw_523 : Cond.lays "PartsAccumulatorModel" "PartsAccumulatorModel" "n1" "J" ∈ tb_ := tb_mem 523 (by decide +kernel) (by decide +kernel)
theorem tw_525 : Cond.lays "PartsAccumulatorModel" "PartsAccumulatorModel" "n0" "J" ∈ tb_ := tb_mem 525 (by decide +kernel) (by decide +kernel)
theorem tw_527 : Cond.lays "PartsAccumulatorModel" "PartsAccumulatorModel" "v1" "J" ∈ tb_ := tb_mem 527 (by decide +kernel) (by decide +kernel)
theorem tw_529 : Cond.lays "PartsAccumulatorModel" "PartsAccumulatorModel" "v0" "J" ∈ tb_ := tb_mem 529 (by decide +kernel) (by decide +kernel)
theorem tw_531 : Cond.lays "PartsAccumulatorModel" "PartsAccumulatorModel" "pending" "I" ∈ tb_ := tb_mem 531 (by decide +kernel) (by decide +kernel)
theorem tw_533 : Cond.laysFinal "PartsAccumulatorModel" "PartsAccumulatorModel" "pendingSerials" "[J" ∈ tb_ := tb_mem 533 (by decide +kernel) (by decide +kernel)
theorem tw_535 : Cond.laysFinal "PartsAccumulatorModel" "PartsAccumulatorModel" "pendingPrimes" "[I" ∈ tb_ := tb_mem 535 (by decide +kernel) (by decide +kernel)
theorem tw_537 : Cond.lays "PartsAccumulatorModel" "PartsAccumulatorModel" "now" "I" ∈ tb_ := tb_mem 537 (by decide +kernel) (by decide +kernel)
theorem tw_539 : Cond.laysFinal "PartsAccumulatorModel" "PartsAccumulatorModel" "counts" "[I" ∈ tb_ := tb_mem 539 (by decide +kernel) (by decide +kernel)
theorem tw_541 : Cond.laysFinal "PartsAccumulatorModel" "PartsAccumulatorModel" "serials" "[J" ∈ tb_ := tb_mem 541 (by decide +kernel) (by decide +kernel)
theorem tw_543 : Cond.laysFinal "PartsAccumulatorModel" "PartsAccumulatorModel" "primes" "[I" ∈ tb_ := tb_mem 543 (by decide +kernel) (by decide +kernel)
theorem tw_545 : Cond.laysFinal "PartsAccumulatorModel" "PartsAccumulatorModel" "upper" "[J" ∈ tb_ := tb_mem 545 (by decide +kernel) (by decide +kernel)
theorem tw_547 : Cond.laysFinal "PartsAccumulatorModel" "PartsAccumulatorModel" "lower" "[J" ∈ tb_ := tb_mem 547 (by decide +kernel) (by decide +kernel)
theorem tw_549 : Cond.lays "PartsAccumulatorModel" "PartsAccumulatorModel" "hand1" "J" ∈ tb_ := tb_mem 549 (by decide +kernel) (by decide +kernel)
theorem tw_551 : Cond.lays "PartsAccumulatorModel" "PartsAccumulatorModel" "hand0" "J" ∈ tb_ := tb_mem 551 (by decide +kernel) (by decide +kernel)
theorem tw_553 : Cond.lays "PartsAccumulatorModel" "PartsAccumulatorModel" "factor" "I" ∈ tb_ := tb_mem 553 (by decide +kernel) (by decide +kernel)
theorem tw_555 : Cond.lays "PartsAccumulatorModel" "PartsAccumulatorModel" "r1" "J" ∈ tb_ := tb_mem 555 (by decide +kernel) (by decide +kernel)
theorem tw_557 : Cond.lays "PartsAccumulatorModel" "PartsAccumulatorModel" "r0" "J" ∈ tb_ := tb_mem 557 (by decide +kernel) (by decide +kernel)
theorem tw_559 : Cond.laysFinal "PartsAccumulatorModel" "PartsAccumulatorModel" "words" "[I" ∈ tb_ := tb_mem 559 (by decide +kernel) (by decide +kernel)
theorem tw_562 : Cond.methodLink "PartsAccumulatorLaw" 24 my_M_prime ∈ tb_ := tb_mem 562 (by decide +kernel) (by decide +kernel)
theorem tw_563 : Cond.instanceMethod my_M_prime ∈ tb_ := tb_mem 563 (by decide +kernel) (by decide +kernel)
theorem tw_564 : Cond.selects "PartsAccumulatorModel" my_M_prime my_M_prime ∈ tb_ := tb_mem 564 (by decide +kernel) (by decide +kernel)
theorem tw_565 : Cond.code my_M_prime prog_8_method_6_code 5 (Option.some FieldType.int) ∈ tb_ := tb_mem 565 (by decide +kernel) (by decide +kernel)
theorem tw_566 : Cond.methodLink "PartsAccumulatorModel" 124 my_M_isSerial ∈ tb_ := tb_mem 566 (by decide +kernel) (by decide +kernel)
theorem tw_567 : Cond.static my_M_isSerial ∈ tb_ := tb_mem 567 (by decide +kernel) (by decide +kernel)
theorem tw_568 : Cond.code my_M_isSerial prog_8_method_5_code 2 (Option.some FieldType.boolean) ∈ tb_ := tb_mem 568 (by decide +kernel) (by decide +kernel)
theorem tw_569 : Cond.constantLong "PartsAccumulatorModel" 122 (1099511627776 : Int64) ∈ tb_ := tb_mem 569 (by decide +kernel) (by decide +kernel)
theorem tw_570 : Cond.methodLink "PartsAccumulatorModel" 128 my_M_hash ∈ tb_ := tb_mem 570 (by decide +kernel) (by decide +kernel)
theorem tw_572 : Cond.instanceMethod my_M_hash ∈ tb_ := tb_mem 572 (by decide +kernel) (by decide +kernel)
theorem tw_573 : Cond.code my_M_hash prog_8_method_3_code 15 (Option.some FieldType.int) ∈ tb_ := tb_mem 573 (by decide +kernel) (by decide +kernel)
theorem tw_574 : Cond.constant "PartsAccumulatorModel" 105 (-2147483648 : Int32) ∈ tb_ := tb_mem 574 (by decide +kernel) (by decide +kernel)
theorem tw_575 : Cond.methodLink "PartsAccumulatorModel" 106 my_M_right ∈ tb_ := tb_mem 575 (by decide +kernel) (by decide +kernel)
theorem tw_576 : Cond.static my_M_right ∈ tb_ := tb_mem 576 (by decide +kernel) (by decide +kernel)
theorem tw_577 : Cond.code my_M_right prog_8_method_2_code 2 (Option.some FieldType.int) ∈ tb_ := tb_mem 577 (by decide +kernel) (by decide +kernel)
theorem tw_578 : Cond.constant "PartsAccumulatorModel" 110 (1779033703 : Int32) ∈ tb_ := tb_mem 578 (by decide +kernel) (by decide +kernel)
theorem tw_579 : Cond.constant "PartsAccumulatorModel" 111 (-1150833019 : Int32) ∈ tb_ := tb_mem 579 (by decide +kernel) (by decide +kernel)
theorem tw_580 : Cond.constant "PartsAccumulatorModel" 112 (-1521486534 : Int32) ∈ tb_ := tb_mem 580 (by decide +kernel) (by decide +kernel)
theorem tw_581 : Cond.constant "PartsAccumulatorModel" 113 (1359893119 : Int32) ∈ tb_ := tb_mem 581 (by decide +kernel) (by decide +kernel)
theorem tw_582 : Cond.constant "PartsAccumulatorModel" 114 (-1694144372 : Int32) ∈ tb_ := tb_mem 582 (by decide +kernel) (by decide +kernel)
theorem tw_583 : Cond.constant "PartsAccumulatorModel" 115 (528734635 : Int32) ∈ tb_ := tb_mem 583 (by decide +kernel) (by decide +kernel)
theorem tw_584 : Cond.constant "PartsAccumulatorModel" 116 (1541459225 : Int32) ∈ tb_ := tb_mem 584 (by decide +kernel) (by decide +kernel)
theorem tw_585 : Cond.constant "PartsAccumulatorModel" 117 (1013904242 : Int32) ∈ tb_ := tb_mem 585 (by decide +kernel) (by decide +kernel)
theorem tw_586 : Cond.constant "PartsAccumulatorModel" 132 (2147483647 : Int32) ∈ tb_ := tb_mem 586 (by decide +kernel) (by decide +kernel)
theorem tw_587 : Cond.constant "PartsAccumulatorModel" 133 (1073741824 : Int32) ∈ tb_ := tb_mem 587 (by decide +kernel) (by decide +kernel)
theorem tw_588 : Cond.methodLink "PartsAccumulatorModel" 134 my_M_isPrime ∈ tb_ := tb_mem 588 (by decide +kernel) (by decide +kernel)
theorem tw_589 : Cond.static my_M_isPrime ∈ tb_ := tb_mem 589 (by decide +kernel) (by decide +kernel)
theorem tw_590 : Cond.code my_M_isPrime prog_8_method_4_code 3 (Option.some FieldType.boolean) ∈ tb_ := tb_mem 590 (by decide +kernel) (by decide +kernel)
theorem tw_591 : Cond.constantLong "PartsAccumulatorModel" 118 (3 : Int64) ∈ tb_ := tb_mem 591 (by decide +kernel) (by decide +kernel)
theorem tw_592 : Cond.constantLong "PartsAccumulatorModel" 120 (2 : Int64) ∈ tb_ := tb_mem 592 (by decide +kernel) (by decide +kernel)
theorem tw_593 : Cond.methodLink "PartsAccumulatorLaw" 19 my_M_modulus ∈ tb_ := tb_mem 593 (by decide +kernel) (by decide +kernel)
theorem tw_594 : Cond.instanceMethod my_M_modulus ∈ tb_ := tb_mem 594 (by decide +kernel) (by decide +kernel)
theorem tw_595 : Cond.selects "PartsAccumulatorModel" my_M_modulus my_M_modulus ∈ tb_ := tb_mem 595 (by decide +kernel) (by decide +kernel)
theorem tw_596 : Cond.code my_M_modulus prog_8_method_18_code 5 (Option.some FieldType.boolean) ∈ tb_ := tb_mem 596 (by decide +kernel) (by decide +kernel)
theorem tw_597 : Cond.methodLink "PartsAccumulatorModel" 185 my_M_thirds ∈ tb_ := tb_mem 597 (by decide +kernel) (by decide +kernel)
theorem tw_598 : Cond.static my_M_thirds ∈ tb_ := tb_mem 598 (by decide +kernel) (by decide +kernel)
theorem tw_599 : Cond.code my_M_thirds prog_8_method_17_code 2 (Option.some FieldType.long) ∈ tb_ := tb_mem 599 (by decide +kernel) (by decide +kernel)
theorem tw_600 : Cond.constantLong "PartsAccumulatorModel" 179 (4294967295 : Int64) ∈ tb_ := tb_mem 600 (by decide +kernel) (by decide +kernel)
theorem tw_601 : Cond.methodLink "PartsAccumulatorModel" 189 my_M_findThird ∈ tb_ := tb_mem 601 (by decide +kernel) (by decide +kernel)
theorem tw_603 : Cond.instanceMethod my_M_findThird ∈ tb_ := tb_mem 603 (by decide +kernel) (by decide +kernel)
theorem tw_604 : Cond.code my_M_findThird prog_8_method_19_code 7 (Option.none : Option FieldType) ∈ tb_ := tb_mem 604 (by decide +kernel) (by decide +kernel)
theorem tw_605 : Cond.methodLink "PartsAccumulatorModel" 160 my_M_plus ∈ tb_ := tb_mem 605 (by decide +kernel) (by decide +kernel)
theorem tw_607 : Cond.instanceMethod my_M_plus ∈ tb_ := tb_mem 607 (by decide +kernel) (by decide +kernel)
theorem tw_608 : Cond.code my_M_plus prog_8_method_9_code 14 (Option.none : Option FieldType) ∈ tb_ := tb_mem 608 (by decide +kernel) (by decide +kernel)
theorem tw_609 : Cond.methodLink "PartsAccumulatorModel" 144 my_M_isLess ∈ tb_ := tb_mem 609 (by decide +kernel) (by decide +kernel)
theorem tw_610 : Cond.static my_M_isLess ∈ tb_ := tb_mem 610 (by decide +kernel) (by decide +kernel)
theorem tw_611 : Cond.code my_M_isLess prog_8_method_7_code 4 (Option.some FieldType.boolean) ∈ tb_ := tb_mem 611 (by decide +kernel) (by decide +kernel)
theorem tw_612 : Cond.constantLong "PartsAccumulatorModel" 138 (-9223372036854775808 : Int64) ∈ tb_ := tb_mem 612 (by decide +kernel) (by decide +kernel)
theorem tw_613 : Cond.methodLink "PartsAccumulatorModel" 157 my_M_isBelowN ∈ tb_ := tb_mem 613 (by decide +kernel) (by decide +kernel)
theorem tw_615 : Cond.instanceMethod my_M_isBelowN ∈ tb_ := tb_mem 615 (by decide +kernel) (by decide +kernel)
theorem tw_616 : Cond.code my_M_isBelowN prog_8_method_8_code 5 (Option.some FieldType.boolean) ∈ tb_ := tb_mem 616 (by decide +kernel) (by decide +kernel)
theorem tw_617 : Cond.methodLink "PartsAccumulatorLaw" 28 my_M_add ∈ tb_ := tb_mem 617 (by decide +kernel) (by decide +kernel)
theorem tw_618 : Cond.instanceMethod my_M_add ∈ tb_ := tb_mem 618 (by decide +kernel) (by decide +kernel)
theorem tw_619 : Cond.selects "PartsAccumulatorModel" my_M_add my_M_add ∈ tb_ := tb_mem 619 (by decide +kernel) (by decide +kernel)
theorem tw_620 : Cond.code my_M_add prog_8_method_22_code 5 (Option.some FieldType.int) ∈ tb_ := tb_mem 620 (by decide +kernel) (by decide +kernel)
theorem tw_621 : Cond.methodLink "PartsAccumulatorModel" 202 my_M_prime ∈ tb_ := tb_mem 621 (by decide +kernel) (by decide +kernel)
theorem tw_622 : Cond.methodLink "PartsAccumulatorModel" 206 my_M_pendingAt ∈ tb_ := tb_mem 622 (by decide +kernel) (by decide +kernel)
theorem tw_624 : Cond.instanceMethod my_M_pendingAt ∈ tb_ := tb_mem 624 (by decide +kernel) (by decide +kernel)
theorem tw_625 : Cond.code my_M_pendingAt prog_8_method_20_code 4 (Option.some FieldType.int) ∈ tb_ := tb_mem 625 (by decide +kernel) (by decide +kernel)
theorem tw_626 : Cond.methodLink "PartsAccumulatorLaw" 32 my_M_remove ∈ tb_ := tb_mem 626 (by decide +kernel) (by decide +kernel)
theorem tw_627 : Cond.instanceMethod my_M_remove ∈ tb_ := tb_mem 627 (by decide +kernel) (by decide +kernel)
theorem tw_628 : Cond.selects "PartsAccumulatorModel" my_M_remove my_M_remove ∈ tb_ := tb_mem 628 (by decide +kernel) (by decide +kernel)
theorem tw_629 : Cond.code my_M_remove prog_8_method_23_code 5 (Option.some FieldType.int) ∈ tb_ := tb_mem 629 (by decide +kernel) (by decide +kernel)
theorem tw_630 : Cond.methodLink "PartsAccumulatorLaw" 37 my_M_close ∈ tb_ := tb_mem 630 (by decide +kernel) (by decide +kernel)
theorem tw_631 : Cond.instanceMethod my_M_close ∈ tb_ := tb_mem 631 (by decide +kernel) (by decide +kernel)
theorem tw_632 : Cond.selects "PartsAccumulatorModel" my_M_close my_M_close ∈ tb_ := tb_mem 632 (by decide +kernel) (by decide +kernel)
theorem tw_633 : Cond.code my_M_close prog_8_method_24_code 2 (Option.some FieldType.int) ∈ tb_ := tb_mem 633 (by decide +kernel) (by decide +kernel)
theorem tw_634 : Cond.methodLink "PartsAccumulatorModel" 212 my_M_power ∈ tb_ := tb_mem 634 (by decide +kernel) (by decide +kernel)
theorem tw_636 : Cond.instanceMethod my_M_power ∈ tb_ := tb_mem 636 (by decide +kernel) (by decide +kernel)
theorem tw_637 : Cond.code my_M_power prog_8_method_11_code 11 (Option.none : Option FieldType) ∈ tb_ := tb_mem 637 (by decide +kernel) (by decide +kernel)
theorem tw_638 : Cond.methodLink "PartsAccumulatorModel" 164 my_M_multiply ∈ tb_ := tb_mem 638 (by decide +kernel) (by decide +kernel)
theorem tw_640 : Cond.instanceMethod my_M_multiply ∈ tb_ := tb_mem 640 (by decide +kernel) (by decide +kernel)
theorem tw_641 : Cond.code my_M_multiply prog_8_method_10_code 14 (Option.none : Option FieldType) ∈ tb_ := tb_mem 641 (by decide +kernel) (by decide +kernel)
theorem tw_642 : Cond.methodLink "PartsAccumulatorLaw" 42 my_M_size ∈ tb_ := tb_mem 642 (by decide +kernel) (by decide +kernel)
theorem tw_643 : Cond.instanceMethod my_M_size ∈ tb_ := tb_mem 643 (by decide +kernel) (by decide +kernel)
theorem tw_644 : Cond.selects "PartsAccumulatorModel" my_M_size my_M_size ∈ tb_ := tb_mem 644 (by decide +kernel) (by decide +kernel)
theorem tw_645 : Cond.code my_M_size prog_8_method_25_code 2 (Option.some FieldType.int) ∈ tb_ := tb_mem 645 (by decide +kernel) (by decide +kernel)
theorem tw_646 : Cond.methodLink "PartsAccumulatorLaw" 46 my_M_state ∈ tb_ := tb_mem 646 (by decide +kernel) (by decide +kernel)
theorem tw_647 : Cond.instanceMethod my_M_state ∈ tb_ := tb_mem 647 (by decide +kernel) (by decide +kernel)
theorem tw_648 : Cond.selects "PartsAccumulatorModel" my_M_state my_M_state ∈ tb_ := tb_mem 648 (by decide +kernel) (by decide +kernel)
theorem tw_649 : Cond.code my_M_state prog_8_method_26_code 3 (Option.some FieldType.int) ∈ tb_ := tb_mem 649 (by decide +kernel) (by decide +kernel)
theorem tw_650 : Cond.methodLink "PartsAccumulatorModel" 216 my_M_placeIn ∈ tb_ := tb_mem 650 (by decide +kernel) (by decide +kernel)
theorem tw_652 : Cond.instanceMethod my_M_placeIn ∈ tb_ := tb_mem 652 (by decide +kernel) (by decide +kernel)
theorem tw_653 : Cond.code my_M_placeIn prog_8_method_21_code 5 (Option.some FieldType.int) ∈ tb_ := tb_mem 653 (by decide +kernel) (by decide +kernel)
theorem tw_654 : Cond.methodLink "PartsAccumulatorLaw" 51 my_M_accumulator ∈ tb_ := tb_mem 654 (by decide +kernel) (by decide +kernel)
theorem tw_655 : Cond.instanceMethod my_M_accumulator ∈ tb_ := tb_mem 655 (by decide +kernel) (by decide +kernel)
theorem tw_656 : Cond.selects "PartsAccumulatorModel" my_M_accumulator my_M_accumulator ∈ tb_ := tb_mem 656 (by decide +kernel) (by decide +kernel)
theorem tw_657 : Cond.code my_M_accumulator prog_8_method_28_code 3 (Option.some FieldType.long) ∈ tb_ := tb_mem 657 (by decide +kernel) (by decide +kernel)
theorem tw_658 : Cond.methodLink "PartsAccumulatorModel" 220 my_M_isEpoch ∈ tb_ := tb_mem 658 (by decide +kernel) (by decide +kernel)
theorem tw_660 : Cond.instanceMethod my_M_isEpoch ∈ tb_ := tb_mem 660 (by decide +kernel) (by decide +kernel)
theorem tw_661 : Cond.code my_M_isEpoch prog_8_method_27_code 2 (Option.some FieldType.boolean) ∈ tb_ := tb_mem 661 (by decide +kernel) (by decide +kernel)
theorem tw_662 : Cond.methodLink "PartsAccumulatorLaw" 56 my_M_note ∈ tb_ := tb_mem 662 (by decide +kernel) (by decide +kernel)
theorem tw_663 : Cond.instanceMethod my_M_note ∈ tb_ := tb_mem 663 (by decide +kernel) (by decide +kernel)
theorem tw_664 : Cond.selects "PartsAccumulatorModel" my_M_note my_M_note ∈ tb_ := tb_mem 664 (by decide +kernel) (by decide +kernel)
theorem tw_665 : Cond.code my_M_note prog_8_method_29_code 8 (Option.some FieldType.int) ∈ tb_ := tb_mem 665 (by decide +kernel) (by decide +kernel)
theorem tw_666 : Cond.methodLink "PartsAccumulatorLaw" 61 my_M_witness ∈ tb_ := tb_mem 666 (by decide +kernel) (by decide +kernel)
theorem tw_667 : Cond.instanceMethod my_M_witness ∈ tb_ := tb_mem 667 (by decide +kernel) (by decide +kernel)
theorem tw_668 : Cond.selects "PartsAccumulatorModel" my_M_witness my_M_witness ∈ tb_ := tb_mem 668 (by decide +kernel) (by decide +kernel)
theorem tw_669 : Cond.code my_M_witness prog_8_method_31_code 5 (Option.some FieldType.long) ∈ tb_ := tb_mem 669 (by decide +kernel) (by decide +kernel)
theorem tw_670 : Cond.methodLink "PartsAccumulatorModel" 223 my_M_issued ∈ tb_ := tb_mem 670 (by decide +kernel) (by decide +kernel)
theorem tw_672 : Cond.instanceMethod my_M_issued ∈ tb_ := tb_mem 672 (by decide +kernel) (by decide +kernel)
theorem tw_673 : Cond.code my_M_issued prog_8_method_30_code 3 (Option.none : Option FieldType) ∈ tb_ := tb_mem 673 (by decide +kernel) (by decide +kernel)
theorem tw_674 : Cond.methodLink "PartsAccumulatorLaw" 65 my_M_issue ∈ tb_ := tb_mem 674 (by decide +kernel) (by decide +kernel)
theorem tw_675 : Cond.instanceMethod my_M_issue ∈ tb_ := tb_mem 675 (by decide +kernel) (by decide +kernel)
theorem tw_676 : Cond.selects "PartsAccumulatorModel" my_M_issue my_M_issue ∈ tb_ := tb_mem 676 (by decide +kernel) (by decide +kernel)
theorem tw_677 : Cond.code my_M_issue prog_8_method_32_code 4 (Option.some FieldType.int) ∈ tb_ := tb_mem 677 (by decide +kernel) (by decide +kernel)
theorem tw_678 : Cond.methodLink "PartsAccumulatorLaw" 70 my_M_hold ∈ tb_ := tb_mem 678 (by decide +kernel) (by decide +kernel)
theorem tw_679 : Cond.instanceMethod my_M_hold ∈ tb_ := tb_mem 679 (by decide +kernel) (by decide +kernel)
theorem tw_680 : Cond.selects "PartsAccumulatorModel" my_M_hold my_M_hold ∈ tb_ := tb_mem 680 (by decide +kernel) (by decide +kernel)
theorem tw_681 : Cond.code my_M_hold prog_8_method_33_code 6 (Option.some FieldType.boolean) ∈ tb_ := tb_mem 681 (by decide +kernel) (by decide +kernel)
theorem tw_682 : Cond.methodLink "PartsAccumulatorLaw" 75 my_M_hand ∈ tb_ := tb_mem 682 (by decide +kernel) (by decide +kernel)
theorem tw_683 : Cond.instanceMethod my_M_hand ∈ tb_ := tb_mem 683 (by decide +kernel) (by decide +kernel)
theorem tw_684 : Cond.selects "PartsAccumulatorModel" my_M_hand my_M_hand ∈ tb_ := tb_mem 684 (by decide +kernel) (by decide +kernel)
theorem tw_685 : Cond.code my_M_hand prog_8_method_34_code 2 (Option.some FieldType.long) ∈ tb_ := tb_mem 685 (by decide +kernel) (by decide +kernel)
theorem tw_686 : Cond.methodLink "PartsAccumulatorLaw" 79 my_M_factor ∈ tb_ := tb_mem 686 (by decide +kernel) (by decide +kernel)
theorem tw_687 : Cond.instanceMethod my_M_factor ∈ tb_ := tb_mem 687 (by decide +kernel) (by decide +kernel)
theorem tw_688 : Cond.selects "PartsAccumulatorModel" my_M_factor my_M_factor ∈ tb_ := tb_mem 688 (by decide +kernel) (by decide +kernel)
theorem tw_689 : Cond.code my_M_factor prog_8_method_35_code 1 (Option.some FieldType.int) ∈ tb_ := tb_mem 689 (by decide +kernel) (by decide +kernel)
theorem tw_690 : Cond.methodLink "PartsAccumulatorLaw" 84 my_M_check ∈ tb_ := tb_mem 690 (by decide +kernel) (by decide +kernel)
theorem tw_691 : Cond.instanceMethod my_M_check ∈ tb_ := tb_mem 691 (by decide +kernel) (by decide +kernel)
theorem tw_692 : Cond.selects "PartsAccumulatorModel" my_M_check my_M_check ∈ tb_ := tb_mem 692 (by decide +kernel) (by decide +kernel)
theorem tw_693 : Cond.code my_M_check prog_8_method_37_code 5 (Option.some FieldType.int) ∈ tb_ := tb_mem 693 (by decide +kernel) (by decide +kernel)
theorem tw_694 : Cond.methodLink "PartsAccumulatorModel" 235 my_M_isWitness ∈ tb_ := tb_mem 694 (by decide +kernel) (by decide +kernel)
theorem tw_696 : Cond.instanceMethod my_M_isWitness ∈ tb_ := tb_mem 696 (by decide +kernel) (by decide +kernel)
theorem tw_697 : Cond.code my_M_isWitness prog_8_method_36_code 3 (Option.some FieldType.boolean) ∈ tb_ := tb_mem 697 (by decide +kernel) (by decide +kernel)
theorem tw_698 : Cond.methodLink "PartsAccumulatorLaw" 88 my_M_advance ∈ tb_ := tb_mem 698 (by decide +kernel) (by decide +kernel)
theorem tw_699 : Cond.instanceMethod my_M_advance ∈ tb_ := tb_mem 699 (by decide +kernel) (by decide +kernel)
theorem tw_700 : Cond.selects "PartsAccumulatorModel" my_M_advance my_M_advance ∈ tb_ := tb_mem 700 (by decide +kernel) (by decide +kernel)
theorem tw_701 : Cond.code my_M_advance prog_8_method_39_code 6 (Option.some FieldType.int) ∈ tb_ := tb_mem 701 (by decide +kernel) (by decide +kernel)
theorem tw_702 : Cond.methodLink "PartsAccumulatorModel" 250 my_M_moveTo ∈ tb_ := tb_mem 702 (by decide +kernel) (by decide +kernel)
theorem tw_704 : Cond.instanceMethod my_M_moveTo ∈ tb_ := tb_mem 704 (by decide +kernel) (by decide +kernel)
theorem tw_705 : Cond.code my_M_moveTo prog_8_method_38_code 5 (Option.none : Option FieldType) ∈ tb_ := tb_mem 705 (by decide +kernel) (by decide +kernel)
theorem tw_706 : Cond.methodLink "PartsAccumulatorModel" 239 my_M_beginWords ∈ tb_ := tb_mem 706 (by decide +kernel) (by decide +kernel)
theorem tw_708 : Cond.instanceMethod my_M_beginWords ∈ tb_ := tb_mem 708 (by decide +kernel) (by decide +kernel)
theorem tw_709 : Cond.code my_M_beginWords prog_8_method_13_code 2 (Option.none : Option FieldType) ∈ tb_ := tb_mem 709 (by decide +kernel) (by decide +kernel)
theorem tw_710 : Cond.methodLink "PartsAccumulatorModel" 175 my_M_multiplyWords ∈ tb_ := tb_mem 710 (by decide +kernel) (by decide +kernel)
theorem tw_712 : Cond.instanceMethod my_M_multiplyWords ∈ tb_ := tb_mem 712 (by decide +kernel) (by decide +kernel)
theorem tw_713 : Cond.code my_M_multiplyWords prog_8_method_14_code 5 (Option.none : Option FieldType) ∈ tb_ := tb_mem 713 (by decide +kernel) (by decide +kernel)
theorem tw_714 : Cond.constantLong "PartsAccumulatorModel" 167 (65535 : Int64) ∈ tb_ := tb_mem 714 (by decide +kernel) (by decide +kernel)
theorem tw_715 : Cond.methodLink "PartsAccumulatorModel" 242 my_M_invertWords ∈ tb_ := tb_mem 715 (by decide +kernel) (by decide +kernel)
theorem tw_717 : Cond.instanceMethod my_M_invertWords ∈ tb_ := tb_mem 717 (by decide +kernel) (by decide +kernel)
theorem tw_718 : Cond.code my_M_invertWords prog_8_method_16_code 9 (Option.some FieldType.int) ∈ tb_ := tb_mem 718 (by decide +kernel) (by decide +kernel)
theorem tw_719 : Cond.methodLink "PartsAccumulatorModel" 171 my_M_restOfWords ∈ tb_ := tb_mem 719 (by decide +kernel) (by decide +kernel)
theorem tw_721 : Cond.instanceMethod my_M_restOfWords ∈ tb_ := tb_mem 721 (by decide +kernel) (by decide +kernel)
theorem tw_722 : Cond.code my_M_restOfWords prog_8_method_15_code 5 (Option.some FieldType.long) ∈ tb_ := tb_mem 722 (by decide +kernel) (by decide +kernel)
theorem tw_723 : Cond.constantLong "PartsAccumulatorModel" 169 (65536 : Int64) ∈ tb_ := tb_mem 723 (by decide +kernel) (by decide +kernel)
theorem tw_724 : Cond.methodLink "PartsAccumulatorModel" 246 my_M_powerOfWords ∈ tb_ := tb_mem 724 (by decide +kernel) (by decide +kernel)
theorem tw_726 : Cond.instanceMethod my_M_powerOfWords ∈ tb_ := tb_mem 726 (by decide +kernel) (by decide +kernel)
theorem tw_727 : Cond.code my_M_powerOfWords prog_8_method_12_code 11 (Option.none : Option FieldType) ∈ tb_ := tb_mem 727 (by decide +kernel) (by decide +kernel)
theorem tw_728 : Cond.methodLink "PartsAccumulatorLaw" 92 my_M_exclude ∈ tb_ := tb_mem 728 (by decide +kernel) (by decide +kernel)
theorem tw_729 : Cond.instanceMethod my_M_exclude ∈ tb_ := tb_mem 729 (by decide +kernel) (by decide +kernel)
theorem tw_730 : Cond.selects "PartsAccumulatorModel" my_M_exclude my_M_exclude ∈ tb_ := tb_mem 730 (by decide +kernel) (by decide +kernel)
theorem tw_731 : Cond.code my_M_exclude prog_8_method_40_code 5 (Option.some FieldType.int) ∈ tb_ := tb_mem 731 (by decide +kernel) (by decide +kernel)
theorem tw_732 : Cond.methodLink "PartsAccumulatorLaw" 96 my_M_checkExclude ∈ tb_ := tb_mem 732 (by decide +kernel) (by decide +kernel)
theorem tw_733 : Cond.instanceMethod my_M_checkExclude ∈ tb_ := tb_mem 733 (by decide +kernel) (by decide +kernel)
theorem tw_734 : Cond.selects "PartsAccumulatorModel" my_M_checkExclude my_M_checkExclude ∈ tb_ := tb_mem 734 (by decide +kernel) (by decide +kernel)
theorem tw_735 : Cond.code my_M_checkExclude prog_8_method_41_code 9 (Option.some FieldType.int) ∈ tb_ := tb_mem 735 (by decide +kernel) (by decide +kernel)
theorem tw_736 : Cond.constantLong "PartsAccumulatorLaw" 13 (4294967295 : Int64) ∈ tb_ := tb_mem 736 (by decide +kernel) (by decide +kernel)
end
section
/-! a memory as a map of addresses; contracts over the whole known memory; rows for each instruction that reads or writes it -/
abbrev mg_ : Type := va_G × ClassId × ClassId × ClassId × Nat × Nat
abbrev gD (G : mg_) : va_G := G.1
abbrev gI (G : mg_) : ClassId := G.2.1
abbrev gL (G : mg_) : ClassId := G.2.2.1
abbrev gE (G : mg_) : ClassId := G.2.2.2.1
abbrev gz (G : mg_) : Nat := G.2.2.2.2.1
abbrev gk (G : mg_) : Nat := G.2.2.2.2.2
abbrev mw_ : Type := Nat → Option va_E
def mu_ (M : mw_) (a : Nat) (e : va_E) : mw_ := fun q => if q = a then some e else M q
theorem mu_s {M : mw_} {a : Nat} {e : va_E} : mu_ M a e a = some e := if_pos rfl
theorem mu_n {M : mw_} {a b : Nat} {e : va_E} (h : b ≠ a) : mu_ M a e b = M b := if_neg h
theorem mu_n' {M : mw_} {a b : Nat} {e : va_E} {x : Option va_E} (h : b ≠ a) (k : M b = x) : mu_ M a e b = x := (mu_n h).trans k
theorem mu_mu {M : mw_} {a : Nat} {e f : va_E} : mu_ (mu_ M a e) a f = mu_ M a f := by
  funext q
  by_cases h : q = a <;> simp [mu_, h]
theorem mu_id {M : mw_} {a : Nat} {e : va_E} (h : M a = some e) : mu_ M a e = M := by
  funext q
  by_cases hq : q = a
  · subst hq; simp [mu_, h]
  · simp [mu_, hq]
theorem mu_sw {M : mw_} {a b : Nat} {e f : va_E} (h : a ≠ b) : mu_ (mu_ M a e) b f = mu_ (mu_ M b f) a e := by
  funext q
  by_cases h1 : q = a
  · subst h1; simp [mu_, h]
  · simp [mu_, h1]
theorem mu_c2 {M : mw_} {a b : Nat} {e e' f : va_E} (h : a ≠ b) : mu_ (mu_ (mu_ M a e) b f) a e' = mu_ (mu_ M a e') b f := by
  rw [← mu_sw h, mu_mu]
theorem mu_c3 {M : mw_} {a b c : Nat} {e e' f g : va_E} (h : a ≠ b) (h2 : a ≠ c) : mu_ (mu_ (mu_ (mu_ M a e) b f) c g) a e' = mu_ (mu_ (mu_ M a e') b f) c g := by
  rw [← mu_sw h2, mu_c2 h]
abbrev ia_ (G : mg_) (n : Nat) (f : Nat → Int32) : va_E := .inl (gI G, n, .inl f)
abbrev la_ (G : mg_) (n : Nat) (f : Nat → Int64) : va_E := .inl (gL G, n, .inr (.inl f))
abbrev qa_ (G : mg_) (n : Nat) (f : Nat → Option Nat) : va_E := .inl (gE G, n, .inr (.inr (.inr (.inr f))))
abbrev ob_ (ci : Nat) (fs : List Value) : va_E := .inr (ci, fs)
def fz_ (G : mg_) : Nat → Prop := fun q => gz G ≤ q
def mm_ (G : mg_) (M : mw_) (H : Heap) : Prop := gz G ≤ H.size ∧ ∀ a e, M a = some e → va_at (gD G) cl_ (a, e) H ∧ gz G ≤ a
theorem mm_.P {G : mg_} {M : mw_} {H : Heap} (h : mm_ G M H) {a : Nat} {e : va_E} (ha : M a = some e) : va_P (gD G) cl_ [(a, e)] H := by
  intro k q hk
  match k, hk with
  | 0, hk => cases hk; exact (h.2 a e ha).1
theorem mm_.set {G : mg_} {M : mw_} {H H1 : Heap} {a : Nat} {e0 e : va_E} (h : mm_ G M H) (ha : M a = some e0) (z : H1.size = H.size) (oq : ∀ q : Nat, q ≠ a → H1[q]? = H[q]?) (he : va_at (gD G) cl_ (a, e) H1) : mm_ G (mu_ M a e) H1 := by
  refine ⟨by rw [z]; exact h.1, fun b f hb => ?_⟩
  by_cases hq : b = a
  · subst hq
    rw [mu_s] at hb
    cases hb
    exact ⟨he, (h.2 b e0 ha).2⟩
  · rw [mu_n hq] at hb
    exact ⟨(h.2 b f hb).1.kept (oq b hq), (h.2 b f hb).2⟩
theorem mm_.fresh {G : mg_} {M : mw_} {H : Heap} (h : mm_ G M H) : M H.size = none := by
  cases hq : M H.size with
  | none => rfl
  | some e => exact absurd (h.2 _ _ hq).1.lt (Nat.lt_irrefl _)
theorem mm_.push {G : mg_} {M : mw_} {H H1 : Heap} {e : va_E} (h : mm_ G M H) (z : H1.size = H.size + 1) (oq : ∀ q : Nat, q < H.size → H1[q]? = H[q]?) (he : va_at (gD G) cl_ (H.size, e) H1) : mm_ G (mu_ M H.size e) H1 := by
  refine ⟨by rw [z]; exact Nat.le_succ_of_le h.1, fun b f hb => ?_⟩
  by_cases hq : b = H.size
  · subst hq
    rw [mu_s] at hb
    cases hb
    exact ⟨he, h.1⟩
  · rw [mu_n hq] at hb
    exact ⟨(h.2 b f hb).1.kept (oq b (h.2 b f hb).1.lt), (h.2 b f hb).2⟩
def kt_ (j : Nat) : Int32 := ([1116352408, 1899447441, -1245643825, -373957723, 961987163, 1508970993, -1841331548, -1424204075, -670586216, 310598401, 607225278, 1426881987, 1925078388, -2132889090, -1680079193, -1046744716, -459576895, -272742522, 264347078, 604807628, 770255983, 1249150122, 1555081692, 1996064986, -1740746414, -1473132947, -1341970488, -1084653625, -958395405, -710438585, 113926993, 338241895, 666307205, 773529912, 1294757372, 1396182291, 1695183700, 1986661051, -2117940946, -1838011259, -1564481375, -1474664885, -1035236496, -949202525, -778901479, -694614492, -200395387, 275423344, 430227734, 506948616, 659060556, 883997877, 958139571, 1322822218, 1537002063, 1747873779, 1955562222, 2024104815, -2067236844, -1933114872, -1866530822, -1538233109, -1090935817, -965641998] : List Int32).getD j 0
def ks_ (G : mg_) (s : State) : Prop := va_K (gD G) cl_ [(gI G, .int), (gL G, .long), (gE G, .object "PartsAccumulator$Epoch")] s ∧ va_Nw (.methodLinkNest "PartsAccumulator" 9 my_S_init "PartsAccumulator") s ∧ va_Nw (.methodLinkNest "PartsAccumulator" 18 my_R_init "PartsAccumulator") s ∧ va_Nw (.methodLinkNest "PartsAccumulator" 25 my_T_init "PartsAccumulator") s ∧ va_Nw (.methodLinkNest "PartsAccumulator" 36 my_E_init "PartsAccumulator") s ∧ va_Nw (.methodLinkNest "PartsAccumulator" 49 my_N_init "PartsAccumulator") s ∧ va_Nw (.methodLinkNest "PartsAccumulator$Epoch" 9 my_T_init "PartsAccumulator") s ∧ va_AO "PartsAccumulator$Epoch" s
def kz_ (G : mg_) (s : State) (H : Heap) : Prop := va_Z "PartsAccumulator$SerialPrimes" "K" "[I" (.ref (gk G)) (fz_ G) s H ∧ va_T .int (gk G) 64 (fun j => .int (kt_ j)) (fz_ G) s H
theorem ks_.warm {G : mg_} {s U : State} (hW : s.WarmedH U.vm) (h : ks_ G s) : ks_ G U := by
  obtain ⟨h1, h2, h3, h4, h5, h6, h7, h8⟩ := h
  exact ⟨va_K.moved hW.alike h1, va_Nw.warmM hW h2, va_Nw.warmM hW h3, va_Nw.warmM hW h4, va_Nw.warmM hW h5, va_Nw.warmM hW h6, va_Nw.warmM hW h7, va_AO.moved hW.alike h8⟩
theorem ks_.same {G : mg_} {s U : State} (hv : s.vm = U.vm) (h : ks_ G s) : ks_ G U := by
  obtain ⟨h1, h2, h3, h4, h5, h6, h7, h8⟩ := h
  have hA : s.vm.Alike U.vm := by rw [hv]; exact Vm.Alike.refl _
  exact ⟨va_K.moved hA h1, va_Nw.same rfl hv h2, va_Nw.same rfl hv h3, va_Nw.same rfl hv h4, va_Nw.same rfl hv h5, va_Nw.same rfl hv h6, va_Nw.same rfl hv h7, va_AO.moved hA h8⟩
theorem kz_.moved {G : mg_} {s U : State} {H : Heap} (hA : s.vm.Alike U.vm) (h : kz_ G s H) : kz_ G U H := ⟨va_Z.moved hA h.1, va_T.moved hA h.2⟩
theorem kz_.kept {G : mg_} {s : State} {H H1 : Heap} (h : kz_ G s H) (hq : ∀ a : Nat, a < H.size → ¬ fz_ G a → H1[a]? = H[a]?) : kz_ G s H1 := ⟨va_Z.kept h.1 hq, va_T.kept h.2 hq⟩
def pc_ (G : mg_) (As : List Value) (M : mw_) : Array Value → State → Prop := fun v U => v = As.toArray ∧ ks_ G U ∧ kz_ G U U.heap ∧ mm_ G M U.heap
def qx_ (G : mg_) (post : Option Value → mw_ → Prop) : Array Value → State → Outcome → State → Prop := fun _ st oc t => ∃ (v : Option Value) (M1 : mw_), oc = .returned v ∧ post v M1 ∧ mm_ G M1 t.heap ∧ va_F (fz_ G) st t
/-- a contract: from every heap that holds the memory M the method returns, and the heap holds the memory M1, 'post answer M1' -/
def ct_ (l : Launch) (y : MethodName) (cd : ByteArray) (nL : Nat) (ret : Option FieldType) (rm : Room) (G : mg_) (As : List Value) (M : mw_) (post : Option Value → mw_ → Prop) (mc ms : Nat) : Prop := Met l y (Cond.code y cd nL ret :: tb_) rm (pc_ G As M) (qx_ G post) mc ms (fz_ G)
abbrev dt_ (l : Launch) (y : MethodName) (cd : ByteArray) (nL : Nat) (ret : Option FieldType) (rm : Room) (G : mg_) (As : List Value) (M : mw_) (v0 : Option Value) (M1 : mw_) (mc ms : Nat) : Prop := ct_ l y cd nL ret rm G As M (fun v M' => v = v0 ∧ M' = M1) mc ms
theorem pc_blind {G : mg_} {As : List Value} {M : mw_} : FrameBlind (pc_ G As M) := by
  intro a U g mk h
  obtain ⟨h1, h2, h3, h4⟩ := h
  exact ⟨h1, ks_.same (U := U.calling g mk a) rfl h2, kz_.moved (U := U.calling g mk a) (Vm.Alike.refl U.vm) h3, h4⟩
/-- what a method's body stands on -/
def cx_ (G : mg_) (p : Program) (s : State) (m : MethodId) (args : Array Value) (meth : Method) (c : Code) (cc : ByteArray) (nL : Nat) (ret : Option FieldType) (y : MethodName) : Prop :=
  p.tables.exec = Jvm.exec ∧ c.code = cc ∧ meth.sig.returnType = ret ∧ meth.locks = false ∧ c.maxLocals = nL ∧ s.vm.findClass y.cls = some m.cls ∧ (∀ w ∈ tb_, w.before args s = true) ∧ ks_ G s ∧ kz_ G s s.heap ∧ meth.name = y.name
theorem ct_.intro {l : Launch} {y : MethodName} {cd : ByteArray} {nL : Nat} {ret : Option FieldType} {rm : Room} {G : mg_} {As : List Value} {M : mw_} {post : Option Value → mw_ → Prop} {mc ms : Nat} (hy : plainName y.cls = true) (hn : (lg_sl As).length ≤ nL)
    (body : ∀ p e s m args below meth c ls, cx_ G p s m args meth c cd nL ret y → lv_has ls nL (lv_args 0 As) → mm_ G M s.heap → va_S (fz_ G) s.heap s.heap [] → W p l e rm s m args below meth c s.heap [] 0 0 (MQ below (qx_ G post) args s mc ms (fz_ G)) (F0 m 0 ls [])) : ct_ l y cd nL ret rm G As M post mc ms := by
  refine Met.ofW (cc := cd) (maxL := nL) (ret := ret) hy rfl ?_
  intro p e s m args below meth c s₁ B hml hv
  obtain ⟨rfl, h1, h2, h3⟩ := hv
  have hts := atoms_spec (ws := Cond.code y cd nL ret :: tb_) B.pre
  have hl := lv_entry As (n := nL) hn
  rw [lg_entry_eq]
  exact body p e s m _ below meth c _ ⟨B.exec, B.bytes, B.returns, B.notSynchronized, hml, findClass_of_methodNamed B.named, fun w hw => hts w (List.mem_cons_of_mem _ hw), h1, h2, (name_of_methodNamed B.named B.method).1⟩ hl h3 va_S.rf
/-- field words: own class, pool entry, number of the object's class, field -/
def fl_ok (own : String) (idx ci : Nat) (C : String) (T : u_T) (N k : Nat) : Prop := cl_[ci]? = some (C, T, N) ∧ (∀ w ∈ u_ws C T N, w ∈ tb_) ∧ k < N ∧ Cond.fieldLink own idx C (T k).2.1 (T k).2.2.1 ∈ tb_ ∧ (T k).1 = C
def fp_ok (C : String) (T : u_T) (N k : Nat) (ty0 : Nat → FieldType) (ty : FieldType) : Prop := (∀ k, k < N → parseFieldDescriptor (T k).2.2.1 = some (ty0 k)) ∧ (∀ a, a < N → ∀ b, b < N → a ≠ b → (T a).2.1 ≠ (T b).2.1) ∧ parseFieldDescriptor (T k).2.2.1 = some ty
/-- call words -/
def vk_ok (own : String) (idx : Nat) (y : MethodName) (cd : ByteArray) (nL : Nat) (ret : Option FieldType) (n : Nat) : Prop := Cond.code y cd nL ret ∈ tb_ ∧ Cond.methodLink own idx y ∈ tb_ ∧ Cond.instanceMethod y ∈ tb_ ∧ Cond.selects y.cls y y ∈ tb_ ∧ Cond.initialized y.cls ∈ tb_ ∧ y.cls ≠ "java/lang/invoke/MethodHandle" ∧ y.cls ≠ "java/lang/invoke/VarHandle" ∧ (parseMethodDescriptor y.desc).map (fun d => d.parameters.length) = some n
def sk_ok (own : String) (idx : Nat) (y : MethodName) (cd : ByteArray) (nL : Nat) (ret : Option FieldType) (n : Nat) : Prop := Cond.code y cd nL ret ∈ tb_ ∧ Cond.methodLink own idx y ∈ tb_ ∧ Cond.static y ∈ tb_ ∧ Cond.initialized y.cls ∈ tb_ ∧ y.cls ≠ "java/lang/invoke/MethodHandle" ∧ y.cls ≠ "java/lang/invoke/VarHandle" ∧ (parseMethodDescriptor y.desc).map (fun d => d.parameters.length) = some n
section MR
variable {p : Program} {l : Launch} {e : Env} {R : Room} {s : State} {m : MethodId} {args : Array Value} {below : List Frame} {meth : Method} {c : Code} {H : Heap} {locs : List Loc} {cells slots : Nat} {Q : State → Prop}
variable {cc : ByteArray} {pc : Nat} {ls : Array Slot} {rest : List Value} {G : mg_} {M : mw_} {a nL : Nat} {ret : Option FieldType} {y : MethodName}
theorem mr_get (C0 : cx_ G p s m args meth c cc nL ret y) (hM : mm_ G M H) {idx ci N k : Nat} {C : String} {T : u_T} (hf : fl_ok y.cls idx ci C T N k) {fs : List Value} {v : Value} (ha : M a = some (ob_ ci fs)) (hv : fs[k]? = some v) (hdg : decode cc pc = .ok (.getfield idx, 3))
    (kk : W p l e R s m args below meth c H locs cells slots Q (F0 m (pc + 3) ls (v :: rest))) : W p l e R s m args below meth c H locs cells slots Q (F0 m pc ls (.ref a :: rest)) := by
  obtain ⟨hx, hb, -, -, -, hown, hts, hk, -⟩ := C0
  obtain ⟨f1, f2, f3, f4, f5⟩ := hf
  exact va_get hx hb hts f2 hown hk.1 (hM.P ha) 0 rfl f1 k f3 (hts _ f4) (fun x h => by rw [f5] at h; exact h) hv hdg kk
theorem mr_put (C0 : cx_ G p s m args meth c cc nL ret y) (hM : mm_ G M H) (hS : va_S (fz_ G) s.heap H locs) {idx ci N k : Nat} {C : String} {T : u_T} (hf : fl_ok y.cls idx ci C T N k) {ty0 : Nat → FieldType} {ty : FieldType} (hp : fp_ok C T N k ty0 ty) {fs : List Value} {v : Value} (ha : M a = some (ob_ ci fs)) (hfin : (T k).2.2.2 = false) (hn : narrow ty v = v) (hfit : fits ty v = true) (hl : k < fs.length) (hdg : decode cc pc = .ok (.putfield idx, 3))
    (kk : ∀ (H1 : Heap) (locs1 : List Loc), mm_ G (mu_ M a (ob_ ci (fs.set k v))) H1 → va_S (fz_ G) s.heap H1 locs1 → W p l e R s m args below meth c H1 locs1 cells slots Q (F0 m (pc + 3) ls rest)) : W p l e R s m args below meth c H locs cells slots Q (F0 m pc ls (v :: .ref a :: rest)) := by
  obtain ⟨hx, hb, -, -, -, hown, hts, hK, -⟩ := C0
  obtain ⟨hc, hin, hk, hlink, hT⟩ := hf
  obtain ⟨hty, hnm, hd⟩ := hp
  have hK := hK.1
  have hap := va_apart (own := y.cls) hts hin ty0 hty hnm hK hc
  obtain ⟨r, h1, cell, q1, q2, q3, q4⟩ := (hM.2 a _ ha).1
  have hr : r = (C, T, N) := Option.some.inj (h1.symm.trans hc)
  subst hr
  obtain ⟨hS0, hfc, kC, hkC, hkind⟩ := hK.1 ci _ hc
  obtain ⟨cf, kf, fi, f, hi, hsl⟩ := hS0 k hk
  have hlay := hts _ (hin _ (u_in_lay hk))
  unfold u_lay at hlay
  rw [if_neg (by rw [hfin]; decide)] at hlay
  have hst := (u_facts hfc hkC (u_lays hts hin hk) hi).1
  have h6 := u_store hfc hkC hkind hlay hi hd hn hfit
  refine W.putK hx hb (f := f) ⟨hown, hts _ hlink, ⟨_, _, _, by rw [← hT]; exact hi⟩, hst⟩ (by rw [q2]; exact h6) q1 q3 (by rw [hsl]; exact k2_hasslot (q4 k hk)) rfl rfl hdg fun H' e1 e2 e3 => ?_
  rw [hsl] at e1 ⊢
  exact kk H' _ (hM.set ha e2 e3 ⟨_, hc, t_OB.to (V := updV (vp_V fs) k v) ⟨_, e1, q2, q3, t_set q4 hap hk v⟩ (fun j _ => vp_updV_set hl v j)⟩) (hS.put e2 e3 (hM.2 a _ ha).2)
theorem mr_putF (C0 : cx_ G p s m args meth c cc nL ret y) (hM : mm_ G M H) (hS : va_S (fz_ G) s.heap H locs) {idx ci N k : Nat} {C : String} {T : u_T} (hf : fl_ok y.cls idx ci C T N k) {ty0 : Nat → FieldType} {ty : FieldType} (hp : fp_ok C T N k ty0 ty) {fs : List Value} {v : Value} (ha : M a = some (ob_ ci fs)) (hyn : y.name = "<init>") (hC : C = y.cls) (hfin : (T k).2.2.2 = true) (hn : narrow ty v = v) (hfit : fits ty v = true) (hl : k < fs.length) (hdg : decode cc pc = .ok (.putfield idx, 3))
    (kk : ∀ (H1 : Heap) (locs1 : List Loc), mm_ G (mu_ M a (ob_ ci (fs.set k v))) H1 → va_S (fz_ G) s.heap H1 locs1 → W p l e R s m args below meth c H1 locs1 cells slots Q (F0 m (pc + 3) ls rest)) : W p l e R s m args below meth c H locs cells slots Q (F0 m pc ls (v :: .ref a :: rest)) := by
  obtain ⟨hx, hb, -, -, -, hown, hts, hK, -, hnm0⟩ := C0
  obtain ⟨hc, hin, hk, hlink, hT⟩ := hf
  obtain ⟨hty, hnm, hd⟩ := hp
  have hK := hK.1
  have hap := va_apart (own := y.cls) hts hin ty0 hty hnm hK hc
  obtain ⟨r, h1, cell, q1, q2, q3, q4⟩ := (hM.2 a _ ha).1
  have hr : r = (C, T, N) := Option.some.inj (h1.symm.trans hc)
  subst hr
  obtain ⟨hS0, hfc, kC, hkC, hkind⟩ := hK.1 ci _ hc
  obtain ⟨cf, kf, fi, f, hi, hsl⟩ := hS0 k hk
  have hst := (u_facts hfc hkC (u_lays hts hin hk) hi).1
  have h6 := u_fits hfc hkC hkind (u_lays hts hin hk) hi hd hn hfit
  have hlay := hts _ (hin _ (u_in_lay hk))
  unfold u_lay at hlay
  rw [if_pos hfin] at hlay
  have hcf : m.cls = cf := by
    obtain ⟨_, _, c', _, _, _, -, -, hf', -, -, -, hown2, -⟩ := Cond.laysFinal_spec hlay
    have e1 : c' = cf := by have := hi.symm.trans hf'; simp at this; exact this.1.symm
    rw [hT, hC] at hown2
    rw [← e1]; exact Option.some.inj (hown.symm.trans hown2)
  refine W.putFinK hx hb (f := f) hown (hts _ hlink) (by rw [← hT]; exact hi) hst hcf (hnm0.trans hyn) (by rw [q2]; exact h6) q1 q3 (by rw [hsl]; exact k2_hasslot (q4 k hk)) rfl rfl hdg fun H' e1 e2 e3 => ?_
  rw [hsl] at e1 ⊢
  exact kk H' _ (hM.set ha e2 e3 ⟨_, hc, t_OB.to (V := updV (vp_V fs) k v) ⟨_, e1, q2, q3, t_set q4 hap hk v⟩ (fun j _ => vp_updV_set hl v j)⟩) (hS.put e2 e3 (hM.2 a _ ha).2)
theorem mr_in {x : Int32} {i n : Nat} (hx : x = nI i) (hi : i < n) (hn : n < 2147483648) : vp_in x n := by
  subst hx; exact vp_in_nI hi hn
theorem mr_cl {x : Int32} {i n : Nat} (hx : x = nI i) (hi : i < n) (hn : n < 2147483648) : x.toNatClampNeg = i := by
  subst hx; exact nI_clamp (Nat.lt_trans hi hn)
theorem mr_iald (C0 : cx_ G p s m args meth c cc nL ret y) (hM : mm_ G M H) {n : Nat} {f : Nat → Int32} (ha : M a = some (ia_ G n f)) {x : Int32} (i : Nat) (hx : x = nI i) (hi : i < n) (hn : n < 2147483648) (hdg : decode cc pc = .ok (.iaload, 1))
    (kk : W p l e R s m args below meth c H locs cells slots Q (F0 m (pc + 1) ls (.int (f i) :: rest))) : W p l e R s m args below meth c H locs cells slots Q (F0 m pc ls (.int x :: .ref a :: rest)) := by
  refine va_iald C0.1 C0.2.1 C0.2.2.2.2.2.2.2.1.1 (hM.P ha) 0 0 rfl rfl (mr_in hx hi hn) hdg ?_
  rw [mr_cl hx hi hn]; exact kk
theorem mr_lald (C0 : cx_ G p s m args meth c cc nL ret y) (hM : mm_ G M H) {n : Nat} {f : Nat → Int64} (ha : M a = some (la_ G n f)) {x : Int32} (i : Nat) (hx : x = nI i) (hi : i < n) (hn : n < 2147483648) (hdg : decode cc pc = .ok (.laload, 1))
    (kk : W p l e R s m args below meth c H locs cells slots Q (F0 m (pc + 1) ls (.long (f i) :: rest))) : W p l e R s m args below meth c H locs cells slots Q (F0 m pc ls (.int x :: .ref a :: rest)) := by
  refine va_lald C0.1 C0.2.1 C0.2.2.2.2.2.2.2.1.1 (hM.P ha) 0 1 rfl rfl (mr_in hx hi hn) hdg ?_
  rw [mr_cl hx hi hn]; exact kk
theorem mr_aald (C0 : cx_ G p s m args meth c cc nL ret y) (hM : mm_ G M H) {n : Nat} {f : Nat → Option Nat} (ha : M a = some (qa_ G n f)) {x : Int32} (i : Nat) {b : Nat} (hfb : f i = some b) (hx : x = nI i) (hi : i < n) (hn : n < 2147483648) (hdg : decode cc pc = .ok (.aaload, 1))
    (kk : W p l e R s m args below meth c H locs cells slots Q (F0 m (pc + 1) ls (.ref b :: rest))) : W p l e R s m args below meth c H locs cells slots Q (F0 m pc ls (.int x :: .ref a :: rest)) := by
  refine va_aldq C0.1 C0.2.1 C0.2.2.2.2.2.2.2.1.1 (hM.P ha) 0 2 rfl rfl (mr_in hx hi hn) hdg ?_
  rw [mr_cl hx hi hn, hfb]; exact kk
theorem mr_iast (C0 : cx_ G p s m args meth c cc nL ret y) (hM : mm_ G M H) (hS : va_S (fz_ G) s.heap H locs) {n : Nat} {f : Nat → Int32} (ha : M a = some (ia_ G n f)) {x v : Int32} (i : Nat) (hx : x = nI i) (hi : i < n) (hn : n < 2147483648) (hdg : decode cc pc = .ok (.iastore, 1))
    (kk : ∀ (H1 : Heap) (locs1 : List Loc), mm_ G (mu_ M a (ia_ G n (upd f i v))) H1 → va_S (fz_ G) s.heap H1 locs1 → W p l e R s m args below meth c H1 locs1 cells slots Q (F0 m (pc + 1) ls rest)) : W p l e R s m args below meth c H locs cells slots Q (F0 m pc ls (.int v :: .int x :: .ref a :: rest)) := by
  have hin := mr_in hx hi hn
  have hcl := mr_cl hx hi hn
  refine W.iast C0.1 C0.2.1 (hM.2 a _ ha).1 ((C0.2.2.2.2.2.2.2.1.1.2 0 _ rfl).1 n (fun j => .int (f j))) (fun q => by cases q) (by show ¬ (x < 0 ∨ (arrV _ _ _).slots.size ≤ _); rw [arrV_size]; exact hin) rfl rfl hdg fun H1 e z oq => ?_
  refine kk H1 _ (hM.set ha z oq ?_) (hS.put z oq (hM.2 a _ ha).2)
  show H1[a]? = some (vp_cell _ _)
  rw [e, hcl]
  rw [vp_cell_i, vp_cell_i, arrV_store]
  congr 2
  funext q
  by_cases hq : q = i
  · subst hq
    simp [updV, upd]
  · simp [updV, upd, hq]
theorem mr_last (C0 : cx_ G p s m args meth c cc nL ret y) (hM : mm_ G M H) (hS : va_S (fz_ G) s.heap H locs) {n : Nat} {f : Nat → Int64} (ha : M a = some (la_ G n f)) {x : Int32} {v : Int64} (i : Nat) (hx : x = nI i) (hi : i < n) (hn : n < 2147483648) (hdg : decode cc pc = .ok (.lastore, 1))
    (kk : ∀ (H1 : Heap) (locs1 : List Loc), mm_ G (mu_ M a (la_ G n (vp_updL f i v))) H1 → va_S (fz_ G) s.heap H1 locs1 → W p l e R s m args below meth c H1 locs1 cells slots Q (F0 m (pc + 1) ls rest)) : W p l e R s m args below meth c H locs cells slots Q (F0 m pc ls (.long v :: .int x :: .ref a :: rest)) := by
  have hin := mr_in hx hi hn
  have hcl := mr_cl hx hi hn
  refine W.last C0.1 C0.2.1 (hM.2 a _ ha).1 ((C0.2.2.2.2.2.2.2.1.1.2 1 _ rfl).1 n (fun j => .long (f j))) (fun q => by cases q) (by show ¬ (x < 0 ∨ (arrV _ _ _).slots.size ≤ _); rw [arrV_size]; exact hin) rfl rfl hdg fun H1 e z oq => ?_
  refine kk H1 _ (hM.set ha z oq ?_) (hS.put z oq (hM.2 a _ ha).2)
  show H1[a]? = some (vp_cell _ _)
  rw [e, hcl]
  rw [vp_cell_l, vp_cell_l, arrV_store]
  congr 2
  funext q
  by_cases hq : q = i
  · subst hq
    simp [updV, vp_updL]
  · simp [updV, vp_updL, hq]
theorem mr_alen (C0 : cx_ G p s m args meth c cc nL ret y) (hM : mm_ G M H) (t0 : Nat) {cA : ClassId} {x : vp_A} (ha : M a = some (.inl (cA, x))) {ty : FieldType} (ht : ([(gI G, .int), (gL G, .long), (gE G, .object "PartsAccumulator$Epoch")] : List (ClassId × FieldType))[t0]? = some (cA, ty)) {n : Nat} (hv : x.1 = n) (hdg : decode cc pc = .ok (.arraylength, 1))
    (kk : W p l e R s m args below meth c H locs cells slots Q (F0 m (pc + 1) ls (.int (nI n) :: rest))) : W p l e R s m args below meth c H locs cells slots Q (F0 m pc ls (.ref a :: rest)) := by
  subst hv
  exact va_alen C0.1 C0.2.1 C0.2.2.2.2.2.2.2.1.1 (hM.P ha) 0 t0 rfl ht rfl hdg kk
theorem mr_vi {x x' : Int32} (h : x = x') (k : W p l e R s m args below meth c H locs cells slots Q (F0 m pc ls (.int x' :: rest))) : W p l e R s m args below meth c H locs cells slots Q (F0 m pc ls (.int x :: rest)) := by rw [h]; exact k
theorem mr_vl {x x' : Int64} (h : x = x') (k : W p l e R s m args below meth c H locs cells slots Q (F0 m pc ls (.long x' :: rest))) : W p l e R s m args below meth c H locs cells slots Q (F0 m pc ls (.long x :: rest)) := by rw [h]; exact k
theorem mr_v2 {b : Value} {x x' : Int32} (h : x = x') (k : W p l e R s m args below meth c H locs cells slots Q (F0 m pc ls (b :: .int x' :: rest))) : W p l e R s m args below meth c H locs cells slots Q (F0 m pc ls (b :: .int x :: rest)) := by rw [h]; exact k
theorem mr_M {M' : mw_} (h : M = M') (hM : mm_ G M H) : mm_ G M' H := h ▸ hM
theorem mr_ldc (C0 : cx_ G p s m args meth c cc nL ret y) {idx : Nat} {v : Int32} (hw : Cond.constant y.cls idx v ∈ tb_) (hdg : decode cc pc = .ok (.ldc idx, 2)) (k : W p l e R s m args below meth c H locs cells slots Q (F0 m (pc + 2) ls (.int v :: rest))) : W p l e R s m args below meth c H locs cells slots Q (F0 m pc ls rest) := lv_ldc C0.1 C0.2.1 C0.2.2.2.2.2.1 (C0.2.2.2.2.2.2.1 _ hw) hdg k
theorem mr_ldc2 (C0 : cx_ G p s m args meth c cc nL ret y) {idx : Nat} {v : Int64} (hw : Cond.constantLong y.cls idx v ∈ tb_) (hdg : decode cc pc = .ok (.ldc2_w idx, 3)) (k : W p l e R s m args below meth c H locs cells slots Q (F0 m (pc + 3) ls (.long v :: rest))) : W p l e R s m args below meth c H locs cells slots Q (F0 m pc ls rest) := lv_ldc2 C0.1 C0.2.1 C0.2.2.2.2.2.1 (C0.2.2.2.2.2.2.1 _ hw) hdg k
theorem mr_iret {post : Option Value → mw_ → Prop} {v : Int32} {ty : FieldType} (C0 : cx_ G p s m args meth c cc nL (some ty) y) (hM : mm_ G M H) (hS : va_S (fz_ G) s.heap H locs) (hn : narrow ty (.int v) = .int v) (hp : post (some (.int v)) M) (hdg : decode cc pc = .ok (.ireturn, 1)) : W p l e R s m args below meth c H locs cells slots (MQ below (qx_ G post) args s cells slots (fz_ G)) (F0 m pc ls [.int v]) :=
  W.zret C0.1 C0.2.1 C0.2.2.1 hn (fun t ht _ => ⟨_, M, rfl, hp, by rw [ht]; exact hM, hS.F ht⟩) hS.2.2 hdg C0.2.2.2.1
theorem mr_lret {post : Option Value → mw_ → Prop} {v : Int64} (C0 : cx_ G p s m args meth c cc nL (some .long) y) (hM : mm_ G M H) (hS : va_S (fz_ G) s.heap H locs) (hp : post (some (.long v)) M) (hdg : decode cc pc = .ok (.lreturn, 1)) : W p l e R s m args below meth c H locs cells slots (MQ below (qx_ G post) args s cells slots (fz_ G)) (F0 m pc ls [.long v]) :=
  W.lret C0.1 C0.2.1 C0.2.2.1 (fun t ht _ => ⟨_, M, rfl, hp, by rw [ht]; exact hM, hS.F ht⟩) hS.2.2 hdg C0.2.2.2.1
theorem mr_vret {post : Option Value → mw_ → Prop} (C0 : cx_ G p s m args meth c cc nL none y) (hM : mm_ G M H) (hS : va_S (fz_ G) s.heap H locs) (hp : post none M) (hdg : decode cc pc = .ok (.return_, 1)) : W p l e R s m args below meth c H locs cells slots (MQ below (qx_ G post) args s cells slots (fz_ G)) (F0 m pc ls []) :=
  W.vret C0.1 C0.2.1 C0.2.2.1 (fun t ht _ => ⟨_, M, rfl, hp, by rw [ht]; exact hM, hS.F ht⟩) hS.2.2 hdg C0.2.2.2.1
theorem mr_pre (C0 : cx_ G p s m args meth c cc nL ret y) (hM : mm_ G M H) (hS : va_S (fz_ G) s.heap H locs) (As : List Value) : PreS s H (pc_ G As M) As :=
  ⟨pc_blind, fun U hU hW => ⟨rfl, ks_.warm hW C0.2.2.2.2.2.2.2.1, by rw [hU]; exact kz_.moved hW.alike (kz_.kept C0.2.2.2.2.2.2.2.2.1 hS.2.1), by rw [hU]; exact hM⟩⟩
/-- behind any call -/
theorem mr_run {g : JFrame} {rest : List Value} {post : Option Value → mw_ → Prop} {a : Array Value} {mc ms : Nat} (hr : va_Run p l e R s m args below meth c H locs cells slots mc ms (F0 m pc ls g.stack) rest (qx_ G post a) (fz_ G)) (hS : va_S (fz_ G) s.heap H locs)
    (kk : ∀ (v : Option Value) (M1 : mw_) (H1 : Heap) (locs1 : List Loc), post v M1 → mm_ G M1 H1 → va_S (fz_ G) s.heap H1 locs1 → W p l e R s m args below meth c H1 locs1 (cells + mc) (slots + ms) Q (F0 m (pc + 3) ls (v.toList ++ rest))) : W p l e R s m args below meth c H locs cells slots Q (F0 m pc ls g.stack) := by
  intro T hT X
  obtain ⟨v, st₀, t, T', L, h0, X', hL, e1, e2, ⟨v', M1, hv, hp, hm, hz, hk⟩, st⟩ := hr T hT X
  cases hv
  rw [h0] at hz hk
  obtain ⟨t2, a1, b1⟩ := kk v M1 T'.heap (locs ++ L) hp (by rw [e1]; exact hm)
    ⟨Nat.le_trans hS.1 (by rw [e1]; exact hz), fun q h1 h2 => by rw [e1, hk q (Nat.lt_of_lt_of_le h1 hS.1) h2]; exact hS.2.1 q h1 h2, fun q hq => by
      rcases List.mem_append.mp hq with h | h
      · exact hS.2.2 q h
      · exact hL q h⟩ T' rfl X'
  exact ⟨t2, st t2 a1, b1⟩
theorem mr_callS {y' : MethodName} {cd : ByteArray} {nL' idx n mc ms : Nat} {ret' : Option FieldType} {rm : Room} {As : List Value} {post : Option Value → mw_ → Prop} (C0 : cx_ G p s m args meth c cc nL ret y) (hM : mm_ G M H) (hS : va_S (fz_ G) s.heap H locs) (hk : sk_ok y.cls idx y' cd nL' ret' n) (hMet : ct_ l y' cd nL' ret' rm G As M post mc ms) (hn : As.length = n) {st0 : List Value} (hst : st0 = As.reverse ++ rest) (hls : ls.size = nL) (hW : (rest.map fun v => v.category).sum ≤ 8) (hrc : rm.cells = mc) (hrs : rm.slots = ms) (hR : rm.frames + 1 ≤ R.frames ∧ 8 + (nL' + 11) + rm.locals ≤ R.locals) (hf : cells + mc ≤ R.cells ∧ slots + ms ≤ R.slots) (hdg : decode cc pc = .ok (.invokestatic idx, 3))
    (kk : ∀ (v : Option Value) (M1 : mw_) (H1 : Heap) (locs1 : List Loc), post v M1 → mm_ G M1 H1 → va_S (fz_ G) s.heap H1 locs1 → W p l e R s m args below meth c H1 locs1 (cells + mc) (slots + ms) Q (F0 m (pc + 3) ls (v.toList ++ rest))) : W p l e R s m args below meth c H locs cells slots Q (F0 m pc ls st0) := by
  obtain ⟨k1, k2, k3, k4, k5, k6, k7⟩ := hk
  have hts := C0.2.2.2.2.2.2.1
  exact mr_run (g := F0 m pc ls st0) (va_runS (cc := cc) (nL := nL) (own := y.cls) (index := idx) (bytes := cd) (maxL := nL') (ret := ret') (n := n) ⟨C0.1, C0.2.1, C0.2.2.2.2.1, C0.2.2.2.2.2.1, hts⟩ hMet ⟨callB_of n hts (tb_good k1 (fun _ h => h)) rfl hrc hrs (hts _ k4) (hts _ k2) ⟨k5, k6, k7⟩ hR, hts _ k3⟩ (mr_pre C0 hM hS As) rfl hn hls hst (by show 2 * 0 + _ ≤ 8; omega) hdg hf) hS kk
theorem mr_recv (C0 : cx_ G p s m args meth c cc nL ret y) (hM : mm_ G M H) {ci : Nat} {fs : List Value} {C : String} {T : u_T} {N : Nat} (ha : M a = some (ob_ ci fs)) (hc : cl_[ci]? = some (C, T, N)) : ∃ cellB : Cell, H[a]? = some cellB ∧ cellB.vm.isStatics = false ∧ s.vm.findClass C = some cellB.cls :=
  va_recv (q := (C, T, N)) C0.2.2.2.2.2.2.2.1.1 (hM.P ha) (q0 := 0) hc rfl
theorem mr_callV {y' : MethodName} {cd : ByteArray} {nL' idx n mc ms ci N : Nat} {ret' : Option FieldType} {rm : Room} {As fs : List Value} {T : u_T} {post : Option Value → mw_ → Prop} (C0 : cx_ G p s m args meth c cc nL ret y) (hM : mm_ G M H) (hS : va_S (fz_ G) s.heap H locs) (hk : vk_ok y.cls idx y' cd nL' ret' n) (ha : M a = some (ob_ ci fs)) (hc : cl_[ci]? = some (y'.cls, T, N)) (hMet : ct_ l y' cd nL' ret' rm G (.ref a :: As) M post mc ms) (hn : As.length = n) {st0 : List Value} (hst : st0 = As.reverse ++ .ref a :: rest) (hls : ls.size = nL) (hW : (rest.map fun v => v.category).sum ≤ 8) (hrc : rm.cells = mc) (hrs : rm.slots = ms) (hR : rm.frames + 1 ≤ R.frames ∧ 8 + (nL' + 11) + rm.locals ≤ R.locals) (hf : cells + mc ≤ R.cells ∧ slots + ms ≤ R.slots) (hdg : decode cc pc = .ok (.invokevirtual idx, 3))
    (kk : ∀ (v : Option Value) (M1 : mw_) (H1 : Heap) (locs1 : List Loc), post v M1 → mm_ G M1 H1 → va_S (fz_ G) s.heap H1 locs1 → W p l e R s m args below meth c H1 locs1 (cells + mc) (slots + ms) Q (F0 m (pc + 3) ls (v.toList ++ rest))) : W p l e R s m args below meth c H locs cells slots Q (F0 m pc ls st0) := by
  obtain ⟨k1, k2, k3, k4, k5, k6, k7, k8⟩ := hk
  have hts := C0.2.2.2.2.2.2.1
  have hpre := mr_pre C0 hM hS (.ref a :: As)
  exact mr_run (g := F0 m pc ls st0) (va_runV (cc := cc) (nL := nL) (own := y.cls) (C := y'.cls) (index := idx) (bytes := cd) (maxL := nL') (ret := ret') (n := n) ⟨C0.1, C0.2.1, C0.2.2.2.2.1, C0.2.2.2.2.2.1, hts⟩ hMet ⟨callB_of n hts (tb_good k1 (fun _ h => h)) rfl hrc hrs (hts _ k5) (hts _ k2) ⟨k6, k7, k8⟩ hR, hts _ k3, hts _ k4⟩ ⟨hpre.1, mr_recv C0 hM ha hc, hpre.2⟩ rfl hn hls hst (by show 2 * 0 + _ ≤ 8; omega) hdg hf) hS kk
end MR
end
section
/-! rows: array copies, the table K, new cells, constructors -/
section MS
variable {p : Program} {l : Launch} {e : Env} {R : Room} {s : State} {m : MethodId} {args : Array Value} {below : List Frame} {meth : Method} {c : Code} {H : Heap} {locs : List Loc} {cells slots : Nat} {Q : State → Prop}
variable {cc : ByteArray} {pc : Nat} {ls : Array Slot} {rest : List Value} {G : mg_} {M : mw_} {a nL : Nat} {ret : Option FieldType} {y : MethodName}
theorem mr_kget (C0 : cx_ G p s m args meth c cc nL ret y) (hS : va_S (fz_ G) s.heap H locs) (hy : y.cls = "PartsAccumulator$SerialPrimes") (hdg : decode cc pc = .ok (.getstatic 43, 3))
    (kk : W p l e R s m args below meth c H locs cells slots Q (F0 m (pc + 3) ls (.ref (gk G) :: rest))) : W p l e R s m args below meth c H locs cells slots Q (F0 m pc ls rest) :=
  va_gets C0.1 C0.2.1 C0.2.2.2.2.2.2.2.2.1.1 hS C0.2.2.2.2.2.1 (C0.2.2.2.2.2.2.1 _ (by rw [hy]; exact tw_269)) (fun _ h => h) hdg kk
theorem mr_kld (C0 : cx_ G p s m args meth c cc nL ret y) (hS : va_S (fz_ G) s.heap H locs) {x : Int32} (i : Nat) (hx : x = nI i) (hi : i < 64) (hdg : decode cc pc = .ok (.iaload, 1))
    (kk : W p l e R s m args below meth c H locs cells slots Q (F0 m (pc + 1) ls (.int (kt_ i) :: rest))) : W p l e R s m args below meth c H locs cells slots Q (F0 m pc ls (.int x :: .ref (gk G) :: rest)) :=
  va_ti C0.1 C0.2.1 C0.2.2.2.2.2.2.2.2.1.2 hS (mr_in hx hi (by omega)) (by rw [mr_cl hx hi (by omega)]) hdg kk
theorem mr_copyl (C0 : cx_ G p s m args meth c cc nL ret y) (hls : ls.size = nL) {idx : Nat} (hw : Cond.methodLink y.cls idx arraycopyName ∈ tb_)
    (hM : mm_ G M H) (hS : va_S (fz_ G) s.heap H locs) {a0 n0 n1 : Nat} {f g : Nat → Int64} (ha0 : M a0 = some (la_ G n0 f)) (ha1 : M a = some (la_ G n1 g)) {xs xd xn : Int32} (sp dp n : Nat) (es : xs = nI sp) (ed : xd = nI dp) (en : xn = nI n) (h4 : sp + n ≤ n0) (h5 : dp + n ≤ n1) (b0 : n0 < 2147483648) (b1 : n1 < 2147483648)
    (hframes : 1 ≤ R.frames) (hlocals : (rest.map fun v => v.category).sum + (nativeFrameWords "java/lang/System" "arraycopy" 5 + 11) ≤ R.locals) (hdg : decode cc pc = .ok (.invokestatic idx, 3))
    (kk : ∀ (H1 : Heap) (locs1 : List Loc), mm_ G (mu_ M a (la_ G n1 (va_cpy f g sp dp n))) H1 → va_S (fz_ G) s.heap H1 locs1 → W p l e R s m args below meth c H1 locs1 cells slots Q (F0 m (pc + 3) ls rest)) : W p l e R s m args below meth c H locs cells slots Q (F0 m pc ls (.int xn :: .int xd :: .ref a :: .int xs :: .ref a0 :: rest)) := by
  subst es; subst ed; subst en
  have c1 : (nI sp).toNatClampNeg = sp := nI_clamp (by omega)
  have c2 : (nI dp).toNatClampNeg = dp := nI_clamp (by omega)
  have c3 : (nI n).toNatClampNeg = n := nI_clamp (by omega)
  have i1 : (nI sp).toInt = (sp : Int) := nI_toInt (by omega)
  have i2 : (nI dp).toInt = (dp : Int) := nI_toInt (by omega)
  have i3 : (nI n).toInt = (n : Int) := nI_toInt (by omega)
  obtain ⟨hx, hb, -, -, hml, hown, hts, hK, -⟩ := C0
  have hK := hK.1
  intro T hT X
  have hc0 : H[a0]? = some (vp_cell (gL G) (n0, .inr (.inl f))) := (hM.2 a0 _ ha0).1
  have hc1 : H[a]? = some (vp_cell (gL G) (n1, .inr (.inl g))) := (hM.2 a _ ha1).1
  obtain ⟨-, k0, hk0, cm0, hkk0⟩ := (hK.2 1 _ rfl).1 n0 (fun j => .long (f j))
  obtain ⟨-, k1, hk1, cm1, hkk1⟩ := (hK.2 1 _ rfl).1 n1 (fun j => .long (g j))
  obtain ⟨vm', X', step⟩ := X.arraycopy hx hown (hts _ hw) (hts _ tw_182) (hts _ tw_181) (hts _ tw_8) (src := a0) (dst := a) (cs := vp_cell (gL G) (n0, .inr (.inl f))) (cd := vp_cell (gL G) (n1, .inr (.inl g))) (srcPos := nI sp) (destPos := nI dp) (n := nI n) (by rw [hT]; exact hc0) (by rw [hT]; exact hc1)
    (fun _ h => by cases h) (fun _ h => by cases h) (fun h => by cases h) (fun h => by cases h) hk0 hk1 hkk0 hkk1 (by simp [refKind]) (nI_pos (by omega)) (nI_pos (by omega)) (nI_pos (by omega))
    (by rw [i1, i3]; show ¬ _ > ((arrV (gL G) n0 (fun j => .long (f j))).slots.size : Int); rw [arrV_size]; omega)
    (by rw [i2, i3]; show ¬ _ > ((arrV (gL G) n1 (fun j => .long (g j))).slots.size : Int); rw [arrV_size]; omega)
    (fun vm₁ _ i hi => by
      rw [c3] at hi
      have e : (vp_cell (gL G) (n0, .inr (.inl f))).slots.getD ((nI sp).toNatClampNeg + i) .null = .long (f (sp + i)) := by
        show (arrV (gL G) n0 (fun j => .long (f j))).slots.getD _ _ = _
        rw [c1, Array.getD_eq_getD_getElem?, arrV_read _ _ (by omega)]
        rfl
      refine ⟨?_, ?_⟩
      · rw [e]
        rfl
      · rw [e]
        exact trivial)
    (g := F0 m pc ls (.int (nI n) :: .int (nI dp) :: .ref a :: .int (nI sp) :: .ref a0 :: rest)) rfl (by rw [hml]; exact hls) (rest := rest) rfl (by rw [hb]; exact hdg) hframes (by show 2 * 0 + _ + _ ≤ _; omega)
  have e1 : copied (vp_cell (gL G) (n0, .inr (.inl f))) (vp_cell (gL G) (n1, .inr (.inl g))) (nI sp) (nI dp) (nI n) = vp_cell (gL G) (n1, .inr (.inl (va_cpy f g sp dp n))) := by
    have h := va_copied (fun z => .long z) (gL G) (gL G) f g (sp := (nI sp).toNatClampNeg) (dp := (nI dp).toNatClampNeg) (n := (nI n).toNatClampNeg) (n0 := n0) (n1 := n1) (by rw [c1, c3]; exact h4)
    rw [show va_cpy f g sp dp n = va_cpy f g (nI sp).toNatClampNeg (nI dp).toNatClampNeg (nI n).toNatClampNeg by rw [c1, c2, c3]]
    exact h
  rw [e1] at X' step
  have hl : a < H.size := (Array.getElem?_eq_some_iff.mp hc1).1
  have hheap : ((T.setVm vm').setCell a (vp_cell (gL G) (n1, .inr (.inl (va_cpy f g sp dp n))))).heap = H.setIfInBounds a (vp_cell (gL G) (n1, .inr (.inl (va_cpy f g sp dp n)))) := by rw [← hT]; rfl
  have oq : ∀ q : Nat, q ≠ a → (H.setIfInBounds a (vp_cell (gL G) (n1, .inr (.inl (va_cpy f g sp dp n)))))[q]? = H[q]? := fun q hq => by simp [Array.getElem?_setIfInBounds, Ne.symm hq]
  obtain ⟨t, a1, b1⟩ := kk _ _ (hM.set ha1 (by simp) oq (show (H.setIfInBounds a _)[a]? = some _ by simp [Array.getElem?_setIfInBounds, hl])) ⟨by simp; exact hS.1, fun q g1 g2 => by
      rw [oq q (fun e => g2 (by rw [e]; exact (hM.2 a _ ha1).2))]
      exact hS.2.1 q g1 g2, fun q hq => by
      rcases List.mem_append.mp hq with h | h
      · exact hS.2.2 q h
      · obtain ⟨z, -, hz⟩ := List.mem_map.mp h
        rw [← hz]
        exact (hM.2 a _ ha1).2⟩ _ hheap X'
  exact ⟨t, step t a1, b1⟩
theorem mr_copyi (C0 : cx_ G p s m args meth c cc nL ret y) (hls : ls.size = nL) {idx : Nat} (hw : Cond.methodLink y.cls idx arraycopyName ∈ tb_)
    (hM : mm_ G M H) (hS : va_S (fz_ G) s.heap H locs) {a0 n0 n1 : Nat} {f g : Nat → Int32} (ha0 : M a0 = some (ia_ G n0 f)) (ha1 : M a = some (ia_ G n1 g)) {xs xd xn : Int32} (sp dp n : Nat) (es : xs = nI sp) (ed : xd = nI dp) (en : xn = nI n) (h4 : sp + n ≤ n0) (h5 : dp + n ≤ n1) (b0 : n0 < 2147483648) (b1 : n1 < 2147483648)
    (hframes : 1 ≤ R.frames) (hlocals : (rest.map fun v => v.category).sum + (nativeFrameWords "java/lang/System" "arraycopy" 5 + 11) ≤ R.locals) (hdg : decode cc pc = .ok (.invokestatic idx, 3))
    (kk : ∀ (H1 : Heap) (locs1 : List Loc), mm_ G (mu_ M a (ia_ G n1 (va_cpy f g sp dp n))) H1 → va_S (fz_ G) s.heap H1 locs1 → W p l e R s m args below meth c H1 locs1 cells slots Q (F0 m (pc + 3) ls rest)) : W p l e R s m args below meth c H locs cells slots Q (F0 m pc ls (.int xn :: .int xd :: .ref a :: .int xs :: .ref a0 :: rest)) := by
  subst es; subst ed; subst en
  have c1 : (nI sp).toNatClampNeg = sp := nI_clamp (by omega)
  have c2 : (nI dp).toNatClampNeg = dp := nI_clamp (by omega)
  have c3 : (nI n).toNatClampNeg = n := nI_clamp (by omega)
  have i1 : (nI sp).toInt = (sp : Int) := nI_toInt (by omega)
  have i2 : (nI dp).toInt = (dp : Int) := nI_toInt (by omega)
  have i3 : (nI n).toInt = (n : Int) := nI_toInt (by omega)
  obtain ⟨hx, hb, -, -, hml, hown, hts, hK, -⟩ := C0
  have hK := hK.1
  intro T hT X
  have hc0 : H[a0]? = some (vp_cell (gI G) (n0, .inl f)) := (hM.2 a0 _ ha0).1
  have hc1 : H[a]? = some (vp_cell (gI G) (n1, .inl g)) := (hM.2 a _ ha1).1
  obtain ⟨-, k0, hk0, cm0, hkk0⟩ := (hK.2 0 _ rfl).1 n0 (fun j => .int (f j))
  obtain ⟨-, k1, hk1, cm1, hkk1⟩ := (hK.2 0 _ rfl).1 n1 (fun j => .int (g j))
  obtain ⟨vm', X', step⟩ := X.arraycopy hx hown (hts _ hw) (hts _ tw_182) (hts _ tw_181) (hts _ tw_8) (src := a0) (dst := a) (cs := vp_cell (gI G) (n0, .inl f)) (cd := vp_cell (gI G) (n1, .inl g)) (srcPos := nI sp) (destPos := nI dp) (n := nI n) (by rw [hT]; exact hc0) (by rw [hT]; exact hc1)
    (fun _ h => by cases h) (fun _ h => by cases h) (fun h => by cases h) (fun h => by cases h) hk0 hk1 hkk0 hkk1 (by simp [refKind]) (nI_pos (by omega)) (nI_pos (by omega)) (nI_pos (by omega))
    (by rw [i1, i3]; show ¬ _ > ((arrV (gI G) n0 (fun j => .int (f j))).slots.size : Int); rw [arrV_size]; omega)
    (by rw [i2, i3]; show ¬ _ > ((arrV (gI G) n1 (fun j => .int (g j))).slots.size : Int); rw [arrV_size]; omega)
    (fun vm₁ _ i hi => by
      rw [c3] at hi
      have e : (vp_cell (gI G) (n0, .inl f)).slots.getD ((nI sp).toNatClampNeg + i) .null = .int (f (sp + i)) := by
        show (arrV (gI G) n0 (fun j => .int (f j))).slots.getD _ _ = _
        rw [c1, Array.getD_eq_getD_getElem?, arrV_read _ _ (by omega)]
        rfl
      refine ⟨?_, ?_⟩
      · rw [e]
        rfl
      · rw [e]
        exact trivial)
    (g := F0 m pc ls (.int (nI n) :: .int (nI dp) :: .ref a :: .int (nI sp) :: .ref a0 :: rest)) rfl (by rw [hml]; exact hls) (rest := rest) rfl (by rw [hb]; exact hdg) hframes (by show 2 * 0 + _ + _ ≤ _; omega)
  have e1 : copied (vp_cell (gI G) (n0, .inl f)) (vp_cell (gI G) (n1, .inl g)) (nI sp) (nI dp) (nI n) = vp_cell (gI G) (n1, .inl (va_cpy f g sp dp n)) := by
    have h := va_copied (fun z => .int z) (gI G) (gI G) f g (sp := (nI sp).toNatClampNeg) (dp := (nI dp).toNatClampNeg) (n := (nI n).toNatClampNeg) (n0 := n0) (n1 := n1) (by rw [c1, c3]; exact h4)
    rw [show va_cpy f g sp dp n = va_cpy f g (nI sp).toNatClampNeg (nI dp).toNatClampNeg (nI n).toNatClampNeg by rw [c1, c2, c3]]
    exact h
  rw [e1] at X' step
  have hl : a < H.size := (Array.getElem?_eq_some_iff.mp hc1).1
  have hheap : ((T.setVm vm').setCell a (vp_cell (gI G) (n1, .inl (va_cpy f g sp dp n)))).heap = H.setIfInBounds a (vp_cell (gI G) (n1, .inl (va_cpy f g sp dp n))) := by rw [← hT]; rfl
  have oq : ∀ q : Nat, q ≠ a → (H.setIfInBounds a (vp_cell (gI G) (n1, .inl (va_cpy f g sp dp n))))[q]? = H[q]? := fun q hq => by simp [Array.getElem?_setIfInBounds, Ne.symm hq]
  obtain ⟨t, a1, b1⟩ := kk _ _ (hM.set ha1 (by simp) oq (show (H.setIfInBounds a _)[a]? = some _ by simp [Array.getElem?_setIfInBounds, hl])) ⟨by simp; exact hS.1, fun q g1 g2 => by
      rw [oq q (fun e => g2 (by rw [e]; exact (hM.2 a _ ha1).2))]
      exact hS.2.1 q g1 g2, fun q hq => by
      rcases List.mem_append.mp hq with h | h
      · exact hS.2.2 q h
      · obtain ⟨z, -, hz⟩ := List.mem_map.mp h
        rw [← hz]
        exact (hM.2 a _ ha1).2⟩ _ hheap X'
  exact ⟨t, step t a1, b1⟩
theorem mr_newa {ty : FieldType} {atype : ArrayType} (t0 : Nat) {cA : ClassId} (C0 : cx_ G p s m args meth c cc nL ret y) (hM : mm_ G M H) (hS : va_S (fz_ G) s.heap H locs) (hty : newarray.typeOf atype = ty) (hw : Cond.arrayClass ty ∈ tb_) (ht : ([(gI G, .int), (gL G, .long), (gE G, .object "PartsAccumulator$Epoch")] : List (ClassId × FieldType))[t0]? = some (cA, ty)) (hra : ∀ c1 c2 : ClassId, va_RA s c1 ty → s.vm.findClass ("[" ++ ty.toString) = some c2 → c1 = c2)
    {x : Int32} (N : Nat) (hx : x = nI N) (hN : N < 1000) {a0 : vp_A} (ha : ∀ cA : ClassId, vp_cell cA a0 = arrV cA N (fun _ => defaultValue ty)) (hcb : componentBytes ty ≤ 8) (hcells : cells + 1 ≤ R.cells) (hslots : slots + N ≤ R.slots) (hdg : decode cc pc = .ok (.newarray atype, 2))
    (kk : ∀ (H1 : Heap), mm_ G (mu_ M H.size (.inl (cA, a0))) H1 → va_S (fz_ G) s.heap H1 locs → W p l e R s m args below meth c H1 locs (cells + 1) (slots + N) Q (F0 m (pc + 2) ls (.ref H.size :: rest))) : W p l e R s m args below meth c H locs cells slots Q (F0 m pc ls (.int x :: rest)) := by
  subst hty
  subst hx
  have hb2 : N * componentBytes (newarray.typeOf atype) ≤ 536870912 := Nat.le_trans (Nat.mul_le_mul (Nat.le_of_lt hN) hcb) (by decide)
  refine va_newaK C0.1 C0.2.1 (C0.2.2.2.2.2.2.1 _ hw) rfl hdg rfl (nI_pos (by omega)) (nI_clamp (by omega)) hb2 hcells hslots rfl fun H1 cA' e1 z1 o1 hAr hNm => ?_
  have hcc : cA = cA' := hra _ _ (C0.2.2.2.2.2.2.2.1.1.2 t0 _ ht).2 hNm
  subst hcc
  refine kk H1 (hM.push z1 o1 ?_) ⟨Nat.le_trans hS.1 (by omega), fun x h1 h2 => (o1 x (Nat.lt_of_lt_of_le h1 hS.1)).trans (hS.2.1 x h1 h2), hS.2.2⟩
  show H1[H.size]? = some (vp_cell _ _)
  rw [ha]
  exact e1
theorem mr_newl (C0 : cx_ G p s m args meth c cc nL ret y) (hM : mm_ G M H) (hS : va_S (fz_ G) s.heap H locs) {x : Int32} (N : Nat) (hx : x = nI N) (hN : N < 1000) (hcells : cells + 1 ≤ R.cells) (hslots : slots + N ≤ R.slots) (hdg : decode cc pc = .ok (.newarray .long, 2))
    (kk : ∀ (H1 : Heap), mm_ G (mu_ M H.size (la_ G N (fun _ => 0))) H1 → va_S (fz_ G) s.heap H1 locs → W p l e R s m args below meth c H1 locs (cells + 1) (slots + N) Q (F0 m (pc + 2) ls (.ref H.size :: rest))) : W p l e R s m args below meth c H locs cells slots Q (F0 m pc ls (.int x :: rest)) :=
  mr_newa (ty := .long) 1 C0 hM hS rfl tw_72 rfl (fun _ _ h1 h2 => Option.some.inj (h1.symm.trans h2)) N hx hN (a0 := (N, .inr (.inl (fun _ => 0)))) (fun _ => rfl) (by decide) hcells hslots hdg kk
theorem mr_newi (C0 : cx_ G p s m args meth c cc nL ret y) (hM : mm_ G M H) (hS : va_S (fz_ G) s.heap H locs) {x : Int32} (N : Nat) (hx : x = nI N) (hN : N < 1000) (hcells : cells + 1 ≤ R.cells) (hslots : slots + N ≤ R.slots) (hdg : decode cc pc = .ok (.newarray .int, 2))
    (kk : ∀ (H1 : Heap), mm_ G (mu_ M H.size (ia_ G N (fun _ => 0))) H1 → va_S (fz_ G) s.heap H1 locs → W p l e R s m args below meth c H1 locs (cells + 1) (slots + N) Q (F0 m (pc + 2) ls (.ref H.size :: rest))) : W p l e R s m args below meth c H locs cells slots Q (F0 m pc ls (.int x :: rest)) :=
  mr_newa (ty := .int) 0 C0 hM hS rfl tw_28 rfl (fun _ _ h1 h2 => Option.some.inj (h1.symm.trans h2)) N hx hN (a0 := (N, .inl (fun _ => 0))) (fun _ => rfl) (by decide) hcells hslots hdg kk
theorem mr_newo {idx ci N : Nat} {C : String} {T : u_T} {ty0 : Nat → FieldType} {fs : List Value} (C0 : cx_ G p s m args meth c cc nL ret y) (hM : mm_ G M H) (hS : va_S (fz_ G) s.heap H locs) (hc : cl_[ci]? = some (C, T, N)) (hin : ∀ w ∈ u_ws C T N, w ∈ tb_) (hty : ∀ k, k < N → parseFieldDescriptor (T k).2.2.1 = some (ty0 k)) (hcl : Cond.classLink y.cls idx C ∈ tb_) (hinst : Cond.instantiable C N ∈ tb_) (hini : Cond.initialized C ∈ tb_) (hfs : ∀ j, j < N → defaultValue (ty0 j) = vp_V fs j) (hcells : cells + 1 ≤ R.cells) (hslots : slots + N ≤ R.slots) (hdg : decode cc pc = .ok (.new idx, 3))
    (kk : ∀ (H1 : Heap), mm_ G (mu_ M H.size (ob_ ci fs)) H1 → va_S (fz_ G) s.heap H1 locs → W p l e R s m args below meth c H1 locs (cells + 1) (slots + N) Q (F0 m (pc + 3) ls (.ref H.size :: rest))) : W p l e R s m args below meth c H locs cells slots Q (F0 m pc ls rest) := by
  obtain ⟨hx, hb, -, -, -, hown, hts, hK, -⟩ := C0
  have hKn := hK.1.1 ci _ hc
  refine W.newcK hx hb hown (hts _ hcl) (hts _ hinst) (hts _ hini) rfl hdg hcells hslots hKn.2.1 rfl fun H1 kC hkC e1 z1 o1 => ?_
  exact kk H1 (hM.push z1 o1 ⟨_, hc, (u_born ty0 hts hin hKn hkC e1 hty).to hfs⟩) ⟨Nat.le_trans hS.1 (by omega), fun x h1 h2 => (o1 x (Nat.lt_of_lt_of_le h1 hS.1)).trans (hS.2.1 x h1 h2), hS.2.2⟩
theorem mr_objInit (C0 : cx_ G p s m args meth c cc nL ret y) {idx : Nat} (hw : Cond.methodLink y.cls idx objectInit ∈ tb_) (hls : ls.size = nL) (hframes : 1 ≤ R.frames) (hlocals : (rest.map fun v => v.category).sum + 12 ≤ R.locals) (hdg : decode cc pc = .ok (.invokespecial idx, 3))
    (kk : W p l e R s m args below meth c H locs cells slots Q (F0 m (pc + 3) ls rest)) : W p l e R s m args below meth c H locs cells slots Q (F0 m pc ls (.ref a :: rest)) := by
  obtain ⟨hx, hb, -, -, hml, hown, hts, -⟩ := C0
  refine W.objInit hx hb hown (hts _ hw) (hts _ tw_16) (hts _ tw_17) rfl (by rw [hml]; exact hls) rfl hdg hframes (by show 2 * 0 + _ + _ ≤ _; omega) ?_
  exact W.eq rfl kk
theorem mr_callI {y' : MethodName} {cd : ByteArray} {nL' idx n mc ms : Nat} {host : String} {rm : Room} {As : List Value} {post : Option Value → mw_ → Prop} (C0 : cx_ G p s m args meth c cc nL ret y) (hM : mm_ G M H) (hS : va_S (fz_ G) s.heap H locs) (hcode : Cond.code y' cd nL' none ∈ tb_) (hnw : va_Nw (.methodLinkNest y.cls idx y' host) s) (hini : Cond.initialized y'.cls ∈ tb_) (hin : Cond.instanceMethod y' ∈ tb_) (hd : y'.cls ≠ "java/lang/invoke/MethodHandle" ∧ y'.cls ≠ "java/lang/invoke/VarHandle" ∧ (parseMethodDescriptor y'.desc).map (fun d => d.parameters.length) = some n) (hyn : y'.name = "<init>") (hMet : ct_ l y' cd nL' none rm G (.ref a :: As) M post mc ms) (hn : As.length = n) {st0 : List Value} (hst : st0 = As.reverse ++ .ref a :: rest) (hls : ls.size = nL) (hW : (rest.map fun v => v.category).sum ≤ 8) (hrc : rm.cells = mc) (hrs : rm.slots = ms) (hR : rm.frames + 1 ≤ R.frames ∧ 8 + (nL' + 11) + rm.locals ≤ R.locals) (hf : cells + mc ≤ R.cells ∧ slots + ms ≤ R.slots) (hdg : decode cc pc = .ok (.invokespecial idx, 3))
    (kk : ∀ (v : Option Value) (M1 : mw_) (H1 : Heap) (locs1 : List Loc), post v M1 → mm_ G M1 H1 → va_S (fz_ G) s.heap H1 locs1 → W p l e R s m args below meth c H1 locs1 (cells + mc) (slots + ms) Q (F0 m (pc + 3) ls (v.toList ++ rest))) : W p l e R s m args below meth c H locs cells slots Q (F0 m pc ls st0) := by
  have hts := C0.2.2.2.2.2.2.1
  exact mr_run (g := F0 m pc ls st0) (va_runIN (cc := cc) (nL := nL) (own := y.cls) (host := host) (index := idx) (bytes := cd) (maxL := nL') (n := n) ⟨C0.1, C0.2.1, C0.2.2.2.2.1, C0.2.2.2.2.2.1, hts⟩ hMet ⟨va_cnB n hts (tb_good hcode (fun _ h => h)) rfl hrc hrs hnw (hts _ hini) hd hR, hyn, hts _ hin⟩ (mr_pre C0 hM hS (.ref a :: As)) rfl hn hls hst (by show 2 * 0 + _ ≤ 8; omega) hdg hf) hS kk
end MS
end
