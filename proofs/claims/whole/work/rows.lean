section
-- ===== PART A: goes FIRST, ahead of the names: the tables' words, and 'selects' of the private methods out of them =====
/-- a private method of a class that the tables say can be made, by its rows of tables_1 -/
def lw_okq (q : MethodName × Nat) : Prop := (q.1.cls ≠ "java/lang/invoke/MethodHandle" ∧ q.1.cls ≠ "java/lang/invoke/VarHandle") ∧ Cond.instantiable q.1.cls q.2 ∈ tables_1 ∧ Cond.privateMethod q.1 ∈ tables_1 ∧ Cond.instanceMethod q.1 ∈ tables_1
theorem lw_p0 : lw_okq (⟨"PartsAccumulator$Ring", "findNegatedInverse", "()V"⟩, 11) := ⟨⟨by decide +kernel, by decide +kernel⟩, List.mem_of_getElem? (i := 30) (by decide +kernel), List.mem_of_getElem? (i := 172) (by decide +kernel), List.mem_of_getElem? (i := 173) (by decide +kernel)⟩
theorem lw_p1 : lw_okq (⟨"PartsAccumulator$Ring", "findThird", "()V"⟩, 11) := ⟨⟨by decide +kernel, by decide +kernel⟩, List.mem_of_getElem? (i := 30) (by decide +kernel), List.mem_of_getElem? (i := 177) (by decide +kernel), List.mem_of_getElem? (i := 178) (by decide +kernel)⟩
theorem lw_p2 : lw_okq (⟨"PartsAccumulator$Ring", "shiftBy128", "([J)V"⟩, 11) := ⟨⟨by decide +kernel, by decide +kernel⟩, List.mem_of_getElem? (i := 30) (by decide +kernel), List.mem_of_getElem? (i := 184) (by decide +kernel), List.mem_of_getElem? (i := 185) (by decide +kernel)⟩
theorem lw_p3 : lw_okq (⟨"PartsAccumulator$Ring", "reduceTotal", "([J)V"⟩, 11) := ⟨⟨by decide +kernel, by decide +kernel⟩, List.mem_of_getElem? (i := 30) (by decide +kernel), List.mem_of_getElem? (i := 188) (by decide +kernel), List.mem_of_getElem? (i := 189) (by decide +kernel)⟩
theorem lw_p4 : lw_okq (⟨"PartsAccumulator", "publish", "(LPartsAccumulator$Epoch;)V"⟩, 11) := ⟨⟨by decide +kernel, by decide +kernel⟩, List.mem_of_getElem? (i := 11) (by decide +kernel), List.mem_of_getElem? (i := 192) (by decide +kernel), List.mem_of_getElem? (i := 193) (by decide +kernel)⟩
theorem lw_p5 : lw_okq (⟨"PartsAccumulator$Ring", "montgomery", "([J[J[J)V"⟩, 11) := ⟨⟨by decide +kernel, by decide +kernel⟩, List.mem_of_getElem? (i := 30) (by decide +kernel), List.mem_of_getElem? (i := 216) (by decide +kernel), List.mem_of_getElem? (i := 217) (by decide +kernel)⟩
theorem lw_p6 : lw_okq (⟨"PartsAccumulator$Ring", "addProduct", "([JJ)V"⟩, 11) := ⟨⟨by decide +kernel, by decide +kernel⟩, List.mem_of_getElem? (i := 30) (by decide +kernel), List.mem_of_getElem? (i := 221) (by decide +kernel), List.mem_of_getElem? (i := 222) (by decide +kernel)⟩
theorem lw_p7 : lw_okq (⟨"PartsAccumulator$Ring", "dropLowestLimb", "()V"⟩, 11) := ⟨⟨by decide +kernel, by decide +kernel⟩, List.mem_of_getElem? (i := 30) (by decide +kernel), List.mem_of_getElem? (i := 225) (by decide +kernel), List.mem_of_getElem? (i := 226) (by decide +kernel)⟩
theorem lw_p8 : lw_okq (⟨"PartsAccumulator$SerialPrimes", "hash", "(JI)I"⟩, 1) := ⟨⟨by decide +kernel, by decide +kernel⟩, List.mem_of_getElem? (i := 19) (by decide +kernel), List.mem_of_getElem? (i := 247) (by decide +kernel), List.mem_of_getElem? (i := 248) (by decide +kernel)⟩
theorem lw_p9 : lw_okq (⟨"PartsAccumulator$SerialPrimes", "fillSchedule", "(JI)V"⟩, 1) := ⟨⟨by decide +kernel, by decide +kernel⟩, List.mem_of_getElem? (i := 19) (by decide +kernel), List.mem_of_getElem? (i := 251) (by decide +kernel), List.mem_of_getElem? (i := 252) (by decide +kernel)⟩
theorem lw_p10 : lw_okq (⟨"PartsAccumulator", "primeOrRefusal", "(J)I"⟩, 11) := ⟨⟨by decide +kernel, by decide +kernel⟩, List.mem_of_getElem? (i := 11) (by decide +kernel), List.mem_of_getElem? (i := 287) (by decide +kernel), List.mem_of_getElem? (i := 288) (by decide +kernel)⟩
theorem lw_p11 : lw_okq (⟨"PartsAccumulator", "isEpoch", "(I)Z"⟩, 11) := ⟨⟨by decide +kernel, by decide +kernel⟩, List.mem_of_getElem? (i := 11) (by decide +kernel), List.mem_of_getElem? (i := 337) (by decide +kernel), List.mem_of_getElem? (i := 338) (by decide +kernel)⟩
theorem lw_p12 : lw_okq (⟨"PartsAccumulator", "computeIssued", "(J[J)V"⟩, 11) := ⟨⟨by decide +kernel, by decide +kernel⟩, List.mem_of_getElem? (i := 11) (by decide +kernel), List.mem_of_getElem? (i := 361) (by decide +kernel), List.mem_of_getElem? (i := 362) (by decide +kernel)⟩
theorem lw_p13 : lw_okq (⟨"PartsAccumulator", "primeOrRefusal", "(JI)I"⟩, 11) := ⟨⟨by decide +kernel, by decide +kernel⟩, List.mem_of_getElem? (i := 11) (by decide +kernel), List.mem_of_getElem? (i := 399) (by decide +kernel), List.mem_of_getElem? (i := 400) (by decide +kernel)⟩
theorem lw_p14 : lw_okq (⟨"PartsAccumulator", "holdsWitness", "(II)Z"⟩, 11) := ⟨⟨by decide +kernel, by decide +kernel⟩, List.mem_of_getElem? (i := 11) (by decide +kernel), List.mem_of_getElem? (i := 403) (by decide +kernel), List.mem_of_getElem? (i := 404) (by decide +kernel)⟩
theorem lw_p15 : lw_okq (⟨"PartsAccumulator", "isPresentSince", "(JI)Z"⟩, 11) := ⟨⟨by decide +kernel, by decide +kernel⟩, List.mem_of_getElem? (i := 11) (by decide +kernel), List.mem_of_getElem? (i := 414) (by decide +kernel), List.mem_of_getElem? (i := 415) (by decide +kernel)⟩
def lw_privs_1 : List (MethodName × Nat) := [(⟨"PartsAccumulator$Ring", "findNegatedInverse", "()V"⟩, 11), (⟨"PartsAccumulator$Ring", "findThird", "()V"⟩, 11), (⟨"PartsAccumulator$Ring", "shiftBy128", "([J)V"⟩, 11), (⟨"PartsAccumulator$Ring", "reduceTotal", "([J)V"⟩, 11), (⟨"PartsAccumulator", "publish", "(LPartsAccumulator$Epoch;)V"⟩, 11), (⟨"PartsAccumulator$Ring", "montgomery", "([J[J[J)V"⟩, 11), (⟨"PartsAccumulator$Ring", "addProduct", "([JJ)V"⟩, 11), (⟨"PartsAccumulator$Ring", "dropLowestLimb", "()V"⟩, 11), (⟨"PartsAccumulator$SerialPrimes", "hash", "(JI)I"⟩, 1), (⟨"PartsAccumulator$SerialPrimes", "fillSchedule", "(JI)V"⟩, 1), (⟨"PartsAccumulator", "primeOrRefusal", "(J)I"⟩, 11), (⟨"PartsAccumulator", "isEpoch", "(I)Z"⟩, 11), (⟨"PartsAccumulator", "computeIssued", "(J[J)V"⟩, 11), (⟨"PartsAccumulator", "primeOrRefusal", "(JI)I"⟩, 11), (⟨"PartsAccumulator", "holdsWitness", "(II)Z"⟩, 11), (⟨"PartsAccumulator", "isPresentSince", "(JI)Z"⟩, 11)]
theorem lw_r1 : ∀ q ∈ lw_privs_1, lw_okq q := List.forall_mem_cons.mpr ⟨lw_p0, List.forall_mem_cons.mpr ⟨lw_p1, List.forall_mem_cons.mpr ⟨lw_p2, List.forall_mem_cons.mpr ⟨lw_p3, List.forall_mem_cons.mpr ⟨lw_p4, List.forall_mem_cons.mpr ⟨lw_p5, List.forall_mem_cons.mpr ⟨lw_p6, List.forall_mem_cons.mpr ⟨lw_p7, List.forall_mem_cons.mpr ⟨lw_p8, List.forall_mem_cons.mpr ⟨lw_p9, List.forall_mem_cons.mpr ⟨lw_p10, List.forall_mem_cons.mpr ⟨lw_p11, List.forall_mem_cons.mpr ⟨lw_p12, List.forall_mem_cons.mpr ⟨lw_p13, List.forall_mem_cons.mpr ⟨lw_p14, List.forall_mem_cons.mpr ⟨lw_p15, fun _ h => absurd h List.not_mem_nil⟩⟩⟩⟩⟩⟩⟩⟩⟩⟩⟩⟩⟩⟩⟩⟩
theorem lw_p16 : lw_okq (⟨"PartsAccumulator", "takeInAdded", "(I)V"⟩, 11) := ⟨⟨by decide +kernel, by decide +kernel⟩, List.mem_of_getElem? (i := 11) (by decide +kernel), List.mem_of_getElem? (i := 418) (by decide +kernel), List.mem_of_getElem? (i := 419) (by decide +kernel)⟩
theorem lw_p17 : lw_okq (⟨"PartsAccumulator", "takeOutRemoved", "(II)V"⟩, 11) := ⟨⟨by decide +kernel, by decide +kernel⟩, List.mem_of_getElem? (i := 11) (by decide +kernel), List.mem_of_getElem? (i := 426) (by decide +kernel), List.mem_of_getElem? (i := 427) (by decide +kernel)⟩
theorem lw_p18 : lw_okq (⟨"PartsAccumulator", "inverseThenQuotient", "(I)I"⟩, 11) := ⟨⟨by decide +kernel, by decide +kernel⟩, List.mem_of_getElem? (i := 11) (by decide +kernel), List.mem_of_getElem? (i := 430) (by decide +kernel), List.mem_of_getElem? (i := 431) (by decide +kernel)⟩
theorem lw_p19 : lw_okq (⟨"PartsAccumulatorModel", "hash", "(JI)I"⟩, 22) := ⟨⟨by decide +kernel, by decide +kernel⟩, List.mem_of_getElem? (i := 458) (by decide +kernel), List.mem_of_getElem? (i := 571) (by decide +kernel), List.mem_of_getElem? (i := 572) (by decide +kernel)⟩
theorem lw_p20 : lw_okq (⟨"PartsAccumulatorModel", "findThird", "()V"⟩, 22) := ⟨⟨by decide +kernel, by decide +kernel⟩, List.mem_of_getElem? (i := 458) (by decide +kernel), List.mem_of_getElem? (i := 602) (by decide +kernel), List.mem_of_getElem? (i := 603) (by decide +kernel)⟩
theorem lw_p21 : lw_okq (⟨"PartsAccumulatorModel", "plus", "(JJJJ)V"⟩, 22) := ⟨⟨by decide +kernel, by decide +kernel⟩, List.mem_of_getElem? (i := 458) (by decide +kernel), List.mem_of_getElem? (i := 606) (by decide +kernel), List.mem_of_getElem? (i := 607) (by decide +kernel)⟩
theorem lw_p22 : lw_okq (⟨"PartsAccumulatorModel", "isBelowN", "(JJ)Z"⟩, 22) := ⟨⟨by decide +kernel, by decide +kernel⟩, List.mem_of_getElem? (i := 458) (by decide +kernel), List.mem_of_getElem? (i := 614) (by decide +kernel), List.mem_of_getElem? (i := 615) (by decide +kernel)⟩
theorem lw_p23 : lw_okq (⟨"PartsAccumulatorModel", "pendingAt", "(J)I"⟩, 22) := ⟨⟨by decide +kernel, by decide +kernel⟩, List.mem_of_getElem? (i := 458) (by decide +kernel), List.mem_of_getElem? (i := 623) (by decide +kernel), List.mem_of_getElem? (i := 624) (by decide +kernel)⟩
theorem lw_p24 : lw_okq (⟨"PartsAccumulatorModel", "power", "(JJI)V"⟩, 22) := ⟨⟨by decide +kernel, by decide +kernel⟩, List.mem_of_getElem? (i := 458) (by decide +kernel), List.mem_of_getElem? (i := 635) (by decide +kernel), List.mem_of_getElem? (i := 636) (by decide +kernel)⟩
theorem lw_p25 : lw_okq (⟨"PartsAccumulatorModel", "multiply", "(JJJJ)V"⟩, 22) := ⟨⟨by decide +kernel, by decide +kernel⟩, List.mem_of_getElem? (i := 458) (by decide +kernel), List.mem_of_getElem? (i := 639) (by decide +kernel), List.mem_of_getElem? (i := 640) (by decide +kernel)⟩
theorem lw_p26 : lw_okq (⟨"PartsAccumulatorModel", "placeIn", "(IJ)I"⟩, 22) := ⟨⟨by decide +kernel, by decide +kernel⟩, List.mem_of_getElem? (i := 458) (by decide +kernel), List.mem_of_getElem? (i := 651) (by decide +kernel), List.mem_of_getElem? (i := 652) (by decide +kernel)⟩
theorem lw_p27 : lw_okq (⟨"PartsAccumulatorModel", "isEpoch", "(I)Z"⟩, 22) := ⟨⟨by decide +kernel, by decide +kernel⟩, List.mem_of_getElem? (i := 458) (by decide +kernel), List.mem_of_getElem? (i := 659) (by decide +kernel), List.mem_of_getElem? (i := 660) (by decide +kernel)⟩
theorem lw_p28 : lw_okq (⟨"PartsAccumulatorModel", "issued", "(I)V"⟩, 22) := ⟨⟨by decide +kernel, by decide +kernel⟩, List.mem_of_getElem? (i := 458) (by decide +kernel), List.mem_of_getElem? (i := 671) (by decide +kernel), List.mem_of_getElem? (i := 672) (by decide +kernel)⟩
theorem lw_p29 : lw_okq (⟨"PartsAccumulatorModel", "isWitness", "(II)Z"⟩, 22) := ⟨⟨by decide +kernel, by decide +kernel⟩, List.mem_of_getElem? (i := 458) (by decide +kernel), List.mem_of_getElem? (i := 695) (by decide +kernel), List.mem_of_getElem? (i := 696) (by decide +kernel)⟩
theorem lw_p30 : lw_okq (⟨"PartsAccumulatorModel", "moveTo", "(II)V"⟩, 22) := ⟨⟨by decide +kernel, by decide +kernel⟩, List.mem_of_getElem? (i := 458) (by decide +kernel), List.mem_of_getElem? (i := 703) (by decide +kernel), List.mem_of_getElem? (i := 704) (by decide +kernel)⟩
theorem lw_p31 : lw_okq (⟨"PartsAccumulatorModel", "beginWords", "()V"⟩, 22) := ⟨⟨by decide +kernel, by decide +kernel⟩, List.mem_of_getElem? (i := 458) (by decide +kernel), List.mem_of_getElem? (i := 707) (by decide +kernel), List.mem_of_getElem? (i := 708) (by decide +kernel)⟩
def lw_privs_2 : List (MethodName × Nat) := [(⟨"PartsAccumulator", "takeInAdded", "(I)V"⟩, 11), (⟨"PartsAccumulator", "takeOutRemoved", "(II)V"⟩, 11), (⟨"PartsAccumulator", "inverseThenQuotient", "(I)I"⟩, 11), (⟨"PartsAccumulatorModel", "hash", "(JI)I"⟩, 22), (⟨"PartsAccumulatorModel", "findThird", "()V"⟩, 22), (⟨"PartsAccumulatorModel", "plus", "(JJJJ)V"⟩, 22), (⟨"PartsAccumulatorModel", "isBelowN", "(JJ)Z"⟩, 22), (⟨"PartsAccumulatorModel", "pendingAt", "(J)I"⟩, 22), (⟨"PartsAccumulatorModel", "power", "(JJI)V"⟩, 22), (⟨"PartsAccumulatorModel", "multiply", "(JJJJ)V"⟩, 22), (⟨"PartsAccumulatorModel", "placeIn", "(IJ)I"⟩, 22), (⟨"PartsAccumulatorModel", "isEpoch", "(I)Z"⟩, 22), (⟨"PartsAccumulatorModel", "issued", "(I)V"⟩, 22), (⟨"PartsAccumulatorModel", "isWitness", "(II)Z"⟩, 22), (⟨"PartsAccumulatorModel", "moveTo", "(II)V"⟩, 22), (⟨"PartsAccumulatorModel", "beginWords", "()V"⟩, 22)]
theorem lw_r2 : ∀ q ∈ lw_privs_2, lw_okq q := List.forall_mem_cons.mpr ⟨lw_p16, List.forall_mem_cons.mpr ⟨lw_p17, List.forall_mem_cons.mpr ⟨lw_p18, List.forall_mem_cons.mpr ⟨lw_p19, List.forall_mem_cons.mpr ⟨lw_p20, List.forall_mem_cons.mpr ⟨lw_p21, List.forall_mem_cons.mpr ⟨lw_p22, List.forall_mem_cons.mpr ⟨lw_p23, List.forall_mem_cons.mpr ⟨lw_p24, List.forall_mem_cons.mpr ⟨lw_p25, List.forall_mem_cons.mpr ⟨lw_p26, List.forall_mem_cons.mpr ⟨lw_p27, List.forall_mem_cons.mpr ⟨lw_p28, List.forall_mem_cons.mpr ⟨lw_p29, List.forall_mem_cons.mpr ⟨lw_p30, List.forall_mem_cons.mpr ⟨lw_p31, fun _ h => absurd h List.not_mem_nil⟩⟩⟩⟩⟩⟩⟩⟩⟩⟩⟩⟩⟩⟩⟩⟩
theorem lw_p32 : lw_okq (⟨"PartsAccumulatorModel", "multiplyWords", "(I)V"⟩, 22) := ⟨⟨by decide +kernel, by decide +kernel⟩, List.mem_of_getElem? (i := 458) (by decide +kernel), List.mem_of_getElem? (i := 711) (by decide +kernel), List.mem_of_getElem? (i := 712) (by decide +kernel)⟩
theorem lw_p33 : lw_okq (⟨"PartsAccumulatorModel", "invertWords", "(I)I"⟩, 22) := ⟨⟨by decide +kernel, by decide +kernel⟩, List.mem_of_getElem? (i := 458) (by decide +kernel), List.mem_of_getElem? (i := 716) (by decide +kernel), List.mem_of_getElem? (i := 717) (by decide +kernel)⟩
theorem lw_p34 : lw_okq (⟨"PartsAccumulatorModel", "restOfWords", "(I)J"⟩, 22) := ⟨⟨by decide +kernel, by decide +kernel⟩, List.mem_of_getElem? (i := 458) (by decide +kernel), List.mem_of_getElem? (i := 720) (by decide +kernel), List.mem_of_getElem? (i := 721) (by decide +kernel)⟩
theorem lw_p35 : lw_okq (⟨"PartsAccumulatorModel", "powerOfWords", "(JJ)V"⟩, 22) := ⟨⟨by decide +kernel, by decide +kernel⟩, List.mem_of_getElem? (i := 458) (by decide +kernel), List.mem_of_getElem? (i := 725) (by decide +kernel), List.mem_of_getElem? (i := 726) (by decide +kernel)⟩
def lw_privs_3 : List (MethodName × Nat) := [(⟨"PartsAccumulatorModel", "multiplyWords", "(I)V"⟩, 22), (⟨"PartsAccumulatorModel", "invertWords", "(I)I"⟩, 22), (⟨"PartsAccumulatorModel", "restOfWords", "(I)J"⟩, 22), (⟨"PartsAccumulatorModel", "powerOfWords", "(JJ)V"⟩, 22)]
theorem lw_r3 : ∀ q ∈ lw_privs_3, lw_okq q := List.forall_mem_cons.mpr ⟨lw_p32, List.forall_mem_cons.mpr ⟨lw_p33, List.forall_mem_cons.mpr ⟨lw_p34, List.forall_mem_cons.mpr ⟨lw_p35, fun _ h => absurd h List.not_mem_nil⟩⟩⟩⟩
def lw_privs : List (MethodName × Nat) := lw_privs_1 ++ (lw_privs_2 ++ (lw_privs_3))
def lw_tbl : List Cond := k2_sels lw_privs ++ tables_1
theorem lw_privs_ok : ∀ q ∈ lw_privs, lw_okq q := by
  show ∀ q ∈ lw_privs_1 ++ (lw_privs_2 ++ (lw_privs_3)), lw_okq q
  exact List.forall_mem_append.mpr ⟨lw_r1, List.forall_mem_append.mpr ⟨lw_r2, lw_r3⟩⟩

/-! the tables' words that stay as they are, and where each stands -/
def tb_ : List Cond := lw_tbl.filter goodWord
theorem tb_mem {w : Cond} (i : Nat) (h : tables_1[i]? = some w) (g : goodWord w = true) : w ∈ tb_ := List.mem_filter.mpr ⟨List.mem_append_right _ (List.mem_of_getElem? h), g⟩
theorem tb_memP {w : Cond} (i : Nat) (h : (k2_sels lw_privs)[i]? = some w) (g : goodWord w = true) : w ∈ tb_ := List.mem_filter.mpr ⟨List.mem_append_left _ (List.mem_of_getElem? h), g⟩
theorem tb_good {x : Cond} {ws : List Cond} (hx : x ∈ tb_) (hs : ∀ w ∈ tb_, w ∈ ws) : GoodIn ws (x :: tb_) := by
  intro w hw
  rcases List.mem_cons.mp hw with rfl | h
  · exact ⟨hs _ hx, good_of_word (List.mem_filter.mp hx).2⟩
  · exact ⟨hs _ h, good_of_word (List.mem_filter.mp h).2⟩
abbrev rn_E : String := "PartsAccumulator$Epoch"
def ft_E : u_T := fun k => match k with
  | 0 => ("PartsAccumulator$Epoch", "roster", "LPartsAccumulator$Roster;", true)
  | 1 => ("PartsAccumulator$Epoch", "published", "[J", true)
  | _ => ("PartsAccumulator$Epoch", "inverse", "[J", true)
def ty_E : Nat → FieldType := fun k => match k with
  | 0 => .object "PartsAccumulator$Roster"
  | 1 => .array .long
  | _ => .array .long
theorem nm_E : ∀ a, a < 3 → ∀ b, b < 3 → a ≠ b → (ft_E a).2.1 ≠ (ft_E b).2.1 := by decide +kernel
theorem ok_E : ∀ k, k < 3 → parseFieldDescriptor (ft_E k).2.2.1 = some (ty_E k) := by decide +kernel
abbrev rn_N : String := "PartsAccumulator$Natural"
def ft_N : u_T := fun k => match k with
  | _ => ("PartsAccumulator$Natural", "limbs", "[J", true)
def ty_N : Nat → FieldType := fun k => match k with
  | _ => .array .long
theorem nm_N : ∀ a, a < 1 → ∀ b, b < 1 → a ≠ b → (ft_N a).2.1 ≠ (ft_N b).2.1 := by decide +kernel
theorem ok_N : ∀ k, k < 1 → parseFieldDescriptor (ft_N k).2.2.1 = some (ty_N k) := by decide +kernel
abbrev rn_R : String := "PartsAccumulator$Ring"
def ft_R : u_T := fun k => match k with
  | 0 => ("PartsAccumulator$Ring", "three", "[J", true)
  | 1 => ("PartsAccumulator$Ring", "third", "[J", true)
  | 2 => ("PartsAccumulator$Ring", "unit", "[J", true)
  | 3 => ("PartsAccumulator$Ring", "modulusLimbs", "[J", true)
  | 4 => ("PartsAccumulator$Ring", "montgomeryOne", "[J", true)
  | 5 => ("PartsAccumulator$Ring", "montgomerySquare", "[J", true)
  | 6 => ("PartsAccumulator$Ring", "total", "[J", true)
  | 7 => ("PartsAccumulator$Ring", "reduced", "[J", true)
  | 8 => ("PartsAccumulator$Ring", "base", "[J", true)
  | 9 => ("PartsAccumulator$Ring", "result", "[J", true)
  | _ => ("PartsAccumulator$Ring", "negatedInverse", "J", false)
def ty_R : Nat → FieldType := fun k => match k with
  | 0 => .array .long
  | 1 => .array .long
  | 2 => .array .long
  | 3 => .array .long
  | 4 => .array .long
  | 5 => .array .long
  | 6 => .array .long
  | 7 => .array .long
  | 8 => .array .long
  | 9 => .array .long
  | _ => .long
theorem nm_R : ∀ a, a < 11 → ∀ b, b < 11 → a ≠ b → (ft_R a).2.1 ≠ (ft_R b).2.1 := by decide +kernel
theorem ok_R : ∀ k, k < 11 → parseFieldDescriptor (ft_R k).2.2.1 = some (ty_R k) := by decide +kernel
abbrev rn_T : String := "PartsAccumulator$Roster"
def ft_T : u_T := fun k => match k with
  | 0 => ("PartsAccumulator$Roster", "serials", "[J", true)
  | 1 => ("PartsAccumulator$Roster", "primes", "[I", true)
  | _ => ("PartsAccumulator$Roster", "count", "I", false)
def ty_T : Nat → FieldType := fun k => match k with
  | 0 => .array .long
  | 1 => .array .int
  | _ => .int
theorem nm_T : ∀ a, a < 3 → ∀ b, b < 3 → a ≠ b → (ft_T a).2.1 ≠ (ft_T b).2.1 := by decide +kernel
theorem ok_T : ∀ k, k < 3 → parseFieldDescriptor (ft_T k).2.2.1 = some (ty_T k) := by decide +kernel
abbrev rn_S : String := "PartsAccumulator$SerialPrimes"
def ft_S : u_T := fun k => match k with
  | _ => ("PartsAccumulator$SerialPrimes", "w", "[I", true)
def ty_S : Nat → FieldType := fun k => match k with
  | _ => .array .int
theorem nm_S : ∀ a, a < 1 → ∀ b, b < 1 → a ≠ b → (ft_S a).2.1 ≠ (ft_S b).2.1 := by decide +kernel
theorem ok_S : ∀ k, k < 1 → parseFieldDescriptor (ft_S k).2.2.1 = some (ty_S k) := by decide +kernel
abbrev rn_P : String := "PartsAccumulator"
def ft_P : u_T := fun k => match k with
  | 0 => ("PartsAccumulator", "serialPrimes", "LPartsAccumulator$SerialPrimes;", true)
  | 1 => ("PartsAccumulator", "ring", "LPartsAccumulator$Ring;", true)
  | 2 => ("PartsAccumulator", "pending", "LPartsAccumulator$Roster;", true)
  | 3 => ("PartsAccumulator", "epochs", "[LPartsAccumulator$Epoch;", true)
  | 4 => ("PartsAccumulator", "held", "[J", true)
  | 5 => ("PartsAccumulator", "scratch", "[J", true)
  | 6 => ("PartsAccumulator", "otherScratch", "[J", true)
  | 7 => ("PartsAccumulator", "exponent", "LPartsAccumulator$Natural;", true)
  | 8 => ("PartsAccumulator", "hasModulus", "Z", false)
  | 9 => ("PartsAccumulator", "now", "I", false)
  | _ => ("PartsAccumulator", "heldFactor", "I", false)
def ty_P : Nat → FieldType := fun k => match k with
  | 0 => .object "PartsAccumulator$SerialPrimes"
  | 1 => .object "PartsAccumulator$Ring"
  | 2 => .object "PartsAccumulator$Roster"
  | 3 => .array (.object "PartsAccumulator$Epoch")
  | 4 => .array .long
  | 5 => .array .long
  | 6 => .array .long
  | 7 => .object "PartsAccumulator$Natural"
  | 8 => .boolean
  | 9 => .int
  | _ => .int
theorem nm_P : ∀ a, a < 11 → ∀ b, b < 11 → a ≠ b → (ft_P a).2.1 ≠ (ft_P b).2.1 := by decide +kernel
theorem ok_P : ∀ k, k < 11 → parseFieldDescriptor (ft_P k).2.2.1 = some (ty_P k) := by decide +kernel
abbrev rn_M : String := "PartsAccumulatorModel"
def ft_M : u_T := fun k => match k with
  | 0 => ("PartsAccumulatorModel", "k", "[J", true)
  | 1 => ("PartsAccumulatorModel", "w", "[I", true)
  | 2 => ("PartsAccumulatorModel", "has", "Z", false)
  | 3 => ("PartsAccumulatorModel", "n1", "J", false)
  | 4 => ("PartsAccumulatorModel", "n0", "J", false)
  | 5 => ("PartsAccumulatorModel", "v1", "J", false)
  | 6 => ("PartsAccumulatorModel", "v0", "J", false)
  | 7 => ("PartsAccumulatorModel", "pending", "I", false)
  | 8 => ("PartsAccumulatorModel", "pendingSerials", "[J", true)
  | 9 => ("PartsAccumulatorModel", "pendingPrimes", "[I", true)
  | 10 => ("PartsAccumulatorModel", "now", "I", false)
  | 11 => ("PartsAccumulatorModel", "counts", "[I", true)
  | 12 => ("PartsAccumulatorModel", "serials", "[J", true)
  | 13 => ("PartsAccumulatorModel", "primes", "[I", true)
  | 14 => ("PartsAccumulatorModel", "upper", "[J", true)
  | 15 => ("PartsAccumulatorModel", "lower", "[J", true)
  | 16 => ("PartsAccumulatorModel", "hand1", "J", false)
  | 17 => ("PartsAccumulatorModel", "hand0", "J", false)
  | 18 => ("PartsAccumulatorModel", "factor", "I", false)
  | 19 => ("PartsAccumulatorModel", "r1", "J", false)
  | 20 => ("PartsAccumulatorModel", "r0", "J", false)
  | _ => ("PartsAccumulatorModel", "words", "[I", true)
def ty_M : Nat → FieldType := fun k => match k with
  | 0 => .array .long
  | 1 => .array .int
  | 2 => .boolean
  | 3 => .long
  | 4 => .long
  | 5 => .long
  | 6 => .long
  | 7 => .int
  | 8 => .array .long
  | 9 => .array .int
  | 10 => .int
  | 11 => .array .int
  | 12 => .array .long
  | 13 => .array .int
  | 14 => .array .long
  | 15 => .array .long
  | 16 => .long
  | 17 => .long
  | 18 => .int
  | 19 => .long
  | 20 => .long
  | _ => .array .int
theorem nm_M : ∀ a, a < 22 → ∀ b, b < 22 → a ≠ b → (ft_M a).2.1 ≠ (ft_M b).2.1 := by decide +kernel
theorem ok_M : ∀ k, k < 22 → parseFieldDescriptor (ft_M k).2.2.1 = some (ty_M k) := by decide +kernel
abbrev cl_ : List vw_C := [(rn_E, ft_E, 3), (rn_N, ft_N, 1), (rn_R, ft_R, 11), (rn_T, ft_T, 3), (rn_S, ft_S, 1), (rn_P, ft_P, 11), (rn_M, ft_M, 22)]
abbrev cd_P_init : ByteArray := prog_1_method_1_code
abbrev my_P_init : MethodName := ⟨"PartsAccumulator", "<init>", "()V"⟩
abbrev cd_P_modulus : ByteArray := prog_1_method_2_code
abbrev my_P_modulus : MethodName := ⟨"PartsAccumulator", "modulus", "(JJ)Z"⟩
abbrev cd_P_prime : ByteArray := prog_1_method_3_code
abbrev my_P_prime : MethodName := ⟨"PartsAccumulator", "prime", "(J)I"⟩
abbrev cd_P_add : ByteArray := prog_1_method_4_code
abbrev my_P_add : MethodName := ⟨"PartsAccumulator", "add", "(J)I"⟩
abbrev cd_P_remove : ByteArray := prog_1_method_5_code
abbrev my_P_remove : MethodName := ⟨"PartsAccumulator", "remove", "(J)I"⟩
abbrev cd_P_close : ByteArray := prog_1_method_6_code
abbrev my_P_close : MethodName := ⟨"PartsAccumulator", "close", "()I"⟩
abbrev cd_P_size : ByteArray := prog_1_method_7_code
abbrev my_P_size : MethodName := ⟨"PartsAccumulator", "size", "(I)I"⟩
abbrev cd_P_state : ByteArray := prog_1_method_8_code
abbrev my_P_state : MethodName := ⟨"PartsAccumulator", "state", "(J)I"⟩
abbrev cd_P_accumulator : ByteArray := prog_1_method_9_code
abbrev my_P_accumulator : MethodName := ⟨"PartsAccumulator", "accumulator", "(IZ)J"⟩
abbrev cd_P_note : ByteArray := prog_1_method_10_code
abbrev my_P_note : MethodName := ⟨"PartsAccumulator", "note", "(III)I"⟩
abbrev cd_P_witness : ByteArray := prog_1_method_11_code
abbrev my_P_witness : MethodName := ⟨"PartsAccumulator", "witness", "(JZ)J"⟩
abbrev cd_P_issue : ByteArray := prog_1_method_12_code
abbrev my_P_issue : MethodName := ⟨"PartsAccumulator", "issue", "(J)I"⟩
abbrev cd_P_hold : ByteArray := prog_1_method_13_code
abbrev my_P_hold : MethodName := ⟨"PartsAccumulator", "hold", "(JJI)Z"⟩
abbrev cd_P_hand : ByteArray := prog_1_method_14_code
abbrev my_P_hand : MethodName := ⟨"PartsAccumulator", "hand", "(Z)J"⟩
abbrev cd_P_factor : ByteArray := prog_1_method_15_code
abbrev my_P_factor : MethodName := ⟨"PartsAccumulator", "factor", "()I"⟩
abbrev cd_P_check : ByteArray := prog_1_method_16_code
abbrev my_P_check : MethodName := ⟨"PartsAccumulator", "check", "(JI)I"⟩
abbrev cd_P_advance : ByteArray := prog_1_method_17_code
abbrev my_P_advance : MethodName := ⟨"PartsAccumulator", "advance", "(JI)I"⟩
abbrev cd_P_exclude : ByteArray := prog_1_method_18_code
abbrev my_P_exclude : MethodName := ⟨"PartsAccumulator", "exclude", "(J)I"⟩
abbrev cd_P_checkExclude : ByteArray := prog_1_method_19_code
abbrev my_P_checkExclude : MethodName := ⟨"PartsAccumulator", "checkExclude", "(JI)I"⟩
abbrev cd_P_primeOrRefusal_J : ByteArray := prog_1_method_20_code
abbrev my_P_primeOrRefusal_J : MethodName := ⟨"PartsAccumulator", "primeOrRefusal", "(J)I"⟩
abbrev cd_P_primeOrRefusal_JI : ByteArray := prog_1_method_21_code
abbrev my_P_primeOrRefusal_JI : MethodName := ⟨"PartsAccumulator", "primeOrRefusal", "(JI)I"⟩
abbrev cd_P_isEpoch : ByteArray := prog_1_method_22_code
abbrev my_P_isEpoch : MethodName := ⟨"PartsAccumulator", "isEpoch", "(I)Z"⟩
abbrev cd_P_isPresentSince : ByteArray := prog_1_method_23_code
abbrev my_P_isPresentSince : MethodName := ⟨"PartsAccumulator", "isPresentSince", "(JI)Z"⟩
abbrev cd_P_holdsWitness : ByteArray := prog_1_method_24_code
abbrev my_P_holdsWitness : MethodName := ⟨"PartsAccumulator", "holdsWitness", "(II)Z"⟩
abbrev cd_P_publish : ByteArray := prog_1_method_25_code
abbrev my_P_publish : MethodName := ⟨"PartsAccumulator", "publish", "(LPartsAccumulator$Epoch;)V"⟩
abbrev cd_P_computeIssued : ByteArray := prog_1_method_26_code
abbrev my_P_computeIssued : MethodName := ⟨"PartsAccumulator", "computeIssued", "(J[J)V"⟩
abbrev cd_P_takeInAdded : ByteArray := prog_1_method_27_code
abbrev my_P_takeInAdded : MethodName := ⟨"PartsAccumulator", "takeInAdded", "(I)V"⟩
abbrev cd_P_takeOutRemoved : ByteArray := prog_1_method_28_code
abbrev my_P_takeOutRemoved : MethodName := ⟨"PartsAccumulator", "takeOutRemoved", "(II)V"⟩
abbrev cd_P_inverseThenQuotient : ByteArray := prog_1_method_29_code
abbrev my_P_inverseThenQuotient : MethodName := ⟨"PartsAccumulator", "inverseThenQuotient", "(I)I"⟩
abbrev cd_M_init : ByteArray := prog_8_method_1_code
abbrev my_M_init : MethodName := ⟨"PartsAccumulatorModel", "<init>", "()V"⟩
abbrev cd_M_right : ByteArray := prog_8_method_2_code
abbrev my_M_right : MethodName := ⟨"PartsAccumulatorModel", "right", "(II)I"⟩
abbrev cd_M_hash : ByteArray := prog_8_method_3_code
abbrev my_M_hash : MethodName := ⟨"PartsAccumulatorModel", "hash", "(JI)I"⟩
abbrev cd_M_isPrime : ByteArray := prog_8_method_4_code
abbrev my_M_isPrime : MethodName := ⟨"PartsAccumulatorModel", "isPrime", "(I)Z"⟩
abbrev cd_M_isSerial : ByteArray := prog_8_method_5_code
abbrev my_M_isSerial : MethodName := ⟨"PartsAccumulatorModel", "isSerial", "(J)Z"⟩
abbrev cd_M_prime : ByteArray := prog_8_method_6_code
abbrev my_M_prime : MethodName := ⟨"PartsAccumulatorModel", "prime", "(J)I"⟩
abbrev cd_M_isLess : ByteArray := prog_8_method_7_code
abbrev my_M_isLess : MethodName := ⟨"PartsAccumulatorModel", "isLess", "(JJ)Z"⟩
abbrev cd_M_isBelowN : ByteArray := prog_8_method_8_code
abbrev my_M_isBelowN : MethodName := ⟨"PartsAccumulatorModel", "isBelowN", "(JJ)Z"⟩
abbrev cd_M_plus : ByteArray := prog_8_method_9_code
abbrev my_M_plus : MethodName := ⟨"PartsAccumulatorModel", "plus", "(JJJJ)V"⟩
abbrev cd_M_multiply : ByteArray := prog_8_method_10_code
abbrev my_M_multiply : MethodName := ⟨"PartsAccumulatorModel", "multiply", "(JJJJ)V"⟩
abbrev cd_M_power : ByteArray := prog_8_method_11_code
abbrev my_M_power : MethodName := ⟨"PartsAccumulatorModel", "power", "(JJI)V"⟩
abbrev cd_M_powerOfWords : ByteArray := prog_8_method_12_code
abbrev my_M_powerOfWords : MethodName := ⟨"PartsAccumulatorModel", "powerOfWords", "(JJ)V"⟩
abbrev cd_M_beginWords : ByteArray := prog_8_method_13_code
abbrev my_M_beginWords : MethodName := ⟨"PartsAccumulatorModel", "beginWords", "()V"⟩
abbrev cd_M_multiplyWords : ByteArray := prog_8_method_14_code
abbrev my_M_multiplyWords : MethodName := ⟨"PartsAccumulatorModel", "multiplyWords", "(I)V"⟩
abbrev cd_M_restOfWords : ByteArray := prog_8_method_15_code
abbrev my_M_restOfWords : MethodName := ⟨"PartsAccumulatorModel", "restOfWords", "(I)J"⟩
abbrev cd_M_invertWords : ByteArray := prog_8_method_16_code
abbrev my_M_invertWords : MethodName := ⟨"PartsAccumulatorModel", "invertWords", "(I)I"⟩
abbrev cd_M_thirds : ByteArray := prog_8_method_17_code
abbrev my_M_thirds : MethodName := ⟨"PartsAccumulatorModel", "thirds", "(J)J"⟩
abbrev cd_M_modulus : ByteArray := prog_8_method_18_code
abbrev my_M_modulus : MethodName := ⟨"PartsAccumulatorModel", "modulus", "(JJ)Z"⟩
abbrev cd_M_findThird : ByteArray := prog_8_method_19_code
abbrev my_M_findThird : MethodName := ⟨"PartsAccumulatorModel", "findThird", "()V"⟩
abbrev cd_M_pendingAt : ByteArray := prog_8_method_20_code
abbrev my_M_pendingAt : MethodName := ⟨"PartsAccumulatorModel", "pendingAt", "(J)I"⟩
abbrev cd_M_placeIn : ByteArray := prog_8_method_21_code
abbrev my_M_placeIn : MethodName := ⟨"PartsAccumulatorModel", "placeIn", "(IJ)I"⟩
abbrev cd_M_add : ByteArray := prog_8_method_22_code
abbrev my_M_add : MethodName := ⟨"PartsAccumulatorModel", "add", "(J)I"⟩
abbrev cd_M_remove : ByteArray := prog_8_method_23_code
abbrev my_M_remove : MethodName := ⟨"PartsAccumulatorModel", "remove", "(J)I"⟩
abbrev cd_M_close : ByteArray := prog_8_method_24_code
abbrev my_M_close : MethodName := ⟨"PartsAccumulatorModel", "close", "()I"⟩
abbrev cd_M_size : ByteArray := prog_8_method_25_code
abbrev my_M_size : MethodName := ⟨"PartsAccumulatorModel", "size", "(I)I"⟩
abbrev cd_M_state : ByteArray := prog_8_method_26_code
abbrev my_M_state : MethodName := ⟨"PartsAccumulatorModel", "state", "(J)I"⟩
abbrev cd_M_isEpoch : ByteArray := prog_8_method_27_code
abbrev my_M_isEpoch : MethodName := ⟨"PartsAccumulatorModel", "isEpoch", "(I)Z"⟩
abbrev cd_M_accumulator : ByteArray := prog_8_method_28_code
abbrev my_M_accumulator : MethodName := ⟨"PartsAccumulatorModel", "accumulator", "(IZ)J"⟩
abbrev cd_M_note : ByteArray := prog_8_method_29_code
abbrev my_M_note : MethodName := ⟨"PartsAccumulatorModel", "note", "(III)I"⟩
abbrev cd_M_issued : ByteArray := prog_8_method_30_code
abbrev my_M_issued : MethodName := ⟨"PartsAccumulatorModel", "issued", "(I)V"⟩
abbrev cd_M_witness : ByteArray := prog_8_method_31_code
abbrev my_M_witness : MethodName := ⟨"PartsAccumulatorModel", "witness", "(JZ)J"⟩
abbrev cd_M_issue : ByteArray := prog_8_method_32_code
abbrev my_M_issue : MethodName := ⟨"PartsAccumulatorModel", "issue", "(J)I"⟩
abbrev cd_M_hold : ByteArray := prog_8_method_33_code
abbrev my_M_hold : MethodName := ⟨"PartsAccumulatorModel", "hold", "(JJI)Z"⟩
abbrev cd_M_hand : ByteArray := prog_8_method_34_code
abbrev my_M_hand : MethodName := ⟨"PartsAccumulatorModel", "hand", "(Z)J"⟩
abbrev cd_M_factor : ByteArray := prog_8_method_35_code
abbrev my_M_factor : MethodName := ⟨"PartsAccumulatorModel", "factor", "()I"⟩
abbrev cd_M_isWitness : ByteArray := prog_8_method_36_code
abbrev my_M_isWitness : MethodName := ⟨"PartsAccumulatorModel", "isWitness", "(II)Z"⟩
abbrev cd_M_check : ByteArray := prog_8_method_37_code
abbrev my_M_check : MethodName := ⟨"PartsAccumulatorModel", "check", "(JI)I"⟩
abbrev cd_M_moveTo : ByteArray := prog_8_method_38_code
abbrev my_M_moveTo : MethodName := ⟨"PartsAccumulatorModel", "moveTo", "(II)V"⟩
abbrev cd_M_advance : ByteArray := prog_8_method_39_code
abbrev my_M_advance : MethodName := ⟨"PartsAccumulatorModel", "advance", "(JI)I"⟩
abbrev cd_M_exclude : ByteArray := prog_8_method_40_code
abbrev my_M_exclude : MethodName := ⟨"PartsAccumulatorModel", "exclude", "(J)I"⟩
abbrev cd_M_checkExclude : ByteArray := prog_8_method_41_code
abbrev my_M_checkExclude : MethodName := ⟨"PartsAccumulatorModel", "checkExclude", "(JI)I"⟩
abbrev cd_E_init : ByteArray := prog_2_method_1_code
abbrev my_E_init : MethodName := ⟨"PartsAccumulator$Epoch", "<init>", "()V"⟩
abbrev cd_N_init : ByteArray := prog_3_method_1_code
abbrev my_N_init : MethodName := ⟨"PartsAccumulator$Natural", "<init>", "()V"⟩
abbrev cd_N_become : ByteArray := prog_3_method_2_code
abbrev my_N_become : MethodName := ⟨"PartsAccumulator$Natural", "become", "(I)V"⟩
abbrev cd_N_multiply : ByteArray := prog_3_method_3_code
abbrev my_N_multiply : MethodName := ⟨"PartsAccumulator$Natural", "multiply", "(I)V"⟩
abbrev cd_N_remainder : ByteArray := prog_3_method_4_code
abbrev my_N_remainder : MethodName := ⟨"PartsAccumulator$Natural", "remainder", "(I)I"⟩
abbrev cd_N_divide : ByteArray := prog_3_method_5_code
abbrev my_N_divide : MethodName := ⟨"PartsAccumulator$Natural", "divide", "(I)V"⟩
abbrev cd_N_bit : ByteArray := prog_3_method_6_code
abbrev my_N_bit : MethodName := ⟨"PartsAccumulator$Natural", "bit", "(I)Z"⟩
abbrev cd_N_highestBit : ByteArray := prog_3_method_7_code
abbrev my_N_highestBit : MethodName := ⟨"PartsAccumulator$Natural", "highestBit", "()I"⟩
abbrev cd_R_init : ByteArray := prog_4_method_1_code
abbrev my_R_init : MethodName := ⟨"PartsAccumulator$Ring", "<init>", "()V"⟩
abbrev cd_R_accepts : ByteArray := prog_4_method_2_code
abbrev my_R_accepts : MethodName := ⟨"PartsAccumulator$Ring", "accepts", "(JJ)Z"⟩
abbrev cd_R_split : ByteArray := prog_4_method_3_code
abbrev my_R_split : MethodName := ⟨"PartsAccumulator$Ring", "split", "(JJ[J)V"⟩
abbrev cd_R_word : ByteArray := prog_4_method_4_code
abbrev my_R_word : MethodName := ⟨"PartsAccumulator$Ring", "word", "([JZ)J"⟩
abbrev cd_R_same : ByteArray := prog_4_method_5_code
abbrev my_R_same : MethodName := ⟨"PartsAccumulator$Ring", "same", "([J[J)Z"⟩
abbrev cd_R_begin : ByteArray := prog_4_method_6_code
abbrev my_R_begin : MethodName := ⟨"PartsAccumulator$Ring", "begin", "(JJ)V"⟩
abbrev cd_R_isBelowModulus : ByteArray := prog_4_method_7_code
abbrev my_R_isBelowModulus : MethodName := ⟨"PartsAccumulator$Ring", "isBelowModulus", "(JJ)Z"⟩
abbrev cd_R_multiply : ByteArray := prog_4_method_8_code
abbrev my_R_multiply : MethodName := ⟨"PartsAccumulator$Ring", "multiply", "([J[J[J)V"⟩
abbrev cd_R_power : ByteArray := prog_4_method_9_code
abbrev my_R_power : MethodName := ⟨"PartsAccumulator$Ring", "power", "([JLPartsAccumulator$Natural;[J)V"⟩
abbrev cd_R_isBelow : ByteArray := prog_4_method_10_code
abbrev my_R_isBelow : MethodName := ⟨"PartsAccumulator$Ring", "isBelow", "(JJ)Z"⟩
abbrev cd_R_findNegatedInverse : ByteArray := prog_4_method_11_code
abbrev my_R_findNegatedInverse : MethodName := ⟨"PartsAccumulator$Ring", "findNegatedInverse", "()V"⟩
abbrev cd_R_findThird : ByteArray := prog_4_method_12_code
abbrev my_R_findThird : MethodName := ⟨"PartsAccumulator$Ring", "findThird", "()V"⟩
abbrev cd_R_shiftBy128 : ByteArray := prog_4_method_13_code
abbrev my_R_shiftBy128 : MethodName := ⟨"PartsAccumulator$Ring", "shiftBy128", "([J)V"⟩
abbrev cd_R_montgomery : ByteArray := prog_4_method_14_code
abbrev my_R_montgomery : MethodName := ⟨"PartsAccumulator$Ring", "montgomery", "([J[J[J)V"⟩
abbrev cd_R_addProduct : ByteArray := prog_4_method_15_code
abbrev my_R_addProduct : MethodName := ⟨"PartsAccumulator$Ring", "addProduct", "([JJ)V"⟩
abbrev cd_R_dropLowestLimb : ByteArray := prog_4_method_16_code
abbrev my_R_dropLowestLimb : MethodName := ⟨"PartsAccumulator$Ring", "dropLowestLimb", "()V"⟩
abbrev cd_R_reduceTotal : ByteArray := prog_4_method_17_code
abbrev my_R_reduceTotal : MethodName := ⟨"PartsAccumulator$Ring", "reduceTotal", "([J)V"⟩
abbrev cd_T_init : ByteArray := prog_5_method_1_code
abbrev my_T_init : MethodName := ⟨"PartsAccumulator$Roster", "<init>", "()V"⟩
abbrev cd_T_placeOf : ByteArray := prog_5_method_2_code
abbrev my_T_placeOf : MethodName := ⟨"PartsAccumulator$Roster", "placeOf", "(J)I"⟩
abbrev cd_T_has : ByteArray := prog_5_method_3_code
abbrev my_T_has : MethodName := ⟨"PartsAccumulator$Roster", "has", "(J)Z"⟩
abbrev cd_T_hasPrime : ByteArray := prog_5_method_4_code
abbrev my_T_hasPrime : MethodName := ⟨"PartsAccumulator$Roster", "hasPrime", "(I)Z"⟩
abbrev cd_T_insert : ByteArray := prog_5_method_5_code
abbrev my_T_insert : MethodName := ⟨"PartsAccumulator$Roster", "insert", "(JI)V"⟩
abbrev cd_T_delete : ByteArray := prog_5_method_6_code
abbrev my_T_delete : MethodName := ⟨"PartsAccumulator$Roster", "delete", "(I)V"⟩
abbrev cd_T_become : ByteArray := prog_5_method_7_code
abbrev my_T_become : MethodName := ⟨"PartsAccumulator$Roster", "become", "(LPartsAccumulator$Roster;)V"⟩
abbrev cd_T_countOutside : ByteArray := prog_5_method_8_code
abbrev my_T_countOutside : MethodName := ⟨"PartsAccumulator$Roster", "countOutside", "(LPartsAccumulator$Roster;)I"⟩
abbrev cd_T_primeOutside : ByteArray := prog_5_method_9_code
abbrev my_T_primeOutside : MethodName := ⟨"PartsAccumulator$Roster", "primeOutside", "(LPartsAccumulator$Roster;I)I"⟩
abbrev cd_T_multiplyInto : ByteArray := prog_5_method_10_code
abbrev my_T_multiplyInto : MethodName := ⟨"PartsAccumulator$Roster", "multiplyInto", "(LPartsAccumulator$Natural;)V"⟩
abbrev cd_T_multiplyOthersInto : ByteArray := prog_5_method_11_code
abbrev my_T_multiplyOthersInto : MethodName := ⟨"PartsAccumulator$Roster", "multiplyOthersInto", "(JLPartsAccumulator$Natural;)V"⟩
abbrev cd_T_multiplyOutsideInto : ByteArray := prog_5_method_12_code
abbrev my_T_multiplyOutsideInto : MethodName := ⟨"PartsAccumulator$Roster", "multiplyOutsideInto", "(LPartsAccumulator$Roster;LPartsAccumulator$Natural;)V"⟩
abbrev cd_S_init : ByteArray := prog_6_method_1_code
abbrev my_S_init : MethodName := ⟨"PartsAccumulator$SerialPrimes", "<init>", "()V"⟩
abbrev cd_S_primeOf : ByteArray := prog_6_method_2_code
abbrev my_S_primeOf : MethodName := ⟨"PartsAccumulator$SerialPrimes", "primeOf", "(J)I"⟩
abbrev cd_S_hash : ByteArray := prog_6_method_3_code
abbrev my_S_hash : MethodName := ⟨"PartsAccumulator$SerialPrimes", "hash", "(JI)I"⟩
abbrev cd_S_fillSchedule : ByteArray := prog_6_method_4_code
abbrev my_S_fillSchedule : MethodName := ⟨"PartsAccumulator$SerialPrimes", "fillSchedule", "(JI)V"⟩
abbrev cd_S_turn : ByteArray := prog_6_method_5_code
abbrev my_S_turn : MethodName := ⟨"PartsAccumulator$SerialPrimes", "turn", "(II)I"⟩
abbrev cd_S_isPrime : ByteArray := prog_6_method_6_code
abbrev my_S_isPrime : MethodName := ⟨"PartsAccumulator$SerialPrimes", "isPrime", "(I)Z"⟩
abbrev cd_S_passes : ByteArray := prog_6_method_7_code
abbrev my_S_passes : MethodName := ⟨"PartsAccumulator$SerialPrimes", "passes", "(II)Z"⟩
abbrev cd_S_inverse : ByteArray := prog_6_method_8_code
abbrev my_S_inverse : MethodName := ⟨"PartsAccumulator$SerialPrimes", "inverse", "(II)I"⟩
abbrev cd_S_power : ByteArray := prog_6_method_9_code
abbrev my_S_power : MethodName := ⟨"PartsAccumulator$SerialPrimes", "power", "(JII)J"⟩
abbrev cd_L_law : ByteArray := code
abbrev my_L_law : MethodName := ⟨"PartsAccumulatorLaw", "law", "([I)Z"⟩
abbrev cd_A_fill_aII : ByteArray := prog_10_method_103_code
abbrev my_A_fill_aII : MethodName := ⟨"java/util/Arrays", "fill", "([II)V"⟩
abbrev cd_A_fill_aJJ : ByteArray := prog_10_method_101_code
abbrev my_A_fill_aJJ : MethodName := ⟨"java/util/Arrays", "fill", "([JJ)V"⟩
theorem tw_0 : Cond.initialized "PartsAccumulatorLaw" ∈ tb_ := tb_mem 0 (by decide +kernel) (by decide +kernel)
theorem tw_1 : Cond.initialized "PartsAccumulator" ∈ tb_ := tb_mem 1 (by decide +kernel) (by decide +kernel)
theorem tw_2 : Cond.initialized "PartsAccumulator$SerialPrimes" ∈ tb_ := tb_mem 2 (by decide +kernel) (by decide +kernel)
theorem tw_3 : Cond.initialized "PartsAccumulator$Ring" ∈ tb_ := tb_mem 3 (by decide +kernel) (by decide +kernel)
theorem tw_4 : Cond.initialized "PartsAccumulator$Roster" ∈ tb_ := tb_mem 4 (by decide +kernel) (by decide +kernel)
theorem tw_5 : Cond.initialized "PartsAccumulator$Epoch" ∈ tb_ := tb_mem 5 (by decide +kernel) (by decide +kernel)
theorem tw_6 : Cond.initialized "PartsAccumulator$Natural" ∈ tb_ := tb_mem 6 (by decide +kernel) (by decide +kernel)
theorem tw_7 : Cond.initialized "PartsAccumulatorModel" ∈ tb_ := tb_mem 7 (by decide +kernel) (by decide +kernel)
theorem tw_8 : Cond.initialized "java/lang/System" ∈ tb_ := tb_mem 8 (by decide +kernel) (by decide +kernel)
theorem tw_9 : Cond.initialized "java/util/Arrays" ∈ tb_ := tb_mem 9 (by decide +kernel) (by decide +kernel)
theorem tw_10 : Cond.classLink "PartsAccumulatorLaw" 7 "PartsAccumulator" ∈ tb_ := tb_mem 10 (by decide +kernel) (by decide +kernel)
theorem tw_11 : Cond.instantiable "PartsAccumulator" 11 ∈ tb_ := tb_mem 11 (by decide +kernel) (by decide +kernel)
theorem tw_12 : Cond.methodLink "PartsAccumulatorLaw" 9 my_P_init ∈ tb_ := tb_mem 12 (by decide +kernel) (by decide +kernel)
theorem tw_13 : Cond.instanceMethod my_P_init ∈ tb_ := tb_mem 13 (by decide +kernel) (by decide +kernel)
theorem tw_14 : Cond.code my_P_init prog_1_method_1_code 2 (Option.none : Option FieldType) ∈ tb_ := tb_mem 14 (by decide +kernel) (by decide +kernel)
theorem tw_15 : Cond.methodLink "PartsAccumulator" 1 objectInit ∈ tb_ := tb_mem 15 (by decide +kernel) (by decide +kernel)
theorem tw_16 : Cond.instanceMethod objectInit ∈ tb_ := tb_mem 16 (by decide +kernel) (by decide +kernel)
theorem tw_17 : Cond.code objectInit object_method_1_code 1 (Option.none : Option FieldType) ∈ tb_ := tb_mem 17 (by decide +kernel) (by decide +kernel)
theorem tw_18 : Cond.classLink "PartsAccumulator" 7 "PartsAccumulator$SerialPrimes" ∈ tb_ := tb_mem 18 (by decide +kernel) (by decide +kernel)
theorem tw_19 : Cond.instantiable "PartsAccumulator$SerialPrimes" 1 ∈ tb_ := tb_mem 19 (by decide +kernel) (by decide +kernel)
theorem tw_21 : Cond.instanceMethod my_S_init ∈ tb_ := tb_mem 21 (by decide +kernel) (by decide +kernel)
theorem tw_22 : Cond.code my_S_init prog_6_method_1_code 1 (Option.none : Option FieldType) ∈ tb_ := tb_mem 22 (by decide +kernel) (by decide +kernel)
theorem tw_23 : Cond.methodLink "PartsAccumulator$SerialPrimes" 3 objectInit ∈ tb_ := tb_mem 23 (by decide +kernel) (by decide +kernel)
theorem tw_24 : Cond.fieldLink "PartsAccumulator$SerialPrimes" 11 "PartsAccumulator$SerialPrimes" "w" "[I" ∈ tb_ := tb_mem 24 (by decide +kernel) (by decide +kernel)
theorem tw_25 : Cond.laysFinal "PartsAccumulator$SerialPrimes" "PartsAccumulator$SerialPrimes" "w" "[I" ∈ tb_ := tb_mem 25 (by decide +kernel) (by decide +kernel)
theorem tw_28 : Cond.arrayClass FieldType.int ∈ tb_ := tb_mem 28 (by decide +kernel) (by decide +kernel)
theorem tw_29 : Cond.classLink "PartsAccumulator" 16 "PartsAccumulator$Ring" ∈ tb_ := tb_mem 29 (by decide +kernel) (by decide +kernel)
theorem tw_30 : Cond.instantiable "PartsAccumulator$Ring" 11 ∈ tb_ := tb_mem 30 (by decide +kernel) (by decide +kernel)
theorem tw_32 : Cond.instanceMethod my_R_init ∈ tb_ := tb_mem 32 (by decide +kernel) (by decide +kernel)
theorem tw_33 : Cond.code my_R_init prog_4_method_1_code 1 (Option.none : Option FieldType) ∈ tb_ := tb_mem 33 (by decide +kernel) (by decide +kernel)
theorem tw_34 : Cond.methodLink "PartsAccumulator$Ring" 1 objectInit ∈ tb_ := tb_mem 34 (by decide +kernel) (by decide +kernel)
theorem tw_35 : Cond.constantLong "PartsAccumulator$Ring" 7 (3 : Int64) ∈ tb_ := tb_mem 35 (by decide +kernel) (by decide +kernel)
theorem tw_36 : Cond.fieldLink "PartsAccumulator$Ring" 9 "PartsAccumulator$Ring" "three" "[J" ∈ tb_ := tb_mem 36 (by decide +kernel) (by decide +kernel)
theorem tw_37 : Cond.fieldLink "PartsAccumulator" 181 "PartsAccumulator$Ring" "three" "[J" ∈ tb_ := tb_mem 37 (by decide +kernel) (by decide +kernel)
theorem tw_38 : Cond.fieldLink "PartsAccumulator$Ring" 15 "PartsAccumulator$Ring" "third" "[J" ∈ tb_ := tb_mem 38 (by decide +kernel) (by decide +kernel)
theorem tw_39 : Cond.fieldLink "PartsAccumulator" 170 "PartsAccumulator$Ring" "third" "[J" ∈ tb_ := tb_mem 39 (by decide +kernel) (by decide +kernel)
theorem tw_40 : Cond.fieldLink "PartsAccumulator$Ring" 18 "PartsAccumulator$Ring" "unit" "[J" ∈ tb_ := tb_mem 40 (by decide +kernel) (by decide +kernel)
theorem tw_41 : Cond.fieldLink "PartsAccumulator$Ring" 21 "PartsAccumulator$Ring" "modulusLimbs" "[J" ∈ tb_ := tb_mem 41 (by decide +kernel) (by decide +kernel)
theorem tw_42 : Cond.fieldLink "PartsAccumulator$Ring" 24 "PartsAccumulator$Ring" "montgomeryOne" "[J" ∈ tb_ := tb_mem 42 (by decide +kernel) (by decide +kernel)
theorem tw_43 : Cond.fieldLink "PartsAccumulator$Ring" 27 "PartsAccumulator$Ring" "montgomerySquare" "[J" ∈ tb_ := tb_mem 43 (by decide +kernel) (by decide +kernel)
theorem tw_44 : Cond.fieldLink "PartsAccumulator$Ring" 30 "PartsAccumulator$Ring" "total" "[J" ∈ tb_ := tb_mem 44 (by decide +kernel) (by decide +kernel)
theorem tw_45 : Cond.fieldLink "PartsAccumulator$Ring" 33 "PartsAccumulator$Ring" "reduced" "[J" ∈ tb_ := tb_mem 45 (by decide +kernel) (by decide +kernel)
theorem tw_46 : Cond.fieldLink "PartsAccumulator$Ring" 36 "PartsAccumulator$Ring" "base" "[J" ∈ tb_ := tb_mem 46 (by decide +kernel) (by decide +kernel)
theorem tw_47 : Cond.fieldLink "PartsAccumulator$Ring" 39 "PartsAccumulator$Ring" "result" "[J" ∈ tb_ := tb_mem 47 (by decide +kernel) (by decide +kernel)
theorem tw_48 : Cond.fieldLink "PartsAccumulator$Ring" 92 "PartsAccumulator$Ring" "negatedInverse" "J" ∈ tb_ := tb_mem 48 (by decide +kernel) (by decide +kernel)
theorem tw_49 : Cond.laysFinal "PartsAccumulator$Ring" "PartsAccumulator$Ring" "three" "[J" ∈ tb_ := tb_mem 49 (by decide +kernel) (by decide +kernel)
theorem tw_51 : Cond.laysFinal "PartsAccumulator$Ring" "PartsAccumulator$Ring" "third" "[J" ∈ tb_ := tb_mem 51 (by decide +kernel) (by decide +kernel)
theorem tw_53 : Cond.laysFinal "PartsAccumulator$Ring" "PartsAccumulator$Ring" "unit" "[J" ∈ tb_ := tb_mem 53 (by decide +kernel) (by decide +kernel)
theorem tw_55 : Cond.laysFinal "PartsAccumulator$Ring" "PartsAccumulator$Ring" "modulusLimbs" "[J" ∈ tb_ := tb_mem 55 (by decide +kernel) (by decide +kernel)
theorem tw_57 : Cond.laysFinal "PartsAccumulator$Ring" "PartsAccumulator$Ring" "montgomeryOne" "[J" ∈ tb_ := tb_mem 57 (by decide +kernel) (by decide +kernel)
theorem tw_59 : Cond.laysFinal "PartsAccumulator$Ring" "PartsAccumulator$Ring" "montgomerySquare" "[J" ∈ tb_ := tb_mem 59 (by decide +kernel) (by decide +kernel)
theorem tw_61 : Cond.laysFinal "PartsAccumulator$Ring" "PartsAccumulator$Ring" "total" "[J" ∈ tb_ := tb_mem 61 (by decide +kernel) (by decide +kernel)
theorem tw_63 : Cond.laysFinal "PartsAccumulator$Ring" "PartsAccumulator$Ring" "reduced" "[J" ∈ tb_ := tb_mem 63 (by decide +kernel) (by decide +kernel)
theorem tw_65 : Cond.laysFinal "PartsAccumulator$Ring" "PartsAccumulator$Ring" "base" "[J" ∈ tb_ := tb_mem 65 (by decide +kernel) (by decide +kernel)
theorem tw_67 : Cond.laysFinal "PartsAccumulator$Ring" "PartsAccumulator$Ring" "result" "[J" ∈ tb_ := tb_mem 67 (by decide +kernel) (by decide +kernel)
theorem tw_69 : Cond.lays "PartsAccumulator$Ring" "PartsAccumulator$Ring" "negatedInverse" "J" ∈ tb_ := tb_mem 69 (by decide +kernel) (by decide +kernel)
theorem tw_72 : Cond.arrayClass FieldType.long ∈ tb_ := tb_mem 72 (by decide +kernel) (by decide +kernel)
theorem tw_73 : Cond.classLink "PartsAccumulator" 23 "PartsAccumulator$Roster" ∈ tb_ := tb_mem 73 (by decide +kernel) (by decide +kernel)
theorem tw_74 : Cond.instantiable "PartsAccumulator$Roster" 3 ∈ tb_ := tb_mem 74 (by decide +kernel) (by decide +kernel)
theorem tw_76 : Cond.instanceMethod my_T_init ∈ tb_ := tb_mem 76 (by decide +kernel) (by decide +kernel)
theorem tw_77 : Cond.code my_T_init prog_5_method_1_code 1 (Option.none : Option FieldType) ∈ tb_ := tb_mem 77 (by decide +kernel) (by decide +kernel)
theorem tw_78 : Cond.methodLink "PartsAccumulator$Roster" 3 objectInit ∈ tb_ := tb_mem 78 (by decide +kernel) (by decide +kernel)
theorem tw_79 : Cond.fieldLink "PartsAccumulator$Roster" 11 "PartsAccumulator$Roster" "serials" "[J" ∈ tb_ := tb_mem 79 (by decide +kernel) (by decide +kernel)
theorem tw_80 : Cond.fieldLink "PartsAccumulator$Roster" 15 "PartsAccumulator$Roster" "primes" "[I" ∈ tb_ := tb_mem 80 (by decide +kernel) (by decide +kernel)
theorem tw_81 : Cond.fieldLink "PartsAccumulator$Roster" 19 "PartsAccumulator$Roster" "count" "I" ∈ tb_ := tb_mem 81 (by decide +kernel) (by decide +kernel)
theorem tw_82 : Cond.fieldLink "PartsAccumulator" 85 "PartsAccumulator$Roster" "count" "I" ∈ tb_ := tb_mem 82 (by decide +kernel) (by decide +kernel)
theorem tw_83 : Cond.laysFinal "PartsAccumulator$Roster" "PartsAccumulator$Roster" "serials" "[J" ∈ tb_ := tb_mem 83 (by decide +kernel) (by decide +kernel)
theorem tw_85 : Cond.laysFinal "PartsAccumulator$Roster" "PartsAccumulator$Roster" "primes" "[I" ∈ tb_ := tb_mem 85 (by decide +kernel) (by decide +kernel)
theorem tw_87 : Cond.lays "PartsAccumulator$Roster" "PartsAccumulator$Roster" "count" "I" ∈ tb_ := tb_mem 87 (by decide +kernel) (by decide +kernel)
theorem tw_90 : Cond.classLink "PartsAccumulator" 30 "PartsAccumulator$Epoch" ∈ tb_ := tb_mem 90 (by decide +kernel) (by decide +kernel)
theorem tw_92 : Cond.instantiable "PartsAccumulator$Epoch" 3 ∈ tb_ := tb_mem 92 (by decide +kernel) (by decide +kernel)
theorem tw_94 : Cond.instanceMethod my_E_init ∈ tb_ := tb_mem 94 (by decide +kernel) (by decide +kernel)
theorem tw_95 : Cond.code my_E_init prog_2_method_1_code 1 (Option.none : Option FieldType) ∈ tb_ := tb_mem 95 (by decide +kernel) (by decide +kernel)
theorem tw_96 : Cond.methodLink "PartsAccumulator$Epoch" 1 objectInit ∈ tb_ := tb_mem 96 (by decide +kernel) (by decide +kernel)
theorem tw_97 : Cond.classLink "PartsAccumulator$Epoch" 7 "PartsAccumulator$Roster" ∈ tb_ := tb_mem 97 (by decide +kernel) (by decide +kernel)
theorem tw_99 : Cond.fieldLink "PartsAccumulator$Epoch" 10 "PartsAccumulator$Epoch" "roster" "LPartsAccumulator$Roster;" ∈ tb_ := tb_mem 99 (by decide +kernel) (by decide +kernel)
theorem tw_100 : Cond.fieldLink "PartsAccumulator" 103 "PartsAccumulator$Epoch" "roster" "LPartsAccumulator$Roster;" ∈ tb_ := tb_mem 100 (by decide +kernel) (by decide +kernel)
theorem tw_101 : Cond.fieldLink "PartsAccumulator$Epoch" 18 "PartsAccumulator$Epoch" "published" "[J" ∈ tb_ := tb_mem 101 (by decide +kernel) (by decide +kernel)
theorem tw_102 : Cond.fieldLink "PartsAccumulator" 113 "PartsAccumulator$Epoch" "published" "[J" ∈ tb_ := tb_mem 102 (by decide +kernel) (by decide +kernel)
theorem tw_103 : Cond.fieldLink "PartsAccumulator$Epoch" 22 "PartsAccumulator$Epoch" "inverse" "[J" ∈ tb_ := tb_mem 103 (by decide +kernel) (by decide +kernel)
theorem tw_104 : Cond.fieldLink "PartsAccumulator" 188 "PartsAccumulator$Epoch" "inverse" "[J" ∈ tb_ := tb_mem 104 (by decide +kernel) (by decide +kernel)
theorem tw_105 : Cond.laysFinal "PartsAccumulator$Epoch" "PartsAccumulator$Epoch" "roster" "LPartsAccumulator$Roster;" ∈ tb_ := tb_mem 105 (by decide +kernel) (by decide +kernel)
theorem tw_107 : Cond.laysFinal "PartsAccumulator$Epoch" "PartsAccumulator$Epoch" "published" "[J" ∈ tb_ := tb_mem 107 (by decide +kernel) (by decide +kernel)
theorem tw_109 : Cond.laysFinal "PartsAccumulator$Epoch" "PartsAccumulator$Epoch" "inverse" "[J" ∈ tb_ := tb_mem 109 (by decide +kernel) (by decide +kernel)
theorem tw_112 : Cond.classLink "PartsAccumulator" 47 "PartsAccumulator$Natural" ∈ tb_ := tb_mem 112 (by decide +kernel) (by decide +kernel)
theorem tw_113 : Cond.instantiable "PartsAccumulator$Natural" 1 ∈ tb_ := tb_mem 113 (by decide +kernel) (by decide +kernel)
theorem tw_115 : Cond.instanceMethod my_N_init ∈ tb_ := tb_mem 115 (by decide +kernel) (by decide +kernel)
theorem tw_116 : Cond.code my_N_init prog_3_method_1_code 1 (Option.none : Option FieldType) ∈ tb_ := tb_mem 116 (by decide +kernel) (by decide +kernel)
theorem tw_117 : Cond.methodLink "PartsAccumulator$Natural" 3 objectInit ∈ tb_ := tb_mem 117 (by decide +kernel) (by decide +kernel)
theorem tw_118 : Cond.fieldLink "PartsAccumulator$Natural" 9 "PartsAccumulator$Natural" "limbs" "[J" ∈ tb_ := tb_mem 118 (by decide +kernel) (by decide +kernel)
theorem tw_119 : Cond.laysFinal "PartsAccumulator$Natural" "PartsAccumulator$Natural" "limbs" "[J" ∈ tb_ := tb_mem 119 (by decide +kernel) (by decide +kernel)
theorem tw_122 : Cond.fieldLink "PartsAccumulator" 10 "PartsAccumulator" "serialPrimes" "LPartsAccumulator$SerialPrimes;" ∈ tb_ := tb_mem 122 (by decide +kernel) (by decide +kernel)
theorem tw_123 : Cond.fieldLink "PartsAccumulator" 19 "PartsAccumulator" "ring" "LPartsAccumulator$Ring;" ∈ tb_ := tb_mem 123 (by decide +kernel) (by decide +kernel)
theorem tw_124 : Cond.fieldLink "PartsAccumulator" 26 "PartsAccumulator" "pending" "LPartsAccumulator$Roster;" ∈ tb_ := tb_mem 124 (by decide +kernel) (by decide +kernel)
theorem tw_125 : Cond.fieldLink "PartsAccumulator" 32 "PartsAccumulator" "epochs" "[LPartsAccumulator$Epoch;" ∈ tb_ := tb_mem 125 (by decide +kernel) (by decide +kernel)
theorem tw_126 : Cond.fieldLink "PartsAccumulator" 37 "PartsAccumulator" "held" "[J" ∈ tb_ := tb_mem 126 (by decide +kernel) (by decide +kernel)
theorem tw_127 : Cond.fieldLink "PartsAccumulator" 41 "PartsAccumulator" "scratch" "[J" ∈ tb_ := tb_mem 127 (by decide +kernel) (by decide +kernel)
theorem tw_128 : Cond.fieldLink "PartsAccumulator" 44 "PartsAccumulator" "otherScratch" "[J" ∈ tb_ := tb_mem 128 (by decide +kernel) (by decide +kernel)
theorem tw_129 : Cond.fieldLink "PartsAccumulator" 50 "PartsAccumulator" "exponent" "LPartsAccumulator$Natural;" ∈ tb_ := tb_mem 129 (by decide +kernel) (by decide +kernel)
theorem tw_130 : Cond.fieldLink "PartsAccumulator" 54 "PartsAccumulator" "hasModulus" "Z" ∈ tb_ := tb_mem 130 (by decide +kernel) (by decide +kernel)
theorem tw_131 : Cond.fieldLink "PartsAccumulator" 100 "PartsAccumulator" "now" "I" ∈ tb_ := tb_mem 131 (by decide +kernel) (by decide +kernel)
theorem tw_132 : Cond.fieldLink "PartsAccumulator" 132 "PartsAccumulator" "heldFactor" "I" ∈ tb_ := tb_mem 132 (by decide +kernel) (by decide +kernel)
theorem tw_133 : Cond.laysFinal "PartsAccumulator" "PartsAccumulator" "serialPrimes" "LPartsAccumulator$SerialPrimes;" ∈ tb_ := tb_mem 133 (by decide +kernel) (by decide +kernel)
theorem tw_135 : Cond.laysFinal "PartsAccumulator" "PartsAccumulator" "ring" "LPartsAccumulator$Ring;" ∈ tb_ := tb_mem 135 (by decide +kernel) (by decide +kernel)
theorem tw_137 : Cond.laysFinal "PartsAccumulator" "PartsAccumulator" "pending" "LPartsAccumulator$Roster;" ∈ tb_ := tb_mem 137 (by decide +kernel) (by decide +kernel)
theorem tw_139 : Cond.laysFinal "PartsAccumulator" "PartsAccumulator" "epochs" "[LPartsAccumulator$Epoch;" ∈ tb_ := tb_mem 139 (by decide +kernel) (by decide +kernel)
theorem tw_141 : Cond.laysFinal "PartsAccumulator" "PartsAccumulator" "held" "[J" ∈ tb_ := tb_mem 141 (by decide +kernel) (by decide +kernel)
theorem tw_143 : Cond.laysFinal "PartsAccumulator" "PartsAccumulator" "scratch" "[J" ∈ tb_ := tb_mem 143 (by decide +kernel) (by decide +kernel)
theorem tw_145 : Cond.laysFinal "PartsAccumulator" "PartsAccumulator" "otherScratch" "[J" ∈ tb_ := tb_mem 145 (by decide +kernel) (by decide +kernel)
theorem tw_147 : Cond.laysFinal "PartsAccumulator" "PartsAccumulator" "exponent" "LPartsAccumulator$Natural;" ∈ tb_ := tb_mem 147 (by decide +kernel) (by decide +kernel)
theorem tw_149 : Cond.lays "PartsAccumulator" "PartsAccumulator" "hasModulus" "Z" ∈ tb_ := tb_mem 149 (by decide +kernel) (by decide +kernel)
theorem tw_151 : Cond.lays "PartsAccumulator" "PartsAccumulator" "now" "I" ∈ tb_ := tb_mem 151 (by decide +kernel) (by decide +kernel)
theorem tw_153 : Cond.lays "PartsAccumulator" "PartsAccumulator" "heldFactor" "I" ∈ tb_ := tb_mem 153 (by decide +kernel) (by decide +kernel)
theorem tw_156 : Cond.methodLink "PartsAccumulatorLaw" 15 my_P_modulus ∈ tb_ := tb_mem 156 (by decide +kernel) (by decide +kernel)
theorem tw_157 : Cond.instanceMethod my_P_modulus ∈ tb_ := tb_mem 157 (by decide +kernel) (by decide +kernel)
theorem tw_158 : Cond.selects "PartsAccumulator" my_P_modulus my_P_modulus ∈ tb_ := tb_mem 158 (by decide +kernel) (by decide +kernel)
theorem tw_159 : Cond.code my_P_modulus prog_1_method_2_code 5 (Option.some FieldType.boolean) ∈ tb_ := tb_mem 159 (by decide +kernel) (by decide +kernel)
theorem tw_160 : Cond.methodLink "PartsAccumulator" 58 my_R_accepts ∈ tb_ := tb_mem 160 (by decide +kernel) (by decide +kernel)
theorem tw_161 : Cond.static my_R_accepts ∈ tb_ := tb_mem 161 (by decide +kernel) (by decide +kernel)
theorem tw_162 : Cond.code my_R_accepts prog_4_method_2_code 8 (Option.some FieldType.boolean) ∈ tb_ := tb_mem 162 (by decide +kernel) (by decide +kernel)
theorem tw_163 : Cond.constantLong "PartsAccumulator$Ring" 42 (4294967295 : Int64) ∈ tb_ := tb_mem 163 (by decide +kernel) (by decide +kernel)
theorem tw_164 : Cond.methodLink "PartsAccumulator" 62 my_R_begin ∈ tb_ := tb_mem 164 (by decide +kernel) (by decide +kernel)
theorem tw_165 : Cond.instanceMethod my_R_begin ∈ tb_ := tb_mem 165 (by decide +kernel) (by decide +kernel)
theorem tw_166 : Cond.selects "PartsAccumulator$Ring" my_R_begin my_R_begin ∈ tb_ := tb_mem 166 (by decide +kernel) (by decide +kernel)
theorem tw_167 : Cond.code my_R_begin prog_4_method_6_code 5 (Option.none : Option FieldType) ∈ tb_ := tb_mem 167 (by decide +kernel) (by decide +kernel)
theorem tw_168 : Cond.methodLink "PartsAccumulator$Ring" 44 my_R_split ∈ tb_ := tb_mem 168 (by decide +kernel) (by decide +kernel)
theorem tw_169 : Cond.static my_R_split ∈ tb_ := tb_mem 169 (by decide +kernel) (by decide +kernel)
theorem tw_170 : Cond.code my_R_split prog_4_method_3_code 5 (Option.none : Option FieldType) ∈ tb_ := tb_mem 170 (by decide +kernel) (by decide +kernel)
theorem tw_171 : Cond.methodLink "PartsAccumulator$Ring" 48 my_R_findNegatedInverse ∈ tb_ := tb_mem 171 (by decide +kernel) (by decide +kernel)
theorem tw_173 : Cond.instanceMethod my_R_findNegatedInverse ∈ tb_ := tb_mem 173 (by decide +kernel) (by decide +kernel)
theorem tw_174 : Cond.code my_R_findNegatedInverse prog_4_method_11_code 6 (Option.none : Option FieldType) ∈ tb_ := tb_mem 174 (by decide +kernel) (by decide +kernel)
theorem tw_175 : Cond.constantLong "PartsAccumulator$Ring" 90 (2 : Int64) ∈ tb_ := tb_mem 175 (by decide +kernel) (by decide +kernel)
theorem tw_176 : Cond.methodLink "PartsAccumulator$Ring" 51 my_R_findThird ∈ tb_ := tb_mem 176 (by decide +kernel) (by decide +kernel)
theorem tw_178 : Cond.instanceMethod my_R_findThird ∈ tb_ := tb_mem 178 (by decide +kernel) (by decide +kernel)
theorem tw_179 : Cond.code my_R_findThird prog_4_method_12_code 10 (Option.none : Option FieldType) ∈ tb_ := tb_mem 179 (by decide +kernel) (by decide +kernel)
theorem tw_180 : Cond.methodLink "PartsAccumulator$Ring" 54 arraycopyName ∈ tb_ := tb_mem 180 (by decide +kernel) (by decide +kernel)
theorem tw_181 : Cond.static arraycopyName ∈ tb_ := tb_mem 181 (by decide +kernel) (by decide +kernel)
theorem tw_182 : Cond.native arraycopyName ∈ tb_ := tb_mem 182 (by decide +kernel) (by decide +kernel)
theorem tw_183 : Cond.methodLink "PartsAccumulator$Ring" 60 my_R_shiftBy128 ∈ tb_ := tb_mem 183 (by decide +kernel) (by decide +kernel)
theorem tw_185 : Cond.instanceMethod my_R_shiftBy128 ∈ tb_ := tb_mem 185 (by decide +kernel) (by decide +kernel)
theorem tw_186 : Cond.code my_R_shiftBy128 prog_4_method_13_code 8 (Option.none : Option FieldType) ∈ tb_ := tb_mem 186 (by decide +kernel) (by decide +kernel)
theorem tw_187 : Cond.methodLink "PartsAccumulator$Ring" 96 my_R_reduceTotal ∈ tb_ := tb_mem 187 (by decide +kernel) (by decide +kernel)
theorem tw_189 : Cond.instanceMethod my_R_reduceTotal ∈ tb_ := tb_mem 189 (by decide +kernel) (by decide +kernel)
theorem tw_190 : Cond.code my_R_reduceTotal prog_4_method_17_code 7 (Option.none : Option FieldType) ∈ tb_ := tb_mem 190 (by decide +kernel) (by decide +kernel)
theorem tw_191 : Cond.methodLink "PartsAccumulator" 66 my_P_publish ∈ tb_ := tb_mem 191 (by decide +kernel) (by decide +kernel)
theorem tw_193 : Cond.instanceMethod my_P_publish ∈ tb_ := tb_mem 193 (by decide +kernel) (by decide +kernel)
theorem tw_194 : Cond.code my_P_publish prog_1_method_25_code 2 (Option.none : Option FieldType) ∈ tb_ := tb_mem 194 (by decide +kernel) (by decide +kernel)
theorem tw_195 : Cond.methodLink "PartsAccumulator" 160 my_N_become ∈ tb_ := tb_mem 195 (by decide +kernel) (by decide +kernel)
theorem tw_196 : Cond.instanceMethod my_N_become ∈ tb_ := tb_mem 196 (by decide +kernel) (by decide +kernel)
theorem tw_197 : Cond.selects "PartsAccumulator$Natural" my_N_become my_N_become ∈ tb_ := tb_mem 197 (by decide +kernel) (by decide +kernel)
theorem tw_198 : Cond.code my_N_become prog_3_method_2_code 2 (Option.none : Option FieldType) ∈ tb_ := tb_mem 198 (by decide +kernel) (by decide +kernel)
theorem tw_199 : Cond.methodLink "PartsAccumulator$Natural" 13 my_A_fill_aJJ ∈ tb_ := tb_mem 199 (by decide +kernel) (by decide +kernel)
theorem tw_200 : Cond.static my_A_fill_aJJ ∈ tb_ := tb_mem 200 (by decide +kernel) (by decide +kernel)
theorem tw_201 : Cond.code my_A_fill_aJJ prog_10_method_101_code 5 (Option.none : Option FieldType) ∈ tb_ := tb_mem 201 (by decide +kernel) (by decide +kernel)
theorem tw_202 : Cond.methodLink "PartsAccumulator" 162 my_T_multiplyInto ∈ tb_ := tb_mem 202 (by decide +kernel) (by decide +kernel)
theorem tw_203 : Cond.instanceMethod my_T_multiplyInto ∈ tb_ := tb_mem 203 (by decide +kernel) (by decide +kernel)
theorem tw_204 : Cond.selects "PartsAccumulator$Roster" my_T_multiplyInto my_T_multiplyInto ∈ tb_ := tb_mem 204 (by decide +kernel) (by decide +kernel)
theorem tw_205 : Cond.code my_T_multiplyInto prog_5_method_10_code 3 (Option.none : Option FieldType) ∈ tb_ := tb_mem 205 (by decide +kernel) (by decide +kernel)
theorem tw_206 : Cond.methodLink "PartsAccumulator$Roster" 37 my_N_multiply ∈ tb_ := tb_mem 206 (by decide +kernel) (by decide +kernel)
theorem tw_207 : Cond.instanceMethod my_N_multiply ∈ tb_ := tb_mem 207 (by decide +kernel) (by decide +kernel)
theorem tw_208 : Cond.selects "PartsAccumulator$Natural" my_N_multiply my_N_multiply ∈ tb_ := tb_mem 208 (by decide +kernel) (by decide +kernel)
theorem tw_209 : Cond.code my_N_multiply prog_3_method_3_code 7 (Option.none : Option FieldType) ∈ tb_ := tb_mem 209 (by decide +kernel) (by decide +kernel)
theorem tw_210 : Cond.constantLong "PartsAccumulator$Natural" 19 (4294967295 : Int64) ∈ tb_ := tb_mem 210 (by decide +kernel) (by decide +kernel)
theorem tw_211 : Cond.methodLink "PartsAccumulator" 173 my_R_power ∈ tb_ := tb_mem 211 (by decide +kernel) (by decide +kernel)
theorem tw_212 : Cond.instanceMethod my_R_power ∈ tb_ := tb_mem 212 (by decide +kernel) (by decide +kernel)
theorem tw_213 : Cond.selects "PartsAccumulator$Ring" my_R_power my_R_power ∈ tb_ := tb_mem 213 (by decide +kernel) (by decide +kernel)
theorem tw_214 : Cond.code my_R_power prog_4_method_9_code 5 (Option.none : Option FieldType) ∈ tb_ := tb_mem 214 (by decide +kernel) (by decide +kernel)
theorem tw_215 : Cond.methodLink "PartsAccumulator$Ring" 72 my_R_montgomery ∈ tb_ := tb_mem 215 (by decide +kernel) (by decide +kernel)
theorem tw_217 : Cond.instanceMethod my_R_montgomery ∈ tb_ := tb_mem 217 (by decide +kernel) (by decide +kernel)
theorem tw_218 : Cond.code my_R_montgomery prog_4_method_14_code 5 (Option.none : Option FieldType) ∈ tb_ := tb_mem 218 (by decide +kernel) (by decide +kernel)
theorem tw_219 : Cond.methodLink "PartsAccumulator$Ring" 99 my_A_fill_aJJ ∈ tb_ := tb_mem 219 (by decide +kernel) (by decide +kernel)
theorem tw_220 : Cond.methodLink "PartsAccumulator$Ring" 105 my_R_addProduct ∈ tb_ := tb_mem 220 (by decide +kernel) (by decide +kernel)
theorem tw_222 : Cond.instanceMethod my_R_addProduct ∈ tb_ := tb_mem 222 (by decide +kernel) (by decide +kernel)
theorem tw_223 : Cond.code my_R_addProduct prog_4_method_15_code 9 (Option.none : Option FieldType) ∈ tb_ := tb_mem 223 (by decide +kernel) (by decide +kernel)
theorem tw_224 : Cond.methodLink "PartsAccumulator$Ring" 108 my_R_dropLowestLimb ∈ tb_ := tb_mem 224 (by decide +kernel) (by decide +kernel)
theorem tw_226 : Cond.instanceMethod my_R_dropLowestLimb ∈ tb_ := tb_mem 226 (by decide +kernel) (by decide +kernel)
theorem tw_227 : Cond.code my_R_dropLowestLimb prog_4_method_16_code 8 (Option.none : Option FieldType) ∈ tb_ := tb_mem 227 (by decide +kernel) (by decide +kernel)
theorem tw_228 : Cond.methodLink "PartsAccumulator$Ring" 76 my_N_highestBit ∈ tb_ := tb_mem 228 (by decide +kernel) (by decide +kernel)
theorem tw_229 : Cond.instanceMethod my_N_highestBit ∈ tb_ := tb_mem 229 (by decide +kernel) (by decide +kernel)
theorem tw_230 : Cond.selects "PartsAccumulator$Natural" my_N_highestBit my_N_highestBit ∈ tb_ := tb_mem 230 (by decide +kernel) (by decide +kernel)
theorem tw_231 : Cond.code my_N_highestBit prog_3_method_7_code 2 (Option.some FieldType.int) ∈ tb_ := tb_mem 231 (by decide +kernel) (by decide +kernel)
theorem tw_232 : Cond.methodLink "PartsAccumulator$Natural" 21 my_N_bit ∈ tb_ := tb_mem 232 (by decide +kernel) (by decide +kernel)
theorem tw_233 : Cond.instanceMethod my_N_bit ∈ tb_ := tb_mem 233 (by decide +kernel) (by decide +kernel)
theorem tw_234 : Cond.selects "PartsAccumulator$Natural" my_N_bit my_N_bit ∈ tb_ := tb_mem 234 (by decide +kernel) (by decide +kernel)
theorem tw_235 : Cond.code my_N_bit prog_3_method_6_code 2 (Option.some FieldType.boolean) ∈ tb_ := tb_mem 235 (by decide +kernel) (by decide +kernel)
theorem tw_236 : Cond.methodLink "PartsAccumulator$Ring" 82 my_N_bit ∈ tb_ := tb_mem 236 (by decide +kernel) (by decide +kernel)
theorem tw_237 : Cond.methodLink "PartsAccumulatorLaw" 20 my_P_prime ∈ tb_ := tb_mem 237 (by decide +kernel) (by decide +kernel)
theorem tw_238 : Cond.instanceMethod my_P_prime ∈ tb_ := tb_mem 238 (by decide +kernel) (by decide +kernel)
theorem tw_239 : Cond.selects "PartsAccumulator" my_P_prime my_P_prime ∈ tb_ := tb_mem 239 (by decide +kernel) (by decide +kernel)
theorem tw_240 : Cond.code my_P_prime prog_1_method_3_code 3 (Option.some FieldType.int) ∈ tb_ := tb_mem 240 (by decide +kernel) (by decide +kernel)
theorem tw_241 : Cond.methodLink "PartsAccumulator" 70 my_S_primeOf ∈ tb_ := tb_mem 241 (by decide +kernel) (by decide +kernel)
theorem tw_242 : Cond.instanceMethod my_S_primeOf ∈ tb_ := tb_mem 242 (by decide +kernel) (by decide +kernel)
theorem tw_243 : Cond.selects "PartsAccumulator$SerialPrimes" my_S_primeOf my_S_primeOf ∈ tb_ := tb_mem 243 (by decide +kernel) (by decide +kernel)
theorem tw_244 : Cond.code my_S_primeOf prog_6_method_2_code 5 (Option.some FieldType.int) ∈ tb_ := tb_mem 244 (by decide +kernel) (by decide +kernel)
theorem tw_245 : Cond.constantLong "PartsAccumulator$SerialPrimes" 15 (1099511627776 : Int64) ∈ tb_ := tb_mem 245 (by decide +kernel) (by decide +kernel)
theorem tw_246 : Cond.methodLink "PartsAccumulator$SerialPrimes" 17 my_S_hash ∈ tb_ := tb_mem 246 (by decide +kernel) (by decide +kernel)
theorem tw_248 : Cond.instanceMethod my_S_hash ∈ tb_ := tb_mem 248 (by decide +kernel) (by decide +kernel)
theorem tw_249 : Cond.code my_S_hash prog_6_method_3_code 15 (Option.some FieldType.int) ∈ tb_ := tb_mem 249 (by decide +kernel) (by decide +kernel)
theorem tw_250 : Cond.methodLink "PartsAccumulator$SerialPrimes" 27 my_S_fillSchedule ∈ tb_ := tb_mem 250 (by decide +kernel) (by decide +kernel)
theorem tw_252 : Cond.instanceMethod my_S_fillSchedule ∈ tb_ := tb_mem 252 (by decide +kernel) (by decide +kernel)
theorem tw_253 : Cond.code my_S_fillSchedule prog_6_method_4_code 7 (Option.none : Option FieldType) ∈ tb_ := tb_mem 253 (by decide +kernel) (by decide +kernel)
theorem tw_254 : Cond.methodLink "PartsAccumulator$SerialPrimes" 46 my_A_fill_aII ∈ tb_ := tb_mem 254 (by decide +kernel) (by decide +kernel)
theorem tw_255 : Cond.static my_A_fill_aII ∈ tb_ := tb_mem 255 (by decide +kernel) (by decide +kernel)
theorem tw_256 : Cond.code my_A_fill_aII prog_10_method_103_code 4 (Option.none : Option FieldType) ∈ tb_ := tb_mem 256 (by decide +kernel) (by decide +kernel)
theorem tw_257 : Cond.constant "PartsAccumulator$SerialPrimes" 52 (-2147483648 : Int32) ∈ tb_ := tb_mem 257 (by decide +kernel) (by decide +kernel)
theorem tw_258 : Cond.methodLink "PartsAccumulator$SerialPrimes" 39 my_S_turn ∈ tb_ := tb_mem 258 (by decide +kernel) (by decide +kernel)
theorem tw_259 : Cond.static my_S_turn ∈ tb_ := tb_mem 259 (by decide +kernel) (by decide +kernel)
theorem tw_260 : Cond.code my_S_turn prog_6_method_5_code 2 (Option.some FieldType.int) ∈ tb_ := tb_mem 260 (by decide +kernel) (by decide +kernel)
theorem tw_261 : Cond.constant "PartsAccumulator$SerialPrimes" 31 (1779033703 : Int32) ∈ tb_ := tb_mem 261 (by decide +kernel) (by decide +kernel)
theorem tw_262 : Cond.constant "PartsAccumulator$SerialPrimes" 32 (-1150833019 : Int32) ∈ tb_ := tb_mem 262 (by decide +kernel) (by decide +kernel)
theorem tw_263 : Cond.constant "PartsAccumulator$SerialPrimes" 33 (1013904242 : Int32) ∈ tb_ := tb_mem 263 (by decide +kernel) (by decide +kernel)
theorem tw_264 : Cond.constant "PartsAccumulator$SerialPrimes" 34 (-1521486534 : Int32) ∈ tb_ := tb_mem 264 (by decide +kernel) (by decide +kernel)
theorem tw_265 : Cond.constant "PartsAccumulator$SerialPrimes" 35 (1359893119 : Int32) ∈ tb_ := tb_mem 265 (by decide +kernel) (by decide +kernel)
theorem tw_266 : Cond.constant "PartsAccumulator$SerialPrimes" 36 (-1694144372 : Int32) ∈ tb_ := tb_mem 266 (by decide +kernel) (by decide +kernel)
theorem tw_267 : Cond.constant "PartsAccumulator$SerialPrimes" 37 (528734635 : Int32) ∈ tb_ := tb_mem 267 (by decide +kernel) (by decide +kernel)
theorem tw_268 : Cond.constant "PartsAccumulator$SerialPrimes" 38 (1541459225 : Int32) ∈ tb_ := tb_mem 268 (by decide +kernel) (by decide +kernel)
theorem tw_269 : Cond.fieldLink "PartsAccumulator$SerialPrimes" 43 "PartsAccumulator$SerialPrimes" "K" "[I" ∈ tb_ := tb_mem 269 (by decide +kernel) (by decide +kernel)
theorem tw_271 : Cond.constant "PartsAccumulator$SerialPrimes" 21 (2147483647 : Int32) ∈ tb_ := tb_mem 271 (by decide +kernel) (by decide +kernel)
theorem tw_272 : Cond.constant "PartsAccumulator$SerialPrimes" 22 (1073741825 : Int32) ∈ tb_ := tb_mem 272 (by decide +kernel) (by decide +kernel)
theorem tw_273 : Cond.methodLink "PartsAccumulator$SerialPrimes" 23 my_S_isPrime ∈ tb_ := tb_mem 273 (by decide +kernel) (by decide +kernel)
theorem tw_274 : Cond.static my_S_isPrime ∈ tb_ := tb_mem 274 (by decide +kernel) (by decide +kernel)
theorem tw_275 : Cond.code my_S_isPrime prog_6_method_6_code 1 (Option.some FieldType.boolean) ∈ tb_ := tb_mem 275 (by decide +kernel) (by decide +kernel)
theorem tw_276 : Cond.methodLink "PartsAccumulator$SerialPrimes" 53 my_S_passes ∈ tb_ := tb_mem 276 (by decide +kernel) (by decide +kernel)
theorem tw_277 : Cond.static my_S_passes ∈ tb_ := tb_mem 277 (by decide +kernel) (by decide +kernel)
theorem tw_278 : Cond.code my_S_passes prog_6_method_7_code 7 (Option.some FieldType.boolean) ∈ tb_ := tb_mem 278 (by decide +kernel) (by decide +kernel)
theorem tw_279 : Cond.methodLink "PartsAccumulator$SerialPrimes" 57 my_S_power ∈ tb_ := tb_mem 279 (by decide +kernel) (by decide +kernel)
theorem tw_280 : Cond.static my_S_power ∈ tb_ := tb_mem 280 (by decide +kernel) (by decide +kernel)
theorem tw_281 : Cond.code my_S_power prog_6_method_9_code 7 (Option.some FieldType.long) ∈ tb_ := tb_mem 281 (by decide +kernel) (by decide +kernel)
theorem tw_282 : Cond.methodLink "PartsAccumulatorLaw" 25 my_P_add ∈ tb_ := tb_mem 282 (by decide +kernel) (by decide +kernel)
theorem tw_283 : Cond.instanceMethod my_P_add ∈ tb_ := tb_mem 283 (by decide +kernel) (by decide +kernel)
theorem tw_284 : Cond.selects "PartsAccumulator" my_P_add my_P_add ∈ tb_ := tb_mem 284 (by decide +kernel) (by decide +kernel)
theorem tw_285 : Cond.code my_P_add prog_1_method_4_code 4 (Option.some FieldType.int) ∈ tb_ := tb_mem 285 (by decide +kernel) (by decide +kernel)
theorem tw_286 : Cond.methodLink "PartsAccumulator" 74 my_P_primeOrRefusal_J ∈ tb_ := tb_mem 286 (by decide +kernel) (by decide +kernel)
theorem tw_288 : Cond.instanceMethod my_P_primeOrRefusal_J ∈ tb_ := tb_mem 288 (by decide +kernel) (by decide +kernel)
theorem tw_289 : Cond.code my_P_primeOrRefusal_J prog_1_method_20_code 3 (Option.some FieldType.int) ∈ tb_ := tb_mem 289 (by decide +kernel) (by decide +kernel)
theorem tw_290 : Cond.methodLink "PartsAccumulator" 77 my_T_has ∈ tb_ := tb_mem 290 (by decide +kernel) (by decide +kernel)
theorem tw_291 : Cond.instanceMethod my_T_has ∈ tb_ := tb_mem 291 (by decide +kernel) (by decide +kernel)
theorem tw_292 : Cond.selects "PartsAccumulator$Roster" my_T_has my_T_has ∈ tb_ := tb_mem 292 (by decide +kernel) (by decide +kernel)
theorem tw_293 : Cond.code my_T_has prog_5_method_3_code 3 (Option.some FieldType.boolean) ∈ tb_ := tb_mem 293 (by decide +kernel) (by decide +kernel)
theorem tw_294 : Cond.methodLink "PartsAccumulator$Roster" 23 my_T_placeOf ∈ tb_ := tb_mem 294 (by decide +kernel) (by decide +kernel)
theorem tw_295 : Cond.instanceMethod my_T_placeOf ∈ tb_ := tb_mem 295 (by decide +kernel) (by decide +kernel)
theorem tw_296 : Cond.selects "PartsAccumulator$Roster" my_T_placeOf my_T_placeOf ∈ tb_ := tb_mem 296 (by decide +kernel) (by decide +kernel)
theorem tw_297 : Cond.code my_T_placeOf prog_5_method_2_code 4 (Option.some FieldType.int) ∈ tb_ := tb_mem 297 (by decide +kernel) (by decide +kernel)
theorem tw_298 : Cond.methodLink "PartsAccumulator" 81 my_T_hasPrime ∈ tb_ := tb_mem 298 (by decide +kernel) (by decide +kernel)
theorem tw_299 : Cond.instanceMethod my_T_hasPrime ∈ tb_ := tb_mem 299 (by decide +kernel) (by decide +kernel)
theorem tw_300 : Cond.selects "PartsAccumulator$Roster" my_T_hasPrime my_T_hasPrime ∈ tb_ := tb_mem 300 (by decide +kernel) (by decide +kernel)
theorem tw_301 : Cond.code my_T_hasPrime prog_5_method_4_code 3 (Option.some FieldType.boolean) ∈ tb_ := tb_mem 301 (by decide +kernel) (by decide +kernel)
theorem tw_302 : Cond.methodLink "PartsAccumulator" 89 my_T_insert ∈ tb_ := tb_mem 302 (by decide +kernel) (by decide +kernel)
theorem tw_303 : Cond.instanceMethod my_T_insert ∈ tb_ := tb_mem 303 (by decide +kernel) (by decide +kernel)
theorem tw_304 : Cond.selects "PartsAccumulator$Roster" my_T_insert my_T_insert ∈ tb_ := tb_mem 304 (by decide +kernel) (by decide +kernel)
theorem tw_305 : Cond.code my_T_insert prog_5_method_5_code 5 (Option.none : Option FieldType) ∈ tb_ := tb_mem 305 (by decide +kernel) (by decide +kernel)
theorem tw_306 : Cond.methodLink "PartsAccumulatorLaw" 29 my_P_remove ∈ tb_ := tb_mem 306 (by decide +kernel) (by decide +kernel)
theorem tw_307 : Cond.instanceMethod my_P_remove ∈ tb_ := tb_mem 307 (by decide +kernel) (by decide +kernel)
theorem tw_308 : Cond.selects "PartsAccumulator" my_P_remove my_P_remove ∈ tb_ := tb_mem 308 (by decide +kernel) (by decide +kernel)
theorem tw_309 : Cond.code my_P_remove prog_1_method_5_code 5 (Option.some FieldType.int) ∈ tb_ := tb_mem 309 (by decide +kernel) (by decide +kernel)
theorem tw_310 : Cond.methodLink "PartsAccumulator" 93 my_T_placeOf ∈ tb_ := tb_mem 310 (by decide +kernel) (by decide +kernel)
theorem tw_311 : Cond.methodLink "PartsAccumulator" 96 my_T_delete ∈ tb_ := tb_mem 311 (by decide +kernel) (by decide +kernel)
theorem tw_312 : Cond.instanceMethod my_T_delete ∈ tb_ := tb_mem 312 (by decide +kernel) (by decide +kernel)
theorem tw_313 : Cond.selects "PartsAccumulator$Roster" my_T_delete my_T_delete ∈ tb_ := tb_mem 313 (by decide +kernel) (by decide +kernel)
theorem tw_314 : Cond.code my_T_delete prog_5_method_6_code 3 (Option.none : Option FieldType) ∈ tb_ := tb_mem 314 (by decide +kernel) (by decide +kernel)
theorem tw_315 : Cond.methodLink "PartsAccumulatorLaw" 33 my_P_close ∈ tb_ := tb_mem 315 (by decide +kernel) (by decide +kernel)
theorem tw_316 : Cond.instanceMethod my_P_close ∈ tb_ := tb_mem 316 (by decide +kernel) (by decide +kernel)
theorem tw_317 : Cond.selects "PartsAccumulator" my_P_close my_P_close ∈ tb_ := tb_mem 317 (by decide +kernel) (by decide +kernel)
theorem tw_318 : Cond.code my_P_close prog_1_method_6_code 1 (Option.some FieldType.int) ∈ tb_ := tb_mem 318 (by decide +kernel) (by decide +kernel)
theorem tw_319 : Cond.methodLink "PartsAccumulator" 106 my_T_become ∈ tb_ := tb_mem 319 (by decide +kernel) (by decide +kernel)
theorem tw_320 : Cond.instanceMethod my_T_become ∈ tb_ := tb_mem 320 (by decide +kernel) (by decide +kernel)
theorem tw_321 : Cond.selects "PartsAccumulator$Roster" my_T_become my_T_become ∈ tb_ := tb_mem 321 (by decide +kernel) (by decide +kernel)
theorem tw_322 : Cond.code my_T_become prog_5_method_7_code 2 (Option.none : Option FieldType) ∈ tb_ := tb_mem 322 (by decide +kernel) (by decide +kernel)
theorem tw_323 : Cond.methodLink "PartsAccumulator$Roster" 27 arraycopyName ∈ tb_ := tb_mem 323 (by decide +kernel) (by decide +kernel)
theorem tw_324 : Cond.methodLink "PartsAccumulatorLaw" 38 my_P_size ∈ tb_ := tb_mem 324 (by decide +kernel) (by decide +kernel)
theorem tw_325 : Cond.instanceMethod my_P_size ∈ tb_ := tb_mem 325 (by decide +kernel) (by decide +kernel)
theorem tw_326 : Cond.selects "PartsAccumulator" my_P_size my_P_size ∈ tb_ := tb_mem 326 (by decide +kernel) (by decide +kernel)
theorem tw_327 : Cond.code my_P_size prog_1_method_7_code 2 (Option.some FieldType.int) ∈ tb_ := tb_mem 327 (by decide +kernel) (by decide +kernel)
theorem tw_328 : Cond.methodLink "PartsAccumulatorLaw" 43 my_P_state ∈ tb_ := tb_mem 328 (by decide +kernel) (by decide +kernel)
theorem tw_329 : Cond.instanceMethod my_P_state ∈ tb_ := tb_mem 329 (by decide +kernel) (by decide +kernel)
theorem tw_330 : Cond.selects "PartsAccumulator" my_P_state my_P_state ∈ tb_ := tb_mem 330 (by decide +kernel) (by decide +kernel)
theorem tw_331 : Cond.code my_P_state prog_1_method_8_code 4 (Option.some FieldType.int) ∈ tb_ := tb_mem 331 (by decide +kernel) (by decide +kernel)
theorem tw_332 : Cond.methodLink "PartsAccumulatorLaw" 47 my_P_accumulator ∈ tb_ := tb_mem 332 (by decide +kernel) (by decide +kernel)
theorem tw_333 : Cond.instanceMethod my_P_accumulator ∈ tb_ := tb_mem 333 (by decide +kernel) (by decide +kernel)
theorem tw_334 : Cond.selects "PartsAccumulator" my_P_accumulator my_P_accumulator ∈ tb_ := tb_mem 334 (by decide +kernel) (by decide +kernel)
theorem tw_335 : Cond.code my_P_accumulator prog_1_method_9_code 3 (Option.some FieldType.long) ∈ tb_ := tb_mem 335 (by decide +kernel) (by decide +kernel)
theorem tw_336 : Cond.methodLink "PartsAccumulator" 110 my_P_isEpoch ∈ tb_ := tb_mem 336 (by decide +kernel) (by decide +kernel)
theorem tw_338 : Cond.instanceMethod my_P_isEpoch ∈ tb_ := tb_mem 338 (by decide +kernel) (by decide +kernel)
theorem tw_339 : Cond.code my_P_isEpoch prog_1_method_22_code 2 (Option.some FieldType.boolean) ∈ tb_ := tb_mem 339 (by decide +kernel) (by decide +kernel)
theorem tw_340 : Cond.methodLink "PartsAccumulator" 116 my_R_word ∈ tb_ := tb_mem 340 (by decide +kernel) (by decide +kernel)
theorem tw_341 : Cond.static my_R_word ∈ tb_ := tb_mem 341 (by decide +kernel) (by decide +kernel)
theorem tw_342 : Cond.code my_R_word prog_4_method_4_code 2 (Option.some FieldType.long) ∈ tb_ := tb_mem 342 (by decide +kernel) (by decide +kernel)
theorem tw_343 : Cond.methodLink "PartsAccumulatorLaw" 52 my_P_note ∈ tb_ := tb_mem 343 (by decide +kernel) (by decide +kernel)
theorem tw_344 : Cond.instanceMethod my_P_note ∈ tb_ := tb_mem 344 (by decide +kernel) (by decide +kernel)
theorem tw_345 : Cond.selects "PartsAccumulator" my_P_note my_P_note ∈ tb_ := tb_mem 345 (by decide +kernel) (by decide +kernel)
theorem tw_346 : Cond.code my_P_note prog_1_method_10_code 6 (Option.some FieldType.int) ∈ tb_ := tb_mem 346 (by decide +kernel) (by decide +kernel)
theorem tw_347 : Cond.methodLink "PartsAccumulator" 120 my_T_countOutside ∈ tb_ := tb_mem 347 (by decide +kernel) (by decide +kernel)
theorem tw_348 : Cond.instanceMethod my_T_countOutside ∈ tb_ := tb_mem 348 (by decide +kernel) (by decide +kernel)
theorem tw_349 : Cond.selects "PartsAccumulator$Roster" my_T_countOutside my_T_countOutside ∈ tb_ := tb_mem 349 (by decide +kernel) (by decide +kernel)
theorem tw_350 : Cond.code my_T_countOutside prog_5_method_8_code 4 (Option.some FieldType.int) ∈ tb_ := tb_mem 350 (by decide +kernel) (by decide +kernel)
theorem tw_351 : Cond.methodLink "PartsAccumulator$Roster" 33 my_T_has ∈ tb_ := tb_mem 351 (by decide +kernel) (by decide +kernel)
theorem tw_352 : Cond.methodLink "PartsAccumulator" 124 my_T_primeOutside ∈ tb_ := tb_mem 352 (by decide +kernel) (by decide +kernel)
theorem tw_353 : Cond.instanceMethod my_T_primeOutside ∈ tb_ := tb_mem 353 (by decide +kernel) (by decide +kernel)
theorem tw_354 : Cond.selects "PartsAccumulator$Roster" my_T_primeOutside my_T_primeOutside ∈ tb_ := tb_mem 354 (by decide +kernel) (by decide +kernel)
theorem tw_355 : Cond.code my_T_primeOutside prog_5_method_9_code 5 (Option.some FieldType.int) ∈ tb_ := tb_mem 355 (by decide +kernel) (by decide +kernel)
theorem tw_356 : Cond.methodLink "PartsAccumulatorLaw" 57 my_P_witness ∈ tb_ := tb_mem 356 (by decide +kernel) (by decide +kernel)
theorem tw_357 : Cond.instanceMethod my_P_witness ∈ tb_ := tb_mem 357 (by decide +kernel) (by decide +kernel)
theorem tw_358 : Cond.selects "PartsAccumulator" my_P_witness my_P_witness ∈ tb_ := tb_mem 358 (by decide +kernel) (by decide +kernel)
theorem tw_359 : Cond.code my_P_witness prog_1_method_11_code 4 (Option.some FieldType.long) ∈ tb_ := tb_mem 359 (by decide +kernel) (by decide +kernel)
theorem tw_360 : Cond.methodLink "PartsAccumulator" 128 my_P_computeIssued ∈ tb_ := tb_mem 360 (by decide +kernel) (by decide +kernel)
theorem tw_362 : Cond.instanceMethod my_P_computeIssued ∈ tb_ := tb_mem 362 (by decide +kernel) (by decide +kernel)
theorem tw_363 : Cond.code my_P_computeIssued prog_1_method_26_code 4 (Option.none : Option FieldType) ∈ tb_ := tb_mem 363 (by decide +kernel) (by decide +kernel)
theorem tw_364 : Cond.methodLink "PartsAccumulator" 191 my_T_multiplyOthersInto ∈ tb_ := tb_mem 364 (by decide +kernel) (by decide +kernel)
theorem tw_365 : Cond.instanceMethod my_T_multiplyOthersInto ∈ tb_ := tb_mem 365 (by decide +kernel) (by decide +kernel)
theorem tw_366 : Cond.selects "PartsAccumulator$Roster" my_T_multiplyOthersInto my_T_multiplyOthersInto ∈ tb_ := tb_mem 366 (by decide +kernel) (by decide +kernel)
theorem tw_367 : Cond.code my_T_multiplyOthersInto prog_5_method_11_code 5 (Option.none : Option FieldType) ∈ tb_ := tb_mem 367 (by decide +kernel) (by decide +kernel)
theorem tw_368 : Cond.methodLink "PartsAccumulatorLaw" 62 my_P_issue ∈ tb_ := tb_mem 368 (by decide +kernel) (by decide +kernel)
theorem tw_369 : Cond.instanceMethod my_P_issue ∈ tb_ := tb_mem 369 (by decide +kernel) (by decide +kernel)
theorem tw_370 : Cond.selects "PartsAccumulator" my_P_issue my_P_issue ∈ tb_ := tb_mem 370 (by decide +kernel) (by decide +kernel)
theorem tw_371 : Cond.code my_P_issue prog_1_method_12_code 4 (Option.some FieldType.int) ∈ tb_ := tb_mem 371 (by decide +kernel) (by decide +kernel)
theorem tw_372 : Cond.methodLink "PartsAccumulatorLaw" 66 my_P_hold ∈ tb_ := tb_mem 372 (by decide +kernel) (by decide +kernel)
theorem tw_373 : Cond.instanceMethod my_P_hold ∈ tb_ := tb_mem 373 (by decide +kernel) (by decide +kernel)
theorem tw_374 : Cond.selects "PartsAccumulator" my_P_hold my_P_hold ∈ tb_ := tb_mem 374 (by decide +kernel) (by decide +kernel)
theorem tw_375 : Cond.code my_P_hold prog_1_method_13_code 6 (Option.some FieldType.boolean) ∈ tb_ := tb_mem 375 (by decide +kernel) (by decide +kernel)
theorem tw_376 : Cond.methodLink "PartsAccumulator" 135 my_R_isBelowModulus ∈ tb_ := tb_mem 376 (by decide +kernel) (by decide +kernel)
theorem tw_377 : Cond.instanceMethod my_R_isBelowModulus ∈ tb_ := tb_mem 377 (by decide +kernel) (by decide +kernel)
theorem tw_378 : Cond.selects "PartsAccumulator$Ring" my_R_isBelowModulus my_R_isBelowModulus ∈ tb_ := tb_mem 378 (by decide +kernel) (by decide +kernel)
theorem tw_379 : Cond.code my_R_isBelowModulus prog_4_method_7_code 9 (Option.some FieldType.boolean) ∈ tb_ := tb_mem 379 (by decide +kernel) (by decide +kernel)
theorem tw_380 : Cond.methodLink "PartsAccumulator$Ring" 64 my_R_word ∈ tb_ := tb_mem 380 (by decide +kernel) (by decide +kernel)
theorem tw_381 : Cond.methodLink "PartsAccumulator$Ring" 68 my_R_isBelow ∈ tb_ := tb_mem 381 (by decide +kernel) (by decide +kernel)
theorem tw_382 : Cond.static my_R_isBelow ∈ tb_ := tb_mem 382 (by decide +kernel) (by decide +kernel)
theorem tw_383 : Cond.code my_R_isBelow prog_4_method_10_code 4 (Option.some FieldType.boolean) ∈ tb_ := tb_mem 383 (by decide +kernel) (by decide +kernel)
theorem tw_384 : Cond.constantLong "PartsAccumulator$Ring" 88 (-9223372036854775808 : Int64) ∈ tb_ := tb_mem 384 (by decide +kernel) (by decide +kernel)
theorem tw_385 : Cond.methodLink "PartsAccumulator" 138 my_R_split ∈ tb_ := tb_mem 385 (by decide +kernel) (by decide +kernel)
theorem tw_386 : Cond.methodLink "PartsAccumulatorLaw" 71 my_P_hand ∈ tb_ := tb_mem 386 (by decide +kernel) (by decide +kernel)
theorem tw_387 : Cond.instanceMethod my_P_hand ∈ tb_ := tb_mem 387 (by decide +kernel) (by decide +kernel)
theorem tw_388 : Cond.selects "PartsAccumulator" my_P_hand my_P_hand ∈ tb_ := tb_mem 388 (by decide +kernel) (by decide +kernel)
theorem tw_389 : Cond.code my_P_hand prog_1_method_14_code 2 (Option.some FieldType.long) ∈ tb_ := tb_mem 389 (by decide +kernel) (by decide +kernel)
theorem tw_390 : Cond.methodLink "PartsAccumulatorLaw" 76 my_P_factor ∈ tb_ := tb_mem 390 (by decide +kernel) (by decide +kernel)
theorem tw_391 : Cond.instanceMethod my_P_factor ∈ tb_ := tb_mem 391 (by decide +kernel) (by decide +kernel)
theorem tw_392 : Cond.selects "PartsAccumulator" my_P_factor my_P_factor ∈ tb_ := tb_mem 392 (by decide +kernel) (by decide +kernel)
theorem tw_393 : Cond.code my_P_factor prog_1_method_15_code 1 (Option.some FieldType.int) ∈ tb_ := tb_mem 393 (by decide +kernel) (by decide +kernel)
theorem tw_394 : Cond.methodLink "PartsAccumulatorLaw" 80 my_P_check ∈ tb_ := tb_mem 394 (by decide +kernel) (by decide +kernel)
theorem tw_395 : Cond.instanceMethod my_P_check ∈ tb_ := tb_mem 395 (by decide +kernel) (by decide +kernel)
theorem tw_396 : Cond.selects "PartsAccumulator" my_P_check my_P_check ∈ tb_ := tb_mem 396 (by decide +kernel) (by decide +kernel)
theorem tw_397 : Cond.code my_P_check prog_1_method_16_code 5 (Option.some FieldType.int) ∈ tb_ := tb_mem 397 (by decide +kernel) (by decide +kernel)
theorem tw_398 : Cond.methodLink "PartsAccumulator" 142 my_P_primeOrRefusal_JI ∈ tb_ := tb_mem 398 (by decide +kernel) (by decide +kernel)
theorem tw_400 : Cond.instanceMethod my_P_primeOrRefusal_JI ∈ tb_ := tb_mem 400 (by decide +kernel) (by decide +kernel)
theorem tw_401 : Cond.code my_P_primeOrRefusal_JI prog_1_method_21_code 4 (Option.some FieldType.int) ∈ tb_ := tb_mem 401 (by decide +kernel) (by decide +kernel)
theorem tw_402 : Cond.methodLink "PartsAccumulator" 145 my_P_holdsWitness ∈ tb_ := tb_mem 402 (by decide +kernel) (by decide +kernel)
theorem tw_404 : Cond.instanceMethod my_P_holdsWitness ∈ tb_ := tb_mem 404 (by decide +kernel) (by decide +kernel)
theorem tw_405 : Cond.code my_P_holdsWitness prog_1_method_24_code 3 (Option.some FieldType.boolean) ∈ tb_ := tb_mem 405 (by decide +kernel) (by decide +kernel)
theorem tw_406 : Cond.methodLink "PartsAccumulator" 184 my_R_same ∈ tb_ := tb_mem 406 (by decide +kernel) (by decide +kernel)
theorem tw_407 : Cond.static my_R_same ∈ tb_ := tb_mem 407 (by decide +kernel) (by decide +kernel)
theorem tw_408 : Cond.code my_R_same prog_4_method_5_code 3 (Option.some FieldType.boolean) ∈ tb_ := tb_mem 408 (by decide +kernel) (by decide +kernel)
theorem tw_409 : Cond.methodLink "PartsAccumulatorLaw" 85 my_P_advance ∈ tb_ := tb_mem 409 (by decide +kernel) (by decide +kernel)
theorem tw_410 : Cond.instanceMethod my_P_advance ∈ tb_ := tb_mem 410 (by decide +kernel) (by decide +kernel)
theorem tw_411 : Cond.selects "PartsAccumulator" my_P_advance my_P_advance ∈ tb_ := tb_mem 411 (by decide +kernel) (by decide +kernel)
theorem tw_412 : Cond.code my_P_advance prog_1_method_17_code 6 (Option.some FieldType.int) ∈ tb_ := tb_mem 412 (by decide +kernel) (by decide +kernel)
theorem tw_413 : Cond.methodLink "PartsAccumulator" 149 my_P_isPresentSince ∈ tb_ := tb_mem 413 (by decide +kernel) (by decide +kernel)
theorem tw_415 : Cond.instanceMethod my_P_isPresentSince ∈ tb_ := tb_mem 415 (by decide +kernel) (by decide +kernel)
theorem tw_416 : Cond.code my_P_isPresentSince prog_1_method_23_code 5 (Option.some FieldType.boolean) ∈ tb_ := tb_mem 416 (by decide +kernel) (by decide +kernel)
theorem tw_417 : Cond.methodLink "PartsAccumulator" 153 my_P_takeInAdded ∈ tb_ := tb_mem 417 (by decide +kernel) (by decide +kernel)
theorem tw_419 : Cond.instanceMethod my_P_takeInAdded ∈ tb_ := tb_mem 419 (by decide +kernel) (by decide +kernel)
theorem tw_420 : Cond.code my_P_takeInAdded prog_1_method_27_code 2 (Option.none : Option FieldType) ∈ tb_ := tb_mem 420 (by decide +kernel) (by decide +kernel)
theorem tw_421 : Cond.methodLink "PartsAccumulator" 195 my_T_multiplyOutsideInto ∈ tb_ := tb_mem 421 (by decide +kernel) (by decide +kernel)
theorem tw_422 : Cond.instanceMethod my_T_multiplyOutsideInto ∈ tb_ := tb_mem 422 (by decide +kernel) (by decide +kernel)
theorem tw_423 : Cond.selects "PartsAccumulator$Roster" my_T_multiplyOutsideInto my_T_multiplyOutsideInto ∈ tb_ := tb_mem 423 (by decide +kernel) (by decide +kernel)
theorem tw_424 : Cond.code my_T_multiplyOutsideInto prog_5_method_12_code 4 (Option.none : Option FieldType) ∈ tb_ := tb_mem 424 (by decide +kernel) (by decide +kernel)
theorem tw_425 : Cond.methodLink "PartsAccumulator" 156 my_P_takeOutRemoved ∈ tb_ := tb_mem 425 (by decide +kernel) (by decide +kernel)
theorem tw_427 : Cond.instanceMethod my_P_takeOutRemoved ∈ tb_ := tb_mem 427 (by decide +kernel) (by decide +kernel)
theorem tw_428 : Cond.code my_P_takeOutRemoved prog_1_method_28_code 4 (Option.none : Option FieldType) ∈ tb_ := tb_mem 428 (by decide +kernel) (by decide +kernel)
theorem tw_429 : Cond.methodLink "PartsAccumulator" 166 my_P_inverseThenQuotient ∈ tb_ := tb_mem 429 (by decide +kernel) (by decide +kernel)
theorem tw_431 : Cond.instanceMethod my_P_inverseThenQuotient ∈ tb_ := tb_mem 431 (by decide +kernel) (by decide +kernel)
theorem tw_432 : Cond.code my_P_inverseThenQuotient prog_1_method_29_code 3 (Option.some FieldType.int) ∈ tb_ := tb_mem 432 (by decide +kernel) (by decide +kernel)
theorem tw_433 : Cond.methodLink "PartsAccumulator" 199 my_N_remainder ∈ tb_ := tb_mem 433 (by decide +kernel) (by decide +kernel)
theorem tw_434 : Cond.instanceMethod my_N_remainder ∈ tb_ := tb_mem 434 (by decide +kernel) (by decide +kernel)
theorem tw_435 : Cond.selects "PartsAccumulator$Natural" my_N_remainder my_N_remainder ∈ tb_ := tb_mem 435 (by decide +kernel) (by decide +kernel)
theorem tw_436 : Cond.code my_N_remainder prog_3_method_4_code 5 (Option.some FieldType.int) ∈ tb_ := tb_mem 436 (by decide +kernel) (by decide +kernel)
theorem tw_437 : Cond.methodLink "PartsAccumulator" 202 my_S_inverse ∈ tb_ := tb_mem 437 (by decide +kernel) (by decide +kernel)
theorem tw_438 : Cond.static my_S_inverse ∈ tb_ := tb_mem 438 (by decide +kernel) (by decide +kernel)
theorem tw_439 : Cond.code my_S_inverse prog_6_method_8_code 2 (Option.some FieldType.int) ∈ tb_ := tb_mem 439 (by decide +kernel) (by decide +kernel)
theorem tw_440 : Cond.methodLink "PartsAccumulator" 205 my_N_multiply ∈ tb_ := tb_mem 440 (by decide +kernel) (by decide +kernel)
theorem tw_441 : Cond.methodLink "PartsAccumulator" 207 my_N_divide ∈ tb_ := tb_mem 441 (by decide +kernel) (by decide +kernel)
theorem tw_442 : Cond.instanceMethod my_N_divide ∈ tb_ := tb_mem 442 (by decide +kernel) (by decide +kernel)
theorem tw_443 : Cond.selects "PartsAccumulator$Natural" my_N_divide my_N_divide ∈ tb_ := tb_mem 443 (by decide +kernel) (by decide +kernel)
theorem tw_444 : Cond.code my_N_divide prog_3_method_5_code 7 (Option.none : Option FieldType) ∈ tb_ := tb_mem 444 (by decide +kernel) (by decide +kernel)
theorem tw_445 : Cond.methodLink "PartsAccumulator" 177 my_R_multiply ∈ tb_ := tb_mem 445 (by decide +kernel) (by decide +kernel)
theorem tw_446 : Cond.instanceMethod my_R_multiply ∈ tb_ := tb_mem 446 (by decide +kernel) (by decide +kernel)
theorem tw_447 : Cond.selects "PartsAccumulator$Ring" my_R_multiply my_R_multiply ∈ tb_ := tb_mem 447 (by decide +kernel) (by decide +kernel)
theorem tw_448 : Cond.code my_R_multiply prog_4_method_8_code 4 (Option.none : Option FieldType) ∈ tb_ := tb_mem 448 (by decide +kernel) (by decide +kernel)
theorem tw_449 : Cond.methodLink "PartsAccumulatorLaw" 89 my_P_exclude ∈ tb_ := tb_mem 449 (by decide +kernel) (by decide +kernel)
theorem tw_450 : Cond.instanceMethod my_P_exclude ∈ tb_ := tb_mem 450 (by decide +kernel) (by decide +kernel)
theorem tw_451 : Cond.selects "PartsAccumulator" my_P_exclude my_P_exclude ∈ tb_ := tb_mem 451 (by decide +kernel) (by decide +kernel)
theorem tw_452 : Cond.code my_P_exclude prog_1_method_18_code 5 (Option.some FieldType.int) ∈ tb_ := tb_mem 452 (by decide +kernel) (by decide +kernel)
theorem tw_453 : Cond.methodLink "PartsAccumulatorLaw" 93 my_P_checkExclude ∈ tb_ := tb_mem 453 (by decide +kernel) (by decide +kernel)
theorem tw_454 : Cond.instanceMethod my_P_checkExclude ∈ tb_ := tb_mem 454 (by decide +kernel) (by decide +kernel)
theorem tw_455 : Cond.selects "PartsAccumulator" my_P_checkExclude my_P_checkExclude ∈ tb_ := tb_mem 455 (by decide +kernel) (by decide +kernel)
theorem tw_456 : Cond.code my_P_checkExclude prog_1_method_19_code 5 (Option.some FieldType.int) ∈ tb_ := tb_mem 456 (by decide +kernel) (by decide +kernel)
theorem tw_457 : Cond.classLink "PartsAccumulatorLaw" 10 "PartsAccumulatorModel" ∈ tb_ := tb_mem 457 (by decide +kernel) (by decide +kernel)
theorem tw_458 : Cond.instantiable "PartsAccumulatorModel" 22 ∈ tb_ := tb_mem 458 (by decide +kernel) (by decide +kernel)
theorem tw_459 : Cond.methodLink "PartsAccumulatorLaw" 12 my_M_init ∈ tb_ := tb_mem 459 (by decide +kernel) (by decide +kernel)
theorem tw_460 : Cond.instanceMethod my_M_init ∈ tb_ := tb_mem 460 (by decide +kernel) (by decide +kernel)
theorem tw_461 : Cond.code my_M_init prog_8_method_1_code 1 (Option.none : Option FieldType) ∈ tb_ := tb_mem 461 (by decide +kernel) (by decide +kernel)
theorem tw_462 : Cond.methodLink "PartsAccumulatorModel" 1 objectInit ∈ tb_ := tb_mem 462 (by decide +kernel) (by decide +kernel)
theorem tw_463 : Cond.constantLong "PartsAccumulatorModel" 7 (4794697085070296209 : Int64) ∈ tb_ := tb_mem 463 (by decide +kernel) (by decide +kernel)
theorem tw_464 : Cond.constantLong "PartsAccumulatorModel" 9 (-5349999486918337627 : Int64) ∈ tb_ := tb_mem 464 (by decide +kernel) (by decide +kernel)
theorem tw_465 : Cond.constantLong "PartsAccumulatorModel" 11 (4131703405765792241 : Int64) ∈ tb_ := tb_mem 465 (by decide +kernel) (by decide +kernel)
theorem tw_466 : Cond.constantLong "PartsAccumulatorModel" 13 (-7908458776882290987 : Int64) ∈ tb_ := tb_mem 466 (by decide +kernel) (by decide +kernel)
theorem tw_467 : Cond.constantLong "PartsAccumulatorModel" 15 (-2880145866557793535 : Int64) ∈ tb_ := tb_mem 467 (by decide +kernel) (by decide +kernel)
theorem tw_468 : Cond.constantLong "PartsAccumulatorModel" 17 (2608012711741390275 : Int64) ∈ tb_ := tb_mem 468 (by decide +kernel) (by decide +kernel)
theorem tw_469 : Cond.constantLong "PartsAccumulatorModel" 19 (8268148720858477054 : Int64) ∈ tb_ := tb_mem 469 (by decide +kernel) (by decide +kernel)
theorem tw_470 : Cond.constantLong "PartsAccumulatorModel" 21 (-7215885185376849548 : Int64) ∈ tb_ := tb_mem 470 (by decide +kernel) (by decide +kernel)
theorem tw_471 : Cond.constantLong "PartsAccumulatorModel" 23 (-1973867730000001146 : Int64) ∈ tb_ := tb_mem 471 (by decide +kernel) (by decide +kernel)
theorem tw_472 : Cond.constantLong "PartsAccumulatorModel" 25 (1135362055407968716 : Int64) ∈ tb_ := tb_mem 472 (by decide +kernel) (by decide +kernel)
theorem tw_473 : Cond.constantLong "PartsAccumulatorModel" 27 (3308224257782482090 : Int64) ∈ tb_ := tb_mem 473 (by decide +kernel) (by decide +kernel)
theorem tw_474 : Cond.constantLong "PartsAccumulatorModel" 29 (6679025011744409818 : Int64) ∈ tb_ := tb_mem 474 (by decide +kernel) (by decide +kernel)
theorem tw_475 : Cond.constantLong "PartsAccumulatorModel" 31 (-7476448915937442195 : Int64) ∈ tb_ := tb_mem 475 (by decide +kernel) (by decide +kernel)
theorem tw_476 : Cond.constantLong "PartsAccumulatorModel" 33 (-5763719354946846777 : Int64) ∈ tb_ := tb_mem 476 (by decide +kernel) (by decide +kernel)
theorem tw_477 : Cond.constantLong "PartsAccumulatorModel" 35 (-4116276917527146169 : Int64) ∈ tb_ := tb_mem 477 (by decide +kernel) (by decide +kernel)
theorem tw_478 : Cond.constantLong "PartsAccumulatorModel" 37 (489312709404862823 : Int64) ∈ tb_ := tb_mem 478 (by decide +kernel) (by decide +kernel)
theorem tw_479 : Cond.constantLong "PartsAccumulatorModel" 39 (2861767655337697592 : Int64) ∈ tb_ := tb_mem 479 (by decide +kernel) (by decide +kernel)
theorem tw_480 : Cond.constantLong "PartsAccumulatorModel" 41 (5560940570391088403 : Int64) ∈ tb_ := tb_mem 480 (by decide +kernel) (by decide +kernel)
theorem tw_481 : Cond.constantLong "PartsAccumulatorModel" 43 (7280758554198936251 : Int64) ∈ tb_ := tb_mem 481 (by decide +kernel) (by decide +kernel)
theorem tw_482 : Cond.constantLong "PartsAccumulatorModel" 45 (-9096487095472345979 : Int64) ∈ tb_ := tb_mem 482 (by decide +kernel) (by decide +kernel)
theorem tw_483 : Cond.constantLong "PartsAccumulatorModel" 47 (-6719396338005809589 : Int64) ∈ tb_ := tb_mem 483 (by decide +kernel) (by decide +kernel)
theorem tw_484 : Cond.constantLong "PartsAccumulatorModel" 49 (-4446306890599870045 : Int64) ∈ tb_ := tb_mem 484 (by decide +kernel) (by decide +kernel)
theorem tw_485 : Cond.constantLong "PartsAccumulatorModel" 51 (-3345356375510677980 : Int64) ∈ tb_ := tb_mem 485 (by decide +kernel) (by decide +kernel)
theorem tw_486 : Cond.constantLong "PartsAccumulatorModel" 53 (-860691633158840208 : Int64) ∈ tb_ := tb_mem 486 (by decide +kernel) (by decide +kernel)
theorem tw_487 : Cond.constantLong "PartsAccumulatorModel" 55 (1847814047869135880 : Int64) ∈ tb_ := tb_mem 487 (by decide +kernel) (by decide +kernel)
theorem tw_488 : Cond.constantLong "PartsAccumulatorModel" 57 (2830643534987574453 : Int64) ∈ tb_ := tb_mem 488 (by decide +kernel) (by decide +kernel)
theorem tw_489 : Cond.constantLong "PartsAccumulatorModel" 59 (4115178123771292234 : Int64) ∈ tb_ := tb_mem 489 (by decide +kernel) (by decide +kernel)
theorem tw_490 : Cond.constantLong "PartsAccumulatorModel" 61 (6601373596217405427 : Int64) ∈ tb_ := tb_mem 490 (by decide +kernel) (by decide +kernel)
theorem tw_491 : Cond.constantLong "PartsAccumulatorModel" 63 (8399075790807196527 : Int64) ∈ tb_ := tb_mem 491 (by decide +kernel) (by decide +kernel)
theorem tw_492 : Cond.constantLong "PartsAccumulatorModel" 65 (-8878714635704401400 : Int64) ∈ tb_ := tb_mem 492 (by decide +kernel) (by decide +kernel)
theorem tw_493 : Cond.constantLong "PartsAccumulatorModel" 67 (-8016688834709263125 : Int64) ∈ tb_ := tb_mem 493 (by decide +kernel) (by decide +kernel)
theorem tw_494 : Cond.constantLong "PartsAccumulatorModel" 69 (-4685533652720715534 : Int64) ∈ tb_ := tb_mem 494 (by decide +kernel) (by decide +kernel)
theorem tw_495 : Cond.fieldLink "PartsAccumulatorModel" 71 "PartsAccumulatorModel" "k" "[J" ∈ tb_ := tb_mem 495 (by decide +kernel) (by decide +kernel)
theorem tw_496 : Cond.fieldLink "PartsAccumulatorModel" 77 "PartsAccumulatorModel" "w" "[I" ∈ tb_ := tb_mem 496 (by decide +kernel) (by decide +kernel)
theorem tw_497 : Cond.fieldLink "PartsAccumulatorModel" 181 "PartsAccumulatorModel" "has" "Z" ∈ tb_ := tb_mem 497 (by decide +kernel) (by decide +kernel)
theorem tw_498 : Cond.fieldLink "PartsAccumulatorModel" 140 "PartsAccumulatorModel" "n1" "J" ∈ tb_ := tb_mem 498 (by decide +kernel) (by decide +kernel)
theorem tw_499 : Cond.fieldLink "PartsAccumulatorModel" 148 "PartsAccumulatorModel" "n0" "J" ∈ tb_ := tb_mem 499 (by decide +kernel) (by decide +kernel)
theorem tw_500 : Cond.fieldLink "PartsAccumulatorModel" 192 "PartsAccumulatorModel" "v1" "J" ∈ tb_ := tb_mem 500 (by decide +kernel) (by decide +kernel)
theorem tw_501 : Cond.fieldLink "PartsAccumulatorModel" 195 "PartsAccumulatorModel" "v0" "J" ∈ tb_ := tb_mem 501 (by decide +kernel) (by decide +kernel)
theorem tw_502 : Cond.fieldLink "PartsAccumulatorModel" 198 "PartsAccumulatorModel" "pending" "I" ∈ tb_ := tb_mem 502 (by decide +kernel) (by decide +kernel)
theorem tw_503 : Cond.fieldLink "PartsAccumulatorModel" 81 "PartsAccumulatorModel" "pendingSerials" "[J" ∈ tb_ := tb_mem 503 (by decide +kernel) (by decide +kernel)
theorem tw_504 : Cond.fieldLink "PartsAccumulatorModel" 84 "PartsAccumulatorModel" "pendingPrimes" "[I" ∈ tb_ := tb_mem 504 (by decide +kernel) (by decide +kernel)
theorem tw_505 : Cond.fieldLink "PartsAccumulatorModel" 209 "PartsAccumulatorModel" "now" "I" ∈ tb_ := tb_mem 505 (by decide +kernel) (by decide +kernel)
theorem tw_506 : Cond.fieldLink "PartsAccumulatorModel" 87 "PartsAccumulatorModel" "counts" "[I" ∈ tb_ := tb_mem 506 (by decide +kernel) (by decide +kernel)
theorem tw_507 : Cond.fieldLink "PartsAccumulatorModel" 90 "PartsAccumulatorModel" "serials" "[J" ∈ tb_ := tb_mem 507 (by decide +kernel) (by decide +kernel)
theorem tw_508 : Cond.fieldLink "PartsAccumulatorModel" 93 "PartsAccumulatorModel" "primes" "[I" ∈ tb_ := tb_mem 508 (by decide +kernel) (by decide +kernel)
theorem tw_509 : Cond.fieldLink "PartsAccumulatorModel" 96 "PartsAccumulatorModel" "upper" "[J" ∈ tb_ := tb_mem 509 (by decide +kernel) (by decide +kernel)
theorem tw_510 : Cond.fieldLink "PartsAccumulatorModel" 99 "PartsAccumulatorModel" "lower" "[J" ∈ tb_ := tb_mem 510 (by decide +kernel) (by decide +kernel)
theorem tw_511 : Cond.fieldLink "PartsAccumulatorModel" 226 "PartsAccumulatorModel" "hand1" "J" ∈ tb_ := tb_mem 511 (by decide +kernel) (by decide +kernel)
theorem tw_512 : Cond.fieldLink "PartsAccumulatorModel" 229 "PartsAccumulatorModel" "hand0" "J" ∈ tb_ := tb_mem 512 (by decide +kernel) (by decide +kernel)
theorem tw_513 : Cond.fieldLink "PartsAccumulatorModel" 232 "PartsAccumulatorModel" "factor" "I" ∈ tb_ := tb_mem 513 (by decide +kernel) (by decide +kernel)
theorem tw_514 : Cond.fieldLink "PartsAccumulatorModel" 154 "PartsAccumulatorModel" "r1" "J" ∈ tb_ := tb_mem 514 (by decide +kernel) (by decide +kernel)
theorem tw_515 : Cond.fieldLink "PartsAccumulatorModel" 151 "PartsAccumulatorModel" "r0" "J" ∈ tb_ := tb_mem 515 (by decide +kernel) (by decide +kernel)
theorem tw_516 : Cond.fieldLink "PartsAccumulatorModel" 102 "PartsAccumulatorModel" "words" "[I" ∈ tb_ := tb_mem 516 (by decide +kernel) (by decide +kernel)
theorem tw_517 : Cond.laysFinal "PartsAccumulatorModel" "PartsAccumulatorModel" "k" "[J" ∈ tb_ := tb_mem 517 (by decide +kernel) (by decide +kernel)
theorem tw_519 : Cond.laysFinal "PartsAccumulatorModel" "PartsAccumulatorModel" "w" "[I" ∈ tb_ := tb_mem 519 (by decide +kernel) (by decide +kernel)
theorem tw_521 : Cond.lays "PartsAccumulatorModel" "PartsAccumulatorModel" "has" "Z" ∈ tb_ := tb_mem 521 (by decide +kernel) (by decide +kernel)
theorem tw_523 : Cond.lays "PartsAccumulatorModel" "PartsAccumulatorModel" "n1" "J" ∈ tb_ := tb_mem 523 (by decide +kernel) (by decide +kernel)
theorem tw_525 : Cond.lays "PartsAccumulatorModel" "PartsAccumulatorModel" "n0" "J" ∈ tb_ := tb_mem 525 (by decide +kernel) (by decide +kernel)
theorem tw_527 : Cond.lays "PartsAccumulatorModel" "PartsAccumulatorModel" "v1" "J" ∈ tb_ := tb_mem 527 (by decide +kernel) (by decide +kernel)
theorem tw_529 : Cond.lays "PartsAccumulatorModel" "PartsAccumulatorModel" "v0" "J" ∈ tb_ := tb_mem 529 (by decide +kernel) (by decide +kernel)
theorem tw_531 : Cond.lays "PartsAccumulatorModel" "PartsAccumulatorModel" "pending" "I" ∈ tb_ := tb_mem 531 (by decide +kernel) (by decide +kernel)
theorem tw_533 : Cond.laysFinal "PartsAccumulatorModel" "PartsAccumulatorModel" "pendingSerials" "[J" ∈ tb_ := tb_mem 533 (by decide +kernel) (by decide +kernel)
theorem tw_535 : Cond.laysFinal "PartsAccumulatorModel" "PartsAccumulatorModel" "pendingPrimes" "[I" ∈ tb_ := tb_mem 535 (by decide +kernel) (by decide +kernel)
theorem tw_537 : Cond.lays "PartsAccumulatorModel" "PartsAccumulatorModel" "now" "I" ∈ tb_ := tb_mem 537 (by decide +kernel) (by decide +kernel)
theorem tw_539 : Cond.laysFinal "PartsAccumulatorModel" "PartsAccumulatorModel" "counts" "[I" ∈ tb_ := tb_mem 539 (by decide +kernel) (by decide +kernel)
theorem tw_541 : Cond.laysFinal "PartsAccumulatorModel" "PartsAccumulatorModel" "serials" "[J" ∈ tb_ := tb_mem 541 (by decide +kernel) (by decide +kernel)
theorem tw_543 : Cond.laysFinal "PartsAccumulatorModel" "PartsAccumulatorModel" "primes" "[I" ∈ tb_ := tb_mem 543 (by decide +kernel) (by decide +kernel)
theorem tw_545 : Cond.laysFinal "PartsAccumulatorModel" "PartsAccumulatorModel" "upper" "[J" ∈ tb_ := tb_mem 545 (by decide +kernel) (by decide +kernel)
theorem tw_547 : Cond.laysFinal "PartsAccumulatorModel" "PartsAccumulatorModel" "lower" "[J" ∈ tb_ := tb_mem 547 (by decide +kernel) (by decide +kernel)
theorem tw_549 : Cond.lays "PartsAccumulatorModel" "PartsAccumulatorModel" "hand1" "J" ∈ tb_ := tb_mem 549 (by decide +kernel) (by decide +kernel)
theorem tw_551 : Cond.lays "PartsAccumulatorModel" "PartsAccumulatorModel" "hand0" "J" ∈ tb_ := tb_mem 551 (by decide +kernel) (by decide +kernel)
theorem tw_553 : Cond.lays "PartsAccumulatorModel" "PartsAccumulatorModel" "factor" "I" ∈ tb_ := tb_mem 553 (by decide +kernel) (by decide +kernel)
theorem tw_555 : Cond.lays "PartsAccumulatorModel" "PartsAccumulatorModel" "r1" "J" ∈ tb_ := tb_mem 555 (by decide +kernel) (by decide +kernel)
theorem tw_557 : Cond.lays "PartsAccumulatorModel" "PartsAccumulatorModel" "r0" "J" ∈ tb_ := tb_mem 557 (by decide +kernel) (by decide +kernel)
theorem tw_559 : Cond.laysFinal "PartsAccumulatorModel" "PartsAccumulatorModel" "words" "[I" ∈ tb_ := tb_mem 559 (by decide +kernel) (by decide +kernel)
theorem tw_562 : Cond.methodLink "PartsAccumulatorLaw" 24 my_M_prime ∈ tb_ := tb_mem 562 (by decide +kernel) (by decide +kernel)
theorem tw_563 : Cond.instanceMethod my_M_prime ∈ tb_ := tb_mem 563 (by decide +kernel) (by decide +kernel)
theorem tw_564 : Cond.selects "PartsAccumulatorModel" my_M_prime my_M_prime ∈ tb_ := tb_mem 564 (by decide +kernel) (by decide +kernel)
theorem tw_565 : Cond.code my_M_prime prog_8_method_6_code 5 (Option.some FieldType.int) ∈ tb_ := tb_mem 565 (by decide +kernel) (by decide +kernel)
theorem tw_566 : Cond.methodLink "PartsAccumulatorModel" 124 my_M_isSerial ∈ tb_ := tb_mem 566 (by decide +kernel) (by decide +kernel)
theorem tw_567 : Cond.static my_M_isSerial ∈ tb_ := tb_mem 567 (by decide +kernel) (by decide +kernel)
theorem tw_568 : Cond.code my_M_isSerial prog_8_method_5_code 2 (Option.some FieldType.boolean) ∈ tb_ := tb_mem 568 (by decide +kernel) (by decide +kernel)
theorem tw_569 : Cond.constantLong "PartsAccumulatorModel" 122 (1099511627776 : Int64) ∈ tb_ := tb_mem 569 (by decide +kernel) (by decide +kernel)
theorem tw_570 : Cond.methodLink "PartsAccumulatorModel" 128 my_M_hash ∈ tb_ := tb_mem 570 (by decide +kernel) (by decide +kernel)
theorem tw_572 : Cond.instanceMethod my_M_hash ∈ tb_ := tb_mem 572 (by decide +kernel) (by decide +kernel)
theorem tw_573 : Cond.code my_M_hash prog_8_method_3_code 15 (Option.some FieldType.int) ∈ tb_ := tb_mem 573 (by decide +kernel) (by decide +kernel)
theorem tw_574 : Cond.constant "PartsAccumulatorModel" 105 (-2147483648 : Int32) ∈ tb_ := tb_mem 574 (by decide +kernel) (by decide +kernel)
theorem tw_575 : Cond.methodLink "PartsAccumulatorModel" 106 my_M_right ∈ tb_ := tb_mem 575 (by decide +kernel) (by decide +kernel)
theorem tw_576 : Cond.static my_M_right ∈ tb_ := tb_mem 576 (by decide +kernel) (by decide +kernel)
theorem tw_577 : Cond.code my_M_right prog_8_method_2_code 2 (Option.some FieldType.int) ∈ tb_ := tb_mem 577 (by decide +kernel) (by decide +kernel)
theorem tw_578 : Cond.constant "PartsAccumulatorModel" 110 (1779033703 : Int32) ∈ tb_ := tb_mem 578 (by decide +kernel) (by decide +kernel)
theorem tw_579 : Cond.constant "PartsAccumulatorModel" 111 (-1150833019 : Int32) ∈ tb_ := tb_mem 579 (by decide +kernel) (by decide +kernel)
theorem tw_580 : Cond.constant "PartsAccumulatorModel" 112 (-1521486534 : Int32) ∈ tb_ := tb_mem 580 (by decide +kernel) (by decide +kernel)
theorem tw_581 : Cond.constant "PartsAccumulatorModel" 113 (1359893119 : Int32) ∈ tb_ := tb_mem 581 (by decide +kernel) (by decide +kernel)
theorem tw_582 : Cond.constant "PartsAccumulatorModel" 114 (-1694144372 : Int32) ∈ tb_ := tb_mem 582 (by decide +kernel) (by decide +kernel)
theorem tw_583 : Cond.constant "PartsAccumulatorModel" 115 (528734635 : Int32) ∈ tb_ := tb_mem 583 (by decide +kernel) (by decide +kernel)
theorem tw_584 : Cond.constant "PartsAccumulatorModel" 116 (1541459225 : Int32) ∈ tb_ := tb_mem 584 (by decide +kernel) (by decide +kernel)
theorem tw_585 : Cond.constant "PartsAccumulatorModel" 117 (1013904242 : Int32) ∈ tb_ := tb_mem 585 (by decide +kernel) (by decide +kernel)
theorem tw_586 : Cond.constant "PartsAccumulatorModel" 132 (2147483647 : Int32) ∈ tb_ := tb_mem 586 (by decide +kernel) (by decide +kernel)
theorem tw_587 : Cond.constant "PartsAccumulatorModel" 133 (1073741824 : Int32) ∈ tb_ := tb_mem 587 (by decide +kernel) (by decide +kernel)
theorem tw_588 : Cond.methodLink "PartsAccumulatorModel" 134 my_M_isPrime ∈ tb_ := tb_mem 588 (by decide +kernel) (by decide +kernel)
theorem tw_589 : Cond.static my_M_isPrime ∈ tb_ := tb_mem 589 (by decide +kernel) (by decide +kernel)
theorem tw_590 : Cond.code my_M_isPrime prog_8_method_4_code 3 (Option.some FieldType.boolean) ∈ tb_ := tb_mem 590 (by decide +kernel) (by decide +kernel)
theorem tw_591 : Cond.constantLong "PartsAccumulatorModel" 118 (3 : Int64) ∈ tb_ := tb_mem 591 (by decide +kernel) (by decide +kernel)
theorem tw_592 : Cond.constantLong "PartsAccumulatorModel" 120 (2 : Int64) ∈ tb_ := tb_mem 592 (by decide +kernel) (by decide +kernel)
theorem tw_593 : Cond.methodLink "PartsAccumulatorLaw" 19 my_M_modulus ∈ tb_ := tb_mem 593 (by decide +kernel) (by decide +kernel)
theorem tw_594 : Cond.instanceMethod my_M_modulus ∈ tb_ := tb_mem 594 (by decide +kernel) (by decide +kernel)
theorem tw_595 : Cond.selects "PartsAccumulatorModel" my_M_modulus my_M_modulus ∈ tb_ := tb_mem 595 (by decide +kernel) (by decide +kernel)
theorem tw_596 : Cond.code my_M_modulus prog_8_method_18_code 5 (Option.some FieldType.boolean) ∈ tb_ := tb_mem 596 (by decide +kernel) (by decide +kernel)
theorem tw_597 : Cond.methodLink "PartsAccumulatorModel" 185 my_M_thirds ∈ tb_ := tb_mem 597 (by decide +kernel) (by decide +kernel)
theorem tw_598 : Cond.static my_M_thirds ∈ tb_ := tb_mem 598 (by decide +kernel) (by decide +kernel)
theorem tw_599 : Cond.code my_M_thirds prog_8_method_17_code 2 (Option.some FieldType.long) ∈ tb_ := tb_mem 599 (by decide +kernel) (by decide +kernel)
theorem tw_600 : Cond.constantLong "PartsAccumulatorModel" 179 (4294967295 : Int64) ∈ tb_ := tb_mem 600 (by decide +kernel) (by decide +kernel)
theorem tw_601 : Cond.methodLink "PartsAccumulatorModel" 189 my_M_findThird ∈ tb_ := tb_mem 601 (by decide +kernel) (by decide +kernel)
theorem tw_603 : Cond.instanceMethod my_M_findThird ∈ tb_ := tb_mem 603 (by decide +kernel) (by decide +kernel)
theorem tw_604 : Cond.code my_M_findThird prog_8_method_19_code 7 (Option.none : Option FieldType) ∈ tb_ := tb_mem 604 (by decide +kernel) (by decide +kernel)
theorem tw_605 : Cond.methodLink "PartsAccumulatorModel" 160 my_M_plus ∈ tb_ := tb_mem 605 (by decide +kernel) (by decide +kernel)
theorem tw_607 : Cond.instanceMethod my_M_plus ∈ tb_ := tb_mem 607 (by decide +kernel) (by decide +kernel)
theorem tw_608 : Cond.code my_M_plus prog_8_method_9_code 14 (Option.none : Option FieldType) ∈ tb_ := tb_mem 608 (by decide +kernel) (by decide +kernel)
theorem tw_609 : Cond.methodLink "PartsAccumulatorModel" 144 my_M_isLess ∈ tb_ := tb_mem 609 (by decide +kernel) (by decide +kernel)
theorem tw_610 : Cond.static my_M_isLess ∈ tb_ := tb_mem 610 (by decide +kernel) (by decide +kernel)
theorem tw_611 : Cond.code my_M_isLess prog_8_method_7_code 4 (Option.some FieldType.boolean) ∈ tb_ := tb_mem 611 (by decide +kernel) (by decide +kernel)
theorem tw_612 : Cond.constantLong "PartsAccumulatorModel" 138 (-9223372036854775808 : Int64) ∈ tb_ := tb_mem 612 (by decide +kernel) (by decide +kernel)
theorem tw_613 : Cond.methodLink "PartsAccumulatorModel" 157 my_M_isBelowN ∈ tb_ := tb_mem 613 (by decide +kernel) (by decide +kernel)
theorem tw_615 : Cond.instanceMethod my_M_isBelowN ∈ tb_ := tb_mem 615 (by decide +kernel) (by decide +kernel)
theorem tw_616 : Cond.code my_M_isBelowN prog_8_method_8_code 5 (Option.some FieldType.boolean) ∈ tb_ := tb_mem 616 (by decide +kernel) (by decide +kernel)
theorem tw_617 : Cond.methodLink "PartsAccumulatorLaw" 28 my_M_add ∈ tb_ := tb_mem 617 (by decide +kernel) (by decide +kernel)
theorem tw_618 : Cond.instanceMethod my_M_add ∈ tb_ := tb_mem 618 (by decide +kernel) (by decide +kernel)
theorem tw_619 : Cond.selects "PartsAccumulatorModel" my_M_add my_M_add ∈ tb_ := tb_mem 619 (by decide +kernel) (by decide +kernel)
theorem tw_620 : Cond.code my_M_add prog_8_method_22_code 5 (Option.some FieldType.int) ∈ tb_ := tb_mem 620 (by decide +kernel) (by decide +kernel)
theorem tw_621 : Cond.methodLink "PartsAccumulatorModel" 202 my_M_prime ∈ tb_ := tb_mem 621 (by decide +kernel) (by decide +kernel)
theorem tw_622 : Cond.methodLink "PartsAccumulatorModel" 206 my_M_pendingAt ∈ tb_ := tb_mem 622 (by decide +kernel) (by decide +kernel)
theorem tw_624 : Cond.instanceMethod my_M_pendingAt ∈ tb_ := tb_mem 624 (by decide +kernel) (by decide +kernel)
theorem tw_625 : Cond.code my_M_pendingAt prog_8_method_20_code 4 (Option.some FieldType.int) ∈ tb_ := tb_mem 625 (by decide +kernel) (by decide +kernel)
theorem tw_626 : Cond.methodLink "PartsAccumulatorLaw" 32 my_M_remove ∈ tb_ := tb_mem 626 (by decide +kernel) (by decide +kernel)
theorem tw_627 : Cond.instanceMethod my_M_remove ∈ tb_ := tb_mem 627 (by decide +kernel) (by decide +kernel)
theorem tw_628 : Cond.selects "PartsAccumulatorModel" my_M_remove my_M_remove ∈ tb_ := tb_mem 628 (by decide +kernel) (by decide +kernel)
theorem tw_629 : Cond.code my_M_remove prog_8_method_23_code 5 (Option.some FieldType.int) ∈ tb_ := tb_mem 629 (by decide +kernel) (by decide +kernel)
theorem tw_630 : Cond.methodLink "PartsAccumulatorLaw" 37 my_M_close ∈ tb_ := tb_mem 630 (by decide +kernel) (by decide +kernel)
theorem tw_631 : Cond.instanceMethod my_M_close ∈ tb_ := tb_mem 631 (by decide +kernel) (by decide +kernel)
theorem tw_632 : Cond.selects "PartsAccumulatorModel" my_M_close my_M_close ∈ tb_ := tb_mem 632 (by decide +kernel) (by decide +kernel)
theorem tw_633 : Cond.code my_M_close prog_8_method_24_code 2 (Option.some FieldType.int) ∈ tb_ := tb_mem 633 (by decide +kernel) (by decide +kernel)
theorem tw_634 : Cond.methodLink "PartsAccumulatorModel" 212 my_M_power ∈ tb_ := tb_mem 634 (by decide +kernel) (by decide +kernel)
theorem tw_636 : Cond.instanceMethod my_M_power ∈ tb_ := tb_mem 636 (by decide +kernel) (by decide +kernel)
theorem tw_637 : Cond.code my_M_power prog_8_method_11_code 11 (Option.none : Option FieldType) ∈ tb_ := tb_mem 637 (by decide +kernel) (by decide +kernel)
theorem tw_638 : Cond.methodLink "PartsAccumulatorModel" 164 my_M_multiply ∈ tb_ := tb_mem 638 (by decide +kernel) (by decide +kernel)
theorem tw_640 : Cond.instanceMethod my_M_multiply ∈ tb_ := tb_mem 640 (by decide +kernel) (by decide +kernel)
theorem tw_641 : Cond.code my_M_multiply prog_8_method_10_code 14 (Option.none : Option FieldType) ∈ tb_ := tb_mem 641 (by decide +kernel) (by decide +kernel)
theorem tw_642 : Cond.methodLink "PartsAccumulatorLaw" 42 my_M_size ∈ tb_ := tb_mem 642 (by decide +kernel) (by decide +kernel)
theorem tw_643 : Cond.instanceMethod my_M_size ∈ tb_ := tb_mem 643 (by decide +kernel) (by decide +kernel)
theorem tw_644 : Cond.selects "PartsAccumulatorModel" my_M_size my_M_size ∈ tb_ := tb_mem 644 (by decide +kernel) (by decide +kernel)
theorem tw_645 : Cond.code my_M_size prog_8_method_25_code 2 (Option.some FieldType.int) ∈ tb_ := tb_mem 645 (by decide +kernel) (by decide +kernel)
theorem tw_646 : Cond.methodLink "PartsAccumulatorLaw" 46 my_M_state ∈ tb_ := tb_mem 646 (by decide +kernel) (by decide +kernel)
theorem tw_647 : Cond.instanceMethod my_M_state ∈ tb_ := tb_mem 647 (by decide +kernel) (by decide +kernel)
theorem tw_648 : Cond.selects "PartsAccumulatorModel" my_M_state my_M_state ∈ tb_ := tb_mem 648 (by decide +kernel) (by decide +kernel)
theorem tw_649 : Cond.code my_M_state prog_8_method_26_code 3 (Option.some FieldType.int) ∈ tb_ := tb_mem 649 (by decide +kernel) (by decide +kernel)
theorem tw_650 : Cond.methodLink "PartsAccumulatorModel" 216 my_M_placeIn ∈ tb_ := tb_mem 650 (by decide +kernel) (by decide +kernel)
theorem tw_652 : Cond.instanceMethod my_M_placeIn ∈ tb_ := tb_mem 652 (by decide +kernel) (by decide +kernel)
theorem tw_653 : Cond.code my_M_placeIn prog_8_method_21_code 5 (Option.some FieldType.int) ∈ tb_ := tb_mem 653 (by decide +kernel) (by decide +kernel)
theorem tw_654 : Cond.methodLink "PartsAccumulatorLaw" 51 my_M_accumulator ∈ tb_ := tb_mem 654 (by decide +kernel) (by decide +kernel)
theorem tw_655 : Cond.instanceMethod my_M_accumulator ∈ tb_ := tb_mem 655 (by decide +kernel) (by decide +kernel)
theorem tw_656 : Cond.selects "PartsAccumulatorModel" my_M_accumulator my_M_accumulator ∈ tb_ := tb_mem 656 (by decide +kernel) (by decide +kernel)
theorem tw_657 : Cond.code my_M_accumulator prog_8_method_28_code 3 (Option.some FieldType.long) ∈ tb_ := tb_mem 657 (by decide +kernel) (by decide +kernel)
theorem tw_658 : Cond.methodLink "PartsAccumulatorModel" 220 my_M_isEpoch ∈ tb_ := tb_mem 658 (by decide +kernel) (by decide +kernel)
theorem tw_660 : Cond.instanceMethod my_M_isEpoch ∈ tb_ := tb_mem 660 (by decide +kernel) (by decide +kernel)
theorem tw_661 : Cond.code my_M_isEpoch prog_8_method_27_code 2 (Option.some FieldType.boolean) ∈ tb_ := tb_mem 661 (by decide +kernel) (by decide +kernel)
theorem tw_662 : Cond.methodLink "PartsAccumulatorLaw" 56 my_M_note ∈ tb_ := tb_mem 662 (by decide +kernel) (by decide +kernel)
theorem tw_663 : Cond.instanceMethod my_M_note ∈ tb_ := tb_mem 663 (by decide +kernel) (by decide +kernel)
theorem tw_664 : Cond.selects "PartsAccumulatorModel" my_M_note my_M_note ∈ tb_ := tb_mem 664 (by decide +kernel) (by decide +kernel)
theorem tw_665 : Cond.code my_M_note prog_8_method_29_code 8 (Option.some FieldType.int) ∈ tb_ := tb_mem 665 (by decide +kernel) (by decide +kernel)
theorem tw_666 : Cond.methodLink "PartsAccumulatorLaw" 61 my_M_witness ∈ tb_ := tb_mem 666 (by decide +kernel) (by decide +kernel)
theorem tw_667 : Cond.instanceMethod my_M_witness ∈ tb_ := tb_mem 667 (by decide +kernel) (by decide +kernel)
theorem tw_668 : Cond.selects "PartsAccumulatorModel" my_M_witness my_M_witness ∈ tb_ := tb_mem 668 (by decide +kernel) (by decide +kernel)
theorem tw_669 : Cond.code my_M_witness prog_8_method_31_code 5 (Option.some FieldType.long) ∈ tb_ := tb_mem 669 (by decide +kernel) (by decide +kernel)
theorem tw_670 : Cond.methodLink "PartsAccumulatorModel" 223 my_M_issued ∈ tb_ := tb_mem 670 (by decide +kernel) (by decide +kernel)
theorem tw_672 : Cond.instanceMethod my_M_issued ∈ tb_ := tb_mem 672 (by decide +kernel) (by decide +kernel)
theorem tw_673 : Cond.code my_M_issued prog_8_method_30_code 3 (Option.none : Option FieldType) ∈ tb_ := tb_mem 673 (by decide +kernel) (by decide +kernel)
theorem tw_674 : Cond.methodLink "PartsAccumulatorLaw" 65 my_M_issue ∈ tb_ := tb_mem 674 (by decide +kernel) (by decide +kernel)
theorem tw_675 : Cond.instanceMethod my_M_issue ∈ tb_ := tb_mem 675 (by decide +kernel) (by decide +kernel)
theorem tw_676 : Cond.selects "PartsAccumulatorModel" my_M_issue my_M_issue ∈ tb_ := tb_mem 676 (by decide +kernel) (by decide +kernel)
theorem tw_677 : Cond.code my_M_issue prog_8_method_32_code 4 (Option.some FieldType.int) ∈ tb_ := tb_mem 677 (by decide +kernel) (by decide +kernel)
theorem tw_678 : Cond.methodLink "PartsAccumulatorLaw" 70 my_M_hold ∈ tb_ := tb_mem 678 (by decide +kernel) (by decide +kernel)
theorem tw_679 : Cond.instanceMethod my_M_hold ∈ tb_ := tb_mem 679 (by decide +kernel) (by decide +kernel)
theorem tw_680 : Cond.selects "PartsAccumulatorModel" my_M_hold my_M_hold ∈ tb_ := tb_mem 680 (by decide +kernel) (by decide +kernel)
theorem tw_681 : Cond.code my_M_hold prog_8_method_33_code 6 (Option.some FieldType.boolean) ∈ tb_ := tb_mem 681 (by decide +kernel) (by decide +kernel)
theorem tw_682 : Cond.methodLink "PartsAccumulatorLaw" 75 my_M_hand ∈ tb_ := tb_mem 682 (by decide +kernel) (by decide +kernel)
theorem tw_683 : Cond.instanceMethod my_M_hand ∈ tb_ := tb_mem 683 (by decide +kernel) (by decide +kernel)
theorem tw_684 : Cond.selects "PartsAccumulatorModel" my_M_hand my_M_hand ∈ tb_ := tb_mem 684 (by decide +kernel) (by decide +kernel)
theorem tw_685 : Cond.code my_M_hand prog_8_method_34_code 2 (Option.some FieldType.long) ∈ tb_ := tb_mem 685 (by decide +kernel) (by decide +kernel)
theorem tw_686 : Cond.methodLink "PartsAccumulatorLaw" 79 my_M_factor ∈ tb_ := tb_mem 686 (by decide +kernel) (by decide +kernel)
theorem tw_687 : Cond.instanceMethod my_M_factor ∈ tb_ := tb_mem 687 (by decide +kernel) (by decide +kernel)
theorem tw_688 : Cond.selects "PartsAccumulatorModel" my_M_factor my_M_factor ∈ tb_ := tb_mem 688 (by decide +kernel) (by decide +kernel)
theorem tw_689 : Cond.code my_M_factor prog_8_method_35_code 1 (Option.some FieldType.int) ∈ tb_ := tb_mem 689 (by decide +kernel) (by decide +kernel)
theorem tw_690 : Cond.methodLink "PartsAccumulatorLaw" 84 my_M_check ∈ tb_ := tb_mem 690 (by decide +kernel) (by decide +kernel)
theorem tw_691 : Cond.instanceMethod my_M_check ∈ tb_ := tb_mem 691 (by decide +kernel) (by decide +kernel)
theorem tw_692 : Cond.selects "PartsAccumulatorModel" my_M_check my_M_check ∈ tb_ := tb_mem 692 (by decide +kernel) (by decide +kernel)
theorem tw_693 : Cond.code my_M_check prog_8_method_37_code 5 (Option.some FieldType.int) ∈ tb_ := tb_mem 693 (by decide +kernel) (by decide +kernel)
theorem tw_694 : Cond.methodLink "PartsAccumulatorModel" 235 my_M_isWitness ∈ tb_ := tb_mem 694 (by decide +kernel) (by decide +kernel)
theorem tw_696 : Cond.instanceMethod my_M_isWitness ∈ tb_ := tb_mem 696 (by decide +kernel) (by decide +kernel)
theorem tw_697 : Cond.code my_M_isWitness prog_8_method_36_code 3 (Option.some FieldType.boolean) ∈ tb_ := tb_mem 697 (by decide +kernel) (by decide +kernel)
theorem tw_698 : Cond.methodLink "PartsAccumulatorLaw" 88 my_M_advance ∈ tb_ := tb_mem 698 (by decide +kernel) (by decide +kernel)
theorem tw_699 : Cond.instanceMethod my_M_advance ∈ tb_ := tb_mem 699 (by decide +kernel) (by decide +kernel)
theorem tw_700 : Cond.selects "PartsAccumulatorModel" my_M_advance my_M_advance ∈ tb_ := tb_mem 700 (by decide +kernel) (by decide +kernel)
theorem tw_701 : Cond.code my_M_advance prog_8_method_39_code 6 (Option.some FieldType.int) ∈ tb_ := tb_mem 701 (by decide +kernel) (by decide +kernel)
theorem tw_702 : Cond.methodLink "PartsAccumulatorModel" 250 my_M_moveTo ∈ tb_ := tb_mem 702 (by decide +kernel) (by decide +kernel)
theorem tw_704 : Cond.instanceMethod my_M_moveTo ∈ tb_ := tb_mem 704 (by decide +kernel) (by decide +kernel)
theorem tw_705 : Cond.code my_M_moveTo prog_8_method_38_code 5 (Option.none : Option FieldType) ∈ tb_ := tb_mem 705 (by decide +kernel) (by decide +kernel)
theorem tw_706 : Cond.methodLink "PartsAccumulatorModel" 239 my_M_beginWords ∈ tb_ := tb_mem 706 (by decide +kernel) (by decide +kernel)
theorem tw_708 : Cond.instanceMethod my_M_beginWords ∈ tb_ := tb_mem 708 (by decide +kernel) (by decide +kernel)
theorem tw_709 : Cond.code my_M_beginWords prog_8_method_13_code 2 (Option.none : Option FieldType) ∈ tb_ := tb_mem 709 (by decide +kernel) (by decide +kernel)
theorem tw_710 : Cond.methodLink "PartsAccumulatorModel" 175 my_M_multiplyWords ∈ tb_ := tb_mem 710 (by decide +kernel) (by decide +kernel)
theorem tw_712 : Cond.instanceMethod my_M_multiplyWords ∈ tb_ := tb_mem 712 (by decide +kernel) (by decide +kernel)
theorem tw_713 : Cond.code my_M_multiplyWords prog_8_method_14_code 5 (Option.none : Option FieldType) ∈ tb_ := tb_mem 713 (by decide +kernel) (by decide +kernel)
theorem tw_714 : Cond.constantLong "PartsAccumulatorModel" 167 (65535 : Int64) ∈ tb_ := tb_mem 714 (by decide +kernel) (by decide +kernel)
theorem tw_715 : Cond.methodLink "PartsAccumulatorModel" 242 my_M_invertWords ∈ tb_ := tb_mem 715 (by decide +kernel) (by decide +kernel)
theorem tw_717 : Cond.instanceMethod my_M_invertWords ∈ tb_ := tb_mem 717 (by decide +kernel) (by decide +kernel)
theorem tw_718 : Cond.code my_M_invertWords prog_8_method_16_code 9 (Option.some FieldType.int) ∈ tb_ := tb_mem 718 (by decide +kernel) (by decide +kernel)
theorem tw_719 : Cond.methodLink "PartsAccumulatorModel" 171 my_M_restOfWords ∈ tb_ := tb_mem 719 (by decide +kernel) (by decide +kernel)
theorem tw_721 : Cond.instanceMethod my_M_restOfWords ∈ tb_ := tb_mem 721 (by decide +kernel) (by decide +kernel)
theorem tw_722 : Cond.code my_M_restOfWords prog_8_method_15_code 5 (Option.some FieldType.long) ∈ tb_ := tb_mem 722 (by decide +kernel) (by decide +kernel)
theorem tw_723 : Cond.constantLong "PartsAccumulatorModel" 169 (65536 : Int64) ∈ tb_ := tb_mem 723 (by decide +kernel) (by decide +kernel)
theorem tw_724 : Cond.methodLink "PartsAccumulatorModel" 246 my_M_powerOfWords ∈ tb_ := tb_mem 724 (by decide +kernel) (by decide +kernel)
theorem tw_726 : Cond.instanceMethod my_M_powerOfWords ∈ tb_ := tb_mem 726 (by decide +kernel) (by decide +kernel)
theorem tw_727 : Cond.code my_M_powerOfWords prog_8_method_12_code 11 (Option.none : Option FieldType) ∈ tb_ := tb_mem 727 (by decide +kernel) (by decide +kernel)
theorem tw_728 : Cond.methodLink "PartsAccumulatorLaw" 92 my_M_exclude ∈ tb_ := tb_mem 728 (by decide +kernel) (by decide +kernel)
theorem tw_729 : Cond.instanceMethod my_M_exclude ∈ tb_ := tb_mem 729 (by decide +kernel) (by decide +kernel)
theorem tw_730 : Cond.selects "PartsAccumulatorModel" my_M_exclude my_M_exclude ∈ tb_ := tb_mem 730 (by decide +kernel) (by decide +kernel)
theorem tw_731 : Cond.code my_M_exclude prog_8_method_40_code 5 (Option.some FieldType.int) ∈ tb_ := tb_mem 731 (by decide +kernel) (by decide +kernel)
theorem tw_732 : Cond.methodLink "PartsAccumulatorLaw" 96 my_M_checkExclude ∈ tb_ := tb_mem 732 (by decide +kernel) (by decide +kernel)
theorem tw_733 : Cond.instanceMethod my_M_checkExclude ∈ tb_ := tb_mem 733 (by decide +kernel) (by decide +kernel)
theorem tw_734 : Cond.selects "PartsAccumulatorModel" my_M_checkExclude my_M_checkExclude ∈ tb_ := tb_mem 734 (by decide +kernel) (by decide +kernel)
theorem tw_735 : Cond.code my_M_checkExclude prog_8_method_41_code 9 (Option.some FieldType.int) ∈ tb_ := tb_mem 735 (by decide +kernel) (by decide +kernel)
theorem tw_736 : Cond.constantLong "PartsAccumulatorLaw" 13 (4294967295 : Int64) ∈ tb_ := tb_mem 736 (by decide +kernel) (by decide +kernel)
end
section
/-! a memory as a map of addresses; contracts over the whole known memory; rows for each instruction that reads or writes it -/
abbrev mg_ : Type := va_G × ClassId × ClassId × ClassId × Nat × Nat
abbrev gD (G : mg_) : va_G := G.1
abbrev gI (G : mg_) : ClassId := G.2.1
abbrev gL (G : mg_) : ClassId := G.2.2.1
abbrev gE (G : mg_) : ClassId := G.2.2.2.1
abbrev gz (G : mg_) : Nat := G.2.2.2.2.1
abbrev gk (G : mg_) : Nat := G.2.2.2.2.2
abbrev mw_ : Type := Nat → Option va_E
def mu_ (M : mw_) (a : Nat) (e : va_E) : mw_ := fun q => if q = a then some e else M q
theorem mu_s {M : mw_} {a : Nat} {e : va_E} : mu_ M a e a = some e := if_pos rfl
theorem mu_n {M : mw_} {a b : Nat} {e : va_E} (h : b ≠ a) : mu_ M a e b = M b := if_neg h
theorem mu_n' {M : mw_} {a b : Nat} {e : va_E} {x : Option va_E} (h : b ≠ a) (k : M b = x) : mu_ M a e b = x := (mu_n h).trans k
theorem mu_mu {M : mw_} {a : Nat} {e f : va_E} : mu_ (mu_ M a e) a f = mu_ M a f := by
  funext q
  by_cases h : q = a <;> simp [mu_, h]
theorem mu_id {M : mw_} {a : Nat} {e : va_E} (h : M a = some e) : mu_ M a e = M := by
  funext q
  by_cases hq : q = a
  · subst hq; simp [mu_, h]
  · simp [mu_, hq]
theorem mu_sw {M : mw_} {a b : Nat} {e f : va_E} (h : a ≠ b) : mu_ (mu_ M a e) b f = mu_ (mu_ M b f) a e := by
  funext q
  by_cases h1 : q = a
  · subst h1; simp [mu_, h]
  · simp [mu_, h1]
theorem mu_c2 {M : mw_} {a b : Nat} {e e' f : va_E} (h : a ≠ b) : mu_ (mu_ (mu_ M a e) b f) a e' = mu_ (mu_ M a e') b f := by
  rw [← mu_sw h, mu_mu]
theorem mu_c3 {M : mw_} {a b c : Nat} {e e' f g : va_E} (h : a ≠ b) (h2 : a ≠ c) : mu_ (mu_ (mu_ (mu_ M a e) b f) c g) a e' = mu_ (mu_ (mu_ M a e') b f) c g := by
  rw [← mu_sw h2, mu_c2 h]
abbrev ia_ (G : mg_) (n : Nat) (f : Nat → Int32) : va_E := .inl (gI G, n, .inl f)
abbrev la_ (G : mg_) (n : Nat) (f : Nat → Int64) : va_E := .inl (gL G, n, .inr (.inl f))
abbrev qa_ (G : mg_) (n : Nat) (f : Nat → Option Nat) : va_E := .inl (gE G, n, .inr (.inr (.inr (.inr f))))
abbrev ob_ (ci : Nat) (fs : List Value) : va_E := .inr (ci, fs)
def fz_ (G : mg_) : Nat → Prop := fun q => gz G ≤ q
def mm_ (G : mg_) (M : mw_) (H : Heap) : Prop := gz G ≤ H.size ∧ ∀ a e, M a = some e → va_at (gD G) cl_ (a, e) H ∧ gz G ≤ a
theorem mm_.P {G : mg_} {M : mw_} {H : Heap} (h : mm_ G M H) {a : Nat} {e : va_E} (ha : M a = some e) : va_P (gD G) cl_ [(a, e)] H := by
  intro k q hk
  match k, hk with
  | 0, hk => cases hk; exact (h.2 a e ha).1
theorem mm_.set {G : mg_} {M : mw_} {H H1 : Heap} {a : Nat} {e0 e : va_E} (h : mm_ G M H) (ha : M a = some e0) (z : H1.size = H.size) (oq : ∀ q : Nat, q ≠ a → H1[q]? = H[q]?) (he : va_at (gD G) cl_ (a, e) H1) : mm_ G (mu_ M a e) H1 := by
  refine ⟨by rw [z]; exact h.1, fun b f hb => ?_⟩
  by_cases hq : b = a
  · subst hq
    rw [mu_s] at hb
    cases hb
    exact ⟨he, (h.2 b e0 ha).2⟩
  · rw [mu_n hq] at hb
    exact ⟨(h.2 b f hb).1.kept (oq b hq), (h.2 b f hb).2⟩
theorem mm_.fresh {G : mg_} {M : mw_} {H : Heap} (h : mm_ G M H) : M H.size = none := by
  cases hq : M H.size with
  | none => rfl
  | some e => exact absurd (h.2 _ _ hq).1.lt (Nat.lt_irrefl _)
theorem mm_.push {G : mg_} {M : mw_} {H H1 : Heap} {e : va_E} (h : mm_ G M H) (z : H1.size = H.size + 1) (oq : ∀ q : Nat, q < H.size → H1[q]? = H[q]?) (he : va_at (gD G) cl_ (H.size, e) H1) : mm_ G (mu_ M H.size e) H1 := by
  refine ⟨by rw [z]; exact Nat.le_succ_of_le h.1, fun b f hb => ?_⟩
  by_cases hq : b = H.size
  · subst hq
    rw [mu_s] at hb
    cases hb
    exact ⟨he, h.1⟩
  · rw [mu_n hq] at hb
    exact ⟨(h.2 b f hb).1.kept (oq b (h.2 b f hb).1.lt), (h.2 b f hb).2⟩
def kt_ (j : Nat) : Int32 := ([1116352408, 1899447441, -1245643825, -373957723, 961987163, 1508970993, -1841331548, -1424204075, -670586216, 310598401, 607225278, 1426881987, 1925078388, -2132889090, -1680079193, -1046744716, -459576895, -272742522, 264347078, 604807628, 770255983, 1249150122, 1555081692, 1996064986, -1740746414, -1473132947, -1341970488, -1084653625, -958395405, -710438585, 113926993, 338241895, 666307205, 773529912, 1294757372, 1396182291, 1695183700, 1986661051, -2117940946, -1838011259, -1564481375, -1474664885, -1035236496, -949202525, -778901479, -694614492, -200395387, 275423344, 430227734, 506948616, 659060556, 883997877, 958139571, 1322822218, 1537002063, 1747873779, 1955562222, 2024104815, -2067236844, -1933114872, -1866530822, -1538233109, -1090935817, -965641998] : List Int32).getD j 0
def ks_ (G : mg_) (s : State) : Prop := va_K (gD G) cl_ [(gI G, .int), (gL G, .long), (gE G, .object "PartsAccumulator$Epoch")] s ∧ va_Nw (.methodLinkNest "PartsAccumulator" 9 my_S_init "PartsAccumulator") s ∧ va_Nw (.methodLinkNest "PartsAccumulator" 18 my_R_init "PartsAccumulator") s ∧ va_Nw (.methodLinkNest "PartsAccumulator" 25 my_T_init "PartsAccumulator") s ∧ va_Nw (.methodLinkNest "PartsAccumulator" 36 my_E_init "PartsAccumulator") s ∧ va_Nw (.methodLinkNest "PartsAccumulator" 49 my_N_init "PartsAccumulator") s ∧ va_Nw (.methodLinkNest "PartsAccumulator$Epoch" 9 my_T_init "PartsAccumulator") s ∧ va_AO "PartsAccumulator$Epoch" s
def kz_ (G : mg_) (s : State) (H : Heap) : Prop := va_Z "PartsAccumulator$SerialPrimes" "K" "[I" (.ref (gk G)) (fz_ G) s H ∧ va_T .int (gk G) 64 (fun j => .int (kt_ j)) (fz_ G) s H
theorem ks_.warm {G : mg_} {s U : State} (hW : s.WarmedH U.vm) (h : ks_ G s) : ks_ G U := by
  obtain ⟨h1, h2, h3, h4, h5, h6, h7, h8⟩ := h
  exact ⟨va_K.moved hW.alike h1, va_Nw.warmM hW h2, va_Nw.warmM hW h3, va_Nw.warmM hW h4, va_Nw.warmM hW h5, va_Nw.warmM hW h6, va_Nw.warmM hW h7, va_AO.moved hW.alike h8⟩
theorem ks_.same {G : mg_} {s U : State} (hv : s.vm = U.vm) (h : ks_ G s) : ks_ G U := by
  obtain ⟨h1, h2, h3, h4, h5, h6, h7, h8⟩ := h
  have hA : s.vm.Alike U.vm := by rw [hv]; exact Vm.Alike.refl _
  exact ⟨va_K.moved hA h1, va_Nw.same rfl hv h2, va_Nw.same rfl hv h3, va_Nw.same rfl hv h4, va_Nw.same rfl hv h5, va_Nw.same rfl hv h6, va_Nw.same rfl hv h7, va_AO.moved hA h8⟩
theorem kz_.moved {G : mg_} {s U : State} {H : Heap} (hA : s.vm.Alike U.vm) (h : kz_ G s H) : kz_ G U H := ⟨va_Z.moved hA h.1, va_T.moved hA h.2⟩
theorem kz_.kept {G : mg_} {s : State} {H H1 : Heap} (h : kz_ G s H) (hq : ∀ a : Nat, a < H.size → ¬ fz_ G a → H1[a]? = H[a]?) : kz_ G s H1 := ⟨va_Z.kept h.1 hq, va_T.kept h.2 hq⟩
def pc_ (G : mg_) (As : List Value) (M : mw_) : Array Value → State → Prop := fun v U => v = As.toArray ∧ ks_ G U ∧ kz_ G U U.heap ∧ mm_ G M U.heap
def qx_ (G : mg_) (post : Option Value → mw_ → Prop) : Array Value → State → Outcome → State → Prop := fun _ st oc t => ∃ (v : Option Value) (M1 : mw_), oc = .returned v ∧ post v M1 ∧ mm_ G M1 t.heap ∧ va_F (fz_ G) st t
/-- a contract: from every heap that holds the memory M the method returns, and the heap holds the memory M1, 'post answer M1' -/
def ct_ (l : Launch) (y : MethodName) (cd : ByteArray) (nL : Nat) (ret : Option FieldType) (rm : Room) (G : mg_) (As : List Value) (M : mw_) (post : Option Value → mw_ → Prop) (mc ms : Nat) : Prop := Met l y (Cond.code y cd nL ret :: tb_) rm (pc_ G As M) (qx_ G post) mc ms (fz_ G)
abbrev dt_ (l : Launch) (y : MethodName) (cd : ByteArray) (nL : Nat) (ret : Option FieldType) (rm : Room) (G : mg_) (As : List Value) (M : mw_) (v0 : Option Value) (M1 : mw_) (mc ms : Nat) : Prop := ct_ l y cd nL ret rm G As M (fun v M' => v = v0 ∧ M' = M1) mc ms
theorem pc_blind {G : mg_} {As : List Value} {M : mw_} : FrameBlind (pc_ G As M) := by
  intro a U g mk h
  obtain ⟨h1, h2, h3, h4⟩ := h
  exact ⟨h1, ks_.same (U := U.calling g mk a) rfl h2, kz_.moved (U := U.calling g mk a) (Vm.Alike.refl U.vm) h3, h4⟩
/-- what a method's body stands on -/
def cx_ (G : mg_) (p : Program) (s : State) (m : MethodId) (args : Array Value) (meth : Method) (c : Code) (cc : ByteArray) (nL : Nat) (ret : Option FieldType) (y : MethodName) : Prop :=
  p.tables.exec = Jvm.exec ∧ c.code = cc ∧ meth.sig.returnType = ret ∧ meth.locks = false ∧ c.maxLocals = nL ∧ s.vm.findClass y.cls = some m.cls ∧ (∀ w ∈ tb_, w.before args s = true) ∧ ks_ G s ∧ kz_ G s s.heap ∧ meth.name = y.name
theorem ct_.intro {l : Launch} {y : MethodName} {cd : ByteArray} {nL : Nat} {ret : Option FieldType} {rm : Room} {G : mg_} {As : List Value} {M : mw_} {post : Option Value → mw_ → Prop} {mc ms : Nat} (hy : plainName y.cls = true) (hn : (lg_sl As).length ≤ nL)
    (body : ∀ p e s m args below meth c ls, cx_ G p s m args meth c cd nL ret y → lv_has ls nL (lv_args 0 As) → mm_ G M s.heap → va_S (fz_ G) s.heap s.heap [] → W p l e rm s m args below meth c s.heap [] 0 0 (MQ below (qx_ G post) args s mc ms (fz_ G)) (F0 m 0 ls [])) : ct_ l y cd nL ret rm G As M post mc ms := by
  refine Met.ofW (cc := cd) (maxL := nL) (ret := ret) hy rfl ?_
  intro p e s m args below meth c s₁ B hml hv
  obtain ⟨rfl, h1, h2, h3⟩ := hv
  have hts := atoms_spec (ws := Cond.code y cd nL ret :: tb_) B.pre
  have hl := lv_entry As (n := nL) hn
  rw [lg_entry_eq]
  exact body p e s m _ below meth c _ ⟨B.exec, B.bytes, B.returns, B.notSynchronized, hml, findClass_of_methodNamed B.named, fun w hw => hts w (List.mem_cons_of_mem _ hw), h1, h2, (name_of_methodNamed B.named B.method).1⟩ hl h3 va_S.rf
/-- field words: own class, pool entry, number of the object's class, field -/
def fl_ok (own : String) (idx ci : Nat) (C : String) (T : u_T) (N k : Nat) : Prop := cl_[ci]? = some (C, T, N) ∧ (∀ w ∈ u_ws C T N, w ∈ tb_) ∧ k < N ∧ Cond.fieldLink own idx C (T k).2.1 (T k).2.2.1 ∈ tb_ ∧ (T k).1 = C
def fp_ok (C : String) (T : u_T) (N k : Nat) (ty0 : Nat → FieldType) (ty : FieldType) : Prop := (∀ k, k < N → parseFieldDescriptor (T k).2.2.1 = some (ty0 k)) ∧ (∀ a, a < N → ∀ b, b < N → a ≠ b → (T a).2.1 ≠ (T b).2.1) ∧ parseFieldDescriptor (T k).2.2.1 = some ty
/-- call words -/
def vk_ok (own : String) (idx : Nat) (y : MethodName) (cd : ByteArray) (nL : Nat) (ret : Option FieldType) (n : Nat) : Prop := Cond.code y cd nL ret ∈ tb_ ∧ Cond.methodLink own idx y ∈ tb_ ∧ Cond.instanceMethod y ∈ tb_ ∧ Cond.selects y.cls y y ∈ tb_ ∧ Cond.initialized y.cls ∈ tb_ ∧ y.cls ≠ "java/lang/invoke/MethodHandle" ∧ y.cls ≠ "java/lang/invoke/VarHandle" ∧ (parseMethodDescriptor y.desc).map (fun d => d.parameters.length) = some n
def sk_ok (own : String) (idx : Nat) (y : MethodName) (cd : ByteArray) (nL : Nat) (ret : Option FieldType) (n : Nat) : Prop := Cond.code y cd nL ret ∈ tb_ ∧ Cond.methodLink own idx y ∈ tb_ ∧ Cond.static y ∈ tb_ ∧ Cond.initialized y.cls ∈ tb_ ∧ y.cls ≠ "java/lang/invoke/MethodHandle" ∧ y.cls ≠ "java/lang/invoke/VarHandle" ∧ (parseMethodDescriptor y.desc).map (fun d => d.parameters.length) = some n
section MR
variable {p : Program} {l : Launch} {e : Env} {R : Room} {s : State} {m : MethodId} {args : Array Value} {below : List Frame} {meth : Method} {c : Code} {H : Heap} {locs : List Loc} {cells slots : Nat} {Q : State → Prop}
variable {cc : ByteArray} {pc : Nat} {ls : Array Slot} {rest : List Value} {G : mg_} {M : mw_} {a nL : Nat} {ret : Option FieldType} {y : MethodName}
theorem mr_get (C0 : cx_ G p s m args meth c cc nL ret y) (hM : mm_ G M H) {idx ci N k : Nat} {C : String} {T : u_T} (hf : fl_ok y.cls idx ci C T N k) {fs : List Value} {v : Value} (ha : M a = some (ob_ ci fs)) (hv : fs[k]? = some v) (hdg : decode cc pc = .ok (.getfield idx, 3))
    (kk : W p l e R s m args below meth c H locs cells slots Q (F0 m (pc + 3) ls (v :: rest))) : W p l e R s m args below meth c H locs cells slots Q (F0 m pc ls (.ref a :: rest)) := by
  obtain ⟨hx, hb, -, -, -, hown, hts, hk, -⟩ := C0
  obtain ⟨f1, f2, f3, f4, f5⟩ := hf
  exact va_get hx hb hts f2 hown hk.1 (hM.P ha) 0 rfl f1 k f3 (hts _ f4) (fun x h => by rw [f5] at h; exact h) hv hdg kk
theorem mr_put (C0 : cx_ G p s m args meth c cc nL ret y) (hM : mm_ G M H) (hS : va_S (fz_ G) s.heap H locs) {idx ci N k : Nat} {C : String} {T : u_T} (hf : fl_ok y.cls idx ci C T N k) {ty0 : Nat → FieldType} {ty : FieldType} (hp : fp_ok C T N k ty0 ty) {fs : List Value} {v : Value} (ha : M a = some (ob_ ci fs)) (hfin : (T k).2.2.2 = false) (hn : narrow ty v = v) (hfit : fits ty v = true) (hl : k < fs.length) (hdg : decode cc pc = .ok (.putfield idx, 3))
    (kk : ∀ (H1 : Heap) (locs1 : List Loc), mm_ G (mu_ M a (ob_ ci (fs.set k v))) H1 → va_S (fz_ G) s.heap H1 locs1 → W p l e R s m args below meth c H1 locs1 cells slots Q (F0 m (pc + 3) ls rest)) : W p l e R s m args below meth c H locs cells slots Q (F0 m pc ls (v :: .ref a :: rest)) := by
  obtain ⟨hx, hb, -, -, -, hown, hts, hK, -⟩ := C0
  obtain ⟨hc, hin, hk, hlink, hT⟩ := hf
  obtain ⟨hty, hnm, hd⟩ := hp
  have hK := hK.1
  have hap := va_apart (own := y.cls) hts hin ty0 hty hnm hK hc
  obtain ⟨r, h1, cell, q1, q2, q3, q4⟩ := (hM.2 a _ ha).1
  have hr : r = (C, T, N) := Option.some.inj (h1.symm.trans hc)
  subst hr
  obtain ⟨hS0, hfc, kC, hkC, hkind⟩ := hK.1 ci _ hc
  obtain ⟨cf, kf, fi, f, hi, hsl⟩ := hS0 k hk
  have hlay := hts _ (hin _ (u_in_lay hk))
  unfold u_lay at hlay
  rw [if_neg (by rw [hfin]; decide)] at hlay
  have hst := (u_facts hfc hkC (u_lays hts hin hk) hi).1
  have h6 := u_store hfc hkC hkind hlay hi hd hn hfit
  refine W.putK hx hb (f := f) ⟨hown, hts _ hlink, ⟨_, _, _, by rw [← hT]; exact hi⟩, hst⟩ (by rw [q2]; exact h6) q1 q3 (by rw [hsl]; exact k2_hasslot (q4 k hk)) rfl rfl hdg fun H' e1 e2 e3 => ?_
  rw [hsl] at e1 ⊢
  exact kk H' _ (hM.set ha e2 e3 ⟨_, hc, t_OB.to (V := updV (vp_V fs) k v) ⟨_, e1, q2, q3, t_set q4 hap hk v⟩ (fun j _ => vp_updV_set hl v j)⟩) (hS.put e2 e3 (hM.2 a _ ha).2)
theorem mr_putF (C0 : cx_ G p s m args meth c cc nL ret y) (hM : mm_ G M H) (hS : va_S (fz_ G) s.heap H locs) {idx ci N k : Nat} {C : String} {T : u_T} (hf : fl_ok y.cls idx ci C T N k) {ty0 : Nat → FieldType} {ty : FieldType} (hp : fp_ok C T N k ty0 ty) {fs : List Value} {v : Value} (ha : M a = some (ob_ ci fs)) (hyn : y.name = "<init>") (hC : C = y.cls) (hfin : (T k).2.2.2 = true) (hn : narrow ty v = v) (hfit : fits ty v = true) (hl : k < fs.length) (hdg : decode cc pc = .ok (.putfield idx, 3))
    (kk : ∀ (H1 : Heap) (locs1 : List Loc), mm_ G (mu_ M a (ob_ ci (fs.set k v))) H1 → va_S (fz_ G) s.heap H1 locs1 → W p l e R s m args below meth c H1 locs1 cells slots Q (F0 m (pc + 3) ls rest)) : W p l e R s m args below meth c H locs cells slots Q (F0 m pc ls (v :: .ref a :: rest)) := by
  obtain ⟨hx, hb, -, -, -, hown, hts, hK, -, hnm0⟩ := C0
  obtain ⟨hc, hin, hk, hlink, hT⟩ := hf
  obtain ⟨hty, hnm, hd⟩ := hp
  have hK := hK.1
  have hap := va_apart (own := y.cls) hts hin ty0 hty hnm hK hc
  obtain ⟨r, h1, cell, q1, q2, q3, q4⟩ := (hM.2 a _ ha).1
  have hr : r = (C, T, N) := Option.some.inj (h1.symm.trans hc)
  subst hr
  obtain ⟨hS0, hfc, kC, hkC, hkind⟩ := hK.1 ci _ hc
  obtain ⟨cf, kf, fi, f, hi, hsl⟩ := hS0 k hk
  have hst := (u_facts hfc hkC (u_lays hts hin hk) hi).1
  have h6 := u_fits hfc hkC hkind (u_lays hts hin hk) hi hd hn hfit
  have hlay := hts _ (hin _ (u_in_lay hk))
  unfold u_lay at hlay
  rw [if_pos hfin] at hlay
  have hcf : m.cls = cf := by
    obtain ⟨_, _, c', _, _, _, -, -, hf', -, -, -, hown2, -⟩ := Cond.laysFinal_spec hlay
    have e1 : c' = cf := by have := hi.symm.trans hf'; simp at this; exact this.1.symm
    rw [hT, hC] at hown2
    rw [← e1]; exact Option.some.inj (hown.symm.trans hown2)
  refine W.putFinK hx hb (f := f) hown (hts _ hlink) (by rw [← hT]; exact hi) hst hcf (hnm0.trans hyn) (by rw [q2]; exact h6) q1 q3 (by rw [hsl]; exact k2_hasslot (q4 k hk)) rfl rfl hdg fun H' e1 e2 e3 => ?_
  rw [hsl] at e1 ⊢
  exact kk H' _ (hM.set ha e2 e3 ⟨_, hc, t_OB.to (V := updV (vp_V fs) k v) ⟨_, e1, q2, q3, t_set q4 hap hk v⟩ (fun j _ => vp_updV_set hl v j)⟩) (hS.put e2 e3 (hM.2 a _ ha).2)
theorem mr_in {x : Int32} {i n : Nat} (hx : x = nI i) (hi : i < n) (hn : n < 2147483648) : vp_in x n := by
  subst hx; exact vp_in_nI hi hn
theorem mr_cl {x : Int32} {i n : Nat} (hx : x = nI i) (hi : i < n) (hn : n < 2147483648) : x.toNatClampNeg = i := by
  subst hx; exact nI_clamp (Nat.lt_trans hi hn)
theorem mr_iald (C0 : cx_ G p s m args meth c cc nL ret y) (hM : mm_ G M H) {n : Nat} {f : Nat → Int32} (ha : M a = some (ia_ G n f)) {x : Int32} (i : Nat) (hx : x = nI i) (hi : i < n) (hn : n < 2147483648) (hdg : decode cc pc = .ok (.iaload, 1))
    (kk : W p l e R s m args below meth c H locs cells slots Q (F0 m (pc + 1) ls (.int (f i) :: rest))) : W p l e R s m args below meth c H locs cells slots Q (F0 m pc ls (.int x :: .ref a :: rest)) := by
  refine va_iald C0.1 C0.2.1 C0.2.2.2.2.2.2.2.1.1 (hM.P ha) 0 0 rfl rfl (mr_in hx hi hn) hdg ?_
  rw [mr_cl hx hi hn]; exact kk
theorem mr_lald (C0 : cx_ G p s m args meth c cc nL ret y) (hM : mm_ G M H) {n : Nat} {f : Nat → Int64} (ha : M a = some (la_ G n f)) {x : Int32} (i : Nat) (hx : x = nI i) (hi : i < n) (hn : n < 2147483648) (hdg : decode cc pc = .ok (.laload, 1))
    (kk : W p l e R s m args below meth c H locs cells slots Q (F0 m (pc + 1) ls (.long (f i) :: rest))) : W p l e R s m args below meth c H locs cells slots Q (F0 m pc ls (.int x :: .ref a :: rest)) := by
  refine va_lald C0.1 C0.2.1 C0.2.2.2.2.2.2.2.1.1 (hM.P ha) 0 1 rfl rfl (mr_in hx hi hn) hdg ?_
  rw [mr_cl hx hi hn]; exact kk
theorem mr_aald (C0 : cx_ G p s m args meth c cc nL ret y) (hM : mm_ G M H) {n : Nat} {f : Nat → Option Nat} (ha : M a = some (qa_ G n f)) {x : Int32} (i : Nat) {b : Nat} (hfb : f i = some b) (hx : x = nI i) (hi : i < n) (hn : n < 2147483648) (hdg : decode cc pc = .ok (.aaload, 1))
    (kk : W p l e R s m args below meth c H locs cells slots Q (F0 m (pc + 1) ls (.ref b :: rest))) : W p l e R s m args below meth c H locs cells slots Q (F0 m pc ls (.int x :: .ref a :: rest)) := by
  refine va_aldq C0.1 C0.2.1 C0.2.2.2.2.2.2.2.1.1 (hM.P ha) 0 2 rfl rfl (mr_in hx hi hn) hdg ?_
  rw [mr_cl hx hi hn, hfb]; exact kk
theorem mr_iast (C0 : cx_ G p s m args meth c cc nL ret y) (hM : mm_ G M H) (hS : va_S (fz_ G) s.heap H locs) {n : Nat} {f : Nat → Int32} (ha : M a = some (ia_ G n f)) {x v : Int32} (i : Nat) (hx : x = nI i) (hi : i < n) (hn : n < 2147483648) (hdg : decode cc pc = .ok (.iastore, 1))
    (kk : ∀ (H1 : Heap) (locs1 : List Loc), mm_ G (mu_ M a (ia_ G n (upd f i v))) H1 → va_S (fz_ G) s.heap H1 locs1 → W p l e R s m args below meth c H1 locs1 cells slots Q (F0 m (pc + 1) ls rest)) : W p l e R s m args below meth c H locs cells slots Q (F0 m pc ls (.int v :: .int x :: .ref a :: rest)) := by
  have hin := mr_in hx hi hn
  have hcl := mr_cl hx hi hn
  refine W.iast C0.1 C0.2.1 (hM.2 a _ ha).1 ((C0.2.2.2.2.2.2.2.1.1.2 0 _ rfl).1 n (fun j => .int (f j))) (fun q => by cases q) (by show ¬ (x < 0 ∨ (arrV _ _ _).slots.size ≤ _); rw [arrV_size]; exact hin) rfl rfl hdg fun H1 e z oq => ?_
  refine kk H1 _ (hM.set ha z oq ?_) (hS.put z oq (hM.2 a _ ha).2)
  show H1[a]? = some (vp_cell _ _)
  rw [e, hcl]
  rw [vp_cell_i, vp_cell_i, arrV_store]
  congr 2
  funext q
  by_cases hq : q = i
  · subst hq
    simp [updV, upd]
  · simp [updV, upd, hq]
theorem mr_last (C0 : cx_ G p s m args meth c cc nL ret y) (hM : mm_ G M H) (hS : va_S (fz_ G) s.heap H locs) {n : Nat} {f : Nat → Int64} (ha : M a = some (la_ G n f)) {x : Int32} {v : Int64} (i : Nat) (hx : x = nI i) (hi : i < n) (hn : n < 2147483648) (hdg : decode cc pc = .ok (.lastore, 1))
    (kk : ∀ (H1 : Heap) (locs1 : List Loc), mm_ G (mu_ M a (la_ G n (vp_updL f i v))) H1 → va_S (fz_ G) s.heap H1 locs1 → W p l e R s m args below meth c H1 locs1 cells slots Q (F0 m (pc + 1) ls rest)) : W p l e R s m args below meth c H locs cells slots Q (F0 m pc ls (.long v :: .int x :: .ref a :: rest)) := by
  have hin := mr_in hx hi hn
  have hcl := mr_cl hx hi hn
  refine W.last C0.1 C0.2.1 (hM.2 a _ ha).1 ((C0.2.2.2.2.2.2.2.1.1.2 1 _ rfl).1 n (fun j => .long (f j))) (fun q => by cases q) (by show ¬ (x < 0 ∨ (arrV _ _ _).slots.size ≤ _); rw [arrV_size]; exact hin) rfl rfl hdg fun H1 e z oq => ?_
  refine kk H1 _ (hM.set ha z oq ?_) (hS.put z oq (hM.2 a _ ha).2)
  show H1[a]? = some (vp_cell _ _)
  rw [e, hcl]
  rw [vp_cell_l, vp_cell_l, arrV_store]
  congr 2
  funext q
  by_cases hq : q = i
  · subst hq
    simp [updV, vp_updL]
  · simp [updV, vp_updL, hq]
theorem mr_alen (C0 : cx_ G p s m args meth c cc nL ret y) (hM : mm_ G M H) (t0 : Nat) {cA : ClassId} {x : vp_A} (ha : M a = some (.inl (cA, x))) {ty : FieldType} (ht : ([(gI G, .int), (gL G, .long), (gE G, .object "PartsAccumulator$Epoch")] : List (ClassId × FieldType))[t0]? = some (cA, ty)) {n : Nat} (hv : x.1 = n) (hdg : decode cc pc = .ok (.arraylength, 1))
    (kk : W p l e R s m args below meth c H locs cells slots Q (F0 m (pc + 1) ls (.int (nI n) :: rest))) : W p l e R s m args below meth c H locs cells slots Q (F0 m pc ls (.ref a :: rest)) := by
  subst hv
  exact va_alen C0.1 C0.2.1 C0.2.2.2.2.2.2.2.1.1 (hM.P ha) 0 t0 rfl ht rfl hdg kk
theorem mr_vi {x x' : Int32} (h : x = x') (k : W p l e R s m args below meth c H locs cells slots Q (F0 m pc ls (.int x' :: rest))) : W p l e R s m args below meth c H locs cells slots Q (F0 m pc ls (.int x :: rest)) := by rw [h]; exact k
theorem mr_vl {x x' : Int64} (h : x = x') (k : W p l e R s m args below meth c H locs cells slots Q (F0 m pc ls (.long x' :: rest))) : W p l e R s m args below meth c H locs cells slots Q (F0 m pc ls (.long x :: rest)) := by rw [h]; exact k
theorem mr_v2 {b : Value} {x x' : Int32} (h : x = x') (k : W p l e R s m args below meth c H locs cells slots Q (F0 m pc ls (b :: .int x' :: rest))) : W p l e R s m args below meth c H locs cells slots Q (F0 m pc ls (b :: .int x :: rest)) := by rw [h]; exact k
theorem mr_M {M' : mw_} (h : M = M') (hM : mm_ G M H) : mm_ G M' H := h ▸ hM
theorem mr_ldc (C0 : cx_ G p s m args meth c cc nL ret y) {idx : Nat} {v : Int32} (hw : Cond.constant y.cls idx v ∈ tb_) (hdg : decode cc pc = .ok (.ldc idx, 2)) (k : W p l e R s m args below meth c H locs cells slots Q (F0 m (pc + 2) ls (.int v :: rest))) : W p l e R s m args below meth c H locs cells slots Q (F0 m pc ls rest) := lv_ldc C0.1 C0.2.1 C0.2.2.2.2.2.1 (C0.2.2.2.2.2.2.1 _ hw) hdg k
theorem mr_ldc2 (C0 : cx_ G p s m args meth c cc nL ret y) {idx : Nat} {v : Int64} (hw : Cond.constantLong y.cls idx v ∈ tb_) (hdg : decode cc pc = .ok (.ldc2_w idx, 3)) (k : W p l e R s m args below meth c H locs cells slots Q (F0 m (pc + 3) ls (.long v :: rest))) : W p l e R s m args below meth c H locs cells slots Q (F0 m pc ls rest) := lv_ldc2 C0.1 C0.2.1 C0.2.2.2.2.2.1 (C0.2.2.2.2.2.2.1 _ hw) hdg k
theorem mr_iret {post : Option Value → mw_ → Prop} {v : Int32} {ty : FieldType} (C0 : cx_ G p s m args meth c cc nL (some ty) y) (hM : mm_ G M H) (hS : va_S (fz_ G) s.heap H locs) (hn : narrow ty (.int v) = .int v) (hp : post (some (.int v)) M) (hdg : decode cc pc = .ok (.ireturn, 1)) : W p l e R s m args below meth c H locs cells slots (MQ below (qx_ G post) args s cells slots (fz_ G)) (F0 m pc ls [.int v]) :=
  W.zret C0.1 C0.2.1 C0.2.2.1 hn (fun t ht _ => ⟨_, M, rfl, hp, by rw [ht]; exact hM, hS.F ht⟩) hS.2.2 hdg C0.2.2.2.1
theorem mr_lret {post : Option Value → mw_ → Prop} {v : Int64} (C0 : cx_ G p s m args meth c cc nL (some .long) y) (hM : mm_ G M H) (hS : va_S (fz_ G) s.heap H locs) (hp : post (some (.long v)) M) (hdg : decode cc pc = .ok (.lreturn, 1)) : W p l e R s m args below meth c H locs cells slots (MQ below (qx_ G post) args s cells slots (fz_ G)) (F0 m pc ls [.long v]) :=
  W.lret C0.1 C0.2.1 C0.2.2.1 (fun t ht _ => ⟨_, M, rfl, hp, by rw [ht]; exact hM, hS.F ht⟩) hS.2.2 hdg C0.2.2.2.1
theorem mr_vret {post : Option Value → mw_ → Prop} (C0 : cx_ G p s m args meth c cc nL none y) (hM : mm_ G M H) (hS : va_S (fz_ G) s.heap H locs) (hp : post none M) (hdg : decode cc pc = .ok (.return_, 1)) : W p l e R s m args below meth c H locs cells slots (MQ below (qx_ G post) args s cells slots (fz_ G)) (F0 m pc ls []) :=
  W.vret C0.1 C0.2.1 C0.2.2.1 (fun t ht _ => ⟨_, M, rfl, hp, by rw [ht]; exact hM, hS.F ht⟩) hS.2.2 hdg C0.2.2.2.1
theorem mr_pre (C0 : cx_ G p s m args meth c cc nL ret y) (hM : mm_ G M H) (hS : va_S (fz_ G) s.heap H locs) (As : List Value) : PreS s H (pc_ G As M) As :=
  ⟨pc_blind, fun U hU hW => ⟨rfl, ks_.warm hW C0.2.2.2.2.2.2.2.1, by rw [hU]; exact kz_.moved hW.alike (kz_.kept C0.2.2.2.2.2.2.2.2.1 hS.2.1), by rw [hU]; exact hM⟩⟩
/-- behind any call -/
theorem mr_run {g : JFrame} {rest : List Value} {post : Option Value → mw_ → Prop} {a : Array Value} {mc ms : Nat} (hr : va_Run p l e R s m args below meth c H locs cells slots mc ms (F0 m pc ls g.stack) rest (qx_ G post a) (fz_ G)) (hS : va_S (fz_ G) s.heap H locs)
    (kk : ∀ (v : Option Value) (M1 : mw_) (H1 : Heap) (locs1 : List Loc), post v M1 → mm_ G M1 H1 → va_S (fz_ G) s.heap H1 locs1 → W p l e R s m args below meth c H1 locs1 (cells + mc) (slots + ms) Q (F0 m (pc + 3) ls (v.toList ++ rest))) : W p l e R s m args below meth c H locs cells slots Q (F0 m pc ls g.stack) := by
  intro T hT X
  obtain ⟨v, st₀, t, T', L, h0, X', hL, e1, e2, ⟨v', M1, hv, hp, hm, hz, hk⟩, st⟩ := hr T hT X
  cases hv
  rw [h0] at hz hk
  obtain ⟨t2, a1, b1⟩ := kk v M1 T'.heap (locs ++ L) hp (by rw [e1]; exact hm)
    ⟨Nat.le_trans hS.1 (by rw [e1]; exact hz), fun q h1 h2 => by rw [e1, hk q (Nat.lt_of_lt_of_le h1 hS.1) h2]; exact hS.2.1 q h1 h2, fun q hq => by
      rcases List.mem_append.mp hq with h | h
      · exact hS.2.2 q h
      · exact hL q h⟩ T' rfl X'
  exact ⟨t2, st t2 a1, b1⟩
theorem mr_callS {y' : MethodName} {cd : ByteArray} {nL' idx n mc ms : Nat} {ret' : Option FieldType} {rm : Room} {As : List Value} {post : Option Value → mw_ → Prop} (C0 : cx_ G p s m args meth c cc nL ret y) (hM : mm_ G M H) (hS : va_S (fz_ G) s.heap H locs) (hk : sk_ok y.cls idx y' cd nL' ret' n) (hMet : ct_ l y' cd nL' ret' rm G As M post mc ms) (hn : As.length = n) {st0 : List Value} (hst : st0 = As.reverse ++ rest) (hls : ls.size = nL) (hW : (rest.map fun v => v.category).sum ≤ 8) (hrc : rm.cells = mc) (hrs : rm.slots = ms) (hR : rm.frames + 1 ≤ R.frames ∧ 8 + (nL' + 11) + rm.locals ≤ R.locals) (hf : cells + mc ≤ R.cells ∧ slots + ms ≤ R.slots) (hdg : decode cc pc = .ok (.invokestatic idx, 3))
    (kk : ∀ (v : Option Value) (M1 : mw_) (H1 : Heap) (locs1 : List Loc), post v M1 → mm_ G M1 H1 → va_S (fz_ G) s.heap H1 locs1 → W p l e R s m args below meth c H1 locs1 (cells + mc) (slots + ms) Q (F0 m (pc + 3) ls (v.toList ++ rest))) : W p l e R s m args below meth c H locs cells slots Q (F0 m pc ls st0) := by
  obtain ⟨k1, k2, k3, k4, k5, k6, k7⟩ := hk
  have hts := C0.2.2.2.2.2.2.1
  exact mr_run (g := F0 m pc ls st0) (va_runS (cc := cc) (nL := nL) (own := y.cls) (index := idx) (bytes := cd) (maxL := nL') (ret := ret') (n := n) ⟨C0.1, C0.2.1, C0.2.2.2.2.1, C0.2.2.2.2.2.1, hts⟩ hMet ⟨callB_of n hts (tb_good k1 (fun _ h => h)) rfl hrc hrs (hts _ k4) (hts _ k2) ⟨k5, k6, k7⟩ hR, hts _ k3⟩ (mr_pre C0 hM hS As) rfl hn hls hst (by show 2 * 0 + _ ≤ 8; omega) hdg hf) hS kk
theorem mr_recv (C0 : cx_ G p s m args meth c cc nL ret y) (hM : mm_ G M H) {ci : Nat} {fs : List Value} {C : String} {T : u_T} {N : Nat} (ha : M a = some (ob_ ci fs)) (hc : cl_[ci]? = some (C, T, N)) : ∃ cellB : Cell, H[a]? = some cellB ∧ cellB.vm.isStatics = false ∧ s.vm.findClass C = some cellB.cls :=
  va_recv (q := (C, T, N)) C0.2.2.2.2.2.2.2.1.1 (hM.P ha) (q0 := 0) hc rfl
theorem mr_callV {y' : MethodName} {cd : ByteArray} {nL' idx n mc ms ci N : Nat} {ret' : Option FieldType} {rm : Room} {As fs : List Value} {T : u_T} {post : Option Value → mw_ → Prop} (C0 : cx_ G p s m args meth c cc nL ret y) (hM : mm_ G M H) (hS : va_S (fz_ G) s.heap H locs) (hk : vk_ok y.cls idx y' cd nL' ret' n) (ha : M a = some (ob_ ci fs)) (hc : cl_[ci]? = some (y'.cls, T, N)) (hMet : ct_ l y' cd nL' ret' rm G (.ref a :: As) M post mc ms) (hn : As.length = n) {st0 : List Value} (hst : st0 = As.reverse ++ .ref a :: rest) (hls : ls.size = nL) (hW : (rest.map fun v => v.category).sum ≤ 8) (hrc : rm.cells = mc) (hrs : rm.slots = ms) (hR : rm.frames + 1 ≤ R.frames ∧ 8 + (nL' + 11) + rm.locals ≤ R.locals) (hf : cells + mc ≤ R.cells ∧ slots + ms ≤ R.slots) (hdg : decode cc pc = .ok (.invokevirtual idx, 3))
    (kk : ∀ (v : Option Value) (M1 : mw_) (H1 : Heap) (locs1 : List Loc), post v M1 → mm_ G M1 H1 → va_S (fz_ G) s.heap H1 locs1 → W p l e R s m args below meth c H1 locs1 (cells + mc) (slots + ms) Q (F0 m (pc + 3) ls (v.toList ++ rest))) : W p l e R s m args below meth c H locs cells slots Q (F0 m pc ls st0) := by
  obtain ⟨k1, k2, k3, k4, k5, k6, k7, k8⟩ := hk
  have hts := C0.2.2.2.2.2.2.1
  have hpre := mr_pre C0 hM hS (.ref a :: As)
  exact mr_run (g := F0 m pc ls st0) (va_runV (cc := cc) (nL := nL) (own := y.cls) (C := y'.cls) (index := idx) (bytes := cd) (maxL := nL') (ret := ret') (n := n) ⟨C0.1, C0.2.1, C0.2.2.2.2.1, C0.2.2.2.2.2.1, hts⟩ hMet ⟨callB_of n hts (tb_good k1 (fun _ h => h)) rfl hrc hrs (hts _ k5) (hts _ k2) ⟨k6, k7, k8⟩ hR, hts _ k3, hts _ k4⟩ ⟨hpre.1, mr_recv C0 hM ha hc, hpre.2⟩ rfl hn hls hst (by show 2 * 0 + _ ≤ 8; omega) hdg hf) hS kk
end MR
end
section
/-! rows: array copies, the table K, new cells, constructors -/
section MS
variable {p : Program} {l : Launch} {e : Env} {R : Room} {s : State} {m : MethodId} {args : Array Value} {below : List Frame} {meth : Method} {c : Code} {H : Heap} {locs : List Loc} {cells slots : Nat} {Q : State → Prop}
variable {cc : ByteArray} {pc : Nat} {ls : Array Slot} {rest : List Value} {G : mg_} {M : mw_} {a nL : Nat} {ret : Option FieldType} {y : MethodName}
theorem mr_kget (C0 : cx_ G p s m args meth c cc nL ret y) (hS : va_S (fz_ G) s.heap H locs) (hy : y.cls = "PartsAccumulator$SerialPrimes") (hdg : decode cc pc = .ok (.getstatic 43, 3))
    (kk : W p l e R s m args below meth c H locs cells slots Q (F0 m (pc + 3) ls (.ref (gk G) :: rest))) : W p l e R s m args below meth c H locs cells slots Q (F0 m pc ls rest) :=
  va_gets C0.1 C0.2.1 C0.2.2.2.2.2.2.2.2.1.1 hS C0.2.2.2.2.2.1 (C0.2.2.2.2.2.2.1 _ (by rw [hy]; exact tw_269)) (fun _ h => h) hdg kk
theorem mr_kld (C0 : cx_ G p s m args meth c cc nL ret y) (hS : va_S (fz_ G) s.heap H locs) {x : Int32} (i : Nat) (hx : x = nI i) (hi : i < 64) (hdg : decode cc pc = .ok (.iaload, 1))
    (kk : W p l e R s m args below meth c H locs cells slots Q (F0 m (pc + 1) ls (.int (kt_ i) :: rest))) : W p l e R s m args below meth c H locs cells slots Q (F0 m pc ls (.int x :: .ref (gk G) :: rest)) :=
  va_ti C0.1 C0.2.1 C0.2.2.2.2.2.2.2.2.1.2 hS (mr_in hx hi (by omega)) (by rw [mr_cl hx hi (by omega)]) hdg kk
theorem mr_copyl (C0 : cx_ G p s m args meth c cc nL ret y) (hls : ls.size = nL) {idx : Nat} (hw : Cond.methodLink y.cls idx arraycopyName ∈ tb_)
    (hM : mm_ G M H) (hS : va_S (fz_ G) s.heap H locs) {a0 n0 n1 : Nat} {f g : Nat → Int64} (ha0 : M a0 = some (la_ G n0 f)) (ha1 : M a = some (la_ G n1 g)) {xs xd xn : Int32} (sp dp n : Nat) (es : xs = nI sp) (ed : xd = nI dp) (en : xn = nI n) (h4 : sp + n ≤ n0) (h5 : dp + n ≤ n1) (b0 : n0 < 2147483648) (b1 : n1 < 2147483648)
    (hframes : 1 ≤ R.frames) (hlocals : (rest.map fun v => v.category).sum + (nativeFrameWords "java/lang/System" "arraycopy" 5 + 11) ≤ R.locals) (hdg : decode cc pc = .ok (.invokestatic idx, 3))
    (kk : ∀ (H1 : Heap) (locs1 : List Loc), mm_ G (mu_ M a (la_ G n1 (va_cpy f g sp dp n))) H1 → va_S (fz_ G) s.heap H1 locs1 → W p l e R s m args below meth c H1 locs1 cells slots Q (F0 m (pc + 3) ls rest)) : W p l e R s m args below meth c H locs cells slots Q (F0 m pc ls (.int xn :: .int xd :: .ref a :: .int xs :: .ref a0 :: rest)) := by
  subst es; subst ed; subst en
  have c1 : (nI sp).toNatClampNeg = sp := nI_clamp (by omega)
  have c2 : (nI dp).toNatClampNeg = dp := nI_clamp (by omega)
  have c3 : (nI n).toNatClampNeg = n := nI_clamp (by omega)
  have i1 : (nI sp).toInt = (sp : Int) := nI_toInt (by omega)
  have i2 : (nI dp).toInt = (dp : Int) := nI_toInt (by omega)
  have i3 : (nI n).toInt = (n : Int) := nI_toInt (by omega)
  obtain ⟨hx, hb, -, -, hml, hown, hts, hK, -⟩ := C0
  have hK := hK.1
  intro T hT X
  have hc0 : H[a0]? = some (vp_cell (gL G) (n0, .inr (.inl f))) := (hM.2 a0 _ ha0).1
  have hc1 : H[a]? = some (vp_cell (gL G) (n1, .inr (.inl g))) := (hM.2 a _ ha1).1
  obtain ⟨-, k0, hk0, cm0, hkk0⟩ := (hK.2 1 _ rfl).1 n0 (fun j => .long (f j))
  obtain ⟨-, k1, hk1, cm1, hkk1⟩ := (hK.2 1 _ rfl).1 n1 (fun j => .long (g j))
  obtain ⟨vm', X', step⟩ := X.arraycopy hx hown (hts _ hw) (hts _ tw_182) (hts _ tw_181) (hts _ tw_8) (src := a0) (dst := a) (cs := vp_cell (gL G) (n0, .inr (.inl f))) (cd := vp_cell (gL G) (n1, .inr (.inl g))) (srcPos := nI sp) (destPos := nI dp) (n := nI n) (by rw [hT]; exact hc0) (by rw [hT]; exact hc1)
    (fun _ h => by cases h) (fun _ h => by cases h) (fun h => by cases h) (fun h => by cases h) hk0 hk1 hkk0 hkk1 (by simp [refKind]) (nI_pos (by omega)) (nI_pos (by omega)) (nI_pos (by omega))
    (by rw [i1, i3]; show ¬ _ > ((arrV (gL G) n0 (fun j => .long (f j))).slots.size : Int); rw [arrV_size]; omega)
    (by rw [i2, i3]; show ¬ _ > ((arrV (gL G) n1 (fun j => .long (g j))).slots.size : Int); rw [arrV_size]; omega)
    (fun vm₁ _ i hi => by
      rw [c3] at hi
      have e : (vp_cell (gL G) (n0, .inr (.inl f))).slots.getD ((nI sp).toNatClampNeg + i) .null = .long (f (sp + i)) := by
        show (arrV (gL G) n0 (fun j => .long (f j))).slots.getD _ _ = _
        rw [c1, Array.getD_eq_getD_getElem?, arrV_read _ _ (by omega)]
        rfl
      refine ⟨?_, ?_⟩
      · rw [e]
        rfl
      · rw [e]
        exact trivial)
    (g := F0 m pc ls (.int (nI n) :: .int (nI dp) :: .ref a :: .int (nI sp) :: .ref a0 :: rest)) rfl (by rw [hml]; exact hls) (rest := rest) rfl (by rw [hb]; exact hdg) hframes (by show 2 * 0 + _ + _ ≤ _; omega)
  have e1 : copied (vp_cell (gL G) (n0, .inr (.inl f))) (vp_cell (gL G) (n1, .inr (.inl g))) (nI sp) (nI dp) (nI n) = vp_cell (gL G) (n1, .inr (.inl (va_cpy f g sp dp n))) := by
    have h := va_copied (fun z => .long z) (gL G) (gL G) f g (sp := (nI sp).toNatClampNeg) (dp := (nI dp).toNatClampNeg) (n := (nI n).toNatClampNeg) (n0 := n0) (n1 := n1) (by rw [c1, c3]; exact h4)
    rw [show va_cpy f g sp dp n = va_cpy f g (nI sp).toNatClampNeg (nI dp).toNatClampNeg (nI n).toNatClampNeg by rw [c1, c2, c3]]
    exact h
  rw [e1] at X' step
  have hl : a < H.size := (Array.getElem?_eq_some_iff.mp hc1).1
  have hheap : ((T.setVm vm').setCell a (vp_cell (gL G) (n1, .inr (.inl (va_cpy f g sp dp n))))).heap = H.setIfInBounds a (vp_cell (gL G) (n1, .inr (.inl (va_cpy f g sp dp n)))) := by rw [← hT]; rfl
  have oq : ∀ q : Nat, q ≠ a → (H.setIfInBounds a (vp_cell (gL G) (n1, .inr (.inl (va_cpy f g sp dp n)))))[q]? = H[q]? := fun q hq => by simp [Array.getElem?_setIfInBounds, Ne.symm hq]
  obtain ⟨t, a1, b1⟩ := kk _ _ (hM.set ha1 (by simp) oq (show (H.setIfInBounds a _)[a]? = some _ by simp [Array.getElem?_setIfInBounds, hl])) ⟨by simp; exact hS.1, fun q g1 g2 => by
      rw [oq q (fun e => g2 (by rw [e]; exact (hM.2 a _ ha1).2))]
      exact hS.2.1 q g1 g2, fun q hq => by
      rcases List.mem_append.mp hq with h | h
      · exact hS.2.2 q h
      · obtain ⟨z, -, hz⟩ := List.mem_map.mp h
        rw [← hz]
        exact (hM.2 a _ ha1).2⟩ _ hheap X'
  exact ⟨t, step t a1, b1⟩
theorem mr_copyi (C0 : cx_ G p s m args meth c cc nL ret y) (hls : ls.size = nL) {idx : Nat} (hw : Cond.methodLink y.cls idx arraycopyName ∈ tb_)
    (hM : mm_ G M H) (hS : va_S (fz_ G) s.heap H locs) {a0 n0 n1 : Nat} {f g : Nat → Int32} (ha0 : M a0 = some (ia_ G n0 f)) (ha1 : M a = some (ia_ G n1 g)) {xs xd xn : Int32} (sp dp n : Nat) (es : xs = nI sp) (ed : xd = nI dp) (en : xn = nI n) (h4 : sp + n ≤ n0) (h5 : dp + n ≤ n1) (b0 : n0 < 2147483648) (b1 : n1 < 2147483648)
    (hframes : 1 ≤ R.frames) (hlocals : (rest.map fun v => v.category).sum + (nativeFrameWords "java/lang/System" "arraycopy" 5 + 11) ≤ R.locals) (hdg : decode cc pc = .ok (.invokestatic idx, 3))
    (kk : ∀ (H1 : Heap) (locs1 : List Loc), mm_ G (mu_ M a (ia_ G n1 (va_cpy f g sp dp n))) H1 → va_S (fz_ G) s.heap H1 locs1 → W p l e R s m args below meth c H1 locs1 cells slots Q (F0 m (pc + 3) ls rest)) : W p l e R s m args below meth c H locs cells slots Q (F0 m pc ls (.int xn :: .int xd :: .ref a :: .int xs :: .ref a0 :: rest)) := by
  subst es; subst ed; subst en
  have c1 : (nI sp).toNatClampNeg = sp := nI_clamp (by omega)
  have c2 : (nI dp).toNatClampNeg = dp := nI_clamp (by omega)
  have c3 : (nI n).toNatClampNeg = n := nI_clamp (by omega)
  have i1 : (nI sp).toInt = (sp : Int) := nI_toInt (by omega)
  have i2 : (nI dp).toInt = (dp : Int) := nI_toInt (by omega)
  have i3 : (nI n).toInt = (n : Int) := nI_toInt (by omega)
  obtain ⟨hx, hb, -, -, hml, hown, hts, hK, -⟩ := C0
  have hK := hK.1
  intro T hT X
  have hc0 : H[a0]? = some (vp_cell (gI G) (n0, .inl f)) := (hM.2 a0 _ ha0).1
  have hc1 : H[a]? = some (vp_cell (gI G) (n1, .inl g)) := (hM.2 a _ ha1).1
  obtain ⟨-, k0, hk0, cm0, hkk0⟩ := (hK.2 0 _ rfl).1 n0 (fun j => .int (f j))
  obtain ⟨-, k1, hk1, cm1, hkk1⟩ := (hK.2 0 _ rfl).1 n1 (fun j => .int (g j))
  obtain ⟨vm', X', step⟩ := X.arraycopy hx hown (hts _ hw) (hts _ tw_182) (hts _ tw_181) (hts _ tw_8) (src := a0) (dst := a) (cs := vp_cell (gI G) (n0, .inl f)) (cd := vp_cell (gI G) (n1, .inl g)) (srcPos := nI sp) (destPos := nI dp) (n := nI n) (by rw [hT]; exact hc0) (by rw [hT]; exact hc1)
    (fun _ h => by cases h) (fun _ h => by cases h) (fun h => by cases h) (fun h => by cases h) hk0 hk1 hkk0 hkk1 (by simp [refKind]) (nI_pos (by omega)) (nI_pos (by omega)) (nI_pos (by omega))
    (by rw [i1, i3]; show ¬ _ > ((arrV (gI G) n0 (fun j => .int (f j))).slots.size : Int); rw [arrV_size]; omega)
    (by rw [i2, i3]; show ¬ _ > ((arrV (gI G) n1 (fun j => .int (g j))).slots.size : Int); rw [arrV_size]; omega)
    (fun vm₁ _ i hi => by
      rw [c3] at hi
      have e : (vp_cell (gI G) (n0, .inl f)).slots.getD ((nI sp).toNatClampNeg + i) .null = .int (f (sp + i)) := by
        show (arrV (gI G) n0 (fun j => .int (f j))).slots.getD _ _ = _
        rw [c1, Array.getD_eq_getD_getElem?, arrV_read _ _ (by omega)]
        rfl
      refine ⟨?_, ?_⟩
      · rw [e]
        rfl
      · rw [e]
        exact trivial)
    (g := F0 m pc ls (.int (nI n) :: .int (nI dp) :: .ref a :: .int (nI sp) :: .ref a0 :: rest)) rfl (by rw [hml]; exact hls) (rest := rest) rfl (by rw [hb]; exact hdg) hframes (by show 2 * 0 + _ + _ ≤ _; omega)
  have e1 : copied (vp_cell (gI G) (n0, .inl f)) (vp_cell (gI G) (n1, .inl g)) (nI sp) (nI dp) (nI n) = vp_cell (gI G) (n1, .inl (va_cpy f g sp dp n)) := by
    have h := va_copied (fun z => .int z) (gI G) (gI G) f g (sp := (nI sp).toNatClampNeg) (dp := (nI dp).toNatClampNeg) (n := (nI n).toNatClampNeg) (n0 := n0) (n1 := n1) (by rw [c1, c3]; exact h4)
    rw [show va_cpy f g sp dp n = va_cpy f g (nI sp).toNatClampNeg (nI dp).toNatClampNeg (nI n).toNatClampNeg by rw [c1, c2, c3]]
    exact h
  rw [e1] at X' step
  have hl : a < H.size := (Array.getElem?_eq_some_iff.mp hc1).1
  have hheap : ((T.setVm vm').setCell a (vp_cell (gI G) (n1, .inl (va_cpy f g sp dp n)))).heap = H.setIfInBounds a (vp_cell (gI G) (n1, .inl (va_cpy f g sp dp n))) := by rw [← hT]; rfl
  have oq : ∀ q : Nat, q ≠ a → (H.setIfInBounds a (vp_cell (gI G) (n1, .inl (va_cpy f g sp dp n))))[q]? = H[q]? := fun q hq => by simp [Array.getElem?_setIfInBounds, Ne.symm hq]
  obtain ⟨t, a1, b1⟩ := kk _ _ (hM.set ha1 (by simp) oq (show (H.setIfInBounds a _)[a]? = some _ by simp [Array.getElem?_setIfInBounds, hl])) ⟨by simp; exact hS.1, fun q g1 g2 => by
      rw [oq q (fun e => g2 (by rw [e]; exact (hM.2 a _ ha1).2))]
      exact hS.2.1 q g1 g2, fun q hq => by
      rcases List.mem_append.mp hq with h | h
      · exact hS.2.2 q h
      · obtain ⟨z, -, hz⟩ := List.mem_map.mp h
        rw [← hz]
        exact (hM.2 a _ ha1).2⟩ _ hheap X'
  exact ⟨t, step t a1, b1⟩
theorem mr_newa {ty : FieldType} {atype : ArrayType} (t0 : Nat) {cA : ClassId} (C0 : cx_ G p s m args meth c cc nL ret y) (hM : mm_ G M H) (hS : va_S (fz_ G) s.heap H locs) (hty : newarray.typeOf atype = ty) (hw : Cond.arrayClass ty ∈ tb_) (ht : ([(gI G, .int), (gL G, .long), (gE G, .object "PartsAccumulator$Epoch")] : List (ClassId × FieldType))[t0]? = some (cA, ty)) (hra : ∀ c1 c2 : ClassId, va_RA s c1 ty → s.vm.findClass ("[" ++ ty.toString) = some c2 → c1 = c2)
    {x : Int32} (N : Nat) (hx : x = nI N) (hN : N < 1000) {a0 : vp_A} (ha : ∀ cA : ClassId, vp_cell cA a0 = arrV cA N (fun _ => defaultValue ty)) (hcb : componentBytes ty ≤ 8) (hcells : cells + 1 ≤ R.cells) (hslots : slots + N ≤ R.slots) (hdg : decode cc pc = .ok (.newarray atype, 2))
    (kk : ∀ (H1 : Heap), mm_ G (mu_ M H.size (.inl (cA, a0))) H1 → va_S (fz_ G) s.heap H1 locs → W p l e R s m args below meth c H1 locs (cells + 1) (slots + N) Q (F0 m (pc + 2) ls (.ref H.size :: rest))) : W p l e R s m args below meth c H locs cells slots Q (F0 m pc ls (.int x :: rest)) := by
  subst hty
  subst hx
  have hb2 : N * componentBytes (newarray.typeOf atype) ≤ 536870912 := Nat.le_trans (Nat.mul_le_mul (Nat.le_of_lt hN) hcb) (by decide)
  refine va_newaK C0.1 C0.2.1 (C0.2.2.2.2.2.2.1 _ hw) rfl hdg rfl (nI_pos (by omega)) (nI_clamp (by omega)) hb2 hcells hslots rfl fun H1 cA' e1 z1 o1 hAr hNm => ?_
  have hcc : cA = cA' := hra _ _ (C0.2.2.2.2.2.2.2.1.1.2 t0 _ ht).2 hNm
  subst hcc
  refine kk H1 (hM.push z1 o1 ?_) ⟨Nat.le_trans hS.1 (by omega), fun x h1 h2 => (o1 x (Nat.lt_of_lt_of_le h1 hS.1)).trans (hS.2.1 x h1 h2), hS.2.2⟩
  show H1[H.size]? = some (vp_cell _ _)
  rw [ha]
  exact e1
theorem mr_newl (C0 : cx_ G p s m args meth c cc nL ret y) (hM : mm_ G M H) (hS : va_S (fz_ G) s.heap H locs) {x : Int32} (N : Nat) (hx : x = nI N) (hN : N < 1000) (hcells : cells + 1 ≤ R.cells) (hslots : slots + N ≤ R.slots) (hdg : decode cc pc = .ok (.newarray .long, 2))
    (kk : ∀ (H1 : Heap), mm_ G (mu_ M H.size (la_ G N (fun _ => 0))) H1 → va_S (fz_ G) s.heap H1 locs → W p l e R s m args below meth c H1 locs (cells + 1) (slots + N) Q (F0 m (pc + 2) ls (.ref H.size :: rest))) : W p l e R s m args below meth c H locs cells slots Q (F0 m pc ls (.int x :: rest)) :=
  mr_newa (ty := .long) 1 C0 hM hS rfl tw_72 rfl (fun _ _ h1 h2 => Option.some.inj (h1.symm.trans h2)) N hx hN (a0 := (N, .inr (.inl (fun _ => 0)))) (fun _ => rfl) (by decide) hcells hslots hdg kk
theorem mr_newi (C0 : cx_ G p s m args meth c cc nL ret y) (hM : mm_ G M H) (hS : va_S (fz_ G) s.heap H locs) {x : Int32} (N : Nat) (hx : x = nI N) (hN : N < 1000) (hcells : cells + 1 ≤ R.cells) (hslots : slots + N ≤ R.slots) (hdg : decode cc pc = .ok (.newarray .int, 2))
    (kk : ∀ (H1 : Heap), mm_ G (mu_ M H.size (ia_ G N (fun _ => 0))) H1 → va_S (fz_ G) s.heap H1 locs → W p l e R s m args below meth c H1 locs (cells + 1) (slots + N) Q (F0 m (pc + 2) ls (.ref H.size :: rest))) : W p l e R s m args below meth c H locs cells slots Q (F0 m pc ls (.int x :: rest)) :=
  mr_newa (ty := .int) 0 C0 hM hS rfl tw_28 rfl (fun _ _ h1 h2 => Option.some.inj (h1.symm.trans h2)) N hx hN (a0 := (N, .inl (fun _ => 0))) (fun _ => rfl) (by decide) hcells hslots hdg kk
theorem mr_newo {idx ci N : Nat} {C : String} {T : u_T} {ty0 : Nat → FieldType} {fs : List Value} (C0 : cx_ G p s m args meth c cc nL ret y) (hM : mm_ G M H) (hS : va_S (fz_ G) s.heap H locs) (hc : cl_[ci]? = some (C, T, N)) (hin : ∀ w ∈ u_ws C T N, w ∈ tb_) (hty : ∀ k, k < N → parseFieldDescriptor (T k).2.2.1 = some (ty0 k)) (hcl : Cond.classLink y.cls idx C ∈ tb_) (hinst : Cond.instantiable C N ∈ tb_) (hini : Cond.initialized C ∈ tb_) (hfs : ∀ j, j < N → defaultValue (ty0 j) = vp_V fs j) (hcells : cells + 1 ≤ R.cells) (hslots : slots + N ≤ R.slots) (hdg : decode cc pc = .ok (.new idx, 3))
    (kk : ∀ (H1 : Heap), mm_ G (mu_ M H.size (ob_ ci fs)) H1 → va_S (fz_ G) s.heap H1 locs → W p l e R s m args below meth c H1 locs (cells + 1) (slots + N) Q (F0 m (pc + 3) ls (.ref H.size :: rest))) : W p l e R s m args below meth c H locs cells slots Q (F0 m pc ls rest) := by
  obtain ⟨hx, hb, -, -, -, hown, hts, hK, -⟩ := C0
  have hKn := hK.1.1 ci _ hc
  refine W.newcK hx hb hown (hts _ hcl) (hts _ hinst) (hts _ hini) rfl hdg hcells hslots hKn.2.1 rfl fun H1 kC hkC e1 z1 o1 => ?_
  exact kk H1 (hM.push z1 o1 ⟨_, hc, (u_born ty0 hts hin hKn hkC e1 hty).to hfs⟩) ⟨Nat.le_trans hS.1 (by omega), fun x h1 h2 => (o1 x (Nat.lt_of_lt_of_le h1 hS.1)).trans (hS.2.1 x h1 h2), hS.2.2⟩
theorem mr_objInit (C0 : cx_ G p s m args meth c cc nL ret y) {idx : Nat} (hw : Cond.methodLink y.cls idx objectInit ∈ tb_) (hls : ls.size = nL) (hframes : 1 ≤ R.frames) (hlocals : (rest.map fun v => v.category).sum + 12 ≤ R.locals) (hdg : decode cc pc = .ok (.invokespecial idx, 3))
    (kk : W p l e R s m args below meth c H locs cells slots Q (F0 m (pc + 3) ls rest)) : W p l e R s m args below meth c H locs cells slots Q (F0 m pc ls (.ref a :: rest)) := by
  obtain ⟨hx, hb, -, -, hml, hown, hts, -⟩ := C0
  refine W.objInit hx hb hown (hts _ hw) (hts _ tw_16) (hts _ tw_17) rfl (by rw [hml]; exact hls) rfl hdg hframes (by show 2 * 0 + _ + _ ≤ _; omega) ?_
  exact W.eq rfl kk
theorem mr_callI {y' : MethodName} {cd : ByteArray} {nL' idx n mc ms : Nat} {host : String} {rm : Room} {As : List Value} {post : Option Value → mw_ → Prop} (C0 : cx_ G p s m args meth c cc nL ret y) (hM : mm_ G M H) (hS : va_S (fz_ G) s.heap H locs) (hcode : Cond.code y' cd nL' none ∈ tb_) (hnw : va_Nw (.methodLinkNest y.cls idx y' host) s) (hini : Cond.initialized y'.cls ∈ tb_) (hin : Cond.instanceMethod y' ∈ tb_) (hd : y'.cls ≠ "java/lang/invoke/MethodHandle" ∧ y'.cls ≠ "java/lang/invoke/VarHandle" ∧ (parseMethodDescriptor y'.desc).map (fun d => d.parameters.length) = some n) (hyn : y'.name = "<init>") (hMet : ct_ l y' cd nL' none rm G (.ref a :: As) M post mc ms) (hn : As.length = n) {st0 : List Value} (hst : st0 = As.reverse ++ .ref a :: rest) (hls : ls.size = nL) (hW : (rest.map fun v => v.category).sum ≤ 8) (hrc : rm.cells = mc) (hrs : rm.slots = ms) (hR : rm.frames + 1 ≤ R.frames ∧ 8 + (nL' + 11) + rm.locals ≤ R.locals) (hf : cells + mc ≤ R.cells ∧ slots + ms ≤ R.slots) (hdg : decode cc pc = .ok (.invokespecial idx, 3))
    (kk : ∀ (v : Option Value) (M1 : mw_) (H1 : Heap) (locs1 : List Loc), post v M1 → mm_ G M1 H1 → va_S (fz_ G) s.heap H1 locs1 → W p l e R s m args below meth c H1 locs1 (cells + mc) (slots + ms) Q (F0 m (pc + 3) ls (v.toList ++ rest))) : W p l e R s m args below meth c H locs cells slots Q (F0 m pc ls st0) := by
  have hts := C0.2.2.2.2.2.2.1
  exact mr_run (g := F0 m pc ls st0) (va_runIN (cc := cc) (nL := nL) (own := y.cls) (host := host) (index := idx) (bytes := cd) (maxL := nL') (n := n) ⟨C0.1, C0.2.1, C0.2.2.2.2.1, C0.2.2.2.2.2.1, hts⟩ hMet ⟨va_cnB n hts (tb_good hcode (fun _ h => h)) rfl hrc hrs hnw (hts _ hini) hd hR, hyn, hts _ hin⟩ (mr_pre C0 hM hS (.ref a :: As)) rfl hn hls hst (by show 2 * 0 + _ ≤ 8; omega) hdg hf) hS kk
theorem mr_lif_eq (hexec : p.tables.exec = Jvm.exec) (hb : c.code = cc) {x y : Int64} {off : Int} {tgt : Nat} (hd0 : decode cc pc = .ok (.lcmp, 1)) (hdg : decode cc (pc + 1) = .ok (.ifCond .eq off, 3)) (ht : ((pc + 1 : Nat) : Int) + off = (tgt : Int))
    (kt : x = y → W p l e R s m args below meth c H locs cells slots Q (F0 m tgt ls rest)) (kf : ¬ (x = y) → W p l e R s m args below meth c H locs cells slots Q (F0 m (pc + 4) ls rest)) : W p l e R s m args below meth c H locs cells slots Q (F0 m pc ls (.long y :: .long x :: rest)) :=
  W.lcmp hexec hb hd0 (lv_if_eq hexec hb hdg ht (fun h => kt ((lg_cmp_eq x y).mp h)) (fun h => kf (fun q => h ((lg_cmp_eq x y).mpr q))))
theorem mr_lif_ne (hexec : p.tables.exec = Jvm.exec) (hb : c.code = cc) {x y : Int64} {off : Int} {tgt : Nat} (hd0 : decode cc pc = .ok (.lcmp, 1)) (hdg : decode cc (pc + 1) = .ok (.ifCond .ne off, 3)) (ht : ((pc + 1 : Nat) : Int) + off = (tgt : Int))
    (kt : ¬ x = y → W p l e R s m args below meth c H locs cells slots Q (F0 m tgt ls rest)) (kf : x = y → W p l e R s m args below meth c H locs cells slots Q (F0 m (pc + 4) ls rest)) : W p l e R s m args below meth c H locs cells slots Q (F0 m pc ls (.long y :: .long x :: rest)) :=
  W.lcmp hexec hb hd0 (lv_if_ne hexec hb hdg ht (fun h => kt (fun q => h ((lg_cmp_eq x y).mpr q))) (fun h => kf ((lg_cmp_eq x y).mp h)))
theorem mr_lif_lt (hexec : p.tables.exec = Jvm.exec) (hb : c.code = cc) {x y : Int64} {off : Int} {tgt : Nat} (hd0 : decode cc pc = .ok (.lcmp, 1)) (hdg : decode cc (pc + 1) = .ok (.ifCond .lt off, 3)) (ht : ((pc + 1 : Nat) : Int) + off = (tgt : Int))
    (kt : x < y → W p l e R s m args below meth c H locs cells slots Q (F0 m tgt ls rest)) (kf : ¬ (x < y) → W p l e R s m args below meth c H locs cells slots Q (F0 m (pc + 4) ls rest)) : W p l e R s m args below meth c H locs cells slots Q (F0 m pc ls (.long y :: .long x :: rest)) :=
  W.lcmp hexec hb hd0 (lv_if_lt hexec hb hdg ht (fun h => kt ((lg_cmp_lt x y).mp h)) (fun h => kf (fun q => h ((lg_cmp_lt x y).mpr q))))
theorem mr_lif_ge (hexec : p.tables.exec = Jvm.exec) (hb : c.code = cc) {x y : Int64} {off : Int} {tgt : Nat} (hd0 : decode cc pc = .ok (.lcmp, 1)) (hdg : decode cc (pc + 1) = .ok (.ifCond .ge off, 3)) (ht : ((pc + 1 : Nat) : Int) + off = (tgt : Int))
    (kt : y ≤ x → W p l e R s m args below meth c H locs cells slots Q (F0 m tgt ls rest)) (kf : ¬ (y ≤ x) → W p l e R s m args below meth c H locs cells slots Q (F0 m (pc + 4) ls rest)) : W p l e R s m args below meth c H locs cells slots Q (F0 m pc ls (.long y :: .long x :: rest)) :=
  W.lcmp hexec hb hd0 (lv_if_ge hexec hb hdg ht (fun h => kt ((lg_cmp_ge x y).mp h)) (fun h => kf (fun q => h ((lg_cmp_ge x y).mpr q))))
theorem mr_lif_gt (hexec : p.tables.exec = Jvm.exec) (hb : c.code = cc) {x y : Int64} {off : Int} {tgt : Nat} (hd0 : decode cc pc = .ok (.lcmp, 1)) (hdg : decode cc (pc + 1) = .ok (.ifCond .gt off, 3)) (ht : ((pc + 1 : Nat) : Int) + off = (tgt : Int))
    (kt : y < x → W p l e R s m args below meth c H locs cells slots Q (F0 m tgt ls rest)) (kf : ¬ (y < x) → W p l e R s m args below meth c H locs cells slots Q (F0 m (pc + 4) ls rest)) : W p l e R s m args below meth c H locs cells slots Q (F0 m pc ls (.long y :: .long x :: rest)) :=
  W.lcmp hexec hb hd0 (lv_if_gt hexec hb hdg ht (fun h => kt ((lg_cmp_gt x y).mp h)) (fun h => kf (fun q => h ((lg_cmp_gt x y).mpr q))))
theorem mr_lif_le (hexec : p.tables.exec = Jvm.exec) (hb : c.code = cc) {x y : Int64} {off : Int} {tgt : Nat} (hd0 : decode cc pc = .ok (.lcmp, 1)) (hdg : decode cc (pc + 1) = .ok (.ifCond .le off, 3)) (ht : ((pc + 1 : Nat) : Int) + off = (tgt : Int))
    (kt : x ≤ y → W p l e R s m args below meth c H locs cells slots Q (F0 m tgt ls rest)) (kf : ¬ (x ≤ y) → W p l e R s m args below meth c H locs cells slots Q (F0 m (pc + 4) ls rest)) : W p l e R s m args below meth c H locs cells slots Q (F0 m pc ls (.long y :: .long x :: rest)) :=
  W.lcmp hexec hb hd0 (lv_if_le hexec hb hdg ht (fun h => kt ((lg_cmp_le x y).mp h)) (fun h => kf (fun q => h ((lg_cmp_le x y).mpr q))))
theorem ct_.intro2 {l : Launch} {y : MethodName} {cd : ByteArray} {nL : Nat} {ret : Option FieldType} {rm : Room} {G : mg_} {As : List Value} {M : mw_} {post : Option Value → mw_ → Prop} {mc ms : Nat} (hy : plainName y.cls = true) (hn : (lg_sl As).length ≤ nL)
    (body : ∀ p e s m args below meth c ls R Q, R = rm → (∀ q, (MQ below (qx_ G post) args s mc ms (fz_ G)) q = Q q) → cx_ G p s m args meth c cd nL ret y → lv_has ls nL (lv_args 0 As) → mm_ G M s.heap → va_S (fz_ G) s.heap s.heap [] → W p l e R s m args below meth c s.heap [] 0 0 Q (F0 m 0 ls [])) : ct_ l y cd nL ret rm G As M post mc ms :=
  ct_.intro hy hn (fun p e s m args below meth c ls a1 a2 a3 a4 => body p e s m args below meth c ls rm _ rfl (fun _ => rfl) a1 a2 a3 a4)
theorem mr_ret {Q' : State → Prop} {g : JFrame} (hQ : ∀ q, Q' q = Q q) (k : W p l e R s m args below meth c H locs cells slots Q' g) : W p l e R s m args below meth c H locs cells slots Q g := by
  have h : Q' = Q := funext hQ
  rw [← h]; exact k
abbrev ius_ (x y : Int32) : Int32 := (x.toUInt32 >>> (y.toUInt32 &&& Int32.toUInt32 31)).toInt32
abbrev lus_ (x : Int64) (y : Int32) : Int64 := (x.toUInt64 >>> (y.toInt64.toUInt64 &&& Int64.toUInt64 63)).toInt64
abbrev lsl_ (x : Int64) (y : Int32) : Int64 := x <<< (y.toInt64 &&& 63)
abbrev lsr_ (x : Int64) (y : Int32) : Int64 := x >>> (y.toInt64 &&& 63)
abbrev isl_ (x y : Int32) : Int32 := x <<< (y &&& 31)
abbrev isr_ (x y : Int32) : Int32 := x >>> (y &&& 31)
abbrev irm_ (x y : Int32) : Int32 := x - x / y * y
abbrev lrm_ (x y : Int64) : Int64 := x - x / y * y
theorem inc_ (i : Nat) : nI i + Int32.ofInt 1 = nI (i + 1) := nI_1 i
theorem dec_ {i : Nat} (h : 0 < i) : nI i + Int32.ofInt (-1) = nI (i - 1) := sb_m1 h
theorem le_nI {a b : Nat} (h : a ≤ b) (ha : a < 2147483648) (hb : b < 2147483648) : nI a ≤ nI b := (nI_leI ha hb).mpr h
theorem nle_nI {a b : Nat} (h : b < a) (ha : a < 2147483648) (hb : b < 2147483648) : ¬ nI a ≤ nI b := fun q => absurd ((nI_leI ha hb).mp q) (by omega)
theorem lt_nI {a b : Nat} (h : a < b) (ha : a < 2147483648) (hb : b < 2147483648) : nI a < nI b := (nI_ltI ha hb).mpr h
theorem nlt_nI {a b : Nat} (h : b ≤ a) (ha : a < 2147483648) (hb : b < 2147483648) : ¬ nI a < nI b := fun q => absurd ((nI_ltI ha hb).mp q) (by omega)
theorem ne_nI {a b : Nat} (h : a ≠ b) (ha : a < 2147483648) (hb : b < 2147483648) : ¬ nI a = nI b := fun q => h ((nI_eq ha hb).mp q)
theorem z_nlt {a : Nat} (ha : a < 2147483648) : ¬ nI a < 0 := nI_pos ha
theorem z_le {a : Nat} (ha : a < 2147483648) : 0 ≤ nI a := nI_pos' ha
theorem z_m1 : (-1 : Int32) < 0 := by decide
end MS
end
section
theorem dd_A_fill_aII_0 : decode cd_A_fill_aII 0 = .ok (.iconst 0, 1) := by decide +kernel
theorem dd_A_fill_aII_1 : decode cd_A_fill_aII 1 = .ok (.istore_n 2, 1) := by decide +kernel
theorem dd_A_fill_aII_2 : decode cd_A_fill_aII 2 = .ok (.aload_n 0, 1) := by decide +kernel
theorem dd_A_fill_aII_3 : decode cd_A_fill_aII 3 = .ok (.arraylength, 1) := by decide +kernel
theorem dd_A_fill_aII_4 : decode cd_A_fill_aII 4 = .ok (.istore_n 3, 1) := by decide +kernel
theorem dd_A_fill_aII_5 : decode cd_A_fill_aII 5 = .ok (.iload_n 2, 1) := by decide +kernel
theorem dd_A_fill_aII_6 : decode cd_A_fill_aII 6 = .ok (.iload_n 3, 1) := by decide +kernel
theorem dd_A_fill_aII_7 : decode cd_A_fill_aII 7 = .ok (.if_icmp .ge 13, 3) := by decide +kernel
theorem dd_A_fill_aII_10 : decode cd_A_fill_aII 10 = .ok (.aload_n 0, 1) := by decide +kernel
theorem dd_A_fill_aII_11 : decode cd_A_fill_aII 11 = .ok (.iload_n 2, 1) := by decide +kernel
theorem dd_A_fill_aII_12 : decode cd_A_fill_aII 12 = .ok (.iload_n 1, 1) := by decide +kernel
theorem dd_A_fill_aII_13 : decode cd_A_fill_aII 13 = .ok (.iastore, 1) := by decide +kernel
theorem dd_A_fill_aII_14 : decode cd_A_fill_aII 14 = .ok (.iinc 2 1, 3) := by decide +kernel
theorem dd_A_fill_aII_17 : decode cd_A_fill_aII 17 = .ok (.goto (-12), 3) := by decide +kernel
theorem dd_A_fill_aII_20 : decode cd_A_fill_aII 20 = .ok (.return_, 1) := by decide +kernel
theorem dd_A_fill_aJJ_0 : decode cd_A_fill_aJJ 0 = .ok (.iconst 0, 1) := by decide +kernel
theorem dd_A_fill_aJJ_1 : decode cd_A_fill_aJJ 1 = .ok (.istore_n 3, 1) := by decide +kernel
theorem dd_A_fill_aJJ_2 : decode cd_A_fill_aJJ 2 = .ok (.aload_n 0, 1) := by decide +kernel
theorem dd_A_fill_aJJ_3 : decode cd_A_fill_aJJ 3 = .ok (.arraylength, 1) := by decide +kernel
theorem dd_A_fill_aJJ_4 : decode cd_A_fill_aJJ 4 = .ok (.istore 4, 2) := by decide +kernel
theorem dd_A_fill_aJJ_6 : decode cd_A_fill_aJJ 6 = .ok (.iload_n 3, 1) := by decide +kernel
theorem dd_A_fill_aJJ_7 : decode cd_A_fill_aJJ 7 = .ok (.iload 4, 2) := by decide +kernel
theorem dd_A_fill_aJJ_9 : decode cd_A_fill_aJJ 9 = .ok (.if_icmp .ge 13, 3) := by decide +kernel
theorem dd_A_fill_aJJ_12 : decode cd_A_fill_aJJ 12 = .ok (.aload_n 0, 1) := by decide +kernel
theorem dd_A_fill_aJJ_13 : decode cd_A_fill_aJJ 13 = .ok (.iload_n 3, 1) := by decide +kernel
theorem dd_A_fill_aJJ_14 : decode cd_A_fill_aJJ 14 = .ok (.lload_n 1, 1) := by decide +kernel
theorem dd_A_fill_aJJ_15 : decode cd_A_fill_aJJ 15 = .ok (.lastore, 1) := by decide +kernel
theorem dd_A_fill_aJJ_16 : decode cd_A_fill_aJJ 16 = .ok (.iinc 3 1, 3) := by decide +kernel
theorem dd_A_fill_aJJ_19 : decode cd_A_fill_aJJ 19 = .ok (.goto (-13), 3) := by decide +kernel
theorem dd_A_fill_aJJ_22 : decode cd_A_fill_aJJ 22 = .ok (.return_, 1) := by decide +kernel
end
section
theorem dd_N_init_0 : decode cd_N_init 0 = .ok (.aload_n 0, 1) := by decide +kernel
theorem dd_N_init_1 : decode cd_N_init 1 = .ok (.invokespecial 3, 3) := by decide +kernel
theorem dd_N_init_4 : decode cd_N_init 4 = .ok (.aload_n 0, 1) := by decide +kernel
theorem dd_N_init_5 : decode cd_N_init 5 = .ok (.bipush 11, 2) := by decide +kernel
theorem dd_N_init_7 : decode cd_N_init 7 = .ok (.newarray .long, 2) := by decide +kernel
theorem dd_N_init_9 : decode cd_N_init 9 = .ok (.putfield 9, 3) := by decide +kernel
theorem dd_N_init_12 : decode cd_N_init 12 = .ok (.return_, 1) := by decide +kernel
theorem dd_N_become_0 : decode cd_N_become 0 = .ok (.aload_n 0, 1) := by decide +kernel
theorem dd_N_become_1 : decode cd_N_become 1 = .ok (.getfield 9, 3) := by decide +kernel
theorem dd_N_become_4 : decode cd_N_become 4 = .ok (.lconst 0, 1) := by decide +kernel
theorem dd_N_become_5 : decode cd_N_become 5 = .ok (.invokestatic 13, 3) := by decide +kernel
theorem dd_N_become_8 : decode cd_N_become 8 = .ok (.aload_n 0, 1) := by decide +kernel
theorem dd_N_become_9 : decode cd_N_become 9 = .ok (.getfield 9, 3) := by decide +kernel
theorem dd_N_become_12 : decode cd_N_become 12 = .ok (.iconst 0, 1) := by decide +kernel
theorem dd_N_become_13 : decode cd_N_become 13 = .ok (.iload_n 1, 1) := by decide +kernel
theorem dd_N_become_14 : decode cd_N_become 14 = .ok (.i2l, 1) := by decide +kernel
theorem dd_N_become_15 : decode cd_N_become 15 = .ok (.lastore, 1) := by decide +kernel
theorem dd_N_become_16 : decode cd_N_become 16 = .ok (.return_, 1) := by decide +kernel
theorem dd_N_multiply_0 : decode cd_N_multiply 0 = .ok (.lconst 0, 1) := by decide +kernel
theorem dd_N_multiply_1 : decode cd_N_multiply 1 = .ok (.lstore_n 2, 1) := by decide +kernel
theorem dd_N_multiply_2 : decode cd_N_multiply 2 = .ok (.iconst 0, 1) := by decide +kernel
theorem dd_N_multiply_3 : decode cd_N_multiply 3 = .ok (.istore 4, 2) := by decide +kernel
theorem dd_N_multiply_5 : decode cd_N_multiply 5 = .ok (.iload 4, 2) := by decide +kernel
theorem dd_N_multiply_7 : decode cd_N_multiply 7 = .ok (.bipush 11, 2) := by decide +kernel
theorem dd_N_multiply_9 : decode cd_N_multiply 9 = .ok (.if_icmp .ge 42, 3) := by decide +kernel
theorem dd_N_multiply_12 : decode cd_N_multiply 12 = .ok (.aload_n 0, 1) := by decide +kernel
theorem dd_N_multiply_13 : decode cd_N_multiply 13 = .ok (.getfield 9, 3) := by decide +kernel
theorem dd_N_multiply_16 : decode cd_N_multiply 16 = .ok (.iload 4, 2) := by decide +kernel
theorem dd_N_multiply_18 : decode cd_N_multiply 18 = .ok (.laload, 1) := by decide +kernel
theorem dd_N_multiply_19 : decode cd_N_multiply 19 = .ok (.iload_n 1, 1) := by decide +kernel
theorem dd_N_multiply_20 : decode cd_N_multiply 20 = .ok (.i2l, 1) := by decide +kernel
theorem dd_N_multiply_21 : decode cd_N_multiply 21 = .ok (.lmul, 1) := by decide +kernel
theorem dd_N_multiply_22 : decode cd_N_multiply 22 = .ok (.lload_n 2, 1) := by decide +kernel
theorem dd_N_multiply_23 : decode cd_N_multiply 23 = .ok (.ladd, 1) := by decide +kernel
theorem dd_N_multiply_24 : decode cd_N_multiply 24 = .ok (.lstore 5, 2) := by decide +kernel
theorem dd_N_multiply_26 : decode cd_N_multiply 26 = .ok (.aload_n 0, 1) := by decide +kernel
theorem dd_N_multiply_27 : decode cd_N_multiply 27 = .ok (.getfield 9, 3) := by decide +kernel
theorem dd_N_multiply_30 : decode cd_N_multiply 30 = .ok (.iload 4, 2) := by decide +kernel
theorem dd_N_multiply_32 : decode cd_N_multiply 32 = .ok (.lload 5, 2) := by decide +kernel
theorem dd_N_multiply_34 : decode cd_N_multiply 34 = .ok (.ldc2_w 19, 3) := by decide +kernel
theorem dd_N_multiply_37 : decode cd_N_multiply 37 = .ok (.land, 1) := by decide +kernel
theorem dd_N_multiply_38 : decode cd_N_multiply 38 = .ok (.lastore, 1) := by decide +kernel
theorem dd_N_multiply_39 : decode cd_N_multiply 39 = .ok (.lload 5, 2) := by decide +kernel
theorem dd_N_multiply_41 : decode cd_N_multiply 41 = .ok (.bipush 32, 2) := by decide +kernel
theorem dd_N_multiply_43 : decode cd_N_multiply 43 = .ok (.lushr, 1) := by decide +kernel
theorem dd_N_multiply_44 : decode cd_N_multiply 44 = .ok (.lstore_n 2, 1) := by decide +kernel
theorem dd_N_multiply_45 : decode cd_N_multiply 45 = .ok (.iinc 4 1, 3) := by decide +kernel
theorem dd_N_multiply_48 : decode cd_N_multiply 48 = .ok (.goto (-43), 3) := by decide +kernel
theorem dd_N_multiply_51 : decode cd_N_multiply 51 = .ok (.return_, 1) := by decide +kernel
theorem dd_N_remainder_0 : decode cd_N_remainder 0 = .ok (.iload_n 1, 1) := by decide +kernel
theorem dd_N_remainder_1 : decode cd_N_remainder 1 = .ok (.ifCond .gt 5, 3) := by decide +kernel
theorem dd_N_remainder_4 : decode cd_N_remainder 4 = .ok (.iconst 0, 1) := by decide +kernel
theorem dd_N_remainder_5 : decode cd_N_remainder 5 = .ok (.ireturn, 1) := by decide +kernel
theorem dd_N_remainder_6 : decode cd_N_remainder 6 = .ok (.lconst 0, 1) := by decide +kernel
theorem dd_N_remainder_7 : decode cd_N_remainder 7 = .ok (.lstore_n 2, 1) := by decide +kernel
theorem dd_N_remainder_8 : decode cd_N_remainder 8 = .ok (.bipush 10, 2) := by decide +kernel
theorem dd_N_remainder_10 : decode cd_N_remainder 10 = .ok (.istore 4, 2) := by decide +kernel
theorem dd_N_remainder_12 : decode cd_N_remainder 12 = .ok (.iload 4, 2) := by decide +kernel
theorem dd_N_remainder_14 : decode cd_N_remainder 14 = .ok (.ifCond .lt 25, 3) := by decide +kernel
theorem dd_N_remainder_17 : decode cd_N_remainder 17 = .ok (.lload_n 2, 1) := by decide +kernel
theorem dd_N_remainder_18 : decode cd_N_remainder 18 = .ok (.bipush 32, 2) := by decide +kernel
theorem dd_N_remainder_20 : decode cd_N_remainder 20 = .ok (.lshl, 1) := by decide +kernel
theorem dd_N_remainder_21 : decode cd_N_remainder 21 = .ok (.aload_n 0, 1) := by decide +kernel
theorem dd_N_remainder_22 : decode cd_N_remainder 22 = .ok (.getfield 9, 3) := by decide +kernel
theorem dd_N_remainder_25 : decode cd_N_remainder 25 = .ok (.iload 4, 2) := by decide +kernel
theorem dd_N_remainder_27 : decode cd_N_remainder 27 = .ok (.laload, 1) := by decide +kernel
theorem dd_N_remainder_28 : decode cd_N_remainder 28 = .ok (.lor, 1) := by decide +kernel
theorem dd_N_remainder_29 : decode cd_N_remainder 29 = .ok (.iload_n 1, 1) := by decide +kernel
theorem dd_N_remainder_30 : decode cd_N_remainder 30 = .ok (.i2l, 1) := by decide +kernel
theorem dd_N_remainder_31 : decode cd_N_remainder 31 = .ok (.lrem, 1) := by decide +kernel
theorem dd_N_remainder_32 : decode cd_N_remainder 32 = .ok (.lstore_n 2, 1) := by decide +kernel
theorem dd_N_remainder_33 : decode cd_N_remainder 33 = .ok (.iinc 4 (-1), 3) := by decide +kernel
theorem dd_N_remainder_36 : decode cd_N_remainder 36 = .ok (.goto (-24), 3) := by decide +kernel
theorem dd_N_remainder_39 : decode cd_N_remainder 39 = .ok (.lload_n 2, 1) := by decide +kernel
theorem dd_N_remainder_40 : decode cd_N_remainder 40 = .ok (.l2i, 1) := by decide +kernel
theorem dd_N_remainder_41 : decode cd_N_remainder 41 = .ok (.ireturn, 1) := by decide +kernel
theorem dd_N_divide_0 : decode cd_N_divide 0 = .ok (.iload_n 1, 1) := by decide +kernel
theorem dd_N_divide_1 : decode cd_N_divide 1 = .ok (.ifCond .gt 4, 3) := by decide +kernel
theorem dd_N_divide_4 : decode cd_N_divide 4 = .ok (.return_, 1) := by decide +kernel
theorem dd_N_divide_5 : decode cd_N_divide 5 = .ok (.lconst 0, 1) := by decide +kernel
theorem dd_N_divide_6 : decode cd_N_divide 6 = .ok (.lstore_n 2, 1) := by decide +kernel
theorem dd_N_divide_7 : decode cd_N_divide 7 = .ok (.bipush 10, 2) := by decide +kernel
theorem dd_N_divide_9 : decode cd_N_divide 9 = .ok (.istore 4, 2) := by decide +kernel
theorem dd_N_divide_11 : decode cd_N_divide 11 = .ok (.iload 4, 2) := by decide +kernel
theorem dd_N_divide_13 : decode cd_N_divide 13 = .ok (.ifCond .lt 41, 3) := by decide +kernel
theorem dd_N_divide_16 : decode cd_N_divide 16 = .ok (.lload_n 2, 1) := by decide +kernel
theorem dd_N_divide_17 : decode cd_N_divide 17 = .ok (.bipush 32, 2) := by decide +kernel
theorem dd_N_divide_19 : decode cd_N_divide 19 = .ok (.lshl, 1) := by decide +kernel
theorem dd_N_divide_20 : decode cd_N_divide 20 = .ok (.aload_n 0, 1) := by decide +kernel
theorem dd_N_divide_21 : decode cd_N_divide 21 = .ok (.getfield 9, 3) := by decide +kernel
theorem dd_N_divide_24 : decode cd_N_divide 24 = .ok (.iload 4, 2) := by decide +kernel
theorem dd_N_divide_26 : decode cd_N_divide 26 = .ok (.laload, 1) := by decide +kernel
theorem dd_N_divide_27 : decode cd_N_divide 27 = .ok (.lor, 1) := by decide +kernel
theorem dd_N_divide_28 : decode cd_N_divide 28 = .ok (.lstore 5, 2) := by decide +kernel
theorem dd_N_divide_30 : decode cd_N_divide 30 = .ok (.aload_n 0, 1) := by decide +kernel
theorem dd_N_divide_31 : decode cd_N_divide 31 = .ok (.getfield 9, 3) := by decide +kernel
theorem dd_N_divide_34 : decode cd_N_divide 34 = .ok (.iload 4, 2) := by decide +kernel
theorem dd_N_divide_36 : decode cd_N_divide 36 = .ok (.lload 5, 2) := by decide +kernel
theorem dd_N_divide_38 : decode cd_N_divide 38 = .ok (.iload_n 1, 1) := by decide +kernel
theorem dd_N_divide_39 : decode cd_N_divide 39 = .ok (.i2l, 1) := by decide +kernel
theorem dd_N_divide_40 : decode cd_N_divide 40 = .ok (.ldiv, 1) := by decide +kernel
theorem dd_N_divide_41 : decode cd_N_divide 41 = .ok (.lastore, 1) := by decide +kernel
theorem dd_N_divide_42 : decode cd_N_divide 42 = .ok (.lload 5, 2) := by decide +kernel
theorem dd_N_divide_44 : decode cd_N_divide 44 = .ok (.iload_n 1, 1) := by decide +kernel
theorem dd_N_divide_45 : decode cd_N_divide 45 = .ok (.i2l, 1) := by decide +kernel
theorem dd_N_divide_46 : decode cd_N_divide 46 = .ok (.lrem, 1) := by decide +kernel
theorem dd_N_divide_47 : decode cd_N_divide 47 = .ok (.lstore_n 2, 1) := by decide +kernel
theorem dd_N_divide_48 : decode cd_N_divide 48 = .ok (.iinc 4 (-1), 3) := by decide +kernel
theorem dd_N_divide_51 : decode cd_N_divide 51 = .ok (.goto (-40), 3) := by decide +kernel
theorem dd_N_divide_54 : decode cd_N_divide 54 = .ok (.return_, 1) := by decide +kernel
theorem dd_N_bit_0 : decode cd_N_bit 0 = .ok (.aload_n 0, 1) := by decide +kernel
theorem dd_N_bit_1 : decode cd_N_bit 1 = .ok (.getfield 9, 3) := by decide +kernel
theorem dd_N_bit_4 : decode cd_N_bit 4 = .ok (.iload_n 1, 1) := by decide +kernel
theorem dd_N_bit_5 : decode cd_N_bit 5 = .ok (.iconst 5, 1) := by decide +kernel
theorem dd_N_bit_6 : decode cd_N_bit 6 = .ok (.iushr, 1) := by decide +kernel
theorem dd_N_bit_7 : decode cd_N_bit 7 = .ok (.laload, 1) := by decide +kernel
theorem dd_N_bit_8 : decode cd_N_bit 8 = .ok (.iload_n 1, 1) := by decide +kernel
theorem dd_N_bit_9 : decode cd_N_bit 9 = .ok (.bipush 31, 2) := by decide +kernel
theorem dd_N_bit_11 : decode cd_N_bit 11 = .ok (.iand, 1) := by decide +kernel
theorem dd_N_bit_12 : decode cd_N_bit 12 = .ok (.lushr, 1) := by decide +kernel
theorem dd_N_bit_13 : decode cd_N_bit 13 = .ok (.lconst 1, 1) := by decide +kernel
theorem dd_N_bit_14 : decode cd_N_bit 14 = .ok (.land, 1) := by decide +kernel
theorem dd_N_bit_15 : decode cd_N_bit 15 = .ok (.lconst 0, 1) := by decide +kernel
theorem dd_N_bit_16 : decode cd_N_bit 16 = .ok (.lcmp, 1) := by decide +kernel
theorem dd_N_bit_17 : decode cd_N_bit 17 = .ok (.ifCond .eq 7, 3) := by decide +kernel
theorem dd_N_bit_20 : decode cd_N_bit 20 = .ok (.iconst 1, 1) := by decide +kernel
theorem dd_N_bit_21 : decode cd_N_bit 21 = .ok (.goto 4, 3) := by decide +kernel
theorem dd_N_bit_24 : decode cd_N_bit 24 = .ok (.iconst 0, 1) := by decide +kernel
theorem dd_N_bit_25 : decode cd_N_bit 25 = .ok (.ireturn, 1) := by decide +kernel
theorem dd_N_highestBit_0 : decode cd_N_highestBit 0 = .ok (.sipush 351, 3) := by decide +kernel
theorem dd_N_highestBit_3 : decode cd_N_highestBit 3 = .ok (.istore_n 1, 1) := by decide +kernel
theorem dd_N_highestBit_4 : decode cd_N_highestBit 4 = .ok (.iload_n 1, 1) := by decide +kernel
theorem dd_N_highestBit_5 : decode cd_N_highestBit 5 = .ok (.ifCond .lt 19, 3) := by decide +kernel
theorem dd_N_highestBit_8 : decode cd_N_highestBit 8 = .ok (.aload_n 0, 1) := by decide +kernel
theorem dd_N_highestBit_9 : decode cd_N_highestBit 9 = .ok (.iload_n 1, 1) := by decide +kernel
theorem dd_N_highestBit_10 : decode cd_N_highestBit 10 = .ok (.invokevirtual 21, 3) := by decide +kernel
theorem dd_N_highestBit_13 : decode cd_N_highestBit 13 = .ok (.ifCond .eq 5, 3) := by decide +kernel
theorem dd_N_highestBit_16 : decode cd_N_highestBit 16 = .ok (.iload_n 1, 1) := by decide +kernel
theorem dd_N_highestBit_17 : decode cd_N_highestBit 17 = .ok (.ireturn, 1) := by decide +kernel
theorem dd_N_highestBit_18 : decode cd_N_highestBit 18 = .ok (.iinc 1 (-1), 3) := by decide +kernel
theorem dd_N_highestBit_21 : decode cd_N_highestBit 21 = .ok (.goto (-17), 3) := by decide +kernel
theorem dd_N_highestBit_24 : decode cd_N_highestBit 24 = .ok (.iconst (-1), 1) := by decide +kernel
theorem dd_N_highestBit_25 : decode cd_N_highestBit 25 = .ok (.ireturn, 1) := by decide +kernel
end
section
theorem dd_T_init_0 : decode cd_T_init 0 = .ok (.aload_n 0, 1) := by decide +kernel
theorem dd_T_init_1 : decode cd_T_init 1 = .ok (.invokespecial 3, 3) := by decide +kernel
theorem dd_T_init_4 : decode cd_T_init 4 = .ok (.aload_n 0, 1) := by decide +kernel
theorem dd_T_init_5 : decode cd_T_init 5 = .ok (.bipush 10, 2) := by decide +kernel
theorem dd_T_init_7 : decode cd_T_init 7 = .ok (.newarray .long, 2) := by decide +kernel
theorem dd_T_init_9 : decode cd_T_init 9 = .ok (.putfield 11, 3) := by decide +kernel
theorem dd_T_init_12 : decode cd_T_init 12 = .ok (.aload_n 0, 1) := by decide +kernel
theorem dd_T_init_13 : decode cd_T_init 13 = .ok (.bipush 10, 2) := by decide +kernel
theorem dd_T_init_15 : decode cd_T_init 15 = .ok (.newarray .int, 2) := by decide +kernel
theorem dd_T_init_17 : decode cd_T_init 17 = .ok (.putfield 15, 3) := by decide +kernel
theorem dd_T_init_20 : decode cd_T_init 20 = .ok (.return_, 1) := by decide +kernel
theorem dd_T_placeOf_0 : decode cd_T_placeOf 0 = .ok (.iconst 0, 1) := by decide +kernel
theorem dd_T_placeOf_1 : decode cd_T_placeOf 1 = .ok (.istore_n 3, 1) := by decide +kernel
theorem dd_T_placeOf_2 : decode cd_T_placeOf 2 = .ok (.iload_n 3, 1) := by decide +kernel
theorem dd_T_placeOf_3 : decode cd_T_placeOf 3 = .ok (.aload_n 0, 1) := by decide +kernel
theorem dd_T_placeOf_4 : decode cd_T_placeOf 4 = .ok (.getfield 19, 3) := by decide +kernel
theorem dd_T_placeOf_7 : decode cd_T_placeOf 7 = .ok (.if_icmp .ge 22, 3) := by decide +kernel
theorem dd_T_placeOf_10 : decode cd_T_placeOf 10 = .ok (.aload_n 0, 1) := by decide +kernel
theorem dd_T_placeOf_11 : decode cd_T_placeOf 11 = .ok (.getfield 11, 3) := by decide +kernel
theorem dd_T_placeOf_14 : decode cd_T_placeOf 14 = .ok (.iload_n 3, 1) := by decide +kernel
theorem dd_T_placeOf_15 : decode cd_T_placeOf 15 = .ok (.laload, 1) := by decide +kernel
theorem dd_T_placeOf_16 : decode cd_T_placeOf 16 = .ok (.lload_n 1, 1) := by decide +kernel
theorem dd_T_placeOf_17 : decode cd_T_placeOf 17 = .ok (.lcmp, 1) := by decide +kernel
theorem dd_T_placeOf_18 : decode cd_T_placeOf 18 = .ok (.ifCond .ne 5, 3) := by decide +kernel
theorem dd_T_placeOf_21 : decode cd_T_placeOf 21 = .ok (.iload_n 3, 1) := by decide +kernel
theorem dd_T_placeOf_22 : decode cd_T_placeOf 22 = .ok (.ireturn, 1) := by decide +kernel
theorem dd_T_placeOf_23 : decode cd_T_placeOf 23 = .ok (.iinc 3 1, 3) := by decide +kernel
theorem dd_T_placeOf_26 : decode cd_T_placeOf 26 = .ok (.goto (-24), 3) := by decide +kernel
theorem dd_T_placeOf_29 : decode cd_T_placeOf 29 = .ok (.iconst (-1), 1) := by decide +kernel
theorem dd_T_placeOf_30 : decode cd_T_placeOf 30 = .ok (.ireturn, 1) := by decide +kernel
theorem dd_T_has_0 : decode cd_T_has 0 = .ok (.aload_n 0, 1) := by decide +kernel
theorem dd_T_has_1 : decode cd_T_has 1 = .ok (.lload_n 1, 1) := by decide +kernel
theorem dd_T_has_2 : decode cd_T_has 2 = .ok (.invokevirtual 23, 3) := by decide +kernel
theorem dd_T_has_5 : decode cd_T_has 5 = .ok (.ifCond .lt 7, 3) := by decide +kernel
theorem dd_T_has_8 : decode cd_T_has 8 = .ok (.iconst 1, 1) := by decide +kernel
theorem dd_T_has_9 : decode cd_T_has 9 = .ok (.goto 4, 3) := by decide +kernel
theorem dd_T_has_12 : decode cd_T_has 12 = .ok (.iconst 0, 1) := by decide +kernel
theorem dd_T_has_13 : decode cd_T_has 13 = .ok (.ireturn, 1) := by decide +kernel
theorem dd_T_hasPrime_0 : decode cd_T_hasPrime 0 = .ok (.iconst 0, 1) := by decide +kernel
theorem dd_T_hasPrime_1 : decode cd_T_hasPrime 1 = .ok (.istore_n 2, 1) := by decide +kernel
theorem dd_T_hasPrime_2 : decode cd_T_hasPrime 2 = .ok (.iload_n 2, 1) := by decide +kernel
theorem dd_T_hasPrime_3 : decode cd_T_hasPrime 3 = .ok (.aload_n 0, 1) := by decide +kernel
theorem dd_T_hasPrime_4 : decode cd_T_hasPrime 4 = .ok (.getfield 19, 3) := by decide +kernel
theorem dd_T_hasPrime_7 : decode cd_T_hasPrime 7 = .ok (.if_icmp .ge 21, 3) := by decide +kernel
theorem dd_T_hasPrime_10 : decode cd_T_hasPrime 10 = .ok (.aload_n 0, 1) := by decide +kernel
theorem dd_T_hasPrime_11 : decode cd_T_hasPrime 11 = .ok (.getfield 15, 3) := by decide +kernel
theorem dd_T_hasPrime_14 : decode cd_T_hasPrime 14 = .ok (.iload_n 2, 1) := by decide +kernel
theorem dd_T_hasPrime_15 : decode cd_T_hasPrime 15 = .ok (.iaload, 1) := by decide +kernel
theorem dd_T_hasPrime_16 : decode cd_T_hasPrime 16 = .ok (.iload_n 1, 1) := by decide +kernel
theorem dd_T_hasPrime_17 : decode cd_T_hasPrime 17 = .ok (.if_icmp .ne 5, 3) := by decide +kernel
theorem dd_T_hasPrime_20 : decode cd_T_hasPrime 20 = .ok (.iconst 1, 1) := by decide +kernel
theorem dd_T_hasPrime_21 : decode cd_T_hasPrime 21 = .ok (.ireturn, 1) := by decide +kernel
theorem dd_T_hasPrime_22 : decode cd_T_hasPrime 22 = .ok (.iinc 2 1, 3) := by decide +kernel
theorem dd_T_hasPrime_25 : decode cd_T_hasPrime 25 = .ok (.goto (-23), 3) := by decide +kernel
theorem dd_T_hasPrime_28 : decode cd_T_hasPrime 28 = .ok (.iconst 0, 1) := by decide +kernel
theorem dd_T_hasPrime_29 : decode cd_T_hasPrime 29 = .ok (.ireturn, 1) := by decide +kernel
theorem dd_T_insert_0 : decode cd_T_insert 0 = .ok (.aload_n 0, 1) := by decide +kernel
theorem dd_T_insert_1 : decode cd_T_insert 1 = .ok (.getfield 19, 3) := by decide +kernel
theorem dd_T_insert_4 : decode cd_T_insert 4 = .ok (.bipush 10, 2) := by decide +kernel
theorem dd_T_insert_6 : decode cd_T_insert 6 = .ok (.if_icmp .lt 4, 3) := by decide +kernel
theorem dd_T_insert_9 : decode cd_T_insert 9 = .ok (.return_, 1) := by decide +kernel
theorem dd_T_insert_10 : decode cd_T_insert 10 = .ok (.aload_n 0, 1) := by decide +kernel
theorem dd_T_insert_11 : decode cd_T_insert 11 = .ok (.getfield 19, 3) := by decide +kernel
theorem dd_T_insert_14 : decode cd_T_insert 14 = .ok (.istore 4, 2) := by decide +kernel
theorem dd_T_insert_16 : decode cd_T_insert 16 = .ok (.iload 4, 2) := by decide +kernel
theorem dd_T_insert_18 : decode cd_T_insert 18 = .ok (.ifCond .le 55, 3) := by decide +kernel
theorem dd_T_insert_21 : decode cd_T_insert 21 = .ok (.aload_n 0, 1) := by decide +kernel
theorem dd_T_insert_22 : decode cd_T_insert 22 = .ok (.getfield 11, 3) := by decide +kernel
theorem dd_T_insert_25 : decode cd_T_insert 25 = .ok (.iload 4, 2) := by decide +kernel
theorem dd_T_insert_27 : decode cd_T_insert 27 = .ok (.iconst 1, 1) := by decide +kernel
theorem dd_T_insert_28 : decode cd_T_insert 28 = .ok (.isub, 1) := by decide +kernel
theorem dd_T_insert_29 : decode cd_T_insert 29 = .ok (.laload, 1) := by decide +kernel
theorem dd_T_insert_30 : decode cd_T_insert 30 = .ok (.lload_n 1, 1) := by decide +kernel
theorem dd_T_insert_31 : decode cd_T_insert 31 = .ok (.lcmp, 1) := by decide +kernel
theorem dd_T_insert_32 : decode cd_T_insert 32 = .ok (.ifCond .le 41, 3) := by decide +kernel
theorem dd_T_insert_35 : decode cd_T_insert 35 = .ok (.aload_n 0, 1) := by decide +kernel
theorem dd_T_insert_36 : decode cd_T_insert 36 = .ok (.getfield 11, 3) := by decide +kernel
theorem dd_T_insert_39 : decode cd_T_insert 39 = .ok (.iload 4, 2) := by decide +kernel
theorem dd_T_insert_41 : decode cd_T_insert 41 = .ok (.aload_n 0, 1) := by decide +kernel
theorem dd_T_insert_42 : decode cd_T_insert 42 = .ok (.getfield 11, 3) := by decide +kernel
theorem dd_T_insert_45 : decode cd_T_insert 45 = .ok (.iload 4, 2) := by decide +kernel
theorem dd_T_insert_47 : decode cd_T_insert 47 = .ok (.iconst 1, 1) := by decide +kernel
theorem dd_T_insert_48 : decode cd_T_insert 48 = .ok (.isub, 1) := by decide +kernel
theorem dd_T_insert_49 : decode cd_T_insert 49 = .ok (.laload, 1) := by decide +kernel
theorem dd_T_insert_50 : decode cd_T_insert 50 = .ok (.lastore, 1) := by decide +kernel
theorem dd_T_insert_51 : decode cd_T_insert 51 = .ok (.aload_n 0, 1) := by decide +kernel
theorem dd_T_insert_52 : decode cd_T_insert 52 = .ok (.getfield 15, 3) := by decide +kernel
theorem dd_T_insert_55 : decode cd_T_insert 55 = .ok (.iload 4, 2) := by decide +kernel
theorem dd_T_insert_57 : decode cd_T_insert 57 = .ok (.aload_n 0, 1) := by decide +kernel
theorem dd_T_insert_58 : decode cd_T_insert 58 = .ok (.getfield 15, 3) := by decide +kernel
theorem dd_T_insert_61 : decode cd_T_insert 61 = .ok (.iload 4, 2) := by decide +kernel
theorem dd_T_insert_63 : decode cd_T_insert 63 = .ok (.iconst 1, 1) := by decide +kernel
theorem dd_T_insert_64 : decode cd_T_insert 64 = .ok (.isub, 1) := by decide +kernel
theorem dd_T_insert_65 : decode cd_T_insert 65 = .ok (.iaload, 1) := by decide +kernel
theorem dd_T_insert_66 : decode cd_T_insert 66 = .ok (.iastore, 1) := by decide +kernel
theorem dd_T_insert_67 : decode cd_T_insert 67 = .ok (.iinc 4 (-1), 3) := by decide +kernel
theorem dd_T_insert_70 : decode cd_T_insert 70 = .ok (.goto (-54), 3) := by decide +kernel
theorem dd_T_insert_73 : decode cd_T_insert 73 = .ok (.aload_n 0, 1) := by decide +kernel
theorem dd_T_insert_74 : decode cd_T_insert 74 = .ok (.getfield 11, 3) := by decide +kernel
theorem dd_T_insert_77 : decode cd_T_insert 77 = .ok (.iload 4, 2) := by decide +kernel
theorem dd_T_insert_79 : decode cd_T_insert 79 = .ok (.lload_n 1, 1) := by decide +kernel
theorem dd_T_insert_80 : decode cd_T_insert 80 = .ok (.lastore, 1) := by decide +kernel
theorem dd_T_insert_81 : decode cd_T_insert 81 = .ok (.aload_n 0, 1) := by decide +kernel
theorem dd_T_insert_82 : decode cd_T_insert 82 = .ok (.getfield 15, 3) := by decide +kernel
theorem dd_T_insert_85 : decode cd_T_insert 85 = .ok (.iload 4, 2) := by decide +kernel
theorem dd_T_insert_87 : decode cd_T_insert 87 = .ok (.iload_n 3, 1) := by decide +kernel
theorem dd_T_insert_88 : decode cd_T_insert 88 = .ok (.iastore, 1) := by decide +kernel
theorem dd_T_insert_89 : decode cd_T_insert 89 = .ok (.aload_n 0, 1) := by decide +kernel
theorem dd_T_insert_90 : decode cd_T_insert 90 = .ok (.dup, 1) := by decide +kernel
theorem dd_T_insert_91 : decode cd_T_insert 91 = .ok (.getfield 19, 3) := by decide +kernel
theorem dd_T_insert_94 : decode cd_T_insert 94 = .ok (.iconst 1, 1) := by decide +kernel
theorem dd_T_insert_95 : decode cd_T_insert 95 = .ok (.iadd, 1) := by decide +kernel
theorem dd_T_insert_96 : decode cd_T_insert 96 = .ok (.putfield 19, 3) := by decide +kernel
theorem dd_T_insert_99 : decode cd_T_insert 99 = .ok (.return_, 1) := by decide +kernel
theorem dd_T_delete_0 : decode cd_T_delete 0 = .ok (.iload_n 1, 1) := by decide +kernel
theorem dd_T_delete_1 : decode cd_T_delete 1 = .ok (.iconst 1, 1) := by decide +kernel
theorem dd_T_delete_2 : decode cd_T_delete 2 = .ok (.iadd, 1) := by decide +kernel
theorem dd_T_delete_3 : decode cd_T_delete 3 = .ok (.istore_n 2, 1) := by decide +kernel
theorem dd_T_delete_4 : decode cd_T_delete 4 = .ok (.iload_n 2, 1) := by decide +kernel
theorem dd_T_delete_5 : decode cd_T_delete 5 = .ok (.aload_n 0, 1) := by decide +kernel
theorem dd_T_delete_6 : decode cd_T_delete 6 = .ok (.getfield 19, 3) := by decide +kernel
theorem dd_T_delete_9 : decode cd_T_delete 9 = .ok (.if_icmp .ge 37, 3) := by decide +kernel
theorem dd_T_delete_12 : decode cd_T_delete 12 = .ok (.aload_n 0, 1) := by decide +kernel
theorem dd_T_delete_13 : decode cd_T_delete 13 = .ok (.getfield 11, 3) := by decide +kernel
theorem dd_T_delete_16 : decode cd_T_delete 16 = .ok (.iload_n 2, 1) := by decide +kernel
theorem dd_T_delete_17 : decode cd_T_delete 17 = .ok (.iconst 1, 1) := by decide +kernel
theorem dd_T_delete_18 : decode cd_T_delete 18 = .ok (.isub, 1) := by decide +kernel
theorem dd_T_delete_19 : decode cd_T_delete 19 = .ok (.aload_n 0, 1) := by decide +kernel
theorem dd_T_delete_20 : decode cd_T_delete 20 = .ok (.getfield 11, 3) := by decide +kernel
theorem dd_T_delete_23 : decode cd_T_delete 23 = .ok (.iload_n 2, 1) := by decide +kernel
theorem dd_T_delete_24 : decode cd_T_delete 24 = .ok (.laload, 1) := by decide +kernel
theorem dd_T_delete_25 : decode cd_T_delete 25 = .ok (.lastore, 1) := by decide +kernel
theorem dd_T_delete_26 : decode cd_T_delete 26 = .ok (.aload_n 0, 1) := by decide +kernel
theorem dd_T_delete_27 : decode cd_T_delete 27 = .ok (.getfield 15, 3) := by decide +kernel
theorem dd_T_delete_30 : decode cd_T_delete 30 = .ok (.iload_n 2, 1) := by decide +kernel
theorem dd_T_delete_31 : decode cd_T_delete 31 = .ok (.iconst 1, 1) := by decide +kernel
theorem dd_T_delete_32 : decode cd_T_delete 32 = .ok (.isub, 1) := by decide +kernel
theorem dd_T_delete_33 : decode cd_T_delete 33 = .ok (.aload_n 0, 1) := by decide +kernel
theorem dd_T_delete_34 : decode cd_T_delete 34 = .ok (.getfield 15, 3) := by decide +kernel
theorem dd_T_delete_37 : decode cd_T_delete 37 = .ok (.iload_n 2, 1) := by decide +kernel
theorem dd_T_delete_38 : decode cd_T_delete 38 = .ok (.iaload, 1) := by decide +kernel
theorem dd_T_delete_39 : decode cd_T_delete 39 = .ok (.iastore, 1) := by decide +kernel
theorem dd_T_delete_40 : decode cd_T_delete 40 = .ok (.iinc 2 1, 3) := by decide +kernel
theorem dd_T_delete_43 : decode cd_T_delete 43 = .ok (.goto (-39), 3) := by decide +kernel
theorem dd_T_delete_46 : decode cd_T_delete 46 = .ok (.aload_n 0, 1) := by decide +kernel
theorem dd_T_delete_47 : decode cd_T_delete 47 = .ok (.dup, 1) := by decide +kernel
theorem dd_T_delete_48 : decode cd_T_delete 48 = .ok (.getfield 19, 3) := by decide +kernel
theorem dd_T_delete_51 : decode cd_T_delete 51 = .ok (.iconst 1, 1) := by decide +kernel
theorem dd_T_delete_52 : decode cd_T_delete 52 = .ok (.isub, 1) := by decide +kernel
theorem dd_T_delete_53 : decode cd_T_delete 53 = .ok (.putfield 19, 3) := by decide +kernel
theorem dd_T_delete_56 : decode cd_T_delete 56 = .ok (.return_, 1) := by decide +kernel
theorem dd_T_become_0 : decode cd_T_become 0 = .ok (.aload_n 1, 1) := by decide +kernel
theorem dd_T_become_1 : decode cd_T_become 1 = .ok (.getfield 11, 3) := by decide +kernel
theorem dd_T_become_4 : decode cd_T_become 4 = .ok (.iconst 0, 1) := by decide +kernel
theorem dd_T_become_5 : decode cd_T_become 5 = .ok (.aload_n 0, 1) := by decide +kernel
theorem dd_T_become_6 : decode cd_T_become 6 = .ok (.getfield 11, 3) := by decide +kernel
theorem dd_T_become_9 : decode cd_T_become 9 = .ok (.iconst 0, 1) := by decide +kernel
theorem dd_T_become_10 : decode cd_T_become 10 = .ok (.bipush 10, 2) := by decide +kernel
theorem dd_T_become_12 : decode cd_T_become 12 = .ok (.invokestatic 27, 3) := by decide +kernel
theorem dd_T_become_15 : decode cd_T_become 15 = .ok (.aload_n 1, 1) := by decide +kernel
theorem dd_T_become_16 : decode cd_T_become 16 = .ok (.getfield 15, 3) := by decide +kernel
theorem dd_T_become_19 : decode cd_T_become 19 = .ok (.iconst 0, 1) := by decide +kernel
theorem dd_T_become_20 : decode cd_T_become 20 = .ok (.aload_n 0, 1) := by decide +kernel
theorem dd_T_become_21 : decode cd_T_become 21 = .ok (.getfield 15, 3) := by decide +kernel
theorem dd_T_become_24 : decode cd_T_become 24 = .ok (.iconst 0, 1) := by decide +kernel
theorem dd_T_become_25 : decode cd_T_become 25 = .ok (.bipush 10, 2) := by decide +kernel
theorem dd_T_become_27 : decode cd_T_become 27 = .ok (.invokestatic 27, 3) := by decide +kernel
theorem dd_T_become_30 : decode cd_T_become 30 = .ok (.aload_n 0, 1) := by decide +kernel
theorem dd_T_become_31 : decode cd_T_become 31 = .ok (.aload_n 1, 1) := by decide +kernel
theorem dd_T_become_32 : decode cd_T_become 32 = .ok (.getfield 19, 3) := by decide +kernel
theorem dd_T_become_35 : decode cd_T_become 35 = .ok (.putfield 19, 3) := by decide +kernel
theorem dd_T_become_38 : decode cd_T_become 38 = .ok (.return_, 1) := by decide +kernel
theorem dd_T_countOutside_0 : decode cd_T_countOutside 0 = .ok (.iconst 0, 1) := by decide +kernel
theorem dd_T_countOutside_1 : decode cd_T_countOutside 1 = .ok (.istore_n 2, 1) := by decide +kernel
theorem dd_T_countOutside_2 : decode cd_T_countOutside 2 = .ok (.iconst 0, 1) := by decide +kernel
theorem dd_T_countOutside_3 : decode cd_T_countOutside 3 = .ok (.istore_n 3, 1) := by decide +kernel
theorem dd_T_countOutside_4 : decode cd_T_countOutside 4 = .ok (.iload_n 3, 1) := by decide +kernel
theorem dd_T_countOutside_5 : decode cd_T_countOutside 5 = .ok (.aload_n 0, 1) := by decide +kernel
theorem dd_T_countOutside_6 : decode cd_T_countOutside 6 = .ok (.getfield 19, 3) := by decide +kernel
theorem dd_T_countOutside_9 : decode cd_T_countOutside 9 = .ok (.if_icmp .ge 25, 3) := by decide +kernel
theorem dd_T_countOutside_12 : decode cd_T_countOutside 12 = .ok (.aload_n 1, 1) := by decide +kernel
theorem dd_T_countOutside_13 : decode cd_T_countOutside 13 = .ok (.aload_n 0, 1) := by decide +kernel
theorem dd_T_countOutside_14 : decode cd_T_countOutside 14 = .ok (.getfield 11, 3) := by decide +kernel
theorem dd_T_countOutside_17 : decode cd_T_countOutside 17 = .ok (.iload_n 3, 1) := by decide +kernel
theorem dd_T_countOutside_18 : decode cd_T_countOutside 18 = .ok (.laload, 1) := by decide +kernel
theorem dd_T_countOutside_19 : decode cd_T_countOutside 19 = .ok (.invokevirtual 33, 3) := by decide +kernel
theorem dd_T_countOutside_22 : decode cd_T_countOutside 22 = .ok (.ifCond .ne 6, 3) := by decide +kernel
theorem dd_T_countOutside_25 : decode cd_T_countOutside 25 = .ok (.iinc 2 1, 3) := by decide +kernel
theorem dd_T_countOutside_28 : decode cd_T_countOutside 28 = .ok (.iinc 3 1, 3) := by decide +kernel
theorem dd_T_countOutside_31 : decode cd_T_countOutside 31 = .ok (.goto (-27), 3) := by decide +kernel
theorem dd_T_countOutside_34 : decode cd_T_countOutside 34 = .ok (.iload_n 2, 1) := by decide +kernel
theorem dd_T_countOutside_35 : decode cd_T_countOutside 35 = .ok (.ireturn, 1) := by decide +kernel
theorem dd_T_primeOutside_0 : decode cd_T_primeOutside 0 = .ok (.iconst 0, 1) := by decide +kernel
theorem dd_T_primeOutside_1 : decode cd_T_primeOutside 1 = .ok (.istore_n 3, 1) := by decide +kernel
theorem dd_T_primeOutside_2 : decode cd_T_primeOutside 2 = .ok (.iconst 0, 1) := by decide +kernel
theorem dd_T_primeOutside_3 : decode cd_T_primeOutside 3 = .ok (.istore 4, 2) := by decide +kernel
theorem dd_T_primeOutside_5 : decode cd_T_primeOutside 5 = .ok (.iload 4, 2) := by decide +kernel
theorem dd_T_primeOutside_7 : decode cd_T_primeOutside 7 = .ok (.aload_n 0, 1) := by decide +kernel
theorem dd_T_primeOutside_8 : decode cd_T_primeOutside 8 = .ok (.getfield 19, 3) := by decide +kernel
theorem dd_T_primeOutside_11 : decode cd_T_primeOutside 11 = .ok (.if_icmp .ge 39, 3) := by decide +kernel
theorem dd_T_primeOutside_14 : decode cd_T_primeOutside 14 = .ok (.aload_n 1, 1) := by decide +kernel
theorem dd_T_primeOutside_15 : decode cd_T_primeOutside 15 = .ok (.aload_n 0, 1) := by decide +kernel
theorem dd_T_primeOutside_16 : decode cd_T_primeOutside 16 = .ok (.getfield 11, 3) := by decide +kernel
theorem dd_T_primeOutside_19 : decode cd_T_primeOutside 19 = .ok (.iload 4, 2) := by decide +kernel
theorem dd_T_primeOutside_21 : decode cd_T_primeOutside 21 = .ok (.laload, 1) := by decide +kernel
theorem dd_T_primeOutside_22 : decode cd_T_primeOutside 22 = .ok (.invokevirtual 33, 3) := by decide +kernel
theorem dd_T_primeOutside_25 : decode cd_T_primeOutside 25 = .ok (.ifCond .ne 19, 3) := by decide +kernel
theorem dd_T_primeOutside_28 : decode cd_T_primeOutside 28 = .ok (.iload_n 3, 1) := by decide +kernel
theorem dd_T_primeOutside_29 : decode cd_T_primeOutside 29 = .ok (.iload_n 2, 1) := by decide +kernel
theorem dd_T_primeOutside_30 : decode cd_T_primeOutside 30 = .ok (.if_icmp .ne 11, 3) := by decide +kernel
theorem dd_T_primeOutside_33 : decode cd_T_primeOutside 33 = .ok (.aload_n 0, 1) := by decide +kernel
theorem dd_T_primeOutside_34 : decode cd_T_primeOutside 34 = .ok (.getfield 15, 3) := by decide +kernel
theorem dd_T_primeOutside_37 : decode cd_T_primeOutside 37 = .ok (.iload 4, 2) := by decide +kernel
theorem dd_T_primeOutside_39 : decode cd_T_primeOutside 39 = .ok (.iaload, 1) := by decide +kernel
theorem dd_T_primeOutside_40 : decode cd_T_primeOutside 40 = .ok (.ireturn, 1) := by decide +kernel
theorem dd_T_primeOutside_41 : decode cd_T_primeOutside 41 = .ok (.iinc 3 1, 3) := by decide +kernel
theorem dd_T_primeOutside_44 : decode cd_T_primeOutside 44 = .ok (.iinc 4 1, 3) := by decide +kernel
theorem dd_T_primeOutside_47 : decode cd_T_primeOutside 47 = .ok (.goto (-42), 3) := by decide +kernel
theorem dd_T_primeOutside_50 : decode cd_T_primeOutside 50 = .ok (.bipush (-2), 2) := by decide +kernel
theorem dd_T_primeOutside_52 : decode cd_T_primeOutside 52 = .ok (.ireturn, 1) := by decide +kernel
theorem dd_T_multiplyInto_0 : decode cd_T_multiplyInto 0 = .ok (.iconst 0, 1) := by decide +kernel
theorem dd_T_multiplyInto_1 : decode cd_T_multiplyInto 1 = .ok (.istore_n 2, 1) := by decide +kernel
theorem dd_T_multiplyInto_2 : decode cd_T_multiplyInto 2 = .ok (.iload_n 2, 1) := by decide +kernel
theorem dd_T_multiplyInto_3 : decode cd_T_multiplyInto 3 = .ok (.aload_n 0, 1) := by decide +kernel
theorem dd_T_multiplyInto_4 : decode cd_T_multiplyInto 4 = .ok (.getfield 19, 3) := by decide +kernel
theorem dd_T_multiplyInto_7 : decode cd_T_multiplyInto 7 = .ok (.if_icmp .ge 19, 3) := by decide +kernel
theorem dd_T_multiplyInto_10 : decode cd_T_multiplyInto 10 = .ok (.aload_n 1, 1) := by decide +kernel
theorem dd_T_multiplyInto_11 : decode cd_T_multiplyInto 11 = .ok (.aload_n 0, 1) := by decide +kernel
theorem dd_T_multiplyInto_12 : decode cd_T_multiplyInto 12 = .ok (.getfield 15, 3) := by decide +kernel
theorem dd_T_multiplyInto_15 : decode cd_T_multiplyInto 15 = .ok (.iload_n 2, 1) := by decide +kernel
theorem dd_T_multiplyInto_16 : decode cd_T_multiplyInto 16 = .ok (.iaload, 1) := by decide +kernel
theorem dd_T_multiplyInto_17 : decode cd_T_multiplyInto 17 = .ok (.invokevirtual 37, 3) := by decide +kernel
theorem dd_T_multiplyInto_20 : decode cd_T_multiplyInto 20 = .ok (.iinc 2 1, 3) := by decide +kernel
theorem dd_T_multiplyInto_23 : decode cd_T_multiplyInto 23 = .ok (.goto (-21), 3) := by decide +kernel
theorem dd_T_multiplyInto_26 : decode cd_T_multiplyInto 26 = .ok (.return_, 1) := by decide +kernel
theorem dd_T_multiplyOthersInto_0 : decode cd_T_multiplyOthersInto 0 = .ok (.iconst 0, 1) := by decide +kernel
theorem dd_T_multiplyOthersInto_1 : decode cd_T_multiplyOthersInto 1 = .ok (.istore 4, 2) := by decide +kernel
theorem dd_T_multiplyOthersInto_3 : decode cd_T_multiplyOthersInto 3 = .ok (.iload 4, 2) := by decide +kernel
theorem dd_T_multiplyOthersInto_5 : decode cd_T_multiplyOthersInto 5 = .ok (.aload_n 0, 1) := by decide +kernel
theorem dd_T_multiplyOthersInto_6 : decode cd_T_multiplyOthersInto 6 = .ok (.getfield 19, 3) := by decide +kernel
theorem dd_T_multiplyOthersInto_9 : decode cd_T_multiplyOthersInto 9 = .ok (.if_icmp .ge 32, 3) := by decide +kernel
theorem dd_T_multiplyOthersInto_12 : decode cd_T_multiplyOthersInto 12 = .ok (.aload_n 0, 1) := by decide +kernel
theorem dd_T_multiplyOthersInto_13 : decode cd_T_multiplyOthersInto 13 = .ok (.getfield 11, 3) := by decide +kernel
theorem dd_T_multiplyOthersInto_16 : decode cd_T_multiplyOthersInto 16 = .ok (.iload 4, 2) := by decide +kernel
theorem dd_T_multiplyOthersInto_18 : decode cd_T_multiplyOthersInto 18 = .ok (.laload, 1) := by decide +kernel
theorem dd_T_multiplyOthersInto_19 : decode cd_T_multiplyOthersInto 19 = .ok (.lload_n 1, 1) := by decide +kernel
theorem dd_T_multiplyOthersInto_20 : decode cd_T_multiplyOthersInto 20 = .ok (.lcmp, 1) := by decide +kernel
theorem dd_T_multiplyOthersInto_21 : decode cd_T_multiplyOthersInto 21 = .ok (.ifCond .eq 14, 3) := by decide +kernel
theorem dd_T_multiplyOthersInto_24 : decode cd_T_multiplyOthersInto 24 = .ok (.aload_n 3, 1) := by decide +kernel
theorem dd_T_multiplyOthersInto_25 : decode cd_T_multiplyOthersInto 25 = .ok (.aload_n 0, 1) := by decide +kernel
theorem dd_T_multiplyOthersInto_26 : decode cd_T_multiplyOthersInto 26 = .ok (.getfield 15, 3) := by decide +kernel
theorem dd_T_multiplyOthersInto_29 : decode cd_T_multiplyOthersInto 29 = .ok (.iload 4, 2) := by decide +kernel
theorem dd_T_multiplyOthersInto_31 : decode cd_T_multiplyOthersInto 31 = .ok (.iaload, 1) := by decide +kernel
theorem dd_T_multiplyOthersInto_32 : decode cd_T_multiplyOthersInto 32 = .ok (.invokevirtual 37, 3) := by decide +kernel
theorem dd_T_multiplyOthersInto_35 : decode cd_T_multiplyOthersInto 35 = .ok (.iinc 4 1, 3) := by decide +kernel
theorem dd_T_multiplyOthersInto_38 : decode cd_T_multiplyOthersInto 38 = .ok (.goto (-35), 3) := by decide +kernel
theorem dd_T_multiplyOthersInto_41 : decode cd_T_multiplyOthersInto 41 = .ok (.return_, 1) := by decide +kernel
theorem dd_T_multiplyOutsideInto_0 : decode cd_T_multiplyOutsideInto 0 = .ok (.iconst 0, 1) := by decide +kernel
theorem dd_T_multiplyOutsideInto_1 : decode cd_T_multiplyOutsideInto 1 = .ok (.istore_n 3, 1) := by decide +kernel
theorem dd_T_multiplyOutsideInto_2 : decode cd_T_multiplyOutsideInto 2 = .ok (.iload_n 3, 1) := by decide +kernel
theorem dd_T_multiplyOutsideInto_3 : decode cd_T_multiplyOutsideInto 3 = .ok (.aload_n 0, 1) := by decide +kernel
theorem dd_T_multiplyOutsideInto_4 : decode cd_T_multiplyOutsideInto 4 = .ok (.getfield 19, 3) := by decide +kernel
theorem dd_T_multiplyOutsideInto_7 : decode cd_T_multiplyOutsideInto 7 = .ok (.if_icmp .ge 32, 3) := by decide +kernel
theorem dd_T_multiplyOutsideInto_10 : decode cd_T_multiplyOutsideInto 10 = .ok (.aload_n 1, 1) := by decide +kernel
theorem dd_T_multiplyOutsideInto_11 : decode cd_T_multiplyOutsideInto 11 = .ok (.aload_n 0, 1) := by decide +kernel
theorem dd_T_multiplyOutsideInto_12 : decode cd_T_multiplyOutsideInto 12 = .ok (.getfield 11, 3) := by decide +kernel
theorem dd_T_multiplyOutsideInto_15 : decode cd_T_multiplyOutsideInto 15 = .ok (.iload_n 3, 1) := by decide +kernel
theorem dd_T_multiplyOutsideInto_16 : decode cd_T_multiplyOutsideInto 16 = .ok (.laload, 1) := by decide +kernel
theorem dd_T_multiplyOutsideInto_17 : decode cd_T_multiplyOutsideInto 17 = .ok (.invokevirtual 33, 3) := by decide +kernel
theorem dd_T_multiplyOutsideInto_20 : decode cd_T_multiplyOutsideInto 20 = .ok (.ifCond .ne 13, 3) := by decide +kernel
theorem dd_T_multiplyOutsideInto_23 : decode cd_T_multiplyOutsideInto 23 = .ok (.aload_n 2, 1) := by decide +kernel
theorem dd_T_multiplyOutsideInto_24 : decode cd_T_multiplyOutsideInto 24 = .ok (.aload_n 0, 1) := by decide +kernel
theorem dd_T_multiplyOutsideInto_25 : decode cd_T_multiplyOutsideInto 25 = .ok (.getfield 15, 3) := by decide +kernel
theorem dd_T_multiplyOutsideInto_28 : decode cd_T_multiplyOutsideInto 28 = .ok (.iload_n 3, 1) := by decide +kernel
theorem dd_T_multiplyOutsideInto_29 : decode cd_T_multiplyOutsideInto 29 = .ok (.iaload, 1) := by decide +kernel
theorem dd_T_multiplyOutsideInto_30 : decode cd_T_multiplyOutsideInto 30 = .ok (.invokevirtual 37, 3) := by decide +kernel
theorem dd_T_multiplyOutsideInto_33 : decode cd_T_multiplyOutsideInto 33 = .ok (.iinc 3 1, 3) := by decide +kernel
theorem dd_T_multiplyOutsideInto_36 : decode cd_T_multiplyOutsideInto 36 = .ok (.goto (-34), 3) := by decide +kernel
theorem dd_T_multiplyOutsideInto_39 : decode cd_T_multiplyOutsideInto 39 = .ok (.return_, 1) := by decide +kernel
end
section
theorem dd_R_init_0 : decode cd_R_init 0 = .ok (.aload_n 0, 1) := by decide +kernel
theorem dd_R_init_1 : decode cd_R_init 1 = .ok (.invokespecial 1, 3) := by decide +kernel
theorem dd_R_init_4 : decode cd_R_init 4 = .ok (.aload_n 0, 1) := by decide +kernel
theorem dd_R_init_5 : decode cd_R_init 5 = .ok (.iconst 4, 1) := by decide +kernel
theorem dd_R_init_6 : decode cd_R_init 6 = .ok (.newarray .long, 2) := by decide +kernel
theorem dd_R_init_8 : decode cd_R_init 8 = .ok (.dup, 1) := by decide +kernel
theorem dd_R_init_9 : decode cd_R_init 9 = .ok (.iconst 0, 1) := by decide +kernel
theorem dd_R_init_10 : decode cd_R_init 10 = .ok (.ldc2_w 7, 3) := by decide +kernel
theorem dd_R_init_13 : decode cd_R_init 13 = .ok (.lastore, 1) := by decide +kernel
theorem dd_R_init_14 : decode cd_R_init 14 = .ok (.dup, 1) := by decide +kernel
theorem dd_R_init_15 : decode cd_R_init 15 = .ok (.iconst 1, 1) := by decide +kernel
theorem dd_R_init_16 : decode cd_R_init 16 = .ok (.lconst 0, 1) := by decide +kernel
theorem dd_R_init_17 : decode cd_R_init 17 = .ok (.lastore, 1) := by decide +kernel
theorem dd_R_init_18 : decode cd_R_init 18 = .ok (.dup, 1) := by decide +kernel
theorem dd_R_init_19 : decode cd_R_init 19 = .ok (.iconst 2, 1) := by decide +kernel
theorem dd_R_init_20 : decode cd_R_init 20 = .ok (.lconst 0, 1) := by decide +kernel
theorem dd_R_init_21 : decode cd_R_init 21 = .ok (.lastore, 1) := by decide +kernel
theorem dd_R_init_22 : decode cd_R_init 22 = .ok (.dup, 1) := by decide +kernel
theorem dd_R_init_23 : decode cd_R_init 23 = .ok (.iconst 3, 1) := by decide +kernel
theorem dd_R_init_24 : decode cd_R_init 24 = .ok (.lconst 0, 1) := by decide +kernel
theorem dd_R_init_25 : decode cd_R_init 25 = .ok (.lastore, 1) := by decide +kernel
theorem dd_R_init_26 : decode cd_R_init 26 = .ok (.putfield 9, 3) := by decide +kernel
theorem dd_R_init_29 : decode cd_R_init 29 = .ok (.aload_n 0, 1) := by decide +kernel
theorem dd_R_init_30 : decode cd_R_init 30 = .ok (.iconst 4, 1) := by decide +kernel
theorem dd_R_init_31 : decode cd_R_init 31 = .ok (.newarray .long, 2) := by decide +kernel
theorem dd_R_init_33 : decode cd_R_init 33 = .ok (.putfield 15, 3) := by decide +kernel
theorem dd_R_init_36 : decode cd_R_init 36 = .ok (.aload_n 0, 1) := by decide +kernel
theorem dd_R_init_37 : decode cd_R_init 37 = .ok (.iconst 4, 1) := by decide +kernel
theorem dd_R_init_38 : decode cd_R_init 38 = .ok (.newarray .long, 2) := by decide +kernel
theorem dd_R_init_40 : decode cd_R_init 40 = .ok (.dup, 1) := by decide +kernel
theorem dd_R_init_41 : decode cd_R_init 41 = .ok (.iconst 0, 1) := by decide +kernel
theorem dd_R_init_42 : decode cd_R_init 42 = .ok (.lconst 1, 1) := by decide +kernel
theorem dd_R_init_43 : decode cd_R_init 43 = .ok (.lastore, 1) := by decide +kernel
theorem dd_R_init_44 : decode cd_R_init 44 = .ok (.dup, 1) := by decide +kernel
theorem dd_R_init_45 : decode cd_R_init 45 = .ok (.iconst 1, 1) := by decide +kernel
theorem dd_R_init_46 : decode cd_R_init 46 = .ok (.lconst 0, 1) := by decide +kernel
theorem dd_R_init_47 : decode cd_R_init 47 = .ok (.lastore, 1) := by decide +kernel
theorem dd_R_init_48 : decode cd_R_init 48 = .ok (.dup, 1) := by decide +kernel
theorem dd_R_init_49 : decode cd_R_init 49 = .ok (.iconst 2, 1) := by decide +kernel
theorem dd_R_init_50 : decode cd_R_init 50 = .ok (.lconst 0, 1) := by decide +kernel
theorem dd_R_init_51 : decode cd_R_init 51 = .ok (.lastore, 1) := by decide +kernel
theorem dd_R_init_52 : decode cd_R_init 52 = .ok (.dup, 1) := by decide +kernel
theorem dd_R_init_53 : decode cd_R_init 53 = .ok (.iconst 3, 1) := by decide +kernel
theorem dd_R_init_54 : decode cd_R_init 54 = .ok (.lconst 0, 1) := by decide +kernel
theorem dd_R_init_55 : decode cd_R_init 55 = .ok (.lastore, 1) := by decide +kernel
theorem dd_R_init_56 : decode cd_R_init 56 = .ok (.putfield 18, 3) := by decide +kernel
theorem dd_R_init_59 : decode cd_R_init 59 = .ok (.aload_n 0, 1) := by decide +kernel
theorem dd_R_init_60 : decode cd_R_init 60 = .ok (.iconst 4, 1) := by decide +kernel
theorem dd_R_init_61 : decode cd_R_init 61 = .ok (.newarray .long, 2) := by decide +kernel
theorem dd_R_init_63 : decode cd_R_init 63 = .ok (.putfield 21, 3) := by decide +kernel
theorem dd_R_init_66 : decode cd_R_init 66 = .ok (.aload_n 0, 1) := by decide +kernel
theorem dd_R_init_67 : decode cd_R_init 67 = .ok (.iconst 4, 1) := by decide +kernel
theorem dd_R_init_68 : decode cd_R_init 68 = .ok (.newarray .long, 2) := by decide +kernel
theorem dd_R_init_70 : decode cd_R_init 70 = .ok (.putfield 24, 3) := by decide +kernel
theorem dd_R_init_73 : decode cd_R_init 73 = .ok (.aload_n 0, 1) := by decide +kernel
theorem dd_R_init_74 : decode cd_R_init 74 = .ok (.iconst 4, 1) := by decide +kernel
theorem dd_R_init_75 : decode cd_R_init 75 = .ok (.newarray .long, 2) := by decide +kernel
theorem dd_R_init_77 : decode cd_R_init 77 = .ok (.putfield 27, 3) := by decide +kernel
theorem dd_R_init_80 : decode cd_R_init 80 = .ok (.aload_n 0, 1) := by decide +kernel
theorem dd_R_init_81 : decode cd_R_init 81 = .ok (.bipush 6, 2) := by decide +kernel
theorem dd_R_init_83 : decode cd_R_init 83 = .ok (.newarray .long, 2) := by decide +kernel
theorem dd_R_init_85 : decode cd_R_init 85 = .ok (.putfield 30, 3) := by decide +kernel
theorem dd_R_init_88 : decode cd_R_init 88 = .ok (.aload_n 0, 1) := by decide +kernel
theorem dd_R_init_89 : decode cd_R_init 89 = .ok (.iconst 4, 1) := by decide +kernel
theorem dd_R_init_90 : decode cd_R_init 90 = .ok (.newarray .long, 2) := by decide +kernel
theorem dd_R_init_92 : decode cd_R_init 92 = .ok (.putfield 33, 3) := by decide +kernel
theorem dd_R_init_95 : decode cd_R_init 95 = .ok (.aload_n 0, 1) := by decide +kernel
theorem dd_R_init_96 : decode cd_R_init 96 = .ok (.iconst 4, 1) := by decide +kernel
theorem dd_R_init_97 : decode cd_R_init 97 = .ok (.newarray .long, 2) := by decide +kernel
theorem dd_R_init_99 : decode cd_R_init 99 = .ok (.putfield 36, 3) := by decide +kernel
theorem dd_R_init_102 : decode cd_R_init 102 = .ok (.aload_n 0, 1) := by decide +kernel
theorem dd_R_init_103 : decode cd_R_init 103 = .ok (.iconst 4, 1) := by decide +kernel
theorem dd_R_init_104 : decode cd_R_init 104 = .ok (.newarray .long, 2) := by decide +kernel
theorem dd_R_init_106 : decode cd_R_init 106 = .ok (.putfield 39, 3) := by decide +kernel
theorem dd_R_init_109 : decode cd_R_init 109 = .ok (.return_, 1) := by decide +kernel
theorem dd_R_accepts_0 : decode cd_R_accepts 0 = .ok (.lload_n 2, 1) := by decide +kernel
theorem dd_R_accepts_1 : decode cd_R_accepts 1 = .ok (.lconst 1, 1) := by decide +kernel
theorem dd_R_accepts_2 : decode cd_R_accepts 2 = .ok (.land, 1) := by decide +kernel
theorem dd_R_accepts_3 : decode cd_R_accepts 3 = .ok (.lconst 0, 1) := by decide +kernel
theorem dd_R_accepts_4 : decode cd_R_accepts 4 = .ok (.lcmp, 1) := by decide +kernel
theorem dd_R_accepts_5 : decode cd_R_accepts 5 = .ok (.ifCond .eq 7, 3) := by decide +kernel
theorem dd_R_accepts_8 : decode cd_R_accepts 8 = .ok (.iconst 1, 1) := by decide +kernel
theorem dd_R_accepts_9 : decode cd_R_accepts 9 = .ok (.goto 4, 3) := by decide +kernel
theorem dd_R_accepts_12 : decode cd_R_accepts 12 = .ok (.iconst 0, 1) := by decide +kernel
theorem dd_R_accepts_13 : decode cd_R_accepts 13 = .ok (.istore 4, 2) := by decide +kernel
theorem dd_R_accepts_15 : decode cd_R_accepts 15 = .ok (.lload_n 0, 1) := by decide +kernel
theorem dd_R_accepts_16 : decode cd_R_accepts 16 = .ok (.bipush 36, 2) := by decide +kernel
theorem dd_R_accepts_18 : decode cd_R_accepts 18 = .ok (.lushr, 1) := by decide +kernel
theorem dd_R_accepts_19 : decode cd_R_accepts 19 = .ok (.lconst 0, 1) := by decide +kernel
theorem dd_R_accepts_20 : decode cd_R_accepts 20 = .ok (.lcmp, 1) := by decide +kernel
theorem dd_R_accepts_21 : decode cd_R_accepts 21 = .ok (.ifCond .eq 7, 3) := by decide +kernel
theorem dd_R_accepts_24 : decode cd_R_accepts 24 = .ok (.iconst 1, 1) := by decide +kernel
theorem dd_R_accepts_25 : decode cd_R_accepts 25 = .ok (.goto 4, 3) := by decide +kernel
theorem dd_R_accepts_28 : decode cd_R_accepts 28 = .ok (.iconst 0, 1) := by decide +kernel
theorem dd_R_accepts_29 : decode cd_R_accepts 29 = .ok (.istore 5, 2) := by decide +kernel
theorem dd_R_accepts_31 : decode cd_R_accepts 31 = .ok (.lload_n 0, 1) := by decide +kernel
theorem dd_R_accepts_32 : decode cd_R_accepts 32 = .ok (.bipush 32, 2) := by decide +kernel
theorem dd_R_accepts_34 : decode cd_R_accepts 34 = .ok (.lushr, 1) := by decide +kernel
theorem dd_R_accepts_35 : decode cd_R_accepts 35 = .ok (.lload_n 0, 1) := by decide +kernel
theorem dd_R_accepts_36 : decode cd_R_accepts 36 = .ok (.ldc2_w 42, 3) := by decide +kernel
theorem dd_R_accepts_39 : decode cd_R_accepts 39 = .ok (.land, 1) := by decide +kernel
theorem dd_R_accepts_40 : decode cd_R_accepts 40 = .ok (.ladd, 1) := by decide +kernel
theorem dd_R_accepts_41 : decode cd_R_accepts 41 = .ok (.lload_n 2, 1) := by decide +kernel
theorem dd_R_accepts_42 : decode cd_R_accepts 42 = .ok (.bipush 32, 2) := by decide +kernel
theorem dd_R_accepts_44 : decode cd_R_accepts 44 = .ok (.lushr, 1) := by decide +kernel
theorem dd_R_accepts_45 : decode cd_R_accepts 45 = .ok (.ladd, 1) := by decide +kernel
theorem dd_R_accepts_46 : decode cd_R_accepts 46 = .ok (.lload_n 2, 1) := by decide +kernel
theorem dd_R_accepts_47 : decode cd_R_accepts 47 = .ok (.ldc2_w 42, 3) := by decide +kernel
theorem dd_R_accepts_50 : decode cd_R_accepts 50 = .ok (.land, 1) := by decide +kernel
theorem dd_R_accepts_51 : decode cd_R_accepts 51 = .ok (.ladd, 1) := by decide +kernel
theorem dd_R_accepts_52 : decode cd_R_accepts 52 = .ok (.lstore 6, 2) := by decide +kernel
theorem dd_R_accepts_54 : decode cd_R_accepts 54 = .ok (.iload 4, 2) := by decide +kernel
theorem dd_R_accepts_56 : decode cd_R_accepts 56 = .ok (.ifCond .eq 23, 3) := by decide +kernel
theorem dd_R_accepts_59 : decode cd_R_accepts 59 = .ok (.iload 5, 2) := by decide +kernel
theorem dd_R_accepts_61 : decode cd_R_accepts 61 = .ok (.ifCond .eq 18, 3) := by decide +kernel
theorem dd_R_accepts_64 : decode cd_R_accepts 64 = .ok (.lload 6, 2) := by decide +kernel
theorem dd_R_accepts_66 : decode cd_R_accepts 66 = .ok (.ldc2_w 7, 3) := by decide +kernel
theorem dd_R_accepts_69 : decode cd_R_accepts 69 = .ok (.lrem, 1) := by decide +kernel
theorem dd_R_accepts_70 : decode cd_R_accepts 70 = .ok (.lconst 0, 1) := by decide +kernel
theorem dd_R_accepts_71 : decode cd_R_accepts 71 = .ok (.lcmp, 1) := by decide +kernel
theorem dd_R_accepts_72 : decode cd_R_accepts 72 = .ok (.ifCond .eq 7, 3) := by decide +kernel
theorem dd_R_accepts_75 : decode cd_R_accepts 75 = .ok (.iconst 1, 1) := by decide +kernel
theorem dd_R_accepts_76 : decode cd_R_accepts 76 = .ok (.goto 4, 3) := by decide +kernel
theorem dd_R_accepts_79 : decode cd_R_accepts 79 = .ok (.iconst 0, 1) := by decide +kernel
theorem dd_R_accepts_80 : decode cd_R_accepts 80 = .ok (.ireturn, 1) := by decide +kernel
theorem dd_R_split_0 : decode cd_R_split 0 = .ok (.aload 4, 2) := by decide +kernel
theorem dd_R_split_2 : decode cd_R_split 2 = .ok (.iconst 0, 1) := by decide +kernel
theorem dd_R_split_3 : decode cd_R_split 3 = .ok (.lload_n 2, 1) := by decide +kernel
theorem dd_R_split_4 : decode cd_R_split 4 = .ok (.ldc2_w 42, 3) := by decide +kernel
theorem dd_R_split_7 : decode cd_R_split 7 = .ok (.land, 1) := by decide +kernel
theorem dd_R_split_8 : decode cd_R_split 8 = .ok (.lastore, 1) := by decide +kernel
theorem dd_R_split_9 : decode cd_R_split 9 = .ok (.aload 4, 2) := by decide +kernel
theorem dd_R_split_11 : decode cd_R_split 11 = .ok (.iconst 1, 1) := by decide +kernel
theorem dd_R_split_12 : decode cd_R_split 12 = .ok (.lload_n 2, 1) := by decide +kernel
theorem dd_R_split_13 : decode cd_R_split 13 = .ok (.bipush 32, 2) := by decide +kernel
theorem dd_R_split_15 : decode cd_R_split 15 = .ok (.lushr, 1) := by decide +kernel
theorem dd_R_split_16 : decode cd_R_split 16 = .ok (.lastore, 1) := by decide +kernel
theorem dd_R_split_17 : decode cd_R_split 17 = .ok (.aload 4, 2) := by decide +kernel
theorem dd_R_split_19 : decode cd_R_split 19 = .ok (.iconst 2, 1) := by decide +kernel
theorem dd_R_split_20 : decode cd_R_split 20 = .ok (.lload_n 0, 1) := by decide +kernel
theorem dd_R_split_21 : decode cd_R_split 21 = .ok (.ldc2_w 42, 3) := by decide +kernel
theorem dd_R_split_24 : decode cd_R_split 24 = .ok (.land, 1) := by decide +kernel
theorem dd_R_split_25 : decode cd_R_split 25 = .ok (.lastore, 1) := by decide +kernel
theorem dd_R_split_26 : decode cd_R_split 26 = .ok (.aload 4, 2) := by decide +kernel
theorem dd_R_split_28 : decode cd_R_split 28 = .ok (.iconst 3, 1) := by decide +kernel
theorem dd_R_split_29 : decode cd_R_split 29 = .ok (.lload_n 0, 1) := by decide +kernel
theorem dd_R_split_30 : decode cd_R_split 30 = .ok (.bipush 32, 2) := by decide +kernel
theorem dd_R_split_32 : decode cd_R_split 32 = .ok (.lushr, 1) := by decide +kernel
theorem dd_R_split_33 : decode cd_R_split 33 = .ok (.lastore, 1) := by decide +kernel
theorem dd_R_split_34 : decode cd_R_split 34 = .ok (.return_, 1) := by decide +kernel
theorem dd_R_word_0 : decode cd_R_word 0 = .ok (.iload_n 1, 1) := by decide +kernel
theorem dd_R_word_1 : decode cd_R_word 1 = .ok (.ifCond .eq 16, 3) := by decide +kernel
theorem dd_R_word_4 : decode cd_R_word 4 = .ok (.aload_n 0, 1) := by decide +kernel
theorem dd_R_word_5 : decode cd_R_word 5 = .ok (.iconst 3, 1) := by decide +kernel
theorem dd_R_word_6 : decode cd_R_word 6 = .ok (.laload, 1) := by decide +kernel
theorem dd_R_word_7 : decode cd_R_word 7 = .ok (.bipush 32, 2) := by decide +kernel
theorem dd_R_word_9 : decode cd_R_word 9 = .ok (.lshl, 1) := by decide +kernel
theorem dd_R_word_10 : decode cd_R_word 10 = .ok (.aload_n 0, 1) := by decide +kernel
theorem dd_R_word_11 : decode cd_R_word 11 = .ok (.iconst 2, 1) := by decide +kernel
theorem dd_R_word_12 : decode cd_R_word 12 = .ok (.laload, 1) := by decide +kernel
theorem dd_R_word_13 : decode cd_R_word 13 = .ok (.lor, 1) := by decide +kernel
theorem dd_R_word_14 : decode cd_R_word 14 = .ok (.goto 13, 3) := by decide +kernel
theorem dd_R_word_17 : decode cd_R_word 17 = .ok (.aload_n 0, 1) := by decide +kernel
theorem dd_R_word_18 : decode cd_R_word 18 = .ok (.iconst 1, 1) := by decide +kernel
theorem dd_R_word_19 : decode cd_R_word 19 = .ok (.laload, 1) := by decide +kernel
theorem dd_R_word_20 : decode cd_R_word 20 = .ok (.bipush 32, 2) := by decide +kernel
theorem dd_R_word_22 : decode cd_R_word 22 = .ok (.lshl, 1) := by decide +kernel
theorem dd_R_word_23 : decode cd_R_word 23 = .ok (.aload_n 0, 1) := by decide +kernel
theorem dd_R_word_24 : decode cd_R_word 24 = .ok (.iconst 0, 1) := by decide +kernel
theorem dd_R_word_25 : decode cd_R_word 25 = .ok (.laload, 1) := by decide +kernel
theorem dd_R_word_26 : decode cd_R_word 26 = .ok (.lor, 1) := by decide +kernel
theorem dd_R_word_27 : decode cd_R_word 27 = .ok (.lreturn, 1) := by decide +kernel
theorem dd_R_same_0 : decode cd_R_same 0 = .ok (.iconst 0, 1) := by decide +kernel
theorem dd_R_same_1 : decode cd_R_same 1 = .ok (.istore_n 2, 1) := by decide +kernel
theorem dd_R_same_2 : decode cd_R_same 2 = .ok (.iload_n 2, 1) := by decide +kernel
theorem dd_R_same_3 : decode cd_R_same 3 = .ok (.iconst 4, 1) := by decide +kernel
theorem dd_R_same_4 : decode cd_R_same 4 = .ok (.if_icmp .ge 21, 3) := by decide +kernel
theorem dd_R_same_7 : decode cd_R_same 7 = .ok (.aload_n 0, 1) := by decide +kernel
theorem dd_R_same_8 : decode cd_R_same 8 = .ok (.iload_n 2, 1) := by decide +kernel
theorem dd_R_same_9 : decode cd_R_same 9 = .ok (.laload, 1) := by decide +kernel
theorem dd_R_same_10 : decode cd_R_same 10 = .ok (.aload_n 1, 1) := by decide +kernel
theorem dd_R_same_11 : decode cd_R_same 11 = .ok (.iload_n 2, 1) := by decide +kernel
theorem dd_R_same_12 : decode cd_R_same 12 = .ok (.laload, 1) := by decide +kernel
theorem dd_R_same_13 : decode cd_R_same 13 = .ok (.lcmp, 1) := by decide +kernel
theorem dd_R_same_14 : decode cd_R_same 14 = .ok (.ifCond .eq 5, 3) := by decide +kernel
theorem dd_R_same_17 : decode cd_R_same 17 = .ok (.iconst 0, 1) := by decide +kernel
theorem dd_R_same_18 : decode cd_R_same 18 = .ok (.ireturn, 1) := by decide +kernel
theorem dd_R_same_19 : decode cd_R_same 19 = .ok (.iinc 2 1, 3) := by decide +kernel
theorem dd_R_same_22 : decode cd_R_same 22 = .ok (.goto (-20), 3) := by decide +kernel
theorem dd_R_same_25 : decode cd_R_same 25 = .ok (.iconst 1, 1) := by decide +kernel
theorem dd_R_same_26 : decode cd_R_same 26 = .ok (.ireturn, 1) := by decide +kernel
theorem dd_R_begin_0 : decode cd_R_begin 0 = .ok (.lload_n 1, 1) := by decide +kernel
theorem dd_R_begin_1 : decode cd_R_begin 1 = .ok (.lload_n 3, 1) := by decide +kernel
theorem dd_R_begin_2 : decode cd_R_begin 2 = .ok (.aload_n 0, 1) := by decide +kernel
theorem dd_R_begin_3 : decode cd_R_begin 3 = .ok (.getfield 21, 3) := by decide +kernel
theorem dd_R_begin_6 : decode cd_R_begin 6 = .ok (.invokestatic 44, 3) := by decide +kernel
theorem dd_R_begin_9 : decode cd_R_begin 9 = .ok (.aload_n 0, 1) := by decide +kernel
theorem dd_R_begin_10 : decode cd_R_begin 10 = .ok (.invokevirtual 48, 3) := by decide +kernel
theorem dd_R_begin_13 : decode cd_R_begin 13 = .ok (.aload_n 0, 1) := by decide +kernel
theorem dd_R_begin_14 : decode cd_R_begin 14 = .ok (.invokevirtual 51, 3) := by decide +kernel
theorem dd_R_begin_17 : decode cd_R_begin 17 = .ok (.aload_n 0, 1) := by decide +kernel
theorem dd_R_begin_18 : decode cd_R_begin 18 = .ok (.getfield 18, 3) := by decide +kernel
theorem dd_R_begin_21 : decode cd_R_begin 21 = .ok (.iconst 0, 1) := by decide +kernel
theorem dd_R_begin_22 : decode cd_R_begin 22 = .ok (.aload_n 0, 1) := by decide +kernel
theorem dd_R_begin_23 : decode cd_R_begin 23 = .ok (.getfield 24, 3) := by decide +kernel
theorem dd_R_begin_26 : decode cd_R_begin 26 = .ok (.iconst 0, 1) := by decide +kernel
theorem dd_R_begin_27 : decode cd_R_begin 27 = .ok (.iconst 4, 1) := by decide +kernel
theorem dd_R_begin_28 : decode cd_R_begin 28 = .ok (.invokestatic 54, 3) := by decide +kernel
theorem dd_R_begin_31 : decode cd_R_begin 31 = .ok (.aload_n 0, 1) := by decide +kernel
theorem dd_R_begin_32 : decode cd_R_begin 32 = .ok (.aload_n 0, 1) := by decide +kernel
theorem dd_R_begin_33 : decode cd_R_begin 33 = .ok (.getfield 24, 3) := by decide +kernel
theorem dd_R_begin_36 : decode cd_R_begin 36 = .ok (.invokevirtual 60, 3) := by decide +kernel
theorem dd_R_begin_39 : decode cd_R_begin 39 = .ok (.aload_n 0, 1) := by decide +kernel
theorem dd_R_begin_40 : decode cd_R_begin 40 = .ok (.getfield 24, 3) := by decide +kernel
theorem dd_R_begin_43 : decode cd_R_begin 43 = .ok (.iconst 0, 1) := by decide +kernel
theorem dd_R_begin_44 : decode cd_R_begin 44 = .ok (.aload_n 0, 1) := by decide +kernel
theorem dd_R_begin_45 : decode cd_R_begin 45 = .ok (.getfield 27, 3) := by decide +kernel
theorem dd_R_begin_48 : decode cd_R_begin 48 = .ok (.iconst 0, 1) := by decide +kernel
theorem dd_R_begin_49 : decode cd_R_begin 49 = .ok (.iconst 4, 1) := by decide +kernel
theorem dd_R_begin_50 : decode cd_R_begin 50 = .ok (.invokestatic 54, 3) := by decide +kernel
theorem dd_R_begin_53 : decode cd_R_begin 53 = .ok (.aload_n 0, 1) := by decide +kernel
theorem dd_R_begin_54 : decode cd_R_begin 54 = .ok (.aload_n 0, 1) := by decide +kernel
theorem dd_R_begin_55 : decode cd_R_begin 55 = .ok (.getfield 27, 3) := by decide +kernel
theorem dd_R_begin_58 : decode cd_R_begin 58 = .ok (.invokevirtual 60, 3) := by decide +kernel
theorem dd_R_begin_61 : decode cd_R_begin 61 = .ok (.return_, 1) := by decide +kernel
theorem dd_R_isBelowModulus_0 : decode cd_R_isBelowModulus 0 = .ok (.aload_n 0, 1) := by decide +kernel
theorem dd_R_isBelowModulus_1 : decode cd_R_isBelowModulus 1 = .ok (.getfield 21, 3) := by decide +kernel
theorem dd_R_isBelowModulus_4 : decode cd_R_isBelowModulus 4 = .ok (.iconst 1, 1) := by decide +kernel
theorem dd_R_isBelowModulus_5 : decode cd_R_isBelowModulus 5 = .ok (.invokestatic 64, 3) := by decide +kernel
theorem dd_R_isBelowModulus_8 : decode cd_R_isBelowModulus 8 = .ok (.lstore 5, 2) := by decide +kernel
theorem dd_R_isBelowModulus_10 : decode cd_R_isBelowModulus 10 = .ok (.aload_n 0, 1) := by decide +kernel
theorem dd_R_isBelowModulus_11 : decode cd_R_isBelowModulus 11 = .ok (.getfield 21, 3) := by decide +kernel
theorem dd_R_isBelowModulus_14 : decode cd_R_isBelowModulus 14 = .ok (.iconst 0, 1) := by decide +kernel
theorem dd_R_isBelowModulus_15 : decode cd_R_isBelowModulus 15 = .ok (.invokestatic 64, 3) := by decide +kernel
theorem dd_R_isBelowModulus_18 : decode cd_R_isBelowModulus 18 = .ok (.lstore 7, 2) := by decide +kernel
theorem dd_R_isBelowModulus_20 : decode cd_R_isBelowModulus 20 = .ok (.lload_n 1, 1) := by decide +kernel
theorem dd_R_isBelowModulus_21 : decode cd_R_isBelowModulus 21 = .ok (.lload 5, 2) := by decide +kernel
theorem dd_R_isBelowModulus_23 : decode cd_R_isBelowModulus 23 = .ok (.lcmp, 1) := by decide +kernel
theorem dd_R_isBelowModulus_24 : decode cd_R_isBelowModulus 24 = .ok (.ifCond .ne 12, 3) := by decide +kernel
theorem dd_R_isBelowModulus_27 : decode cd_R_isBelowModulus 27 = .ok (.lload_n 3, 1) := by decide +kernel
theorem dd_R_isBelowModulus_28 : decode cd_R_isBelowModulus 28 = .ok (.lload 7, 2) := by decide +kernel
theorem dd_R_isBelowModulus_30 : decode cd_R_isBelowModulus 30 = .ok (.invokestatic 68, 3) := by decide +kernel
theorem dd_R_isBelowModulus_33 : decode cd_R_isBelowModulus 33 = .ok (.goto 9, 3) := by decide +kernel
theorem dd_R_isBelowModulus_36 : decode cd_R_isBelowModulus 36 = .ok (.lload_n 1, 1) := by decide +kernel
theorem dd_R_isBelowModulus_37 : decode cd_R_isBelowModulus 37 = .ok (.lload 5, 2) := by decide +kernel
theorem dd_R_isBelowModulus_39 : decode cd_R_isBelowModulus 39 = .ok (.invokestatic 68, 3) := by decide +kernel
theorem dd_R_isBelowModulus_42 : decode cd_R_isBelowModulus 42 = .ok (.ireturn, 1) := by decide +kernel
theorem dd_R_multiply_0 : decode cd_R_multiply 0 = .ok (.aload_n 0, 1) := by decide +kernel
theorem dd_R_multiply_1 : decode cd_R_multiply 1 = .ok (.aload_n 1, 1) := by decide +kernel
theorem dd_R_multiply_2 : decode cd_R_multiply 2 = .ok (.aload_n 0, 1) := by decide +kernel
theorem dd_R_multiply_3 : decode cd_R_multiply 3 = .ok (.getfield 27, 3) := by decide +kernel
theorem dd_R_multiply_6 : decode cd_R_multiply 6 = .ok (.aload_n 0, 1) := by decide +kernel
theorem dd_R_multiply_7 : decode cd_R_multiply 7 = .ok (.getfield 36, 3) := by decide +kernel
theorem dd_R_multiply_10 : decode cd_R_multiply 10 = .ok (.invokevirtual 72, 3) := by decide +kernel
theorem dd_R_multiply_13 : decode cd_R_multiply 13 = .ok (.aload_n 0, 1) := by decide +kernel
theorem dd_R_multiply_14 : decode cd_R_multiply 14 = .ok (.aload_n 0, 1) := by decide +kernel
theorem dd_R_multiply_15 : decode cd_R_multiply 15 = .ok (.getfield 36, 3) := by decide +kernel
theorem dd_R_multiply_18 : decode cd_R_multiply 18 = .ok (.aload_n 2, 1) := by decide +kernel
theorem dd_R_multiply_19 : decode cd_R_multiply 19 = .ok (.aload_n 3, 1) := by decide +kernel
theorem dd_R_multiply_20 : decode cd_R_multiply 20 = .ok (.invokevirtual 72, 3) := by decide +kernel
theorem dd_R_multiply_23 : decode cd_R_multiply 23 = .ok (.return_, 1) := by decide +kernel
theorem dd_R_power_0 : decode cd_R_power 0 = .ok (.aload_n 0, 1) := by decide +kernel
theorem dd_R_power_1 : decode cd_R_power 1 = .ok (.aload_n 1, 1) := by decide +kernel
theorem dd_R_power_2 : decode cd_R_power 2 = .ok (.aload_n 0, 1) := by decide +kernel
theorem dd_R_power_3 : decode cd_R_power 3 = .ok (.getfield 27, 3) := by decide +kernel
theorem dd_R_power_6 : decode cd_R_power 6 = .ok (.aload_n 0, 1) := by decide +kernel
theorem dd_R_power_7 : decode cd_R_power 7 = .ok (.getfield 36, 3) := by decide +kernel
theorem dd_R_power_10 : decode cd_R_power 10 = .ok (.invokevirtual 72, 3) := by decide +kernel
theorem dd_R_power_13 : decode cd_R_power 13 = .ok (.aload_n 0, 1) := by decide +kernel
theorem dd_R_power_14 : decode cd_R_power 14 = .ok (.getfield 24, 3) := by decide +kernel
theorem dd_R_power_17 : decode cd_R_power 17 = .ok (.iconst 0, 1) := by decide +kernel
theorem dd_R_power_18 : decode cd_R_power 18 = .ok (.aload_n 0, 1) := by decide +kernel
theorem dd_R_power_19 : decode cd_R_power 19 = .ok (.getfield 39, 3) := by decide +kernel
theorem dd_R_power_22 : decode cd_R_power 22 = .ok (.iconst 0, 1) := by decide +kernel
theorem dd_R_power_23 : decode cd_R_power 23 = .ok (.iconst 4, 1) := by decide +kernel
theorem dd_R_power_24 : decode cd_R_power 24 = .ok (.invokestatic 54, 3) := by decide +kernel
theorem dd_R_power_27 : decode cd_R_power 27 = .ok (.aload_n 2, 1) := by decide +kernel
theorem dd_R_power_28 : decode cd_R_power 28 = .ok (.invokevirtual 76, 3) := by decide +kernel
theorem dd_R_power_31 : decode cd_R_power 31 = .ok (.istore 4, 2) := by decide +kernel
theorem dd_R_power_33 : decode cd_R_power 33 = .ok (.iload 4, 2) := by decide +kernel
theorem dd_R_power_35 : decode cd_R_power 35 = .ok (.ifCond .lt 50, 3) := by decide +kernel
theorem dd_R_power_38 : decode cd_R_power 38 = .ok (.aload_n 0, 1) := by decide +kernel
theorem dd_R_power_39 : decode cd_R_power 39 = .ok (.aload_n 0, 1) := by decide +kernel
theorem dd_R_power_40 : decode cd_R_power 40 = .ok (.getfield 39, 3) := by decide +kernel
theorem dd_R_power_43 : decode cd_R_power 43 = .ok (.aload_n 0, 1) := by decide +kernel
theorem dd_R_power_44 : decode cd_R_power 44 = .ok (.getfield 39, 3) := by decide +kernel
theorem dd_R_power_47 : decode cd_R_power 47 = .ok (.aload_n 0, 1) := by decide +kernel
theorem dd_R_power_48 : decode cd_R_power 48 = .ok (.getfield 39, 3) := by decide +kernel
theorem dd_R_power_51 : decode cd_R_power 51 = .ok (.invokevirtual 72, 3) := by decide +kernel
theorem dd_R_power_54 : decode cd_R_power 54 = .ok (.aload_n 2, 1) := by decide +kernel
theorem dd_R_power_55 : decode cd_R_power 55 = .ok (.iload 4, 2) := by decide +kernel
theorem dd_R_power_57 : decode cd_R_power 57 = .ok (.invokevirtual 82, 3) := by decide +kernel
theorem dd_R_power_60 : decode cd_R_power 60 = .ok (.ifCond .eq 19, 3) := by decide +kernel
theorem dd_R_power_63 : decode cd_R_power 63 = .ok (.aload_n 0, 1) := by decide +kernel
theorem dd_R_power_64 : decode cd_R_power 64 = .ok (.aload_n 0, 1) := by decide +kernel
theorem dd_R_power_65 : decode cd_R_power 65 = .ok (.getfield 39, 3) := by decide +kernel
theorem dd_R_power_68 : decode cd_R_power 68 = .ok (.aload_n 0, 1) := by decide +kernel
theorem dd_R_power_69 : decode cd_R_power 69 = .ok (.getfield 36, 3) := by decide +kernel
theorem dd_R_power_72 : decode cd_R_power 72 = .ok (.aload_n 0, 1) := by decide +kernel
theorem dd_R_power_73 : decode cd_R_power 73 = .ok (.getfield 39, 3) := by decide +kernel
theorem dd_R_power_76 : decode cd_R_power 76 = .ok (.invokevirtual 72, 3) := by decide +kernel
theorem dd_R_power_79 : decode cd_R_power 79 = .ok (.iinc 4 (-1), 3) := by decide +kernel
theorem dd_R_power_82 : decode cd_R_power 82 = .ok (.goto (-49), 3) := by decide +kernel
theorem dd_R_power_85 : decode cd_R_power 85 = .ok (.aload_n 0, 1) := by decide +kernel
theorem dd_R_power_86 : decode cd_R_power 86 = .ok (.aload_n 0, 1) := by decide +kernel
theorem dd_R_power_87 : decode cd_R_power 87 = .ok (.getfield 39, 3) := by decide +kernel
theorem dd_R_power_90 : decode cd_R_power 90 = .ok (.aload_n 0, 1) := by decide +kernel
theorem dd_R_power_91 : decode cd_R_power 91 = .ok (.getfield 18, 3) := by decide +kernel
theorem dd_R_power_94 : decode cd_R_power 94 = .ok (.aload_n 3, 1) := by decide +kernel
theorem dd_R_power_95 : decode cd_R_power 95 = .ok (.invokevirtual 72, 3) := by decide +kernel
theorem dd_R_power_98 : decode cd_R_power 98 = .ok (.return_, 1) := by decide +kernel
theorem dd_R_isBelow_0 : decode cd_R_isBelow 0 = .ok (.lload_n 0, 1) := by decide +kernel
theorem dd_R_isBelow_1 : decode cd_R_isBelow 1 = .ok (.ldc2_w 88, 3) := by decide +kernel
theorem dd_R_isBelow_4 : decode cd_R_isBelow 4 = .ok (.ladd, 1) := by decide +kernel
theorem dd_R_isBelow_5 : decode cd_R_isBelow 5 = .ok (.lload_n 2, 1) := by decide +kernel
theorem dd_R_isBelow_6 : decode cd_R_isBelow 6 = .ok (.ldc2_w 88, 3) := by decide +kernel
theorem dd_R_isBelow_9 : decode cd_R_isBelow 9 = .ok (.ladd, 1) := by decide +kernel
theorem dd_R_isBelow_10 : decode cd_R_isBelow 10 = .ok (.lcmp, 1) := by decide +kernel
theorem dd_R_isBelow_11 : decode cd_R_isBelow 11 = .ok (.ifCond .ge 7, 3) := by decide +kernel
theorem dd_R_isBelow_14 : decode cd_R_isBelow 14 = .ok (.iconst 1, 1) := by decide +kernel
theorem dd_R_isBelow_15 : decode cd_R_isBelow 15 = .ok (.goto 4, 3) := by decide +kernel
theorem dd_R_isBelow_18 : decode cd_R_isBelow 18 = .ok (.iconst 0, 1) := by decide +kernel
theorem dd_R_isBelow_19 : decode cd_R_isBelow 19 = .ok (.ireturn, 1) := by decide +kernel
theorem dd_R_findNegatedInverse_0 : decode cd_R_findNegatedInverse 0 = .ok (.aload_n 0, 1) := by decide +kernel
theorem dd_R_findNegatedInverse_1 : decode cd_R_findNegatedInverse 1 = .ok (.getfield 21, 3) := by decide +kernel
theorem dd_R_findNegatedInverse_4 : decode cd_R_findNegatedInverse 4 = .ok (.iconst 0, 1) := by decide +kernel
theorem dd_R_findNegatedInverse_5 : decode cd_R_findNegatedInverse 5 = .ok (.laload, 1) := by decide +kernel
theorem dd_R_findNegatedInverse_6 : decode cd_R_findNegatedInverse 6 = .ok (.lstore_n 1, 1) := by decide +kernel
theorem dd_R_findNegatedInverse_7 : decode cd_R_findNegatedInverse 7 = .ok (.lload_n 1, 1) := by decide +kernel
theorem dd_R_findNegatedInverse_8 : decode cd_R_findNegatedInverse 8 = .ok (.lstore_n 3, 1) := by decide +kernel
theorem dd_R_findNegatedInverse_9 : decode cd_R_findNegatedInverse 9 = .ok (.iconst 0, 1) := by decide +kernel
theorem dd_R_findNegatedInverse_10 : decode cd_R_findNegatedInverse 10 = .ok (.istore 5, 2) := by decide +kernel
theorem dd_R_findNegatedInverse_12 : decode cd_R_findNegatedInverse 12 = .ok (.iload 5, 2) := by decide +kernel
theorem dd_R_findNegatedInverse_14 : decode cd_R_findNegatedInverse 14 = .ok (.iconst 4, 1) := by decide +kernel
theorem dd_R_findNegatedInverse_15 : decode cd_R_findNegatedInverse 15 = .ok (.if_icmp .ge 23, 3) := by decide +kernel
theorem dd_R_findNegatedInverse_18 : decode cd_R_findNegatedInverse 18 = .ok (.lload_n 3, 1) := by decide +kernel
theorem dd_R_findNegatedInverse_19 : decode cd_R_findNegatedInverse 19 = .ok (.ldc2_w 90, 3) := by decide +kernel
theorem dd_R_findNegatedInverse_22 : decode cd_R_findNegatedInverse 22 = .ok (.lload_n 1, 1) := by decide +kernel
theorem dd_R_findNegatedInverse_23 : decode cd_R_findNegatedInverse 23 = .ok (.lload_n 3, 1) := by decide +kernel
theorem dd_R_findNegatedInverse_24 : decode cd_R_findNegatedInverse 24 = .ok (.lmul, 1) := by decide +kernel
theorem dd_R_findNegatedInverse_25 : decode cd_R_findNegatedInverse 25 = .ok (.lsub, 1) := by decide +kernel
theorem dd_R_findNegatedInverse_26 : decode cd_R_findNegatedInverse 26 = .ok (.lmul, 1) := by decide +kernel
theorem dd_R_findNegatedInverse_27 : decode cd_R_findNegatedInverse 27 = .ok (.ldc2_w 42, 3) := by decide +kernel
theorem dd_R_findNegatedInverse_30 : decode cd_R_findNegatedInverse 30 = .ok (.land, 1) := by decide +kernel
theorem dd_R_findNegatedInverse_31 : decode cd_R_findNegatedInverse 31 = .ok (.lstore_n 3, 1) := by decide +kernel
theorem dd_R_findNegatedInverse_32 : decode cd_R_findNegatedInverse 32 = .ok (.iinc 5 1, 3) := by decide +kernel
theorem dd_R_findNegatedInverse_35 : decode cd_R_findNegatedInverse 35 = .ok (.goto (-23), 3) := by decide +kernel
theorem dd_R_findNegatedInverse_38 : decode cd_R_findNegatedInverse 38 = .ok (.aload_n 0, 1) := by decide +kernel
theorem dd_R_findNegatedInverse_39 : decode cd_R_findNegatedInverse 39 = .ok (.lload_n 3, 1) := by decide +kernel
theorem dd_R_findNegatedInverse_40 : decode cd_R_findNegatedInverse 40 = .ok (.lneg, 1) := by decide +kernel
theorem dd_R_findNegatedInverse_41 : decode cd_R_findNegatedInverse 41 = .ok (.ldc2_w 42, 3) := by decide +kernel
theorem dd_R_findNegatedInverse_44 : decode cd_R_findNegatedInverse 44 = .ok (.land, 1) := by decide +kernel
theorem dd_R_findNegatedInverse_45 : decode cd_R_findNegatedInverse 45 = .ok (.putfield 92, 3) := by decide +kernel
theorem dd_R_findNegatedInverse_48 : decode cd_R_findNegatedInverse 48 = .ok (.return_, 1) := by decide +kernel
theorem dd_R_findThird_0 : decode cd_R_findThird 0 = .ok (.lconst 0, 1) := by decide +kernel
theorem dd_R_findThird_1 : decode cd_R_findThird 1 = .ok (.lstore_n 1, 1) := by decide +kernel
theorem dd_R_findThird_2 : decode cd_R_findThird 2 = .ok (.iconst 3, 1) := by decide +kernel
theorem dd_R_findThird_3 : decode cd_R_findThird 3 = .ok (.istore_n 3, 1) := by decide +kernel
theorem dd_R_findThird_4 : decode cd_R_findThird 4 = .ok (.iload_n 3, 1) := by decide +kernel
theorem dd_R_findThird_5 : decode cd_R_findThird 5 = .ok (.ifCond .lt 41, 3) := by decide +kernel
theorem dd_R_findThird_8 : decode cd_R_findThird 8 = .ok (.lload_n 1, 1) := by decide +kernel
theorem dd_R_findThird_9 : decode cd_R_findThird 9 = .ok (.bipush 32, 2) := by decide +kernel
theorem dd_R_findThird_11 : decode cd_R_findThird 11 = .ok (.lshl, 1) := by decide +kernel
theorem dd_R_findThird_12 : decode cd_R_findThird 12 = .ok (.aload_n 0, 1) := by decide +kernel
theorem dd_R_findThird_13 : decode cd_R_findThird 13 = .ok (.getfield 21, 3) := by decide +kernel
theorem dd_R_findThird_16 : decode cd_R_findThird 16 = .ok (.iload_n 3, 1) := by decide +kernel
theorem dd_R_findThird_17 : decode cd_R_findThird 17 = .ok (.laload, 1) := by decide +kernel
theorem dd_R_findThird_18 : decode cd_R_findThird 18 = .ok (.lor, 1) := by decide +kernel
theorem dd_R_findThird_19 : decode cd_R_findThird 19 = .ok (.lstore 4, 2) := by decide +kernel
theorem dd_R_findThird_21 : decode cd_R_findThird 21 = .ok (.aload_n 0, 1) := by decide +kernel
theorem dd_R_findThird_22 : decode cd_R_findThird 22 = .ok (.getfield 15, 3) := by decide +kernel
theorem dd_R_findThird_25 : decode cd_R_findThird 25 = .ok (.iload_n 3, 1) := by decide +kernel
theorem dd_R_findThird_26 : decode cd_R_findThird 26 = .ok (.lload 4, 2) := by decide +kernel
theorem dd_R_findThird_28 : decode cd_R_findThird 28 = .ok (.ldc2_w 7, 3) := by decide +kernel
theorem dd_R_findThird_31 : decode cd_R_findThird 31 = .ok (.ldiv, 1) := by decide +kernel
theorem dd_R_findThird_32 : decode cd_R_findThird 32 = .ok (.lastore, 1) := by decide +kernel
theorem dd_R_findThird_33 : decode cd_R_findThird 33 = .ok (.lload 4, 2) := by decide +kernel
theorem dd_R_findThird_35 : decode cd_R_findThird 35 = .ok (.ldc2_w 7, 3) := by decide +kernel
theorem dd_R_findThird_38 : decode cd_R_findThird 38 = .ok (.lrem, 1) := by decide +kernel
theorem dd_R_findThird_39 : decode cd_R_findThird 39 = .ok (.lstore_n 1, 1) := by decide +kernel
theorem dd_R_findThird_40 : decode cd_R_findThird 40 = .ok (.iinc 3 (-1), 3) := by decide +kernel
theorem dd_R_findThird_43 : decode cd_R_findThird 43 = .ok (.goto (-39), 3) := by decide +kernel
theorem dd_R_findThird_46 : decode cd_R_findThird 46 = .ok (.lload_n 1, 1) := by decide +kernel
theorem dd_R_findThird_47 : decode cd_R_findThird 47 = .ok (.lconst 1, 1) := by decide +kernel
theorem dd_R_findThird_48 : decode cd_R_findThird 48 = .ok (.lcmp, 1) := by decide +kernel
theorem dd_R_findThird_49 : decode cd_R_findThird 49 = .ok (.ifCond .ne 9, 3) := by decide +kernel
theorem dd_R_findThird_52 : decode cd_R_findThird 52 = .ok (.ldc2_w 90, 3) := by decide +kernel
theorem dd_R_findThird_55 : decode cd_R_findThird 55 = .ok (.goto 4, 3) := by decide +kernel
theorem dd_R_findThird_58 : decode cd_R_findThird 58 = .ok (.lconst 1, 1) := by decide +kernel
theorem dd_R_findThird_59 : decode cd_R_findThird 59 = .ok (.lstore_n 3, 1) := by decide +kernel
theorem dd_R_findThird_60 : decode cd_R_findThird 60 = .ok (.lconst 1, 1) := by decide +kernel
theorem dd_R_findThird_61 : decode cd_R_findThird 61 = .ok (.lstore 5, 2) := by decide +kernel
theorem dd_R_findThird_63 : decode cd_R_findThird 63 = .ok (.iconst 0, 1) := by decide +kernel
theorem dd_R_findThird_64 : decode cd_R_findThird 64 = .ok (.istore 7, 2) := by decide +kernel
theorem dd_R_findThird_66 : decode cd_R_findThird 66 = .ok (.iload 7, 2) := by decide +kernel
theorem dd_R_findThird_68 : decode cd_R_findThird 68 = .ok (.iconst 4, 1) := by decide +kernel
theorem dd_R_findThird_69 : decode cd_R_findThird 69 = .ok (.if_icmp .ge 43, 3) := by decide +kernel
theorem dd_R_findThird_72 : decode cd_R_findThird 72 = .ok (.aload_n 0, 1) := by decide +kernel
theorem dd_R_findThird_73 : decode cd_R_findThird 73 = .ok (.getfield 15, 3) := by decide +kernel
theorem dd_R_findThird_76 : decode cd_R_findThird 76 = .ok (.iload 7, 2) := by decide +kernel
theorem dd_R_findThird_78 : decode cd_R_findThird 78 = .ok (.laload, 1) := by decide +kernel
theorem dd_R_findThird_79 : decode cd_R_findThird 79 = .ok (.lload_n 3, 1) := by decide +kernel
theorem dd_R_findThird_80 : decode cd_R_findThird 80 = .ok (.lmul, 1) := by decide +kernel
theorem dd_R_findThird_81 : decode cd_R_findThird 81 = .ok (.lload 5, 2) := by decide +kernel
theorem dd_R_findThird_83 : decode cd_R_findThird 83 = .ok (.ladd, 1) := by decide +kernel
theorem dd_R_findThird_84 : decode cd_R_findThird 84 = .ok (.lstore 8, 2) := by decide +kernel
theorem dd_R_findThird_86 : decode cd_R_findThird 86 = .ok (.aload_n 0, 1) := by decide +kernel
theorem dd_R_findThird_87 : decode cd_R_findThird 87 = .ok (.getfield 15, 3) := by decide +kernel
theorem dd_R_findThird_90 : decode cd_R_findThird 90 = .ok (.iload 7, 2) := by decide +kernel
theorem dd_R_findThird_92 : decode cd_R_findThird 92 = .ok (.lload 8, 2) := by decide +kernel
theorem dd_R_findThird_94 : decode cd_R_findThird 94 = .ok (.ldc2_w 42, 3) := by decide +kernel
theorem dd_R_findThird_97 : decode cd_R_findThird 97 = .ok (.land, 1) := by decide +kernel
theorem dd_R_findThird_98 : decode cd_R_findThird 98 = .ok (.lastore, 1) := by decide +kernel
theorem dd_R_findThird_99 : decode cd_R_findThird 99 = .ok (.lload 8, 2) := by decide +kernel
theorem dd_R_findThird_101 : decode cd_R_findThird 101 = .ok (.bipush 32, 2) := by decide +kernel
theorem dd_R_findThird_103 : decode cd_R_findThird 103 = .ok (.lushr, 1) := by decide +kernel
theorem dd_R_findThird_104 : decode cd_R_findThird 104 = .ok (.lstore 5, 2) := by decide +kernel
theorem dd_R_findThird_106 : decode cd_R_findThird 106 = .ok (.iinc 7 1, 3) := by decide +kernel
theorem dd_R_findThird_109 : decode cd_R_findThird 109 = .ok (.goto (-43), 3) := by decide +kernel
theorem dd_R_findThird_112 : decode cd_R_findThird 112 = .ok (.return_, 1) := by decide +kernel
theorem dd_R_shiftBy128_0 : decode cd_R_shiftBy128 0 = .ok (.iconst 0, 1) := by decide +kernel
theorem dd_R_shiftBy128_1 : decode cd_R_shiftBy128 1 = .ok (.istore_n 2, 1) := by decide +kernel
theorem dd_R_shiftBy128_2 : decode cd_R_shiftBy128 2 = .ok (.iload_n 2, 1) := by decide +kernel
theorem dd_R_shiftBy128_3 : decode cd_R_shiftBy128 3 = .ok (.sipush 128, 3) := by decide +kernel
theorem dd_R_shiftBy128_6 : decode cd_R_shiftBy128 6 = .ok (.if_icmp .ge 67, 3) := by decide +kernel
theorem dd_R_shiftBy128_9 : decode cd_R_shiftBy128 9 = .ok (.lconst 0, 1) := by decide +kernel
theorem dd_R_shiftBy128_10 : decode cd_R_shiftBy128 10 = .ok (.lstore_n 3, 1) := by decide +kernel
theorem dd_R_shiftBy128_11 : decode cd_R_shiftBy128 11 = .ok (.iconst 0, 1) := by decide +kernel
theorem dd_R_shiftBy128_12 : decode cd_R_shiftBy128 12 = .ok (.istore 5, 2) := by decide +kernel
theorem dd_R_shiftBy128_14 : decode cd_R_shiftBy128 14 = .ok (.iload 5, 2) := by decide +kernel
theorem dd_R_shiftBy128_16 : decode cd_R_shiftBy128 16 = .ok (.iconst 4, 1) := by decide +kernel
theorem dd_R_shiftBy128_17 : decode cd_R_shiftBy128 17 = .ok (.if_icmp .ge 38, 3) := by decide +kernel
theorem dd_R_shiftBy128_20 : decode cd_R_shiftBy128 20 = .ok (.aload_n 1, 1) := by decide +kernel
theorem dd_R_shiftBy128_21 : decode cd_R_shiftBy128 21 = .ok (.iload 5, 2) := by decide +kernel
theorem dd_R_shiftBy128_23 : decode cd_R_shiftBy128 23 = .ok (.laload, 1) := by decide +kernel
theorem dd_R_shiftBy128_24 : decode cd_R_shiftBy128 24 = .ok (.iconst 1, 1) := by decide +kernel
theorem dd_R_shiftBy128_25 : decode cd_R_shiftBy128 25 = .ok (.lshl, 1) := by decide +kernel
theorem dd_R_shiftBy128_26 : decode cd_R_shiftBy128 26 = .ok (.lload_n 3, 1) := by decide +kernel
theorem dd_R_shiftBy128_27 : decode cd_R_shiftBy128 27 = .ok (.lor, 1) := by decide +kernel
theorem dd_R_shiftBy128_28 : decode cd_R_shiftBy128 28 = .ok (.lstore 6, 2) := by decide +kernel
theorem dd_R_shiftBy128_30 : decode cd_R_shiftBy128 30 = .ok (.aload_n 0, 1) := by decide +kernel
theorem dd_R_shiftBy128_31 : decode cd_R_shiftBy128 31 = .ok (.getfield 30, 3) := by decide +kernel
theorem dd_R_shiftBy128_34 : decode cd_R_shiftBy128 34 = .ok (.iload 5, 2) := by decide +kernel
theorem dd_R_shiftBy128_36 : decode cd_R_shiftBy128 36 = .ok (.lload 6, 2) := by decide +kernel
theorem dd_R_shiftBy128_38 : decode cd_R_shiftBy128 38 = .ok (.ldc2_w 42, 3) := by decide +kernel
theorem dd_R_shiftBy128_41 : decode cd_R_shiftBy128 41 = .ok (.land, 1) := by decide +kernel
theorem dd_R_shiftBy128_42 : decode cd_R_shiftBy128 42 = .ok (.lastore, 1) := by decide +kernel
theorem dd_R_shiftBy128_43 : decode cd_R_shiftBy128 43 = .ok (.lload 6, 2) := by decide +kernel
theorem dd_R_shiftBy128_45 : decode cd_R_shiftBy128 45 = .ok (.bipush 32, 2) := by decide +kernel
theorem dd_R_shiftBy128_47 : decode cd_R_shiftBy128 47 = .ok (.lushr, 1) := by decide +kernel
theorem dd_R_shiftBy128_48 : decode cd_R_shiftBy128 48 = .ok (.lstore_n 3, 1) := by decide +kernel
theorem dd_R_shiftBy128_49 : decode cd_R_shiftBy128 49 = .ok (.iinc 5 1, 3) := by decide +kernel
theorem dd_R_shiftBy128_52 : decode cd_R_shiftBy128 52 = .ok (.goto (-38), 3) := by decide +kernel
theorem dd_R_shiftBy128_55 : decode cd_R_shiftBy128 55 = .ok (.aload_n 0, 1) := by decide +kernel
theorem dd_R_shiftBy128_56 : decode cd_R_shiftBy128 56 = .ok (.getfield 30, 3) := by decide +kernel
theorem dd_R_shiftBy128_59 : decode cd_R_shiftBy128 59 = .ok (.iconst 4, 1) := by decide +kernel
theorem dd_R_shiftBy128_60 : decode cd_R_shiftBy128 60 = .ok (.lload_n 3, 1) := by decide +kernel
theorem dd_R_shiftBy128_61 : decode cd_R_shiftBy128 61 = .ok (.lastore, 1) := by decide +kernel
theorem dd_R_shiftBy128_62 : decode cd_R_shiftBy128 62 = .ok (.aload_n 0, 1) := by decide +kernel
theorem dd_R_shiftBy128_63 : decode cd_R_shiftBy128 63 = .ok (.aload_n 1, 1) := by decide +kernel
theorem dd_R_shiftBy128_64 : decode cd_R_shiftBy128 64 = .ok (.invokevirtual 96, 3) := by decide +kernel
theorem dd_R_shiftBy128_67 : decode cd_R_shiftBy128 67 = .ok (.iinc 2 1, 3) := by decide +kernel
theorem dd_R_shiftBy128_70 : decode cd_R_shiftBy128 70 = .ok (.goto (-68), 3) := by decide +kernel
theorem dd_R_shiftBy128_73 : decode cd_R_shiftBy128 73 = .ok (.return_, 1) := by decide +kernel
theorem dd_R_montgomery_0 : decode cd_R_montgomery 0 = .ok (.aload_n 0, 1) := by decide +kernel
theorem dd_R_montgomery_1 : decode cd_R_montgomery 1 = .ok (.getfield 30, 3) := by decide +kernel
theorem dd_R_montgomery_4 : decode cd_R_montgomery 4 = .ok (.lconst 0, 1) := by decide +kernel
theorem dd_R_montgomery_5 : decode cd_R_montgomery 5 = .ok (.invokestatic 99, 3) := by decide +kernel
theorem dd_R_montgomery_8 : decode cd_R_montgomery 8 = .ok (.iconst 0, 1) := by decide +kernel
theorem dd_R_montgomery_9 : decode cd_R_montgomery 9 = .ok (.istore 4, 2) := by decide +kernel
theorem dd_R_montgomery_11 : decode cd_R_montgomery 11 = .ok (.iload 4, 2) := by decide +kernel
theorem dd_R_montgomery_13 : decode cd_R_montgomery 13 = .ok (.iconst 4, 1) := by decide +kernel
theorem dd_R_montgomery_14 : decode cd_R_montgomery 14 = .ok (.if_icmp .ge 22, 3) := by decide +kernel
theorem dd_R_montgomery_17 : decode cd_R_montgomery 17 = .ok (.aload_n 0, 1) := by decide +kernel
theorem dd_R_montgomery_18 : decode cd_R_montgomery 18 = .ok (.aload_n 1, 1) := by decide +kernel
theorem dd_R_montgomery_19 : decode cd_R_montgomery 19 = .ok (.aload_n 2, 1) := by decide +kernel
theorem dd_R_montgomery_20 : decode cd_R_montgomery 20 = .ok (.iload 4, 2) := by decide +kernel
theorem dd_R_montgomery_22 : decode cd_R_montgomery 22 = .ok (.laload, 1) := by decide +kernel
theorem dd_R_montgomery_23 : decode cd_R_montgomery 23 = .ok (.invokevirtual 105, 3) := by decide +kernel
theorem dd_R_montgomery_26 : decode cd_R_montgomery 26 = .ok (.aload_n 0, 1) := by decide +kernel
theorem dd_R_montgomery_27 : decode cd_R_montgomery 27 = .ok (.invokevirtual 108, 3) := by decide +kernel
theorem dd_R_montgomery_30 : decode cd_R_montgomery 30 = .ok (.iinc 4 1, 3) := by decide +kernel
theorem dd_R_montgomery_33 : decode cd_R_montgomery 33 = .ok (.goto (-22), 3) := by decide +kernel
theorem dd_R_montgomery_36 : decode cd_R_montgomery 36 = .ok (.aload_n 0, 1) := by decide +kernel
theorem dd_R_montgomery_37 : decode cd_R_montgomery 37 = .ok (.aload_n 3, 1) := by decide +kernel
theorem dd_R_montgomery_38 : decode cd_R_montgomery 38 = .ok (.invokevirtual 96, 3) := by decide +kernel
theorem dd_R_montgomery_41 : decode cd_R_montgomery 41 = .ok (.return_, 1) := by decide +kernel
theorem dd_R_addProduct_0 : decode cd_R_addProduct 0 = .ok (.lconst 0, 1) := by decide +kernel
theorem dd_R_addProduct_1 : decode cd_R_addProduct 1 = .ok (.lstore 4, 2) := by decide +kernel
theorem dd_R_addProduct_3 : decode cd_R_addProduct 3 = .ok (.iconst 0, 1) := by decide +kernel
theorem dd_R_addProduct_4 : decode cd_R_addProduct 4 = .ok (.istore 6, 2) := by decide +kernel
theorem dd_R_addProduct_6 : decode cd_R_addProduct 6 = .ok (.iload 6, 2) := by decide +kernel
theorem dd_R_addProduct_8 : decode cd_R_addProduct 8 = .ok (.iconst 4, 1) := by decide +kernel
theorem dd_R_addProduct_9 : decode cd_R_addProduct 9 = .ok (.if_icmp .ge 48, 3) := by decide +kernel
theorem dd_R_addProduct_12 : decode cd_R_addProduct 12 = .ok (.aload_n 0, 1) := by decide +kernel
theorem dd_R_addProduct_13 : decode cd_R_addProduct 13 = .ok (.getfield 30, 3) := by decide +kernel
theorem dd_R_addProduct_16 : decode cd_R_addProduct 16 = .ok (.iload 6, 2) := by decide +kernel
theorem dd_R_addProduct_18 : decode cd_R_addProduct 18 = .ok (.laload, 1) := by decide +kernel
theorem dd_R_addProduct_19 : decode cd_R_addProduct 19 = .ok (.aload_n 1, 1) := by decide +kernel
theorem dd_R_addProduct_20 : decode cd_R_addProduct 20 = .ok (.iload 6, 2) := by decide +kernel
theorem dd_R_addProduct_22 : decode cd_R_addProduct 22 = .ok (.laload, 1) := by decide +kernel
theorem dd_R_addProduct_23 : decode cd_R_addProduct 23 = .ok (.lload_n 2, 1) := by decide +kernel
theorem dd_R_addProduct_24 : decode cd_R_addProduct 24 = .ok (.lmul, 1) := by decide +kernel
theorem dd_R_addProduct_25 : decode cd_R_addProduct 25 = .ok (.ladd, 1) := by decide +kernel
theorem dd_R_addProduct_26 : decode cd_R_addProduct 26 = .ok (.lload 4, 2) := by decide +kernel
theorem dd_R_addProduct_28 : decode cd_R_addProduct 28 = .ok (.ladd, 1) := by decide +kernel
theorem dd_R_addProduct_29 : decode cd_R_addProduct 29 = .ok (.lstore 7, 2) := by decide +kernel
theorem dd_R_addProduct_31 : decode cd_R_addProduct 31 = .ok (.aload_n 0, 1) := by decide +kernel
theorem dd_R_addProduct_32 : decode cd_R_addProduct 32 = .ok (.getfield 30, 3) := by decide +kernel
theorem dd_R_addProduct_35 : decode cd_R_addProduct 35 = .ok (.iload 6, 2) := by decide +kernel
theorem dd_R_addProduct_37 : decode cd_R_addProduct 37 = .ok (.lload 7, 2) := by decide +kernel
theorem dd_R_addProduct_39 : decode cd_R_addProduct 39 = .ok (.ldc2_w 42, 3) := by decide +kernel
theorem dd_R_addProduct_42 : decode cd_R_addProduct 42 = .ok (.land, 1) := by decide +kernel
theorem dd_R_addProduct_43 : decode cd_R_addProduct 43 = .ok (.lastore, 1) := by decide +kernel
theorem dd_R_addProduct_44 : decode cd_R_addProduct 44 = .ok (.lload 7, 2) := by decide +kernel
theorem dd_R_addProduct_46 : decode cd_R_addProduct 46 = .ok (.bipush 32, 2) := by decide +kernel
theorem dd_R_addProduct_48 : decode cd_R_addProduct 48 = .ok (.lushr, 1) := by decide +kernel
theorem dd_R_addProduct_49 : decode cd_R_addProduct 49 = .ok (.lstore 4, 2) := by decide +kernel
theorem dd_R_addProduct_51 : decode cd_R_addProduct 51 = .ok (.iinc 6 1, 3) := by decide +kernel
theorem dd_R_addProduct_54 : decode cd_R_addProduct 54 = .ok (.goto (-48), 3) := by decide +kernel
theorem dd_R_addProduct_57 : decode cd_R_addProduct 57 = .ok (.aload_n 0, 1) := by decide +kernel
theorem dd_R_addProduct_58 : decode cd_R_addProduct 58 = .ok (.getfield 30, 3) := by decide +kernel
theorem dd_R_addProduct_61 : decode cd_R_addProduct 61 = .ok (.iconst 4, 1) := by decide +kernel
theorem dd_R_addProduct_62 : decode cd_R_addProduct 62 = .ok (.laload, 1) := by decide +kernel
theorem dd_R_addProduct_63 : decode cd_R_addProduct 63 = .ok (.lload 4, 2) := by decide +kernel
theorem dd_R_addProduct_65 : decode cd_R_addProduct 65 = .ok (.ladd, 1) := by decide +kernel
theorem dd_R_addProduct_66 : decode cd_R_addProduct 66 = .ok (.lstore 6, 2) := by decide +kernel
theorem dd_R_addProduct_68 : decode cd_R_addProduct 68 = .ok (.aload_n 0, 1) := by decide +kernel
theorem dd_R_addProduct_69 : decode cd_R_addProduct 69 = .ok (.getfield 30, 3) := by decide +kernel
theorem dd_R_addProduct_72 : decode cd_R_addProduct 72 = .ok (.iconst 4, 1) := by decide +kernel
theorem dd_R_addProduct_73 : decode cd_R_addProduct 73 = .ok (.lload 6, 2) := by decide +kernel
theorem dd_R_addProduct_75 : decode cd_R_addProduct 75 = .ok (.ldc2_w 42, 3) := by decide +kernel
theorem dd_R_addProduct_78 : decode cd_R_addProduct 78 = .ok (.land, 1) := by decide +kernel
theorem dd_R_addProduct_79 : decode cd_R_addProduct 79 = .ok (.lastore, 1) := by decide +kernel
theorem dd_R_addProduct_80 : decode cd_R_addProduct 80 = .ok (.aload_n 0, 1) := by decide +kernel
theorem dd_R_addProduct_81 : decode cd_R_addProduct 81 = .ok (.getfield 30, 3) := by decide +kernel
theorem dd_R_addProduct_84 : decode cd_R_addProduct 84 = .ok (.iconst 5, 1) := by decide +kernel
theorem dd_R_addProduct_85 : decode cd_R_addProduct 85 = .ok (.lload 6, 2) := by decide +kernel
theorem dd_R_addProduct_87 : decode cd_R_addProduct 87 = .ok (.bipush 32, 2) := by decide +kernel
theorem dd_R_addProduct_89 : decode cd_R_addProduct 89 = .ok (.lushr, 1) := by decide +kernel
theorem dd_R_addProduct_90 : decode cd_R_addProduct 90 = .ok (.lastore, 1) := by decide +kernel
theorem dd_R_addProduct_91 : decode cd_R_addProduct 91 = .ok (.return_, 1) := by decide +kernel
theorem dd_R_dropLowestLimb_0 : decode cd_R_dropLowestLimb 0 = .ok (.aload_n 0, 1) := by decide +kernel
theorem dd_R_dropLowestLimb_1 : decode cd_R_dropLowestLimb 1 = .ok (.getfield 30, 3) := by decide +kernel
theorem dd_R_dropLowestLimb_4 : decode cd_R_dropLowestLimb 4 = .ok (.iconst 0, 1) := by decide +kernel
theorem dd_R_dropLowestLimb_5 : decode cd_R_dropLowestLimb 5 = .ok (.laload, 1) := by decide +kernel
theorem dd_R_dropLowestLimb_6 : decode cd_R_dropLowestLimb 6 = .ok (.aload_n 0, 1) := by decide +kernel
theorem dd_R_dropLowestLimb_7 : decode cd_R_dropLowestLimb 7 = .ok (.getfield 92, 3) := by decide +kernel
theorem dd_R_dropLowestLimb_10 : decode cd_R_dropLowestLimb 10 = .ok (.lmul, 1) := by decide +kernel
theorem dd_R_dropLowestLimb_11 : decode cd_R_dropLowestLimb 11 = .ok (.ldc2_w 42, 3) := by decide +kernel
theorem dd_R_dropLowestLimb_14 : decode cd_R_dropLowestLimb 14 = .ok (.land, 1) := by decide +kernel
theorem dd_R_dropLowestLimb_15 : decode cd_R_dropLowestLimb 15 = .ok (.lstore_n 1, 1) := by decide +kernel
theorem dd_R_dropLowestLimb_16 : decode cd_R_dropLowestLimb 16 = .ok (.aload_n 0, 1) := by decide +kernel
theorem dd_R_dropLowestLimb_17 : decode cd_R_dropLowestLimb 17 = .ok (.getfield 30, 3) := by decide +kernel
theorem dd_R_dropLowestLimb_20 : decode cd_R_dropLowestLimb 20 = .ok (.iconst 0, 1) := by decide +kernel
theorem dd_R_dropLowestLimb_21 : decode cd_R_dropLowestLimb 21 = .ok (.laload, 1) := by decide +kernel
theorem dd_R_dropLowestLimb_22 : decode cd_R_dropLowestLimb 22 = .ok (.lload_n 1, 1) := by decide +kernel
theorem dd_R_dropLowestLimb_23 : decode cd_R_dropLowestLimb 23 = .ok (.aload_n 0, 1) := by decide +kernel
theorem dd_R_dropLowestLimb_24 : decode cd_R_dropLowestLimb 24 = .ok (.getfield 21, 3) := by decide +kernel
theorem dd_R_dropLowestLimb_27 : decode cd_R_dropLowestLimb 27 = .ok (.iconst 0, 1) := by decide +kernel
theorem dd_R_dropLowestLimb_28 : decode cd_R_dropLowestLimb 28 = .ok (.laload, 1) := by decide +kernel
theorem dd_R_dropLowestLimb_29 : decode cd_R_dropLowestLimb 29 = .ok (.lmul, 1) := by decide +kernel
theorem dd_R_dropLowestLimb_30 : decode cd_R_dropLowestLimb 30 = .ok (.ladd, 1) := by decide +kernel
theorem dd_R_dropLowestLimb_31 : decode cd_R_dropLowestLimb 31 = .ok (.bipush 32, 2) := by decide +kernel
theorem dd_R_dropLowestLimb_33 : decode cd_R_dropLowestLimb 33 = .ok (.lushr, 1) := by decide +kernel
theorem dd_R_dropLowestLimb_34 : decode cd_R_dropLowestLimb 34 = .ok (.lstore_n 3, 1) := by decide +kernel
theorem dd_R_dropLowestLimb_35 : decode cd_R_dropLowestLimb 35 = .ok (.iconst 1, 1) := by decide +kernel
theorem dd_R_dropLowestLimb_36 : decode cd_R_dropLowestLimb 36 = .ok (.istore 5, 2) := by decide +kernel
theorem dd_R_dropLowestLimb_38 : decode cd_R_dropLowestLimb 38 = .ok (.iload 5, 2) := by decide +kernel
theorem dd_R_dropLowestLimb_40 : decode cd_R_dropLowestLimb 40 = .ok (.iconst 4, 1) := by decide +kernel
theorem dd_R_dropLowestLimb_41 : decode cd_R_dropLowestLimb 41 = .ok (.if_icmp .ge 51, 3) := by decide +kernel
theorem dd_R_dropLowestLimb_44 : decode cd_R_dropLowestLimb 44 = .ok (.aload_n 0, 1) := by decide +kernel
theorem dd_R_dropLowestLimb_45 : decode cd_R_dropLowestLimb 45 = .ok (.getfield 30, 3) := by decide +kernel
theorem dd_R_dropLowestLimb_48 : decode cd_R_dropLowestLimb 48 = .ok (.iload 5, 2) := by decide +kernel
theorem dd_R_dropLowestLimb_50 : decode cd_R_dropLowestLimb 50 = .ok (.laload, 1) := by decide +kernel
theorem dd_R_dropLowestLimb_51 : decode cd_R_dropLowestLimb 51 = .ok (.lload_n 1, 1) := by decide +kernel
theorem dd_R_dropLowestLimb_52 : decode cd_R_dropLowestLimb 52 = .ok (.aload_n 0, 1) := by decide +kernel
theorem dd_R_dropLowestLimb_53 : decode cd_R_dropLowestLimb 53 = .ok (.getfield 21, 3) := by decide +kernel
theorem dd_R_dropLowestLimb_56 : decode cd_R_dropLowestLimb 56 = .ok (.iload 5, 2) := by decide +kernel
theorem dd_R_dropLowestLimb_58 : decode cd_R_dropLowestLimb 58 = .ok (.laload, 1) := by decide +kernel
theorem dd_R_dropLowestLimb_59 : decode cd_R_dropLowestLimb 59 = .ok (.lmul, 1) := by decide +kernel
theorem dd_R_dropLowestLimb_60 : decode cd_R_dropLowestLimb 60 = .ok (.ladd, 1) := by decide +kernel
theorem dd_R_dropLowestLimb_61 : decode cd_R_dropLowestLimb 61 = .ok (.lload_n 3, 1) := by decide +kernel
theorem dd_R_dropLowestLimb_62 : decode cd_R_dropLowestLimb 62 = .ok (.ladd, 1) := by decide +kernel
theorem dd_R_dropLowestLimb_63 : decode cd_R_dropLowestLimb 63 = .ok (.lstore 6, 2) := by decide +kernel
theorem dd_R_dropLowestLimb_65 : decode cd_R_dropLowestLimb 65 = .ok (.aload_n 0, 1) := by decide +kernel
theorem dd_R_dropLowestLimb_66 : decode cd_R_dropLowestLimb 66 = .ok (.getfield 30, 3) := by decide +kernel
theorem dd_R_dropLowestLimb_69 : decode cd_R_dropLowestLimb 69 = .ok (.iload 5, 2) := by decide +kernel
theorem dd_R_dropLowestLimb_71 : decode cd_R_dropLowestLimb 71 = .ok (.iconst 1, 1) := by decide +kernel
theorem dd_R_dropLowestLimb_72 : decode cd_R_dropLowestLimb 72 = .ok (.isub, 1) := by decide +kernel
theorem dd_R_dropLowestLimb_73 : decode cd_R_dropLowestLimb 73 = .ok (.lload 6, 2) := by decide +kernel
theorem dd_R_dropLowestLimb_75 : decode cd_R_dropLowestLimb 75 = .ok (.ldc2_w 42, 3) := by decide +kernel
theorem dd_R_dropLowestLimb_78 : decode cd_R_dropLowestLimb 78 = .ok (.land, 1) := by decide +kernel
theorem dd_R_dropLowestLimb_79 : decode cd_R_dropLowestLimb 79 = .ok (.lastore, 1) := by decide +kernel
theorem dd_R_dropLowestLimb_80 : decode cd_R_dropLowestLimb 80 = .ok (.lload 6, 2) := by decide +kernel
theorem dd_R_dropLowestLimb_82 : decode cd_R_dropLowestLimb 82 = .ok (.bipush 32, 2) := by decide +kernel
theorem dd_R_dropLowestLimb_84 : decode cd_R_dropLowestLimb 84 = .ok (.lushr, 1) := by decide +kernel
theorem dd_R_dropLowestLimb_85 : decode cd_R_dropLowestLimb 85 = .ok (.lstore_n 3, 1) := by decide +kernel
theorem dd_R_dropLowestLimb_86 : decode cd_R_dropLowestLimb 86 = .ok (.iinc 5 1, 3) := by decide +kernel
theorem dd_R_dropLowestLimb_89 : decode cd_R_dropLowestLimb 89 = .ok (.goto (-51), 3) := by decide +kernel
theorem dd_R_dropLowestLimb_92 : decode cd_R_dropLowestLimb 92 = .ok (.aload_n 0, 1) := by decide +kernel
theorem dd_R_dropLowestLimb_93 : decode cd_R_dropLowestLimb 93 = .ok (.getfield 30, 3) := by decide +kernel
theorem dd_R_dropLowestLimb_96 : decode cd_R_dropLowestLimb 96 = .ok (.iconst 4, 1) := by decide +kernel
theorem dd_R_dropLowestLimb_97 : decode cd_R_dropLowestLimb 97 = .ok (.laload, 1) := by decide +kernel
theorem dd_R_dropLowestLimb_98 : decode cd_R_dropLowestLimb 98 = .ok (.lload_n 3, 1) := by decide +kernel
theorem dd_R_dropLowestLimb_99 : decode cd_R_dropLowestLimb 99 = .ok (.ladd, 1) := by decide +kernel
theorem dd_R_dropLowestLimb_100 : decode cd_R_dropLowestLimb 100 = .ok (.lstore 5, 2) := by decide +kernel
theorem dd_R_dropLowestLimb_102 : decode cd_R_dropLowestLimb 102 = .ok (.aload_n 0, 1) := by decide +kernel
theorem dd_R_dropLowestLimb_103 : decode cd_R_dropLowestLimb 103 = .ok (.getfield 30, 3) := by decide +kernel
theorem dd_R_dropLowestLimb_106 : decode cd_R_dropLowestLimb 106 = .ok (.iconst 3, 1) := by decide +kernel
theorem dd_R_dropLowestLimb_107 : decode cd_R_dropLowestLimb 107 = .ok (.lload 5, 2) := by decide +kernel
theorem dd_R_dropLowestLimb_109 : decode cd_R_dropLowestLimb 109 = .ok (.ldc2_w 42, 3) := by decide +kernel
theorem dd_R_dropLowestLimb_112 : decode cd_R_dropLowestLimb 112 = .ok (.land, 1) := by decide +kernel
theorem dd_R_dropLowestLimb_113 : decode cd_R_dropLowestLimb 113 = .ok (.lastore, 1) := by decide +kernel
theorem dd_R_dropLowestLimb_114 : decode cd_R_dropLowestLimb 114 = .ok (.aload_n 0, 1) := by decide +kernel
theorem dd_R_dropLowestLimb_115 : decode cd_R_dropLowestLimb 115 = .ok (.getfield 30, 3) := by decide +kernel
theorem dd_R_dropLowestLimb_118 : decode cd_R_dropLowestLimb 118 = .ok (.iconst 4, 1) := by decide +kernel
theorem dd_R_dropLowestLimb_119 : decode cd_R_dropLowestLimb 119 = .ok (.aload_n 0, 1) := by decide +kernel
theorem dd_R_dropLowestLimb_120 : decode cd_R_dropLowestLimb 120 = .ok (.getfield 30, 3) := by decide +kernel
theorem dd_R_dropLowestLimb_123 : decode cd_R_dropLowestLimb 123 = .ok (.iconst 5, 1) := by decide +kernel
theorem dd_R_dropLowestLimb_124 : decode cd_R_dropLowestLimb 124 = .ok (.laload, 1) := by decide +kernel
theorem dd_R_dropLowestLimb_125 : decode cd_R_dropLowestLimb 125 = .ok (.lload 5, 2) := by decide +kernel
theorem dd_R_dropLowestLimb_127 : decode cd_R_dropLowestLimb 127 = .ok (.bipush 32, 2) := by decide +kernel
theorem dd_R_dropLowestLimb_129 : decode cd_R_dropLowestLimb 129 = .ok (.lushr, 1) := by decide +kernel
theorem dd_R_dropLowestLimb_130 : decode cd_R_dropLowestLimb 130 = .ok (.ladd, 1) := by decide +kernel
theorem dd_R_dropLowestLimb_131 : decode cd_R_dropLowestLimb 131 = .ok (.lastore, 1) := by decide +kernel
theorem dd_R_dropLowestLimb_132 : decode cd_R_dropLowestLimb 132 = .ok (.return_, 1) := by decide +kernel
theorem dd_R_reduceTotal_0 : decode cd_R_reduceTotal 0 = .ok (.lconst 0, 1) := by decide +kernel
theorem dd_R_reduceTotal_1 : decode cd_R_reduceTotal 1 = .ok (.lstore_n 2, 1) := by decide +kernel
theorem dd_R_reduceTotal_2 : decode cd_R_reduceTotal 2 = .ok (.iconst 0, 1) := by decide +kernel
theorem dd_R_reduceTotal_3 : decode cd_R_reduceTotal 3 = .ok (.istore 4, 2) := by decide +kernel
theorem dd_R_reduceTotal_5 : decode cd_R_reduceTotal 5 = .ok (.iload 4, 2) := by decide +kernel
theorem dd_R_reduceTotal_7 : decode cd_R_reduceTotal 7 = .ok (.iconst 4, 1) := by decide +kernel
theorem dd_R_reduceTotal_8 : decode cd_R_reduceTotal 8 = .ok (.if_icmp .ge 47, 3) := by decide +kernel
theorem dd_R_reduceTotal_11 : decode cd_R_reduceTotal 11 = .ok (.aload_n 0, 1) := by decide +kernel
theorem dd_R_reduceTotal_12 : decode cd_R_reduceTotal 12 = .ok (.getfield 30, 3) := by decide +kernel
theorem dd_R_reduceTotal_15 : decode cd_R_reduceTotal 15 = .ok (.iload 4, 2) := by decide +kernel
theorem dd_R_reduceTotal_17 : decode cd_R_reduceTotal 17 = .ok (.laload, 1) := by decide +kernel
theorem dd_R_reduceTotal_18 : decode cd_R_reduceTotal 18 = .ok (.aload_n 0, 1) := by decide +kernel
theorem dd_R_reduceTotal_19 : decode cd_R_reduceTotal 19 = .ok (.getfield 21, 3) := by decide +kernel
theorem dd_R_reduceTotal_22 : decode cd_R_reduceTotal 22 = .ok (.iload 4, 2) := by decide +kernel
theorem dd_R_reduceTotal_24 : decode cd_R_reduceTotal 24 = .ok (.laload, 1) := by decide +kernel
theorem dd_R_reduceTotal_25 : decode cd_R_reduceTotal 25 = .ok (.lsub, 1) := by decide +kernel
theorem dd_R_reduceTotal_26 : decode cd_R_reduceTotal 26 = .ok (.lload_n 2, 1) := by decide +kernel
theorem dd_R_reduceTotal_27 : decode cd_R_reduceTotal 27 = .ok (.lsub, 1) := by decide +kernel
theorem dd_R_reduceTotal_28 : decode cd_R_reduceTotal 28 = .ok (.lstore 5, 2) := by decide +kernel
theorem dd_R_reduceTotal_30 : decode cd_R_reduceTotal 30 = .ok (.aload_n 0, 1) := by decide +kernel
theorem dd_R_reduceTotal_31 : decode cd_R_reduceTotal 31 = .ok (.getfield 33, 3) := by decide +kernel
theorem dd_R_reduceTotal_34 : decode cd_R_reduceTotal 34 = .ok (.iload 4, 2) := by decide +kernel
theorem dd_R_reduceTotal_36 : decode cd_R_reduceTotal 36 = .ok (.lload 5, 2) := by decide +kernel
theorem dd_R_reduceTotal_38 : decode cd_R_reduceTotal 38 = .ok (.ldc2_w 42, 3) := by decide +kernel
theorem dd_R_reduceTotal_41 : decode cd_R_reduceTotal 41 = .ok (.land, 1) := by decide +kernel
theorem dd_R_reduceTotal_42 : decode cd_R_reduceTotal 42 = .ok (.lastore, 1) := by decide +kernel
theorem dd_R_reduceTotal_43 : decode cd_R_reduceTotal 43 = .ok (.lload 5, 2) := by decide +kernel
theorem dd_R_reduceTotal_45 : decode cd_R_reduceTotal 45 = .ok (.bipush 63, 2) := by decide +kernel
theorem dd_R_reduceTotal_47 : decode cd_R_reduceTotal 47 = .ok (.lushr, 1) := by decide +kernel
theorem dd_R_reduceTotal_48 : decode cd_R_reduceTotal 48 = .ok (.lstore_n 2, 1) := by decide +kernel
theorem dd_R_reduceTotal_49 : decode cd_R_reduceTotal 49 = .ok (.iinc 4 1, 3) := by decide +kernel
theorem dd_R_reduceTotal_52 : decode cd_R_reduceTotal 52 = .ok (.goto (-47), 3) := by decide +kernel
theorem dd_R_reduceTotal_55 : decode cd_R_reduceTotal 55 = .ok (.lload_n 2, 1) := by decide +kernel
theorem dd_R_reduceTotal_56 : decode cd_R_reduceTotal 56 = .ok (.aload_n 0, 1) := by decide +kernel
theorem dd_R_reduceTotal_57 : decode cd_R_reduceTotal 57 = .ok (.getfield 30, 3) := by decide +kernel
theorem dd_R_reduceTotal_60 : decode cd_R_reduceTotal 60 = .ok (.iconst 4, 1) := by decide +kernel
theorem dd_R_reduceTotal_61 : decode cd_R_reduceTotal 61 = .ok (.laload, 1) := by decide +kernel
theorem dd_R_reduceTotal_62 : decode cd_R_reduceTotal 62 = .ok (.lcmp, 1) := by decide +kernel
theorem dd_R_reduceTotal_63 : decode cd_R_reduceTotal 63 = .ok (.ifCond .le 10, 3) := by decide +kernel
theorem dd_R_reduceTotal_66 : decode cd_R_reduceTotal 66 = .ok (.aload_n 0, 1) := by decide +kernel
theorem dd_R_reduceTotal_67 : decode cd_R_reduceTotal 67 = .ok (.getfield 30, 3) := by decide +kernel
theorem dd_R_reduceTotal_70 : decode cd_R_reduceTotal 70 = .ok (.goto 7, 3) := by decide +kernel
theorem dd_R_reduceTotal_73 : decode cd_R_reduceTotal 73 = .ok (.aload_n 0, 1) := by decide +kernel
theorem dd_R_reduceTotal_74 : decode cd_R_reduceTotal 74 = .ok (.getfield 33, 3) := by decide +kernel
theorem dd_R_reduceTotal_77 : decode cd_R_reduceTotal 77 = .ok (.iconst 0, 1) := by decide +kernel
theorem dd_R_reduceTotal_78 : decode cd_R_reduceTotal 78 = .ok (.aload_n 1, 1) := by decide +kernel
theorem dd_R_reduceTotal_79 : decode cd_R_reduceTotal 79 = .ok (.iconst 0, 1) := by decide +kernel
theorem dd_R_reduceTotal_80 : decode cd_R_reduceTotal 80 = .ok (.iconst 4, 1) := by decide +kernel
theorem dd_R_reduceTotal_81 : decode cd_R_reduceTotal 81 = .ok (.invokestatic 54, 3) := by decide +kernel
theorem dd_R_reduceTotal_84 : decode cd_R_reduceTotal 84 = .ok (.return_, 1) := by decide +kernel
end
section
theorem dd_S_init_0 : decode cd_S_init 0 = .ok (.aload_n 0, 1) := by decide +kernel
theorem dd_S_init_1 : decode cd_S_init 1 = .ok (.invokespecial 3, 3) := by decide +kernel
theorem dd_S_init_4 : decode cd_S_init 4 = .ok (.aload_n 0, 1) := by decide +kernel
theorem dd_S_init_5 : decode cd_S_init 5 = .ok (.bipush 64, 2) := by decide +kernel
theorem dd_S_init_7 : decode cd_S_init 7 = .ok (.newarray .int, 2) := by decide +kernel
theorem dd_S_init_9 : decode cd_S_init 9 = .ok (.putfield 11, 3) := by decide +kernel
theorem dd_S_init_12 : decode cd_S_init 12 = .ok (.return_, 1) := by decide +kernel
theorem dd_S_primeOf_0 : decode cd_S_primeOf 0 = .ok (.lload_n 1, 1) := by decide +kernel
theorem dd_S_primeOf_1 : decode cd_S_primeOf 1 = .ok (.lconst 0, 1) := by decide +kernel
theorem dd_S_primeOf_2 : decode cd_S_primeOf 2 = .ok (.lcmp, 1) := by decide +kernel
theorem dd_S_primeOf_3 : decode cd_S_primeOf 3 = .ok (.ifCond .lt 11, 3) := by decide +kernel
theorem dd_S_primeOf_6 : decode cd_S_primeOf 6 = .ok (.lload_n 1, 1) := by decide +kernel
theorem dd_S_primeOf_7 : decode cd_S_primeOf 7 = .ok (.ldc2_w 15, 3) := by decide +kernel
theorem dd_S_primeOf_10 : decode cd_S_primeOf 10 = .ok (.lcmp, 1) := by decide +kernel
theorem dd_S_primeOf_11 : decode cd_S_primeOf 11 = .ok (.ifCond .lt 6, 3) := by decide +kernel
theorem dd_S_primeOf_14 : decode cd_S_primeOf 14 = .ok (.bipush (-2), 2) := by decide +kernel
theorem dd_S_primeOf_16 : decode cd_S_primeOf 16 = .ok (.ireturn, 1) := by decide +kernel
theorem dd_S_primeOf_17 : decode cd_S_primeOf 17 = .ok (.iconst 0, 1) := by decide +kernel
theorem dd_S_primeOf_18 : decode cd_S_primeOf 18 = .ok (.istore_n 3, 1) := by decide +kernel
theorem dd_S_primeOf_19 : decode cd_S_primeOf 19 = .ok (.iload_n 3, 1) := by decide +kernel
theorem dd_S_primeOf_20 : decode cd_S_primeOf 20 = .ok (.sipush 256, 3) := by decide +kernel
theorem dd_S_primeOf_23 : decode cd_S_primeOf 23 = .ok (.if_icmp .ge 34, 3) := by decide +kernel
theorem dd_S_primeOf_26 : decode cd_S_primeOf 26 = .ok (.aload_n 0, 1) := by decide +kernel
theorem dd_S_primeOf_27 : decode cd_S_primeOf 27 = .ok (.lload_n 1, 1) := by decide +kernel
theorem dd_S_primeOf_28 : decode cd_S_primeOf 28 = .ok (.iload_n 3, 1) := by decide +kernel
theorem dd_S_primeOf_29 : decode cd_S_primeOf 29 = .ok (.invokevirtual 17, 3) := by decide +kernel
theorem dd_S_primeOf_32 : decode cd_S_primeOf 32 = .ok (.ldc 21, 2) := by decide +kernel
theorem dd_S_primeOf_34 : decode cd_S_primeOf 34 = .ok (.iand, 1) := by decide +kernel
theorem dd_S_primeOf_35 : decode cd_S_primeOf 35 = .ok (.ldc 22, 2) := by decide +kernel
theorem dd_S_primeOf_37 : decode cd_S_primeOf 37 = .ok (.ior, 1) := by decide +kernel
theorem dd_S_primeOf_38 : decode cd_S_primeOf 38 = .ok (.istore 4, 2) := by decide +kernel
theorem dd_S_primeOf_40 : decode cd_S_primeOf 40 = .ok (.iload 4, 2) := by decide +kernel
theorem dd_S_primeOf_42 : decode cd_S_primeOf 42 = .ok (.invokestatic 23, 3) := by decide +kernel
theorem dd_S_primeOf_45 : decode cd_S_primeOf 45 = .ok (.ifCond .eq 6, 3) := by decide +kernel
theorem dd_S_primeOf_48 : decode cd_S_primeOf 48 = .ok (.iload 4, 2) := by decide +kernel
theorem dd_S_primeOf_50 : decode cd_S_primeOf 50 = .ok (.ireturn, 1) := by decide +kernel
theorem dd_S_primeOf_51 : decode cd_S_primeOf 51 = .ok (.iinc 3 1, 3) := by decide +kernel
theorem dd_S_primeOf_54 : decode cd_S_primeOf 54 = .ok (.goto (-35), 3) := by decide +kernel
theorem dd_S_primeOf_57 : decode cd_S_primeOf 57 = .ok (.bipush (-2), 2) := by decide +kernel
theorem dd_S_primeOf_59 : decode cd_S_primeOf 59 = .ok (.ireturn, 1) := by decide +kernel
theorem dd_S_hash_0 : decode cd_S_hash 0 = .ok (.aload_n 0, 1) := by decide +kernel
theorem dd_S_hash_1 : decode cd_S_hash 1 = .ok (.lload_n 1, 1) := by decide +kernel
theorem dd_S_hash_2 : decode cd_S_hash 2 = .ok (.iload_n 3, 1) := by decide +kernel
theorem dd_S_hash_3 : decode cd_S_hash 3 = .ok (.invokevirtual 27, 3) := by decide +kernel
theorem dd_S_hash_6 : decode cd_S_hash 6 = .ok (.ldc 31, 2) := by decide +kernel
theorem dd_S_hash_8 : decode cd_S_hash 8 = .ok (.istore 4, 2) := by decide +kernel
theorem dd_S_hash_10 : decode cd_S_hash 10 = .ok (.ldc 32, 2) := by decide +kernel
theorem dd_S_hash_12 : decode cd_S_hash 12 = .ok (.istore 5, 2) := by decide +kernel
theorem dd_S_hash_14 : decode cd_S_hash 14 = .ok (.ldc 33, 2) := by decide +kernel
theorem dd_S_hash_16 : decode cd_S_hash 16 = .ok (.istore 6, 2) := by decide +kernel
theorem dd_S_hash_18 : decode cd_S_hash 18 = .ok (.ldc 34, 2) := by decide +kernel
theorem dd_S_hash_20 : decode cd_S_hash 20 = .ok (.istore 7, 2) := by decide +kernel
theorem dd_S_hash_22 : decode cd_S_hash 22 = .ok (.ldc 35, 2) := by decide +kernel
theorem dd_S_hash_24 : decode cd_S_hash 24 = .ok (.istore 8, 2) := by decide +kernel
theorem dd_S_hash_26 : decode cd_S_hash 26 = .ok (.ldc 36, 2) := by decide +kernel
theorem dd_S_hash_28 : decode cd_S_hash 28 = .ok (.istore 9, 2) := by decide +kernel
theorem dd_S_hash_30 : decode cd_S_hash 30 = .ok (.ldc 37, 2) := by decide +kernel
theorem dd_S_hash_32 : decode cd_S_hash 32 = .ok (.istore 10, 2) := by decide +kernel
theorem dd_S_hash_34 : decode cd_S_hash 34 = .ok (.ldc 38, 2) := by decide +kernel
theorem dd_S_hash_36 : decode cd_S_hash 36 = .ok (.istore 11, 2) := by decide +kernel
theorem dd_S_hash_38 : decode cd_S_hash 38 = .ok (.iconst 0, 1) := by decide +kernel
theorem dd_S_hash_39 : decode cd_S_hash 39 = .ok (.istore 12, 2) := by decide +kernel
theorem dd_S_hash_41 : decode cd_S_hash 41 = .ok (.iload 12, 2) := by decide +kernel
theorem dd_S_hash_43 : decode cd_S_hash 43 = .ok (.bipush 64, 2) := by decide +kernel
theorem dd_S_hash_45 : decode cd_S_hash 45 = .ok (.if_icmp .ge 146, 3) := by decide +kernel
theorem dd_S_hash_48 : decode cd_S_hash 48 = .ok (.iload 11, 2) := by decide +kernel
theorem dd_S_hash_50 : decode cd_S_hash 50 = .ok (.iload 8, 2) := by decide +kernel
theorem dd_S_hash_52 : decode cd_S_hash 52 = .ok (.bipush 6, 2) := by decide +kernel
theorem dd_S_hash_54 : decode cd_S_hash 54 = .ok (.invokestatic 39, 3) := by decide +kernel
theorem dd_S_hash_57 : decode cd_S_hash 57 = .ok (.iload 8, 2) := by decide +kernel
theorem dd_S_hash_59 : decode cd_S_hash 59 = .ok (.bipush 11, 2) := by decide +kernel
theorem dd_S_hash_61 : decode cd_S_hash 61 = .ok (.invokestatic 39, 3) := by decide +kernel
theorem dd_S_hash_64 : decode cd_S_hash 64 = .ok (.ixor, 1) := by decide +kernel
theorem dd_S_hash_65 : decode cd_S_hash 65 = .ok (.iload 8, 2) := by decide +kernel
theorem dd_S_hash_67 : decode cd_S_hash 67 = .ok (.bipush 25, 2) := by decide +kernel
theorem dd_S_hash_69 : decode cd_S_hash 69 = .ok (.invokestatic 39, 3) := by decide +kernel
theorem dd_S_hash_72 : decode cd_S_hash 72 = .ok (.ixor, 1) := by decide +kernel
theorem dd_S_hash_73 : decode cd_S_hash 73 = .ok (.iadd, 1) := by decide +kernel
theorem dd_S_hash_74 : decode cd_S_hash 74 = .ok (.iload 8, 2) := by decide +kernel
theorem dd_S_hash_76 : decode cd_S_hash 76 = .ok (.iload 9, 2) := by decide +kernel
theorem dd_S_hash_78 : decode cd_S_hash 78 = .ok (.iand, 1) := by decide +kernel
theorem dd_S_hash_79 : decode cd_S_hash 79 = .ok (.iload 8, 2) := by decide +kernel
theorem dd_S_hash_81 : decode cd_S_hash 81 = .ok (.iconst (-1), 1) := by decide +kernel
theorem dd_S_hash_82 : decode cd_S_hash 82 = .ok (.ixor, 1) := by decide +kernel
theorem dd_S_hash_83 : decode cd_S_hash 83 = .ok (.iload 10, 2) := by decide +kernel
theorem dd_S_hash_85 : decode cd_S_hash 85 = .ok (.iand, 1) := by decide +kernel
theorem dd_S_hash_86 : decode cd_S_hash 86 = .ok (.ixor, 1) := by decide +kernel
theorem dd_S_hash_87 : decode cd_S_hash 87 = .ok (.iadd, 1) := by decide +kernel
theorem dd_S_hash_88 : decode cd_S_hash 88 = .ok (.getstatic 43, 3) := by decide +kernel
theorem dd_S_hash_91 : decode cd_S_hash 91 = .ok (.iload 12, 2) := by decide +kernel
theorem dd_S_hash_93 : decode cd_S_hash 93 = .ok (.iaload, 1) := by decide +kernel
theorem dd_S_hash_94 : decode cd_S_hash 94 = .ok (.iadd, 1) := by decide +kernel
theorem dd_S_hash_95 : decode cd_S_hash 95 = .ok (.aload_n 0, 1) := by decide +kernel
theorem dd_S_hash_96 : decode cd_S_hash 96 = .ok (.getfield 11, 3) := by decide +kernel
theorem dd_S_hash_99 : decode cd_S_hash 99 = .ok (.iload 12, 2) := by decide +kernel
theorem dd_S_hash_101 : decode cd_S_hash 101 = .ok (.iaload, 1) := by decide +kernel
theorem dd_S_hash_102 : decode cd_S_hash 102 = .ok (.iadd, 1) := by decide +kernel
theorem dd_S_hash_103 : decode cd_S_hash 103 = .ok (.istore 13, 2) := by decide +kernel
theorem dd_S_hash_105 : decode cd_S_hash 105 = .ok (.iload 4, 2) := by decide +kernel
theorem dd_S_hash_107 : decode cd_S_hash 107 = .ok (.iconst 2, 1) := by decide +kernel
theorem dd_S_hash_108 : decode cd_S_hash 108 = .ok (.invokestatic 39, 3) := by decide +kernel
theorem dd_S_hash_111 : decode cd_S_hash 111 = .ok (.iload 4, 2) := by decide +kernel
theorem dd_S_hash_113 : decode cd_S_hash 113 = .ok (.bipush 13, 2) := by decide +kernel
theorem dd_S_hash_115 : decode cd_S_hash 115 = .ok (.invokestatic 39, 3) := by decide +kernel
theorem dd_S_hash_118 : decode cd_S_hash 118 = .ok (.ixor, 1) := by decide +kernel
theorem dd_S_hash_119 : decode cd_S_hash 119 = .ok (.iload 4, 2) := by decide +kernel
theorem dd_S_hash_121 : decode cd_S_hash 121 = .ok (.bipush 22, 2) := by decide +kernel
theorem dd_S_hash_123 : decode cd_S_hash 123 = .ok (.invokestatic 39, 3) := by decide +kernel
theorem dd_S_hash_126 : decode cd_S_hash 126 = .ok (.ixor, 1) := by decide +kernel
theorem dd_S_hash_127 : decode cd_S_hash 127 = .ok (.iload 4, 2) := by decide +kernel
theorem dd_S_hash_129 : decode cd_S_hash 129 = .ok (.iload 5, 2) := by decide +kernel
theorem dd_S_hash_131 : decode cd_S_hash 131 = .ok (.iand, 1) := by decide +kernel
theorem dd_S_hash_132 : decode cd_S_hash 132 = .ok (.iload 4, 2) := by decide +kernel
theorem dd_S_hash_134 : decode cd_S_hash 134 = .ok (.iload 6, 2) := by decide +kernel
theorem dd_S_hash_136 : decode cd_S_hash 136 = .ok (.iand, 1) := by decide +kernel
theorem dd_S_hash_137 : decode cd_S_hash 137 = .ok (.ixor, 1) := by decide +kernel
theorem dd_S_hash_138 : decode cd_S_hash 138 = .ok (.iload 5, 2) := by decide +kernel
theorem dd_S_hash_140 : decode cd_S_hash 140 = .ok (.iload 6, 2) := by decide +kernel
theorem dd_S_hash_142 : decode cd_S_hash 142 = .ok (.iand, 1) := by decide +kernel
theorem dd_S_hash_143 : decode cd_S_hash 143 = .ok (.ixor, 1) := by decide +kernel
theorem dd_S_hash_144 : decode cd_S_hash 144 = .ok (.iadd, 1) := by decide +kernel
theorem dd_S_hash_145 : decode cd_S_hash 145 = .ok (.istore 14, 2) := by decide +kernel
theorem dd_S_hash_147 : decode cd_S_hash 147 = .ok (.iload 10, 2) := by decide +kernel
theorem dd_S_hash_149 : decode cd_S_hash 149 = .ok (.istore 11, 2) := by decide +kernel
theorem dd_S_hash_151 : decode cd_S_hash 151 = .ok (.iload 9, 2) := by decide +kernel
theorem dd_S_hash_153 : decode cd_S_hash 153 = .ok (.istore 10, 2) := by decide +kernel
theorem dd_S_hash_155 : decode cd_S_hash 155 = .ok (.iload 8, 2) := by decide +kernel
theorem dd_S_hash_157 : decode cd_S_hash 157 = .ok (.istore 9, 2) := by decide +kernel
theorem dd_S_hash_159 : decode cd_S_hash 159 = .ok (.iload 7, 2) := by decide +kernel
theorem dd_S_hash_161 : decode cd_S_hash 161 = .ok (.iload 13, 2) := by decide +kernel
theorem dd_S_hash_163 : decode cd_S_hash 163 = .ok (.iadd, 1) := by decide +kernel
theorem dd_S_hash_164 : decode cd_S_hash 164 = .ok (.istore 8, 2) := by decide +kernel
theorem dd_S_hash_166 : decode cd_S_hash 166 = .ok (.iload 6, 2) := by decide +kernel
theorem dd_S_hash_168 : decode cd_S_hash 168 = .ok (.istore 7, 2) := by decide +kernel
theorem dd_S_hash_170 : decode cd_S_hash 170 = .ok (.iload 5, 2) := by decide +kernel
theorem dd_S_hash_172 : decode cd_S_hash 172 = .ok (.istore 6, 2) := by decide +kernel
theorem dd_S_hash_174 : decode cd_S_hash 174 = .ok (.iload 4, 2) := by decide +kernel
theorem dd_S_hash_176 : decode cd_S_hash 176 = .ok (.istore 5, 2) := by decide +kernel
theorem dd_S_hash_178 : decode cd_S_hash 178 = .ok (.iload 13, 2) := by decide +kernel
theorem dd_S_hash_180 : decode cd_S_hash 180 = .ok (.iload 14, 2) := by decide +kernel
theorem dd_S_hash_182 : decode cd_S_hash 182 = .ok (.iadd, 1) := by decide +kernel
theorem dd_S_hash_183 : decode cd_S_hash 183 = .ok (.istore 4, 2) := by decide +kernel
theorem dd_S_hash_185 : decode cd_S_hash 185 = .ok (.iinc 12 1, 3) := by decide +kernel
theorem dd_S_hash_188 : decode cd_S_hash 188 = .ok (.goto (-147), 3) := by decide +kernel
theorem dd_S_hash_191 : decode cd_S_hash 191 = .ok (.iload 4, 2) := by decide +kernel
theorem dd_S_hash_193 : decode cd_S_hash 193 = .ok (.ldc 31, 2) := by decide +kernel
theorem dd_S_hash_195 : decode cd_S_hash 195 = .ok (.iadd, 1) := by decide +kernel
theorem dd_S_hash_196 : decode cd_S_hash 196 = .ok (.ireturn, 1) := by decide +kernel
theorem dd_S_fillSchedule_0 : decode cd_S_fillSchedule 0 = .ok (.aload_n 0, 1) := by decide +kernel
theorem dd_S_fillSchedule_1 : decode cd_S_fillSchedule 1 = .ok (.getfield 11, 3) := by decide +kernel
theorem dd_S_fillSchedule_4 : decode cd_S_fillSchedule 4 = .ok (.iconst 0, 1) := by decide +kernel
theorem dd_S_fillSchedule_5 : decode cd_S_fillSchedule 5 = .ok (.invokestatic 46, 3) := by decide +kernel
theorem dd_S_fillSchedule_8 : decode cd_S_fillSchedule 8 = .ok (.aload_n 0, 1) := by decide +kernel
theorem dd_S_fillSchedule_9 : decode cd_S_fillSchedule 9 = .ok (.getfield 11, 3) := by decide +kernel
theorem dd_S_fillSchedule_12 : decode cd_S_fillSchedule 12 = .ok (.iconst 0, 1) := by decide +kernel
theorem dd_S_fillSchedule_13 : decode cd_S_fillSchedule 13 = .ok (.lload_n 1, 1) := by decide +kernel
theorem dd_S_fillSchedule_14 : decode cd_S_fillSchedule 14 = .ok (.bipush 32, 2) := by decide +kernel
theorem dd_S_fillSchedule_16 : decode cd_S_fillSchedule 16 = .ok (.lushr, 1) := by decide +kernel
theorem dd_S_fillSchedule_17 : decode cd_S_fillSchedule 17 = .ok (.l2i, 1) := by decide +kernel
theorem dd_S_fillSchedule_18 : decode cd_S_fillSchedule 18 = .ok (.iastore, 1) := by decide +kernel
theorem dd_S_fillSchedule_19 : decode cd_S_fillSchedule 19 = .ok (.aload_n 0, 1) := by decide +kernel
theorem dd_S_fillSchedule_20 : decode cd_S_fillSchedule 20 = .ok (.getfield 11, 3) := by decide +kernel
theorem dd_S_fillSchedule_23 : decode cd_S_fillSchedule 23 = .ok (.iconst 1, 1) := by decide +kernel
theorem dd_S_fillSchedule_24 : decode cd_S_fillSchedule 24 = .ok (.lload_n 1, 1) := by decide +kernel
theorem dd_S_fillSchedule_25 : decode cd_S_fillSchedule 25 = .ok (.l2i, 1) := by decide +kernel
theorem dd_S_fillSchedule_26 : decode cd_S_fillSchedule 26 = .ok (.iastore, 1) := by decide +kernel
theorem dd_S_fillSchedule_27 : decode cd_S_fillSchedule 27 = .ok (.aload_n 0, 1) := by decide +kernel
theorem dd_S_fillSchedule_28 : decode cd_S_fillSchedule 28 = .ok (.getfield 11, 3) := by decide +kernel
theorem dd_S_fillSchedule_31 : decode cd_S_fillSchedule 31 = .ok (.iconst 3, 1) := by decide +kernel
theorem dd_S_fillSchedule_32 : decode cd_S_fillSchedule 32 = .ok (.iload_n 3, 1) := by decide +kernel
theorem dd_S_fillSchedule_33 : decode cd_S_fillSchedule 33 = .ok (.iastore, 1) := by decide +kernel
theorem dd_S_fillSchedule_34 : decode cd_S_fillSchedule 34 = .ok (.aload_n 0, 1) := by decide +kernel
theorem dd_S_fillSchedule_35 : decode cd_S_fillSchedule 35 = .ok (.getfield 11, 3) := by decide +kernel
theorem dd_S_fillSchedule_38 : decode cd_S_fillSchedule 38 = .ok (.iconst 4, 1) := by decide +kernel
theorem dd_S_fillSchedule_39 : decode cd_S_fillSchedule 39 = .ok (.ldc 52, 2) := by decide +kernel
theorem dd_S_fillSchedule_41 : decode cd_S_fillSchedule 41 = .ok (.iastore, 1) := by decide +kernel
theorem dd_S_fillSchedule_42 : decode cd_S_fillSchedule 42 = .ok (.aload_n 0, 1) := by decide +kernel
theorem dd_S_fillSchedule_43 : decode cd_S_fillSchedule 43 = .ok (.getfield 11, 3) := by decide +kernel
theorem dd_S_fillSchedule_46 : decode cd_S_fillSchedule 46 = .ok (.bipush 15, 2) := by decide +kernel
theorem dd_S_fillSchedule_48 : decode cd_S_fillSchedule 48 = .ok (.sipush 128, 3) := by decide +kernel
theorem dd_S_fillSchedule_51 : decode cd_S_fillSchedule 51 = .ok (.iastore, 1) := by decide +kernel
theorem dd_S_fillSchedule_52 : decode cd_S_fillSchedule 52 = .ok (.bipush 16, 2) := by decide +kernel
theorem dd_S_fillSchedule_54 : decode cd_S_fillSchedule 54 = .ok (.istore 4, 2) := by decide +kernel
theorem dd_S_fillSchedule_56 : decode cd_S_fillSchedule 56 = .ok (.iload 4, 2) := by decide +kernel
theorem dd_S_fillSchedule_58 : decode cd_S_fillSchedule 58 = .ok (.bipush 64, 2) := by decide +kernel
theorem dd_S_fillSchedule_60 : decode cd_S_fillSchedule 60 = .ok (.if_icmp .ge 133, 3) := by decide +kernel
theorem dd_S_fillSchedule_63 : decode cd_S_fillSchedule 63 = .ok (.aload_n 0, 1) := by decide +kernel
theorem dd_S_fillSchedule_64 : decode cd_S_fillSchedule 64 = .ok (.getfield 11, 3) := by decide +kernel
theorem dd_S_fillSchedule_67 : decode cd_S_fillSchedule 67 = .ok (.iload 4, 2) := by decide +kernel
theorem dd_S_fillSchedule_69 : decode cd_S_fillSchedule 69 = .ok (.iconst 2, 1) := by decide +kernel
theorem dd_S_fillSchedule_70 : decode cd_S_fillSchedule 70 = .ok (.isub, 1) := by decide +kernel
theorem dd_S_fillSchedule_71 : decode cd_S_fillSchedule 71 = .ok (.iaload, 1) := by decide +kernel
theorem dd_S_fillSchedule_72 : decode cd_S_fillSchedule 72 = .ok (.bipush 17, 2) := by decide +kernel
theorem dd_S_fillSchedule_74 : decode cd_S_fillSchedule 74 = .ok (.invokestatic 39, 3) := by decide +kernel
theorem dd_S_fillSchedule_77 : decode cd_S_fillSchedule 77 = .ok (.aload_n 0, 1) := by decide +kernel
theorem dd_S_fillSchedule_78 : decode cd_S_fillSchedule 78 = .ok (.getfield 11, 3) := by decide +kernel
theorem dd_S_fillSchedule_81 : decode cd_S_fillSchedule 81 = .ok (.iload 4, 2) := by decide +kernel
theorem dd_S_fillSchedule_83 : decode cd_S_fillSchedule 83 = .ok (.iconst 2, 1) := by decide +kernel
theorem dd_S_fillSchedule_84 : decode cd_S_fillSchedule 84 = .ok (.isub, 1) := by decide +kernel
theorem dd_S_fillSchedule_85 : decode cd_S_fillSchedule 85 = .ok (.iaload, 1) := by decide +kernel
theorem dd_S_fillSchedule_86 : decode cd_S_fillSchedule 86 = .ok (.bipush 19, 2) := by decide +kernel
theorem dd_S_fillSchedule_88 : decode cd_S_fillSchedule 88 = .ok (.invokestatic 39, 3) := by decide +kernel
theorem dd_S_fillSchedule_91 : decode cd_S_fillSchedule 91 = .ok (.ixor, 1) := by decide +kernel
theorem dd_S_fillSchedule_92 : decode cd_S_fillSchedule 92 = .ok (.aload_n 0, 1) := by decide +kernel
theorem dd_S_fillSchedule_93 : decode cd_S_fillSchedule 93 = .ok (.getfield 11, 3) := by decide +kernel
theorem dd_S_fillSchedule_96 : decode cd_S_fillSchedule 96 = .ok (.iload 4, 2) := by decide +kernel
theorem dd_S_fillSchedule_98 : decode cd_S_fillSchedule 98 = .ok (.iconst 2, 1) := by decide +kernel
theorem dd_S_fillSchedule_99 : decode cd_S_fillSchedule 99 = .ok (.isub, 1) := by decide +kernel
theorem dd_S_fillSchedule_100 : decode cd_S_fillSchedule 100 = .ok (.iaload, 1) := by decide +kernel
theorem dd_S_fillSchedule_101 : decode cd_S_fillSchedule 101 = .ok (.bipush 10, 2) := by decide +kernel
theorem dd_S_fillSchedule_103 : decode cd_S_fillSchedule 103 = .ok (.iushr, 1) := by decide +kernel
theorem dd_S_fillSchedule_104 : decode cd_S_fillSchedule 104 = .ok (.ixor, 1) := by decide +kernel
theorem dd_S_fillSchedule_105 : decode cd_S_fillSchedule 105 = .ok (.istore 5, 2) := by decide +kernel
theorem dd_S_fillSchedule_107 : decode cd_S_fillSchedule 107 = .ok (.aload_n 0, 1) := by decide +kernel
theorem dd_S_fillSchedule_108 : decode cd_S_fillSchedule 108 = .ok (.getfield 11, 3) := by decide +kernel
theorem dd_S_fillSchedule_111 : decode cd_S_fillSchedule 111 = .ok (.iload 4, 2) := by decide +kernel
theorem dd_S_fillSchedule_113 : decode cd_S_fillSchedule 113 = .ok (.bipush 15, 2) := by decide +kernel
theorem dd_S_fillSchedule_115 : decode cd_S_fillSchedule 115 = .ok (.isub, 1) := by decide +kernel
theorem dd_S_fillSchedule_116 : decode cd_S_fillSchedule 116 = .ok (.iaload, 1) := by decide +kernel
theorem dd_S_fillSchedule_117 : decode cd_S_fillSchedule 117 = .ok (.bipush 7, 2) := by decide +kernel
theorem dd_S_fillSchedule_119 : decode cd_S_fillSchedule 119 = .ok (.invokestatic 39, 3) := by decide +kernel
theorem dd_S_fillSchedule_122 : decode cd_S_fillSchedule 122 = .ok (.aload_n 0, 1) := by decide +kernel
theorem dd_S_fillSchedule_123 : decode cd_S_fillSchedule 123 = .ok (.getfield 11, 3) := by decide +kernel
theorem dd_S_fillSchedule_126 : decode cd_S_fillSchedule 126 = .ok (.iload 4, 2) := by decide +kernel
theorem dd_S_fillSchedule_128 : decode cd_S_fillSchedule 128 = .ok (.bipush 15, 2) := by decide +kernel
theorem dd_S_fillSchedule_130 : decode cd_S_fillSchedule 130 = .ok (.isub, 1) := by decide +kernel
theorem dd_S_fillSchedule_131 : decode cd_S_fillSchedule 131 = .ok (.iaload, 1) := by decide +kernel
theorem dd_S_fillSchedule_132 : decode cd_S_fillSchedule 132 = .ok (.bipush 18, 2) := by decide +kernel
theorem dd_S_fillSchedule_134 : decode cd_S_fillSchedule 134 = .ok (.invokestatic 39, 3) := by decide +kernel
theorem dd_S_fillSchedule_137 : decode cd_S_fillSchedule 137 = .ok (.ixor, 1) := by decide +kernel
theorem dd_S_fillSchedule_138 : decode cd_S_fillSchedule 138 = .ok (.aload_n 0, 1) := by decide +kernel
theorem dd_S_fillSchedule_139 : decode cd_S_fillSchedule 139 = .ok (.getfield 11, 3) := by decide +kernel
theorem dd_S_fillSchedule_142 : decode cd_S_fillSchedule 142 = .ok (.iload 4, 2) := by decide +kernel
theorem dd_S_fillSchedule_144 : decode cd_S_fillSchedule 144 = .ok (.bipush 15, 2) := by decide +kernel
theorem dd_S_fillSchedule_146 : decode cd_S_fillSchedule 146 = .ok (.isub, 1) := by decide +kernel
theorem dd_S_fillSchedule_147 : decode cd_S_fillSchedule 147 = .ok (.iaload, 1) := by decide +kernel
theorem dd_S_fillSchedule_148 : decode cd_S_fillSchedule 148 = .ok (.iconst 3, 1) := by decide +kernel
theorem dd_S_fillSchedule_149 : decode cd_S_fillSchedule 149 = .ok (.iushr, 1) := by decide +kernel
theorem dd_S_fillSchedule_150 : decode cd_S_fillSchedule 150 = .ok (.ixor, 1) := by decide +kernel
theorem dd_S_fillSchedule_151 : decode cd_S_fillSchedule 151 = .ok (.istore 6, 2) := by decide +kernel
theorem dd_S_fillSchedule_153 : decode cd_S_fillSchedule 153 = .ok (.aload_n 0, 1) := by decide +kernel
theorem dd_S_fillSchedule_154 : decode cd_S_fillSchedule 154 = .ok (.getfield 11, 3) := by decide +kernel
theorem dd_S_fillSchedule_157 : decode cd_S_fillSchedule 157 = .ok (.iload 4, 2) := by decide +kernel
theorem dd_S_fillSchedule_159 : decode cd_S_fillSchedule 159 = .ok (.iload 5, 2) := by decide +kernel
theorem dd_S_fillSchedule_161 : decode cd_S_fillSchedule 161 = .ok (.aload_n 0, 1) := by decide +kernel
theorem dd_S_fillSchedule_162 : decode cd_S_fillSchedule 162 = .ok (.getfield 11, 3) := by decide +kernel
theorem dd_S_fillSchedule_165 : decode cd_S_fillSchedule 165 = .ok (.iload 4, 2) := by decide +kernel
theorem dd_S_fillSchedule_167 : decode cd_S_fillSchedule 167 = .ok (.bipush 7, 2) := by decide +kernel
theorem dd_S_fillSchedule_169 : decode cd_S_fillSchedule 169 = .ok (.isub, 1) := by decide +kernel
theorem dd_S_fillSchedule_170 : decode cd_S_fillSchedule 170 = .ok (.iaload, 1) := by decide +kernel
theorem dd_S_fillSchedule_171 : decode cd_S_fillSchedule 171 = .ok (.iadd, 1) := by decide +kernel
theorem dd_S_fillSchedule_172 : decode cd_S_fillSchedule 172 = .ok (.iload 6, 2) := by decide +kernel
theorem dd_S_fillSchedule_174 : decode cd_S_fillSchedule 174 = .ok (.iadd, 1) := by decide +kernel
theorem dd_S_fillSchedule_175 : decode cd_S_fillSchedule 175 = .ok (.aload_n 0, 1) := by decide +kernel
theorem dd_S_fillSchedule_176 : decode cd_S_fillSchedule 176 = .ok (.getfield 11, 3) := by decide +kernel
theorem dd_S_fillSchedule_179 : decode cd_S_fillSchedule 179 = .ok (.iload 4, 2) := by decide +kernel
theorem dd_S_fillSchedule_181 : decode cd_S_fillSchedule 181 = .ok (.bipush 16, 2) := by decide +kernel
theorem dd_S_fillSchedule_183 : decode cd_S_fillSchedule 183 = .ok (.isub, 1) := by decide +kernel
theorem dd_S_fillSchedule_184 : decode cd_S_fillSchedule 184 = .ok (.iaload, 1) := by decide +kernel
theorem dd_S_fillSchedule_185 : decode cd_S_fillSchedule 185 = .ok (.iadd, 1) := by decide +kernel
theorem dd_S_fillSchedule_186 : decode cd_S_fillSchedule 186 = .ok (.iastore, 1) := by decide +kernel
theorem dd_S_fillSchedule_187 : decode cd_S_fillSchedule 187 = .ok (.iinc 4 1, 3) := by decide +kernel
theorem dd_S_fillSchedule_190 : decode cd_S_fillSchedule 190 = .ok (.goto (-134), 3) := by decide +kernel
theorem dd_S_fillSchedule_193 : decode cd_S_fillSchedule 193 = .ok (.return_, 1) := by decide +kernel
theorem dd_S_turn_0 : decode cd_S_turn 0 = .ok (.iload_n 0, 1) := by decide +kernel
theorem dd_S_turn_1 : decode cd_S_turn 1 = .ok (.iload_n 1, 1) := by decide +kernel
theorem dd_S_turn_2 : decode cd_S_turn 2 = .ok (.iushr, 1) := by decide +kernel
theorem dd_S_turn_3 : decode cd_S_turn 3 = .ok (.iload_n 0, 1) := by decide +kernel
theorem dd_S_turn_4 : decode cd_S_turn 4 = .ok (.bipush 32, 2) := by decide +kernel
theorem dd_S_turn_6 : decode cd_S_turn 6 = .ok (.iload_n 1, 1) := by decide +kernel
theorem dd_S_turn_7 : decode cd_S_turn 7 = .ok (.isub, 1) := by decide +kernel
theorem dd_S_turn_8 : decode cd_S_turn 8 = .ok (.ishl, 1) := by decide +kernel
theorem dd_S_turn_9 : decode cd_S_turn 9 = .ok (.ior, 1) := by decide +kernel
theorem dd_S_turn_10 : decode cd_S_turn 10 = .ok (.ireturn, 1) := by decide +kernel
theorem dd_S_isPrime_0 : decode cd_S_isPrime 0 = .ok (.iload_n 0, 1) := by decide +kernel
theorem dd_S_isPrime_1 : decode cd_S_isPrime 1 = .ok (.bipush 61, 2) := by decide +kernel
theorem dd_S_isPrime_3 : decode cd_S_isPrime 3 = .ok (.if_icmp .le 33, 3) := by decide +kernel
theorem dd_S_isPrime_6 : decode cd_S_isPrime 6 = .ok (.iload_n 0, 1) := by decide +kernel
theorem dd_S_isPrime_7 : decode cd_S_isPrime 7 = .ok (.iconst 2, 1) := by decide +kernel
theorem dd_S_isPrime_8 : decode cd_S_isPrime 8 = .ok (.invokestatic 53, 3) := by decide +kernel
theorem dd_S_isPrime_11 : decode cd_S_isPrime 11 = .ok (.ifCond .eq 25, 3) := by decide +kernel
theorem dd_S_isPrime_14 : decode cd_S_isPrime 14 = .ok (.iload_n 0, 1) := by decide +kernel
theorem dd_S_isPrime_15 : decode cd_S_isPrime 15 = .ok (.bipush 7, 2) := by decide +kernel
theorem dd_S_isPrime_17 : decode cd_S_isPrime 17 = .ok (.invokestatic 53, 3) := by decide +kernel
theorem dd_S_isPrime_20 : decode cd_S_isPrime 20 = .ok (.ifCond .eq 16, 3) := by decide +kernel
theorem dd_S_isPrime_23 : decode cd_S_isPrime 23 = .ok (.iload_n 0, 1) := by decide +kernel
theorem dd_S_isPrime_24 : decode cd_S_isPrime 24 = .ok (.bipush 61, 2) := by decide +kernel
theorem dd_S_isPrime_26 : decode cd_S_isPrime 26 = .ok (.invokestatic 53, 3) := by decide +kernel
theorem dd_S_isPrime_29 : decode cd_S_isPrime 29 = .ok (.ifCond .eq 7, 3) := by decide +kernel
theorem dd_S_isPrime_32 : decode cd_S_isPrime 32 = .ok (.iconst 1, 1) := by decide +kernel
theorem dd_S_isPrime_33 : decode cd_S_isPrime 33 = .ok (.goto 4, 3) := by decide +kernel
theorem dd_S_isPrime_36 : decode cd_S_isPrime 36 = .ok (.iconst 0, 1) := by decide +kernel
theorem dd_S_isPrime_37 : decode cd_S_isPrime 37 = .ok (.ireturn, 1) := by decide +kernel
theorem dd_S_passes_0 : decode cd_S_passes 0 = .ok (.iconst 0, 1) := by decide +kernel
theorem dd_S_passes_1 : decode cd_S_passes 1 = .ok (.istore_n 2, 1) := by decide +kernel
theorem dd_S_passes_2 : decode cd_S_passes 2 = .ok (.iload_n 0, 1) := by decide +kernel
theorem dd_S_passes_3 : decode cd_S_passes 3 = .ok (.iconst 1, 1) := by decide +kernel
theorem dd_S_passes_4 : decode cd_S_passes 4 = .ok (.isub, 1) := by decide +kernel
theorem dd_S_passes_5 : decode cd_S_passes 5 = .ok (.istore_n 3, 1) := by decide +kernel
theorem dd_S_passes_6 : decode cd_S_passes 6 = .ok (.iload_n 2, 1) := by decide +kernel
theorem dd_S_passes_7 : decode cd_S_passes 7 = .ok (.bipush 31, 2) := by decide +kernel
theorem dd_S_passes_9 : decode cd_S_passes 9 = .ok (.if_icmp .ge 19, 3) := by decide +kernel
theorem dd_S_passes_12 : decode cd_S_passes 12 = .ok (.iload_n 3, 1) := by decide +kernel
theorem dd_S_passes_13 : decode cd_S_passes 13 = .ok (.iconst 1, 1) := by decide +kernel
theorem dd_S_passes_14 : decode cd_S_passes 14 = .ok (.iand, 1) := by decide +kernel
theorem dd_S_passes_15 : decode cd_S_passes 15 = .ok (.ifCond .ne 13, 3) := by decide +kernel
theorem dd_S_passes_18 : decode cd_S_passes 18 = .ok (.iload_n 3, 1) := by decide +kernel
theorem dd_S_passes_19 : decode cd_S_passes 19 = .ok (.iconst 1, 1) := by decide +kernel
theorem dd_S_passes_20 : decode cd_S_passes 20 = .ok (.iushr, 1) := by decide +kernel
theorem dd_S_passes_21 : decode cd_S_passes 21 = .ok (.istore_n 3, 1) := by decide +kernel
theorem dd_S_passes_22 : decode cd_S_passes 22 = .ok (.iinc 2 1, 3) := by decide +kernel
theorem dd_S_passes_25 : decode cd_S_passes 25 = .ok (.goto (-19), 3) := by decide +kernel
theorem dd_S_passes_28 : decode cd_S_passes 28 = .ok (.iload_n 1, 1) := by decide +kernel
theorem dd_S_passes_29 : decode cd_S_passes 29 = .ok (.i2l, 1) := by decide +kernel
theorem dd_S_passes_30 : decode cd_S_passes 30 = .ok (.iload_n 3, 1) := by decide +kernel
theorem dd_S_passes_31 : decode cd_S_passes 31 = .ok (.iload_n 0, 1) := by decide +kernel
theorem dd_S_passes_32 : decode cd_S_passes 32 = .ok (.invokestatic 57, 3) := by decide +kernel
theorem dd_S_passes_35 : decode cd_S_passes 35 = .ok (.lstore 4, 2) := by decide +kernel
theorem dd_S_passes_37 : decode cd_S_passes 37 = .ok (.lload 4, 2) := by decide +kernel
theorem dd_S_passes_39 : decode cd_S_passes 39 = .ok (.lconst 1, 1) := by decide +kernel
theorem dd_S_passes_40 : decode cd_S_passes 40 = .ok (.lcmp, 1) := by decide +kernel
theorem dd_S_passes_41 : decode cd_S_passes 41 = .ok (.ifCond .eq 13, 3) := by decide +kernel
theorem dd_S_passes_44 : decode cd_S_passes 44 = .ok (.lload 4, 2) := by decide +kernel
theorem dd_S_passes_46 : decode cd_S_passes 46 = .ok (.iload_n 0, 1) := by decide +kernel
theorem dd_S_passes_47 : decode cd_S_passes 47 = .ok (.iconst 1, 1) := by decide +kernel
theorem dd_S_passes_48 : decode cd_S_passes 48 = .ok (.isub, 1) := by decide +kernel
theorem dd_S_passes_49 : decode cd_S_passes 49 = .ok (.i2l, 1) := by decide +kernel
theorem dd_S_passes_50 : decode cd_S_passes 50 = .ok (.lcmp, 1) := by decide +kernel
theorem dd_S_passes_51 : decode cd_S_passes 51 = .ok (.ifCond .ne 5, 3) := by decide +kernel
theorem dd_S_passes_54 : decode cd_S_passes 54 = .ok (.iconst 1, 1) := by decide +kernel
theorem dd_S_passes_55 : decode cd_S_passes 55 = .ok (.ireturn, 1) := by decide +kernel
theorem dd_S_passes_56 : decode cd_S_passes 56 = .ok (.iconst 1, 1) := by decide +kernel
theorem dd_S_passes_57 : decode cd_S_passes 57 = .ok (.istore 6, 2) := by decide +kernel
theorem dd_S_passes_59 : decode cd_S_passes 59 = .ok (.iload 6, 2) := by decide +kernel
theorem dd_S_passes_61 : decode cd_S_passes 61 = .ok (.iload_n 2, 1) := by decide +kernel
theorem dd_S_passes_62 : decode cd_S_passes 62 = .ok (.if_icmp .ge 31, 3) := by decide +kernel
theorem dd_S_passes_65 : decode cd_S_passes 65 = .ok (.lload 4, 2) := by decide +kernel
theorem dd_S_passes_67 : decode cd_S_passes 67 = .ok (.lload 4, 2) := by decide +kernel
theorem dd_S_passes_69 : decode cd_S_passes 69 = .ok (.lmul, 1) := by decide +kernel
theorem dd_S_passes_70 : decode cd_S_passes 70 = .ok (.iload_n 0, 1) := by decide +kernel
theorem dd_S_passes_71 : decode cd_S_passes 71 = .ok (.i2l, 1) := by decide +kernel
theorem dd_S_passes_72 : decode cd_S_passes 72 = .ok (.lrem, 1) := by decide +kernel
theorem dd_S_passes_73 : decode cd_S_passes 73 = .ok (.lstore 4, 2) := by decide +kernel
theorem dd_S_passes_75 : decode cd_S_passes 75 = .ok (.lload 4, 2) := by decide +kernel
theorem dd_S_passes_77 : decode cd_S_passes 77 = .ok (.iload_n 0, 1) := by decide +kernel
theorem dd_S_passes_78 : decode cd_S_passes 78 = .ok (.iconst 1, 1) := by decide +kernel
theorem dd_S_passes_79 : decode cd_S_passes 79 = .ok (.isub, 1) := by decide +kernel
theorem dd_S_passes_80 : decode cd_S_passes 80 = .ok (.i2l, 1) := by decide +kernel
theorem dd_S_passes_81 : decode cd_S_passes 81 = .ok (.lcmp, 1) := by decide +kernel
theorem dd_S_passes_82 : decode cd_S_passes 82 = .ok (.ifCond .ne 5, 3) := by decide +kernel
theorem dd_S_passes_85 : decode cd_S_passes 85 = .ok (.iconst 1, 1) := by decide +kernel
theorem dd_S_passes_86 : decode cd_S_passes 86 = .ok (.ireturn, 1) := by decide +kernel
theorem dd_S_passes_87 : decode cd_S_passes 87 = .ok (.iinc 6 1, 3) := by decide +kernel
theorem dd_S_passes_90 : decode cd_S_passes 90 = .ok (.goto (-31), 3) := by decide +kernel
theorem dd_S_passes_93 : decode cd_S_passes 93 = .ok (.iconst 0, 1) := by decide +kernel
theorem dd_S_passes_94 : decode cd_S_passes 94 = .ok (.ireturn, 1) := by decide +kernel
theorem dd_S_inverse_0 : decode cd_S_inverse 0 = .ok (.iload_n 1, 1) := by decide +kernel
theorem dd_S_inverse_1 : decode cd_S_inverse 1 = .ok (.iconst 2, 1) := by decide +kernel
theorem dd_S_inverse_2 : decode cd_S_inverse 2 = .ok (.if_icmp .ge 7, 3) := by decide +kernel
theorem dd_S_inverse_5 : decode cd_S_inverse 5 = .ok (.iconst 0, 1) := by decide +kernel
theorem dd_S_inverse_6 : decode cd_S_inverse 6 = .ok (.goto 13, 3) := by decide +kernel
theorem dd_S_inverse_9 : decode cd_S_inverse 9 = .ok (.iload_n 0, 1) := by decide +kernel
theorem dd_S_inverse_10 : decode cd_S_inverse 10 = .ok (.i2l, 1) := by decide +kernel
theorem dd_S_inverse_11 : decode cd_S_inverse 11 = .ok (.iload_n 1, 1) := by decide +kernel
theorem dd_S_inverse_12 : decode cd_S_inverse 12 = .ok (.iconst 2, 1) := by decide +kernel
theorem dd_S_inverse_13 : decode cd_S_inverse 13 = .ok (.isub, 1) := by decide +kernel
theorem dd_S_inverse_14 : decode cd_S_inverse 14 = .ok (.iload_n 1, 1) := by decide +kernel
theorem dd_S_inverse_15 : decode cd_S_inverse 15 = .ok (.invokestatic 57, 3) := by decide +kernel
theorem dd_S_inverse_18 : decode cd_S_inverse 18 = .ok (.l2i, 1) := by decide +kernel
theorem dd_S_inverse_19 : decode cd_S_inverse 19 = .ok (.ireturn, 1) := by decide +kernel
theorem dd_S_power_0 : decode cd_S_power 0 = .ok (.lconst 1, 1) := by decide +kernel
theorem dd_S_power_1 : decode cd_S_power 1 = .ok (.lstore 4, 2) := by decide +kernel
theorem dd_S_power_3 : decode cd_S_power 3 = .ok (.bipush 31, 2) := by decide +kernel
theorem dd_S_power_5 : decode cd_S_power 5 = .ok (.istore 6, 2) := by decide +kernel
theorem dd_S_power_7 : decode cd_S_power 7 = .ok (.iload 6, 2) := by decide +kernel
theorem dd_S_power_9 : decode cd_S_power 9 = .ok (.ifCond .lt 37, 3) := by decide +kernel
theorem dd_S_power_12 : decode cd_S_power 12 = .ok (.lload 4, 2) := by decide +kernel
theorem dd_S_power_14 : decode cd_S_power 14 = .ok (.lload 4, 2) := by decide +kernel
theorem dd_S_power_16 : decode cd_S_power 16 = .ok (.lmul, 1) := by decide +kernel
theorem dd_S_power_17 : decode cd_S_power 17 = .ok (.iload_n 3, 1) := by decide +kernel
theorem dd_S_power_18 : decode cd_S_power 18 = .ok (.i2l, 1) := by decide +kernel
theorem dd_S_power_19 : decode cd_S_power 19 = .ok (.lrem, 1) := by decide +kernel
theorem dd_S_power_20 : decode cd_S_power 20 = .ok (.lstore 4, 2) := by decide +kernel
theorem dd_S_power_22 : decode cd_S_power 22 = .ok (.iload_n 2, 1) := by decide +kernel
theorem dd_S_power_23 : decode cd_S_power 23 = .ok (.iload 6, 2) := by decide +kernel
theorem dd_S_power_25 : decode cd_S_power 25 = .ok (.iushr, 1) := by decide +kernel
theorem dd_S_power_26 : decode cd_S_power 26 = .ok (.iconst 1, 1) := by decide +kernel
theorem dd_S_power_27 : decode cd_S_power 27 = .ok (.iand, 1) := by decide +kernel
theorem dd_S_power_28 : decode cd_S_power 28 = .ok (.ifCond .eq 12, 3) := by decide +kernel
theorem dd_S_power_31 : decode cd_S_power 31 = .ok (.lload 4, 2) := by decide +kernel
theorem dd_S_power_33 : decode cd_S_power 33 = .ok (.lload_n 0, 1) := by decide +kernel
theorem dd_S_power_34 : decode cd_S_power 34 = .ok (.lmul, 1) := by decide +kernel
theorem dd_S_power_35 : decode cd_S_power 35 = .ok (.iload_n 3, 1) := by decide +kernel
theorem dd_S_power_36 : decode cd_S_power 36 = .ok (.i2l, 1) := by decide +kernel
theorem dd_S_power_37 : decode cd_S_power 37 = .ok (.lrem, 1) := by decide +kernel
theorem dd_S_power_38 : decode cd_S_power 38 = .ok (.lstore 4, 2) := by decide +kernel
theorem dd_S_power_40 : decode cd_S_power 40 = .ok (.iinc 6 (-1), 3) := by decide +kernel
theorem dd_S_power_43 : decode cd_S_power 43 = .ok (.goto (-36), 3) := by decide +kernel
theorem dd_S_power_46 : decode cd_S_power 46 = .ok (.lload 4, 2) := by decide +kernel
theorem dd_S_power_48 : decode cd_S_power 48 = .ok (.lreturn, 1) := by decide +kernel
end
section
theorem dd_E_init_0 : decode cd_E_init 0 = .ok (.aload_n 0, 1) := by decide +kernel
theorem dd_E_init_1 : decode cd_E_init 1 = .ok (.invokespecial 1, 3) := by decide +kernel
theorem dd_E_init_4 : decode cd_E_init 4 = .ok (.aload_n 0, 1) := by decide +kernel
theorem dd_E_init_5 : decode cd_E_init 5 = .ok (.new 7, 3) := by decide +kernel
theorem dd_E_init_8 : decode cd_E_init 8 = .ok (.dup, 1) := by decide +kernel
theorem dd_E_init_9 : decode cd_E_init 9 = .ok (.invokespecial 9, 3) := by decide +kernel
theorem dd_E_init_12 : decode cd_E_init 12 = .ok (.putfield 10, 3) := by decide +kernel
theorem dd_E_init_15 : decode cd_E_init 15 = .ok (.aload_n 0, 1) := by decide +kernel
theorem dd_E_init_16 : decode cd_E_init 16 = .ok (.iconst 4, 1) := by decide +kernel
theorem dd_E_init_17 : decode cd_E_init 17 = .ok (.newarray .long, 2) := by decide +kernel
theorem dd_E_init_19 : decode cd_E_init 19 = .ok (.putfield 18, 3) := by decide +kernel
theorem dd_E_init_22 : decode cd_E_init 22 = .ok (.aload_n 0, 1) := by decide +kernel
theorem dd_E_init_23 : decode cd_E_init 23 = .ok (.iconst 4, 1) := by decide +kernel
theorem dd_E_init_24 : decode cd_E_init 24 = .ok (.newarray .long, 2) := by decide +kernel
theorem dd_E_init_26 : decode cd_E_init 26 = .ok (.putfield 22, 3) := by decide +kernel
theorem dd_E_init_29 : decode cd_E_init 29 = .ok (.return_, 1) := by decide +kernel
end
section
theorem dd_P_init_0 : decode cd_P_init 0 = .ok (.aload_n 0, 1) := by decide +kernel
theorem dd_P_init_1 : decode cd_P_init 1 = .ok (.invokespecial 1, 3) := by decide +kernel
theorem dd_P_init_4 : decode cd_P_init 4 = .ok (.aload_n 0, 1) := by decide +kernel
theorem dd_P_init_5 : decode cd_P_init 5 = .ok (.new 7, 3) := by decide +kernel
theorem dd_P_init_8 : decode cd_P_init 8 = .ok (.dup, 1) := by decide +kernel
theorem dd_P_init_9 : decode cd_P_init 9 = .ok (.invokespecial 9, 3) := by decide +kernel
theorem dd_P_init_12 : decode cd_P_init 12 = .ok (.putfield 10, 3) := by decide +kernel
theorem dd_P_init_15 : decode cd_P_init 15 = .ok (.aload_n 0, 1) := by decide +kernel
theorem dd_P_init_16 : decode cd_P_init 16 = .ok (.new 16, 3) := by decide +kernel
theorem dd_P_init_19 : decode cd_P_init 19 = .ok (.dup, 1) := by decide +kernel
theorem dd_P_init_20 : decode cd_P_init 20 = .ok (.invokespecial 18, 3) := by decide +kernel
theorem dd_P_init_23 : decode cd_P_init 23 = .ok (.putfield 19, 3) := by decide +kernel
theorem dd_P_init_26 : decode cd_P_init 26 = .ok (.aload_n 0, 1) := by decide +kernel
theorem dd_P_init_27 : decode cd_P_init 27 = .ok (.new 23, 3) := by decide +kernel
theorem dd_P_init_30 : decode cd_P_init 30 = .ok (.dup, 1) := by decide +kernel
theorem dd_P_init_31 : decode cd_P_init 31 = .ok (.invokespecial 25, 3) := by decide +kernel
theorem dd_P_init_34 : decode cd_P_init 34 = .ok (.putfield 26, 3) := by decide +kernel
theorem dd_P_init_37 : decode cd_P_init 37 = .ok (.aload_n 0, 1) := by decide +kernel
theorem dd_P_init_38 : decode cd_P_init 38 = .ok (.bipush 17, 2) := by decide +kernel
theorem dd_P_init_40 : decode cd_P_init 40 = .ok (.anewarray 30, 3) := by decide +kernel
theorem dd_P_init_43 : decode cd_P_init 43 = .ok (.putfield 32, 3) := by decide +kernel
theorem dd_P_init_46 : decode cd_P_init 46 = .ok (.iconst 0, 1) := by decide +kernel
theorem dd_P_init_47 : decode cd_P_init 47 = .ok (.istore_n 1, 1) := by decide +kernel
theorem dd_P_init_48 : decode cd_P_init 48 = .ok (.iload_n 1, 1) := by decide +kernel
theorem dd_P_init_49 : decode cd_P_init 49 = .ok (.bipush 16, 2) := by decide +kernel
theorem dd_P_init_51 : decode cd_P_init 51 = .ok (.if_icmp .gt 22, 3) := by decide +kernel
theorem dd_P_init_54 : decode cd_P_init 54 = .ok (.aload_n 0, 1) := by decide +kernel
theorem dd_P_init_55 : decode cd_P_init 55 = .ok (.getfield 32, 3) := by decide +kernel
theorem dd_P_init_58 : decode cd_P_init 58 = .ok (.iload_n 1, 1) := by decide +kernel
theorem dd_P_init_59 : decode cd_P_init 59 = .ok (.new 30, 3) := by decide +kernel
theorem dd_P_init_62 : decode cd_P_init 62 = .ok (.dup, 1) := by decide +kernel
theorem dd_P_init_63 : decode cd_P_init 63 = .ok (.invokespecial 36, 3) := by decide +kernel
theorem dd_P_init_66 : decode cd_P_init 66 = .ok (.aastore, 1) := by decide +kernel
theorem dd_P_init_67 : decode cd_P_init 67 = .ok (.iinc 1 1, 3) := by decide +kernel
theorem dd_P_init_70 : decode cd_P_init 70 = .ok (.goto (-22), 3) := by decide +kernel
theorem dd_P_init_73 : decode cd_P_init 73 = .ok (.aload_n 0, 1) := by decide +kernel
theorem dd_P_init_74 : decode cd_P_init 74 = .ok (.iconst 4, 1) := by decide +kernel
theorem dd_P_init_75 : decode cd_P_init 75 = .ok (.newarray .long, 2) := by decide +kernel
theorem dd_P_init_77 : decode cd_P_init 77 = .ok (.putfield 37, 3) := by decide +kernel
theorem dd_P_init_80 : decode cd_P_init 80 = .ok (.aload_n 0, 1) := by decide +kernel
theorem dd_P_init_81 : decode cd_P_init 81 = .ok (.iconst 4, 1) := by decide +kernel
theorem dd_P_init_82 : decode cd_P_init 82 = .ok (.newarray .long, 2) := by decide +kernel
theorem dd_P_init_84 : decode cd_P_init 84 = .ok (.putfield 41, 3) := by decide +kernel
theorem dd_P_init_87 : decode cd_P_init 87 = .ok (.aload_n 0, 1) := by decide +kernel
theorem dd_P_init_88 : decode cd_P_init 88 = .ok (.iconst 4, 1) := by decide +kernel
theorem dd_P_init_89 : decode cd_P_init 89 = .ok (.newarray .long, 2) := by decide +kernel
theorem dd_P_init_91 : decode cd_P_init 91 = .ok (.putfield 44, 3) := by decide +kernel
theorem dd_P_init_94 : decode cd_P_init 94 = .ok (.aload_n 0, 1) := by decide +kernel
theorem dd_P_init_95 : decode cd_P_init 95 = .ok (.new 47, 3) := by decide +kernel
theorem dd_P_init_98 : decode cd_P_init 98 = .ok (.dup, 1) := by decide +kernel
theorem dd_P_init_99 : decode cd_P_init 99 = .ok (.invokespecial 49, 3) := by decide +kernel
theorem dd_P_init_102 : decode cd_P_init 102 = .ok (.putfield 50, 3) := by decide +kernel
theorem dd_P_init_105 : decode cd_P_init 105 = .ok (.return_, 1) := by decide +kernel
theorem dd_P_modulus_0 : decode cd_P_modulus 0 = .ok (.aload_n 0, 1) := by decide +kernel
theorem dd_P_modulus_1 : decode cd_P_modulus 1 = .ok (.getfield 54, 3) := by decide +kernel
theorem dd_P_modulus_4 : decode cd_P_modulus 4 = .ok (.ifCond .ne 11, 3) := by decide +kernel
theorem dd_P_modulus_7 : decode cd_P_modulus 7 = .ok (.lload_n 1, 1) := by decide +kernel
theorem dd_P_modulus_8 : decode cd_P_modulus 8 = .ok (.lload_n 3, 1) := by decide +kernel
theorem dd_P_modulus_9 : decode cd_P_modulus 9 = .ok (.invokestatic 58, 3) := by decide +kernel
theorem dd_P_modulus_12 : decode cd_P_modulus 12 = .ok (.ifCond .ne 5, 3) := by decide +kernel
theorem dd_P_modulus_15 : decode cd_P_modulus 15 = .ok (.iconst 0, 1) := by decide +kernel
theorem dd_P_modulus_16 : decode cd_P_modulus 16 = .ok (.ireturn, 1) := by decide +kernel
theorem dd_P_modulus_17 : decode cd_P_modulus 17 = .ok (.aload_n 0, 1) := by decide +kernel
theorem dd_P_modulus_18 : decode cd_P_modulus 18 = .ok (.getfield 19, 3) := by decide +kernel
theorem dd_P_modulus_21 : decode cd_P_modulus 21 = .ok (.lload_n 1, 1) := by decide +kernel
theorem dd_P_modulus_22 : decode cd_P_modulus 22 = .ok (.lload_n 3, 1) := by decide +kernel
theorem dd_P_modulus_23 : decode cd_P_modulus 23 = .ok (.invokevirtual 62, 3) := by decide +kernel
theorem dd_P_modulus_26 : decode cd_P_modulus 26 = .ok (.aload_n 0, 1) := by decide +kernel
theorem dd_P_modulus_27 : decode cd_P_modulus 27 = .ok (.aload_n 0, 1) := by decide +kernel
theorem dd_P_modulus_28 : decode cd_P_modulus 28 = .ok (.getfield 32, 3) := by decide +kernel
theorem dd_P_modulus_31 : decode cd_P_modulus 31 = .ok (.iconst 0, 1) := by decide +kernel
theorem dd_P_modulus_32 : decode cd_P_modulus 32 = .ok (.aaload, 1) := by decide +kernel
theorem dd_P_modulus_33 : decode cd_P_modulus 33 = .ok (.invokevirtual 66, 3) := by decide +kernel
theorem dd_P_modulus_36 : decode cd_P_modulus 36 = .ok (.aload_n 0, 1) := by decide +kernel
theorem dd_P_modulus_37 : decode cd_P_modulus 37 = .ok (.iconst 1, 1) := by decide +kernel
theorem dd_P_modulus_38 : decode cd_P_modulus 38 = .ok (.putfield 54, 3) := by decide +kernel
theorem dd_P_modulus_41 : decode cd_P_modulus 41 = .ok (.iconst 1, 1) := by decide +kernel
theorem dd_P_modulus_42 : decode cd_P_modulus 42 = .ok (.ireturn, 1) := by decide +kernel
theorem dd_P_prime_0 : decode cd_P_prime 0 = .ok (.aload_n 0, 1) := by decide +kernel
theorem dd_P_prime_1 : decode cd_P_prime 1 = .ok (.getfield 10, 3) := by decide +kernel
theorem dd_P_prime_4 : decode cd_P_prime 4 = .ok (.lload_n 1, 1) := by decide +kernel
theorem dd_P_prime_5 : decode cd_P_prime 5 = .ok (.invokevirtual 70, 3) := by decide +kernel
theorem dd_P_prime_8 : decode cd_P_prime 8 = .ok (.ireturn, 1) := by decide +kernel
theorem dd_P_add_0 : decode cd_P_add 0 = .ok (.aload_n 0, 1) := by decide +kernel
theorem dd_P_add_1 : decode cd_P_add 1 = .ok (.lload_n 1, 1) := by decide +kernel
theorem dd_P_add_2 : decode cd_P_add 2 = .ok (.invokevirtual 74, 3) := by decide +kernel
theorem dd_P_add_5 : decode cd_P_add 5 = .ok (.istore_n 3, 1) := by decide +kernel
theorem dd_P_add_6 : decode cd_P_add 6 = .ok (.iload_n 3, 1) := by decide +kernel
theorem dd_P_add_7 : decode cd_P_add 7 = .ok (.ifCond .ge 5, 3) := by decide +kernel
theorem dd_P_add_10 : decode cd_P_add 10 = .ok (.iload_n 3, 1) := by decide +kernel
theorem dd_P_add_11 : decode cd_P_add 11 = .ok (.ireturn, 1) := by decide +kernel
theorem dd_P_add_12 : decode cd_P_add 12 = .ok (.aload_n 0, 1) := by decide +kernel
theorem dd_P_add_13 : decode cd_P_add 13 = .ok (.getfield 26, 3) := by decide +kernel
theorem dd_P_add_16 : decode cd_P_add 16 = .ok (.lload_n 1, 1) := by decide +kernel
theorem dd_P_add_17 : decode cd_P_add 17 = .ok (.invokevirtual 77, 3) := by decide +kernel
theorem dd_P_add_20 : decode cd_P_add 20 = .ok (.ifCond .eq 6, 3) := by decide +kernel
theorem dd_P_add_23 : decode cd_P_add 23 = .ok (.bipush (-3), 2) := by decide +kernel
theorem dd_P_add_25 : decode cd_P_add 25 = .ok (.ireturn, 1) := by decide +kernel
theorem dd_P_add_26 : decode cd_P_add 26 = .ok (.aload_n 0, 1) := by decide +kernel
theorem dd_P_add_27 : decode cd_P_add 27 = .ok (.getfield 26, 3) := by decide +kernel
theorem dd_P_add_30 : decode cd_P_add 30 = .ok (.iload_n 3, 1) := by decide +kernel
theorem dd_P_add_31 : decode cd_P_add 31 = .ok (.invokevirtual 81, 3) := by decide +kernel
theorem dd_P_add_34 : decode cd_P_add 34 = .ok (.ifCond .eq 6, 3) := by decide +kernel
theorem dd_P_add_37 : decode cd_P_add 37 = .ok (.bipush (-5), 2) := by decide +kernel
theorem dd_P_add_39 : decode cd_P_add 39 = .ok (.ireturn, 1) := by decide +kernel
theorem dd_P_add_40 : decode cd_P_add 40 = .ok (.aload_n 0, 1) := by decide +kernel
theorem dd_P_add_41 : decode cd_P_add 41 = .ok (.getfield 26, 3) := by decide +kernel
theorem dd_P_add_44 : decode cd_P_add 44 = .ok (.getfield 85, 3) := by decide +kernel
theorem dd_P_add_47 : decode cd_P_add 47 = .ok (.bipush 10, 2) := by decide +kernel
theorem dd_P_add_49 : decode cd_P_add 49 = .ok (.if_icmp .lt 6, 3) := by decide +kernel
theorem dd_P_add_52 : decode cd_P_add 52 = .ok (.bipush (-6), 2) := by decide +kernel
theorem dd_P_add_54 : decode cd_P_add 54 = .ok (.ireturn, 1) := by decide +kernel
theorem dd_P_add_55 : decode cd_P_add 55 = .ok (.aload_n 0, 1) := by decide +kernel
theorem dd_P_add_56 : decode cd_P_add 56 = .ok (.getfield 26, 3) := by decide +kernel
theorem dd_P_add_59 : decode cd_P_add 59 = .ok (.lload_n 1, 1) := by decide +kernel
theorem dd_P_add_60 : decode cd_P_add 60 = .ok (.iload_n 3, 1) := by decide +kernel
theorem dd_P_add_61 : decode cd_P_add 61 = .ok (.invokevirtual 89, 3) := by decide +kernel
theorem dd_P_add_64 : decode cd_P_add 64 = .ok (.aload_n 0, 1) := by decide +kernel
theorem dd_P_add_65 : decode cd_P_add 65 = .ok (.getfield 26, 3) := by decide +kernel
theorem dd_P_add_68 : decode cd_P_add 68 = .ok (.getfield 85, 3) := by decide +kernel
theorem dd_P_add_71 : decode cd_P_add 71 = .ok (.ireturn, 1) := by decide +kernel
theorem dd_P_remove_0 : decode cd_P_remove 0 = .ok (.aload_n 0, 1) := by decide +kernel
theorem dd_P_remove_1 : decode cd_P_remove 1 = .ok (.lload_n 1, 1) := by decide +kernel
theorem dd_P_remove_2 : decode cd_P_remove 2 = .ok (.invokevirtual 74, 3) := by decide +kernel
theorem dd_P_remove_5 : decode cd_P_remove 5 = .ok (.istore_n 3, 1) := by decide +kernel
theorem dd_P_remove_6 : decode cd_P_remove 6 = .ok (.iload_n 3, 1) := by decide +kernel
theorem dd_P_remove_7 : decode cd_P_remove 7 = .ok (.ifCond .ge 5, 3) := by decide +kernel
theorem dd_P_remove_10 : decode cd_P_remove 10 = .ok (.iload_n 3, 1) := by decide +kernel
theorem dd_P_remove_11 : decode cd_P_remove 11 = .ok (.ireturn, 1) := by decide +kernel
theorem dd_P_remove_12 : decode cd_P_remove 12 = .ok (.aload_n 0, 1) := by decide +kernel
theorem dd_P_remove_13 : decode cd_P_remove 13 = .ok (.getfield 26, 3) := by decide +kernel
theorem dd_P_remove_16 : decode cd_P_remove 16 = .ok (.lload_n 1, 1) := by decide +kernel
theorem dd_P_remove_17 : decode cd_P_remove 17 = .ok (.invokevirtual 93, 3) := by decide +kernel
theorem dd_P_remove_20 : decode cd_P_remove 20 = .ok (.istore 4, 2) := by decide +kernel
theorem dd_P_remove_22 : decode cd_P_remove 22 = .ok (.iload 4, 2) := by decide +kernel
theorem dd_P_remove_24 : decode cd_P_remove 24 = .ok (.ifCond .ge 6, 3) := by decide +kernel
theorem dd_P_remove_27 : decode cd_P_remove 27 = .ok (.bipush (-4), 2) := by decide +kernel
theorem dd_P_remove_29 : decode cd_P_remove 29 = .ok (.ireturn, 1) := by decide +kernel
theorem dd_P_remove_30 : decode cd_P_remove 30 = .ok (.aload_n 0, 1) := by decide +kernel
theorem dd_P_remove_31 : decode cd_P_remove 31 = .ok (.getfield 26, 3) := by decide +kernel
theorem dd_P_remove_34 : decode cd_P_remove 34 = .ok (.iload 4, 2) := by decide +kernel
theorem dd_P_remove_36 : decode cd_P_remove 36 = .ok (.invokevirtual 96, 3) := by decide +kernel
theorem dd_P_remove_39 : decode cd_P_remove 39 = .ok (.aload_n 0, 1) := by decide +kernel
theorem dd_P_remove_40 : decode cd_P_remove 40 = .ok (.getfield 26, 3) := by decide +kernel
theorem dd_P_remove_43 : decode cd_P_remove 43 = .ok (.getfield 85, 3) := by decide +kernel
theorem dd_P_remove_46 : decode cd_P_remove 46 = .ok (.ireturn, 1) := by decide +kernel
theorem dd_P_close_0 : decode cd_P_close 0 = .ok (.aload_n 0, 1) := by decide +kernel
theorem dd_P_close_1 : decode cd_P_close 1 = .ok (.getfield 54, 3) := by decide +kernel
theorem dd_P_close_4 : decode cd_P_close 4 = .ok (.ifCond .ne 5, 3) := by decide +kernel
theorem dd_P_close_7 : decode cd_P_close 7 = .ok (.iconst (-1), 1) := by decide +kernel
theorem dd_P_close_8 : decode cd_P_close 8 = .ok (.ireturn, 1) := by decide +kernel
theorem dd_P_close_9 : decode cd_P_close 9 = .ok (.aload_n 0, 1) := by decide +kernel
theorem dd_P_close_10 : decode cd_P_close 10 = .ok (.getfield 100, 3) := by decide +kernel
theorem dd_P_close_13 : decode cd_P_close 13 = .ok (.bipush 16, 2) := by decide +kernel
theorem dd_P_close_15 : decode cd_P_close 15 = .ok (.if_icmp .lt 6, 3) := by decide +kernel
theorem dd_P_close_18 : decode cd_P_close 18 = .ok (.bipush (-6), 2) := by decide +kernel
theorem dd_P_close_20 : decode cd_P_close 20 = .ok (.ireturn, 1) := by decide +kernel
theorem dd_P_close_21 : decode cd_P_close 21 = .ok (.aload_n 0, 1) := by decide +kernel
theorem dd_P_close_22 : decode cd_P_close 22 = .ok (.dup, 1) := by decide +kernel
theorem dd_P_close_23 : decode cd_P_close 23 = .ok (.getfield 100, 3) := by decide +kernel
theorem dd_P_close_26 : decode cd_P_close 26 = .ok (.iconst 1, 1) := by decide +kernel
theorem dd_P_close_27 : decode cd_P_close 27 = .ok (.iadd, 1) := by decide +kernel
theorem dd_P_close_28 : decode cd_P_close 28 = .ok (.putfield 100, 3) := by decide +kernel
theorem dd_P_close_31 : decode cd_P_close 31 = .ok (.aload_n 0, 1) := by decide +kernel
theorem dd_P_close_32 : decode cd_P_close 32 = .ok (.getfield 32, 3) := by decide +kernel
theorem dd_P_close_35 : decode cd_P_close 35 = .ok (.aload_n 0, 1) := by decide +kernel
theorem dd_P_close_36 : decode cd_P_close 36 = .ok (.getfield 100, 3) := by decide +kernel
theorem dd_P_close_39 : decode cd_P_close 39 = .ok (.aaload, 1) := by decide +kernel
theorem dd_P_close_40 : decode cd_P_close 40 = .ok (.getfield 103, 3) := by decide +kernel
theorem dd_P_close_43 : decode cd_P_close 43 = .ok (.aload_n 0, 1) := by decide +kernel
theorem dd_P_close_44 : decode cd_P_close 44 = .ok (.getfield 26, 3) := by decide +kernel
theorem dd_P_close_47 : decode cd_P_close 47 = .ok (.invokevirtual 106, 3) := by decide +kernel
theorem dd_P_close_50 : decode cd_P_close 50 = .ok (.aload_n 0, 1) := by decide +kernel
theorem dd_P_close_51 : decode cd_P_close 51 = .ok (.aload_n 0, 1) := by decide +kernel
theorem dd_P_close_52 : decode cd_P_close 52 = .ok (.getfield 32, 3) := by decide +kernel
theorem dd_P_close_55 : decode cd_P_close 55 = .ok (.aload_n 0, 1) := by decide +kernel
theorem dd_P_close_56 : decode cd_P_close 56 = .ok (.getfield 100, 3) := by decide +kernel
theorem dd_P_close_59 : decode cd_P_close 59 = .ok (.aaload, 1) := by decide +kernel
theorem dd_P_close_60 : decode cd_P_close 60 = .ok (.invokevirtual 66, 3) := by decide +kernel
theorem dd_P_close_63 : decode cd_P_close 63 = .ok (.aload_n 0, 1) := by decide +kernel
theorem dd_P_close_64 : decode cd_P_close 64 = .ok (.getfield 100, 3) := by decide +kernel
theorem dd_P_close_67 : decode cd_P_close 67 = .ok (.ireturn, 1) := by decide +kernel
theorem dd_P_size_0 : decode cd_P_size 0 = .ok (.aload_n 0, 1) := by decide +kernel
theorem dd_P_size_1 : decode cd_P_size 1 = .ok (.getfield 54, 3) := by decide +kernel
theorem dd_P_size_4 : decode cd_P_size 4 = .ok (.ifCond .ne 5, 3) := by decide +kernel
theorem dd_P_size_7 : decode cd_P_size 7 = .ok (.iconst (-1), 1) := by decide +kernel
theorem dd_P_size_8 : decode cd_P_size 8 = .ok (.ireturn, 1) := by decide +kernel
theorem dd_P_size_9 : decode cd_P_size 9 = .ok (.iload_n 1, 1) := by decide +kernel
theorem dd_P_size_10 : decode cd_P_size 10 = .ok (.tableswitch 55 0 2 #[26, 42, 50], 26) := by decide +kernel
theorem dd_P_size_36 : decode cd_P_size 36 = .ok (.aload_n 0, 1) := by decide +kernel
theorem dd_P_size_37 : decode cd_P_size 37 = .ok (.getfield 32, 3) := by decide +kernel
theorem dd_P_size_40 : decode cd_P_size 40 = .ok (.aload_n 0, 1) := by decide +kernel
theorem dd_P_size_41 : decode cd_P_size 41 = .ok (.getfield 100, 3) := by decide +kernel
theorem dd_P_size_44 : decode cd_P_size 44 = .ok (.aaload, 1) := by decide +kernel
theorem dd_P_size_45 : decode cd_P_size 45 = .ok (.getfield 103, 3) := by decide +kernel
theorem dd_P_size_48 : decode cd_P_size 48 = .ok (.getfield 85, 3) := by decide +kernel
theorem dd_P_size_51 : decode cd_P_size 51 = .ok (.ireturn, 1) := by decide +kernel
theorem dd_P_size_52 : decode cd_P_size 52 = .ok (.aload_n 0, 1) := by decide +kernel
theorem dd_P_size_53 : decode cd_P_size 53 = .ok (.getfield 26, 3) := by decide +kernel
theorem dd_P_size_56 : decode cd_P_size 56 = .ok (.getfield 85, 3) := by decide +kernel
theorem dd_P_size_59 : decode cd_P_size 59 = .ok (.ireturn, 1) := by decide +kernel
theorem dd_P_size_60 : decode cd_P_size 60 = .ok (.aload_n 0, 1) := by decide +kernel
theorem dd_P_size_61 : decode cd_P_size 61 = .ok (.getfield 100, 3) := by decide +kernel
theorem dd_P_size_64 : decode cd_P_size 64 = .ok (.ireturn, 1) := by decide +kernel
theorem dd_P_size_65 : decode cd_P_size 65 = .ok (.bipush (-2), 2) := by decide +kernel
theorem dd_P_size_67 : decode cd_P_size 67 = .ok (.ireturn, 1) := by decide +kernel
theorem dd_P_state_0 : decode cd_P_state 0 = .ok (.aload_n 0, 1) := by decide +kernel
theorem dd_P_state_1 : decode cd_P_state 1 = .ok (.lload_n 1, 1) := by decide +kernel
theorem dd_P_state_2 : decode cd_P_state 2 = .ok (.invokevirtual 74, 3) := by decide +kernel
theorem dd_P_state_5 : decode cd_P_state 5 = .ok (.istore_n 3, 1) := by decide +kernel
theorem dd_P_state_6 : decode cd_P_state 6 = .ok (.iload_n 3, 1) := by decide +kernel
theorem dd_P_state_7 : decode cd_P_state 7 = .ok (.ifCond .ge 5, 3) := by decide +kernel
theorem dd_P_state_10 : decode cd_P_state 10 = .ok (.iload_n 3, 1) := by decide +kernel
theorem dd_P_state_11 : decode cd_P_state 11 = .ok (.ireturn, 1) := by decide +kernel
theorem dd_P_state_12 : decode cd_P_state 12 = .ok (.aload_n 0, 1) := by decide +kernel
theorem dd_P_state_13 : decode cd_P_state 13 = .ok (.getfield 32, 3) := by decide +kernel
theorem dd_P_state_16 : decode cd_P_state 16 = .ok (.aload_n 0, 1) := by decide +kernel
theorem dd_P_state_17 : decode cd_P_state 17 = .ok (.getfield 100, 3) := by decide +kernel
theorem dd_P_state_20 : decode cd_P_state 20 = .ok (.aaload, 1) := by decide +kernel
theorem dd_P_state_21 : decode cd_P_state 21 = .ok (.getfield 103, 3) := by decide +kernel
theorem dd_P_state_24 : decode cd_P_state 24 = .ok (.lload_n 1, 1) := by decide +kernel
theorem dd_P_state_25 : decode cd_P_state 25 = .ok (.invokevirtual 77, 3) := by decide +kernel
theorem dd_P_state_28 : decode cd_P_state 28 = .ok (.ifCond .eq 7, 3) := by decide +kernel
theorem dd_P_state_31 : decode cd_P_state 31 = .ok (.iconst 1, 1) := by decide +kernel
theorem dd_P_state_32 : decode cd_P_state 32 = .ok (.goto 4, 3) := by decide +kernel
theorem dd_P_state_35 : decode cd_P_state 35 = .ok (.iconst 0, 1) := by decide +kernel
theorem dd_P_state_36 : decode cd_P_state 36 = .ok (.aload_n 0, 1) := by decide +kernel
theorem dd_P_state_37 : decode cd_P_state 37 = .ok (.getfield 26, 3) := by decide +kernel
theorem dd_P_state_40 : decode cd_P_state 40 = .ok (.lload_n 1, 1) := by decide +kernel
theorem dd_P_state_41 : decode cd_P_state 41 = .ok (.invokevirtual 77, 3) := by decide +kernel
theorem dd_P_state_44 : decode cd_P_state 44 = .ok (.ifCond .eq 7, 3) := by decide +kernel
theorem dd_P_state_47 : decode cd_P_state 47 = .ok (.iconst 2, 1) := by decide +kernel
theorem dd_P_state_48 : decode cd_P_state 48 = .ok (.goto 4, 3) := by decide +kernel
theorem dd_P_state_51 : decode cd_P_state 51 = .ok (.iconst 0, 1) := by decide +kernel
theorem dd_P_state_52 : decode cd_P_state 52 = .ok (.iadd, 1) := by decide +kernel
theorem dd_P_state_53 : decode cd_P_state 53 = .ok (.ireturn, 1) := by decide +kernel
theorem dd_P_accumulator_0 : decode cd_P_accumulator 0 = .ok (.aload_n 0, 1) := by decide +kernel
theorem dd_P_accumulator_1 : decode cd_P_accumulator 1 = .ok (.getfield 54, 3) := by decide +kernel
theorem dd_P_accumulator_4 : decode cd_P_accumulator 4 = .ok (.ifCond .eq 11, 3) := by decide +kernel
theorem dd_P_accumulator_7 : decode cd_P_accumulator 7 = .ok (.aload_n 0, 1) := by decide +kernel
theorem dd_P_accumulator_8 : decode cd_P_accumulator 8 = .ok (.iload_n 1, 1) := by decide +kernel
theorem dd_P_accumulator_9 : decode cd_P_accumulator 9 = .ok (.invokevirtual 110, 3) := by decide +kernel
theorem dd_P_accumulator_12 : decode cd_P_accumulator 12 = .ok (.ifCond .ne 5, 3) := by decide +kernel
theorem dd_P_accumulator_15 : decode cd_P_accumulator 15 = .ok (.lconst 0, 1) := by decide +kernel
theorem dd_P_accumulator_16 : decode cd_P_accumulator 16 = .ok (.lreturn, 1) := by decide +kernel
theorem dd_P_accumulator_17 : decode cd_P_accumulator 17 = .ok (.aload_n 0, 1) := by decide +kernel
theorem dd_P_accumulator_18 : decode cd_P_accumulator 18 = .ok (.getfield 32, 3) := by decide +kernel
theorem dd_P_accumulator_21 : decode cd_P_accumulator 21 = .ok (.iload_n 1, 1) := by decide +kernel
theorem dd_P_accumulator_22 : decode cd_P_accumulator 22 = .ok (.aaload, 1) := by decide +kernel
theorem dd_P_accumulator_23 : decode cd_P_accumulator 23 = .ok (.getfield 113, 3) := by decide +kernel
theorem dd_P_accumulator_26 : decode cd_P_accumulator 26 = .ok (.iload_n 2, 1) := by decide +kernel
theorem dd_P_accumulator_27 : decode cd_P_accumulator 27 = .ok (.invokestatic 116, 3) := by decide +kernel
theorem dd_P_accumulator_30 : decode cd_P_accumulator 30 = .ok (.lreturn, 1) := by decide +kernel
theorem dd_P_note_0 : decode cd_P_note 0 = .ok (.aload_n 0, 1) := by decide +kernel
theorem dd_P_note_1 : decode cd_P_note 1 = .ok (.getfield 54, 3) := by decide +kernel
theorem dd_P_note_4 : decode cd_P_note 4 = .ok (.ifCond .ne 5, 3) := by decide +kernel
theorem dd_P_note_7 : decode cd_P_note 7 = .ok (.iconst (-1), 1) := by decide +kernel
theorem dd_P_note_8 : decode cd_P_note 8 = .ok (.ireturn, 1) := by decide +kernel
theorem dd_P_note_9 : decode cd_P_note 9 = .ok (.aload_n 0, 1) := by decide +kernel
theorem dd_P_note_10 : decode cd_P_note 10 = .ok (.iload_n 1, 1) := by decide +kernel
theorem dd_P_note_11 : decode cd_P_note 11 = .ok (.invokevirtual 110, 3) := by decide +kernel
theorem dd_P_note_14 : decode cd_P_note 14 = .ok (.ifCond .eq 7, 3) := by decide +kernel
theorem dd_P_note_17 : decode cd_P_note 17 = .ok (.iload_n 1, 1) := by decide +kernel
theorem dd_P_note_18 : decode cd_P_note 18 = .ok (.ifCond .ne 6, 3) := by decide +kernel
theorem dd_P_note_21 : decode cd_P_note 21 = .ok (.bipush (-2), 2) := by decide +kernel
theorem dd_P_note_23 : decode cd_P_note 23 = .ok (.ireturn, 1) := by decide +kernel
theorem dd_P_note_24 : decode cd_P_note 24 = .ok (.aload_n 0, 1) := by decide +kernel
theorem dd_P_note_25 : decode cd_P_note 25 = .ok (.getfield 32, 3) := by decide +kernel
theorem dd_P_note_28 : decode cd_P_note 28 = .ok (.iload_n 1, 1) := by decide +kernel
theorem dd_P_note_29 : decode cd_P_note 29 = .ok (.iconst 1, 1) := by decide +kernel
theorem dd_P_note_30 : decode cd_P_note 30 = .ok (.isub, 1) := by decide +kernel
theorem dd_P_note_31 : decode cd_P_note 31 = .ok (.aaload, 1) := by decide +kernel
theorem dd_P_note_32 : decode cd_P_note 32 = .ok (.getfield 103, 3) := by decide +kernel
theorem dd_P_note_35 : decode cd_P_note 35 = .ok (.astore 4, 2) := by decide +kernel
theorem dd_P_note_37 : decode cd_P_note 37 = .ok (.aload_n 0, 1) := by decide +kernel
theorem dd_P_note_38 : decode cd_P_note 38 = .ok (.getfield 32, 3) := by decide +kernel
theorem dd_P_note_41 : decode cd_P_note 41 = .ok (.iload_n 1, 1) := by decide +kernel
theorem dd_P_note_42 : decode cd_P_note 42 = .ok (.aaload, 1) := by decide +kernel
theorem dd_P_note_43 : decode cd_P_note 43 = .ok (.getfield 103, 3) := by decide +kernel
theorem dd_P_note_46 : decode cd_P_note 46 = .ok (.astore 5, 2) := by decide +kernel
theorem dd_P_note_48 : decode cd_P_note 48 = .ok (.iload_n 2, 1) := by decide +kernel
theorem dd_P_note_49 : decode cd_P_note 49 = .ok (.tableswitch 65 0 3 #[31, 39, 47, 56], 31) := by decide +kernel
theorem dd_P_note_80 : decode cd_P_note 80 = .ok (.aload 5, 2) := by decide +kernel
theorem dd_P_note_82 : decode cd_P_note 82 = .ok (.aload 4, 2) := by decide +kernel
theorem dd_P_note_84 : decode cd_P_note 84 = .ok (.invokevirtual 120, 3) := by decide +kernel
theorem dd_P_note_87 : decode cd_P_note 87 = .ok (.ireturn, 1) := by decide +kernel
theorem dd_P_note_88 : decode cd_P_note 88 = .ok (.aload 4, 2) := by decide +kernel
theorem dd_P_note_90 : decode cd_P_note 90 = .ok (.aload 5, 2) := by decide +kernel
theorem dd_P_note_92 : decode cd_P_note 92 = .ok (.invokevirtual 120, 3) := by decide +kernel
theorem dd_P_note_95 : decode cd_P_note 95 = .ok (.ireturn, 1) := by decide +kernel
theorem dd_P_note_96 : decode cd_P_note 96 = .ok (.aload 5, 2) := by decide +kernel
theorem dd_P_note_98 : decode cd_P_note 98 = .ok (.aload 4, 2) := by decide +kernel
theorem dd_P_note_100 : decode cd_P_note 100 = .ok (.iload_n 3, 1) := by decide +kernel
theorem dd_P_note_101 : decode cd_P_note 101 = .ok (.invokevirtual 124, 3) := by decide +kernel
theorem dd_P_note_104 : decode cd_P_note 104 = .ok (.ireturn, 1) := by decide +kernel
theorem dd_P_note_105 : decode cd_P_note 105 = .ok (.aload 4, 2) := by decide +kernel
theorem dd_P_note_107 : decode cd_P_note 107 = .ok (.aload 5, 2) := by decide +kernel
theorem dd_P_note_109 : decode cd_P_note 109 = .ok (.iload_n 3, 1) := by decide +kernel
theorem dd_P_note_110 : decode cd_P_note 110 = .ok (.invokevirtual 124, 3) := by decide +kernel
theorem dd_P_note_113 : decode cd_P_note 113 = .ok (.ireturn, 1) := by decide +kernel
theorem dd_P_note_114 : decode cd_P_note 114 = .ok (.bipush (-2), 2) := by decide +kernel
theorem dd_P_note_116 : decode cd_P_note 116 = .ok (.ireturn, 1) := by decide +kernel
theorem dd_P_witness_0 : decode cd_P_witness 0 = .ok (.aload_n 0, 1) := by decide +kernel
theorem dd_P_witness_1 : decode cd_P_witness 1 = .ok (.getfield 54, 3) := by decide +kernel
theorem dd_P_witness_4 : decode cd_P_witness 4 = .ok (.ifCond .eq 22, 3) := by decide +kernel
theorem dd_P_witness_7 : decode cd_P_witness 7 = .ok (.aload_n 0, 1) := by decide +kernel
theorem dd_P_witness_8 : decode cd_P_witness 8 = .ok (.getfield 32, 3) := by decide +kernel
theorem dd_P_witness_11 : decode cd_P_witness 11 = .ok (.aload_n 0, 1) := by decide +kernel
theorem dd_P_witness_12 : decode cd_P_witness 12 = .ok (.getfield 100, 3) := by decide +kernel
theorem dd_P_witness_15 : decode cd_P_witness 15 = .ok (.aaload, 1) := by decide +kernel
theorem dd_P_witness_16 : decode cd_P_witness 16 = .ok (.getfield 103, 3) := by decide +kernel
theorem dd_P_witness_19 : decode cd_P_witness 19 = .ok (.lload_n 1, 1) := by decide +kernel
theorem dd_P_witness_20 : decode cd_P_witness 20 = .ok (.invokevirtual 77, 3) := by decide +kernel
theorem dd_P_witness_23 : decode cd_P_witness 23 = .ok (.ifCond .ne 5, 3) := by decide +kernel
theorem dd_P_witness_26 : decode cd_P_witness 26 = .ok (.lconst 0, 1) := by decide +kernel
theorem dd_P_witness_27 : decode cd_P_witness 27 = .ok (.lreturn, 1) := by decide +kernel
theorem dd_P_witness_28 : decode cd_P_witness 28 = .ok (.aload_n 0, 1) := by decide +kernel
theorem dd_P_witness_29 : decode cd_P_witness 29 = .ok (.lload_n 1, 1) := by decide +kernel
theorem dd_P_witness_30 : decode cd_P_witness 30 = .ok (.aload_n 0, 1) := by decide +kernel
theorem dd_P_witness_31 : decode cd_P_witness 31 = .ok (.getfield 41, 3) := by decide +kernel
theorem dd_P_witness_34 : decode cd_P_witness 34 = .ok (.invokevirtual 128, 3) := by decide +kernel
theorem dd_P_witness_37 : decode cd_P_witness 37 = .ok (.aload_n 0, 1) := by decide +kernel
theorem dd_P_witness_38 : decode cd_P_witness 38 = .ok (.getfield 41, 3) := by decide +kernel
theorem dd_P_witness_41 : decode cd_P_witness 41 = .ok (.iload_n 3, 1) := by decide +kernel
theorem dd_P_witness_42 : decode cd_P_witness 42 = .ok (.invokestatic 116, 3) := by decide +kernel
theorem dd_P_witness_45 : decode cd_P_witness 45 = .ok (.lreturn, 1) := by decide +kernel
theorem dd_P_issue_0 : decode cd_P_issue 0 = .ok (.aload_n 0, 1) := by decide +kernel
theorem dd_P_issue_1 : decode cd_P_issue 1 = .ok (.lload_n 1, 1) := by decide +kernel
theorem dd_P_issue_2 : decode cd_P_issue 2 = .ok (.invokevirtual 74, 3) := by decide +kernel
theorem dd_P_issue_5 : decode cd_P_issue 5 = .ok (.istore_n 3, 1) := by decide +kernel
theorem dd_P_issue_6 : decode cd_P_issue 6 = .ok (.iload_n 3, 1) := by decide +kernel
theorem dd_P_issue_7 : decode cd_P_issue 7 = .ok (.ifCond .ge 5, 3) := by decide +kernel
theorem dd_P_issue_10 : decode cd_P_issue 10 = .ok (.iload_n 3, 1) := by decide +kernel
theorem dd_P_issue_11 : decode cd_P_issue 11 = .ok (.ireturn, 1) := by decide +kernel
theorem dd_P_issue_12 : decode cd_P_issue 12 = .ok (.aload_n 0, 1) := by decide +kernel
theorem dd_P_issue_13 : decode cd_P_issue 13 = .ok (.getfield 32, 3) := by decide +kernel
theorem dd_P_issue_16 : decode cd_P_issue 16 = .ok (.aload_n 0, 1) := by decide +kernel
theorem dd_P_issue_17 : decode cd_P_issue 17 = .ok (.getfield 100, 3) := by decide +kernel
theorem dd_P_issue_20 : decode cd_P_issue 20 = .ok (.aaload, 1) := by decide +kernel
theorem dd_P_issue_21 : decode cd_P_issue 21 = .ok (.getfield 103, 3) := by decide +kernel
theorem dd_P_issue_24 : decode cd_P_issue 24 = .ok (.lload_n 1, 1) := by decide +kernel
theorem dd_P_issue_25 : decode cd_P_issue 25 = .ok (.invokevirtual 77, 3) := by decide +kernel
theorem dd_P_issue_28 : decode cd_P_issue 28 = .ok (.ifCond .ne 6, 3) := by decide +kernel
theorem dd_P_issue_31 : decode cd_P_issue 31 = .ok (.bipush (-4), 2) := by decide +kernel
theorem dd_P_issue_33 : decode cd_P_issue 33 = .ok (.ireturn, 1) := by decide +kernel
theorem dd_P_issue_34 : decode cd_P_issue 34 = .ok (.aload_n 0, 1) := by decide +kernel
theorem dd_P_issue_35 : decode cd_P_issue 35 = .ok (.lload_n 1, 1) := by decide +kernel
theorem dd_P_issue_36 : decode cd_P_issue 36 = .ok (.aload_n 0, 1) := by decide +kernel
theorem dd_P_issue_37 : decode cd_P_issue 37 = .ok (.getfield 37, 3) := by decide +kernel
theorem dd_P_issue_40 : decode cd_P_issue 40 = .ok (.invokevirtual 128, 3) := by decide +kernel
theorem dd_P_issue_43 : decode cd_P_issue 43 = .ok (.aload_n 0, 1) := by decide +kernel
theorem dd_P_issue_44 : decode cd_P_issue 44 = .ok (.iconst 0, 1) := by decide +kernel
theorem dd_P_issue_45 : decode cd_P_issue 45 = .ok (.putfield 132, 3) := by decide +kernel
theorem dd_P_issue_48 : decode cd_P_issue 48 = .ok (.aload_n 0, 1) := by decide +kernel
theorem dd_P_issue_49 : decode cd_P_issue 49 = .ok (.getfield 32, 3) := by decide +kernel
theorem dd_P_issue_52 : decode cd_P_issue 52 = .ok (.aload_n 0, 1) := by decide +kernel
theorem dd_P_issue_53 : decode cd_P_issue 53 = .ok (.getfield 100, 3) := by decide +kernel
theorem dd_P_issue_56 : decode cd_P_issue 56 = .ok (.aaload, 1) := by decide +kernel
theorem dd_P_issue_57 : decode cd_P_issue 57 = .ok (.getfield 103, 3) := by decide +kernel
theorem dd_P_issue_60 : decode cd_P_issue 60 = .ok (.getfield 85, 3) := by decide +kernel
theorem dd_P_issue_63 : decode cd_P_issue 63 = .ok (.iconst 1, 1) := by decide +kernel
theorem dd_P_issue_64 : decode cd_P_issue 64 = .ok (.isub, 1) := by decide +kernel
theorem dd_P_issue_65 : decode cd_P_issue 65 = .ok (.ireturn, 1) := by decide +kernel
theorem dd_P_hold_0 : decode cd_P_hold 0 = .ok (.aload_n 0, 1) := by decide +kernel
theorem dd_P_hold_1 : decode cd_P_hold 1 = .ok (.getfield 54, 3) := by decide +kernel
theorem dd_P_hold_4 : decode cd_P_hold 4 = .ok (.ifCond .eq 20, 3) := by decide +kernel
theorem dd_P_hold_7 : decode cd_P_hold 7 = .ok (.iload 5, 2) := by decide +kernel
theorem dd_P_hold_9 : decode cd_P_hold 9 = .ok (.ifCond .lt 15, 3) := by decide +kernel
theorem dd_P_hold_12 : decode cd_P_hold 12 = .ok (.aload_n 0, 1) := by decide +kernel
theorem dd_P_hold_13 : decode cd_P_hold 13 = .ok (.getfield 19, 3) := by decide +kernel
theorem dd_P_hold_16 : decode cd_P_hold 16 = .ok (.lload_n 1, 1) := by decide +kernel
theorem dd_P_hold_17 : decode cd_P_hold 17 = .ok (.lload_n 3, 1) := by decide +kernel
theorem dd_P_hold_18 : decode cd_P_hold 18 = .ok (.invokevirtual 135, 3) := by decide +kernel
theorem dd_P_hold_21 : decode cd_P_hold 21 = .ok (.ifCond .ne 5, 3) := by decide +kernel
theorem dd_P_hold_24 : decode cd_P_hold 24 = .ok (.iconst 0, 1) := by decide +kernel
theorem dd_P_hold_25 : decode cd_P_hold 25 = .ok (.ireturn, 1) := by decide +kernel
theorem dd_P_hold_26 : decode cd_P_hold 26 = .ok (.lload_n 1, 1) := by decide +kernel
theorem dd_P_hold_27 : decode cd_P_hold 27 = .ok (.lload_n 3, 1) := by decide +kernel
theorem dd_P_hold_28 : decode cd_P_hold 28 = .ok (.aload_n 0, 1) := by decide +kernel
theorem dd_P_hold_29 : decode cd_P_hold 29 = .ok (.getfield 37, 3) := by decide +kernel
theorem dd_P_hold_32 : decode cd_P_hold 32 = .ok (.invokestatic 138, 3) := by decide +kernel
theorem dd_P_hold_35 : decode cd_P_hold 35 = .ok (.aload_n 0, 1) := by decide +kernel
theorem dd_P_hold_36 : decode cd_P_hold 36 = .ok (.iload 5, 2) := by decide +kernel
theorem dd_P_hold_38 : decode cd_P_hold 38 = .ok (.putfield 132, 3) := by decide +kernel
theorem dd_P_hold_41 : decode cd_P_hold 41 = .ok (.iconst 1, 1) := by decide +kernel
theorem dd_P_hold_42 : decode cd_P_hold 42 = .ok (.ireturn, 1) := by decide +kernel
theorem dd_P_hand_0 : decode cd_P_hand 0 = .ok (.aload_n 0, 1) := by decide +kernel
theorem dd_P_hand_1 : decode cd_P_hand 1 = .ok (.getfield 54, 3) := by decide +kernel
theorem dd_P_hand_4 : decode cd_P_hand 4 = .ok (.ifCond .eq 14, 3) := by decide +kernel
theorem dd_P_hand_7 : decode cd_P_hand 7 = .ok (.aload_n 0, 1) := by decide +kernel
theorem dd_P_hand_8 : decode cd_P_hand 8 = .ok (.getfield 37, 3) := by decide +kernel
theorem dd_P_hand_11 : decode cd_P_hand 11 = .ok (.iload_n 1, 1) := by decide +kernel
theorem dd_P_hand_12 : decode cd_P_hand 12 = .ok (.invokestatic 116, 3) := by decide +kernel
theorem dd_P_hand_15 : decode cd_P_hand 15 = .ok (.goto 4, 3) := by decide +kernel
theorem dd_P_hand_18 : decode cd_P_hand 18 = .ok (.lconst 0, 1) := by decide +kernel
theorem dd_P_hand_19 : decode cd_P_hand 19 = .ok (.lreturn, 1) := by decide +kernel
theorem dd_P_factor_0 : decode cd_P_factor 0 = .ok (.aload_n 0, 1) := by decide +kernel
theorem dd_P_factor_1 : decode cd_P_factor 1 = .ok (.getfield 54, 3) := by decide +kernel
theorem dd_P_factor_4 : decode cd_P_factor 4 = .ok (.ifCond .eq 10, 3) := by decide +kernel
theorem dd_P_factor_7 : decode cd_P_factor 7 = .ok (.aload_n 0, 1) := by decide +kernel
theorem dd_P_factor_8 : decode cd_P_factor 8 = .ok (.getfield 132, 3) := by decide +kernel
theorem dd_P_factor_11 : decode cd_P_factor 11 = .ok (.goto 4, 3) := by decide +kernel
theorem dd_P_factor_14 : decode cd_P_factor 14 = .ok (.iconst (-1), 1) := by decide +kernel
theorem dd_P_factor_15 : decode cd_P_factor 15 = .ok (.ireturn, 1) := by decide +kernel
theorem dd_P_check_0 : decode cd_P_check 0 = .ok (.aload_n 0, 1) := by decide +kernel
theorem dd_P_check_1 : decode cd_P_check 1 = .ok (.lload_n 1, 1) := by decide +kernel
theorem dd_P_check_2 : decode cd_P_check 2 = .ok (.iload_n 3, 1) := by decide +kernel
theorem dd_P_check_3 : decode cd_P_check 3 = .ok (.invokevirtual 142, 3) := by decide +kernel
theorem dd_P_check_6 : decode cd_P_check 6 = .ok (.istore 4, 2) := by decide +kernel
theorem dd_P_check_8 : decode cd_P_check 8 = .ok (.iload 4, 2) := by decide +kernel
theorem dd_P_check_10 : decode cd_P_check 10 = .ok (.ifCond .ge 6, 3) := by decide +kernel
theorem dd_P_check_13 : decode cd_P_check 13 = .ok (.iload 4, 2) := by decide +kernel
theorem dd_P_check_15 : decode cd_P_check 15 = .ok (.ireturn, 1) := by decide +kernel
theorem dd_P_check_16 : decode cd_P_check 16 = .ok (.aload_n 0, 1) := by decide +kernel
theorem dd_P_check_17 : decode cd_P_check 17 = .ok (.iload 4, 2) := by decide +kernel
theorem dd_P_check_19 : decode cd_P_check 19 = .ok (.iload_n 3, 1) := by decide +kernel
theorem dd_P_check_20 : decode cd_P_check 20 = .ok (.invokevirtual 145, 3) := by decide +kernel
theorem dd_P_check_23 : decode cd_P_check 23 = .ok (.ifCond .eq 7, 3) := by decide +kernel
theorem dd_P_check_26 : decode cd_P_check 26 = .ok (.iconst 1, 1) := by decide +kernel
theorem dd_P_check_27 : decode cd_P_check 27 = .ok (.goto 4, 3) := by decide +kernel
theorem dd_P_check_30 : decode cd_P_check 30 = .ok (.iconst 0, 1) := by decide +kernel
theorem dd_P_check_31 : decode cd_P_check 31 = .ok (.ireturn, 1) := by decide +kernel
theorem dd_P_advance_0 : decode cd_P_advance 0 = .ok (.aload_n 0, 1) := by decide +kernel
theorem dd_P_advance_1 : decode cd_P_advance 1 = .ok (.lload_n 1, 1) := by decide +kernel
theorem dd_P_advance_2 : decode cd_P_advance 2 = .ok (.iload_n 3, 1) := by decide +kernel
theorem dd_P_advance_3 : decode cd_P_advance 3 = .ok (.invokevirtual 142, 3) := by decide +kernel
theorem dd_P_advance_6 : decode cd_P_advance 6 = .ok (.istore 4, 2) := by decide +kernel
theorem dd_P_advance_8 : decode cd_P_advance 8 = .ok (.iload 4, 2) := by decide +kernel
theorem dd_P_advance_10 : decode cd_P_advance 10 = .ok (.ifCond .ge 6, 3) := by decide +kernel
theorem dd_P_advance_13 : decode cd_P_advance 13 = .ok (.iload 4, 2) := by decide +kernel
theorem dd_P_advance_15 : decode cd_P_advance 15 = .ok (.ireturn, 1) := by decide +kernel
theorem dd_P_advance_16 : decode cd_P_advance 16 = .ok (.aload_n 0, 1) := by decide +kernel
theorem dd_P_advance_17 : decode cd_P_advance 17 = .ok (.lload_n 1, 1) := by decide +kernel
theorem dd_P_advance_18 : decode cd_P_advance 18 = .ok (.iload_n 3, 1) := by decide +kernel
theorem dd_P_advance_19 : decode cd_P_advance 19 = .ok (.invokevirtual 149, 3) := by decide +kernel
theorem dd_P_advance_22 : decode cd_P_advance 22 = .ok (.ifCond .ne 6, 3) := by decide +kernel
theorem dd_P_advance_25 : decode cd_P_advance 25 = .ok (.bipush (-4), 2) := by decide +kernel
theorem dd_P_advance_27 : decode cd_P_advance 27 = .ok (.ireturn, 1) := by decide +kernel
theorem dd_P_advance_28 : decode cd_P_advance 28 = .ok (.aload_n 0, 1) := by decide +kernel
theorem dd_P_advance_29 : decode cd_P_advance 29 = .ok (.iload 4, 2) := by decide +kernel
theorem dd_P_advance_31 : decode cd_P_advance 31 = .ok (.iload_n 3, 1) := by decide +kernel
theorem dd_P_advance_32 : decode cd_P_advance 32 = .ok (.invokevirtual 145, 3) := by decide +kernel
theorem dd_P_advance_35 : decode cd_P_advance 35 = .ok (.ifCond .ne 6, 3) := by decide +kernel
theorem dd_P_advance_38 : decode cd_P_advance 38 = .ok (.bipush (-7), 2) := by decide +kernel
theorem dd_P_advance_40 : decode cd_P_advance 40 = .ok (.ireturn, 1) := by decide +kernel
theorem dd_P_advance_41 : decode cd_P_advance 41 = .ok (.iload_n 3, 1) := by decide +kernel
theorem dd_P_advance_42 : decode cd_P_advance 42 = .ok (.iconst 1, 1) := by decide +kernel
theorem dd_P_advance_43 : decode cd_P_advance 43 = .ok (.iadd, 1) := by decide +kernel
theorem dd_P_advance_44 : decode cd_P_advance 44 = .ok (.istore 5, 2) := by decide +kernel
theorem dd_P_advance_46 : decode cd_P_advance 46 = .ok (.iload 5, 2) := by decide +kernel
theorem dd_P_advance_48 : decode cd_P_advance 48 = .ok (.aload_n 0, 1) := by decide +kernel
theorem dd_P_advance_49 : decode cd_P_advance 49 = .ok (.getfield 100, 3) := by decide +kernel
theorem dd_P_advance_52 : decode cd_P_advance 52 = .ok (.if_icmp .gt 23, 3) := by decide +kernel
theorem dd_P_advance_55 : decode cd_P_advance 55 = .ok (.aload_n 0, 1) := by decide +kernel
theorem dd_P_advance_56 : decode cd_P_advance 56 = .ok (.iload 5, 2) := by decide +kernel
theorem dd_P_advance_58 : decode cd_P_advance 58 = .ok (.invokevirtual 153, 3) := by decide +kernel
theorem dd_P_advance_61 : decode cd_P_advance 61 = .ok (.aload_n 0, 1) := by decide +kernel
theorem dd_P_advance_62 : decode cd_P_advance 62 = .ok (.iload 5, 2) := by decide +kernel
theorem dd_P_advance_64 : decode cd_P_advance 64 = .ok (.iload 4, 2) := by decide +kernel
theorem dd_P_advance_66 : decode cd_P_advance 66 = .ok (.invokevirtual 156, 3) := by decide +kernel
theorem dd_P_advance_69 : decode cd_P_advance 69 = .ok (.iinc 5 1, 3) := by decide +kernel
theorem dd_P_advance_72 : decode cd_P_advance 72 = .ok (.goto (-26), 3) := by decide +kernel
theorem dd_P_advance_75 : decode cd_P_advance 75 = .ok (.aload_n 0, 1) := by decide +kernel
theorem dd_P_advance_76 : decode cd_P_advance 76 = .ok (.getfield 100, 3) := by decide +kernel
theorem dd_P_advance_79 : decode cd_P_advance 79 = .ok (.iload_n 3, 1) := by decide +kernel
theorem dd_P_advance_80 : decode cd_P_advance 80 = .ok (.isub, 1) := by decide +kernel
theorem dd_P_advance_81 : decode cd_P_advance 81 = .ok (.ireturn, 1) := by decide +kernel
theorem dd_P_exclude_0 : decode cd_P_exclude 0 = .ok (.aload_n 0, 1) := by decide +kernel
theorem dd_P_exclude_1 : decode cd_P_exclude 1 = .ok (.lload_n 1, 1) := by decide +kernel
theorem dd_P_exclude_2 : decode cd_P_exclude 2 = .ok (.invokevirtual 74, 3) := by decide +kernel
theorem dd_P_exclude_5 : decode cd_P_exclude 5 = .ok (.istore_n 3, 1) := by decide +kernel
theorem dd_P_exclude_6 : decode cd_P_exclude 6 = .ok (.iload_n 3, 1) := by decide +kernel
theorem dd_P_exclude_7 : decode cd_P_exclude 7 = .ok (.ifCond .ge 5, 3) := by decide +kernel
theorem dd_P_exclude_10 : decode cd_P_exclude 10 = .ok (.iload_n 3, 1) := by decide +kernel
theorem dd_P_exclude_11 : decode cd_P_exclude 11 = .ok (.ireturn, 1) := by decide +kernel
theorem dd_P_exclude_12 : decode cd_P_exclude 12 = .ok (.aload_n 0, 1) := by decide +kernel
theorem dd_P_exclude_13 : decode cd_P_exclude 13 = .ok (.getfield 32, 3) := by decide +kernel
theorem dd_P_exclude_16 : decode cd_P_exclude 16 = .ok (.aload_n 0, 1) := by decide +kernel
theorem dd_P_exclude_17 : decode cd_P_exclude 17 = .ok (.getfield 100, 3) := by decide +kernel
theorem dd_P_exclude_20 : decode cd_P_exclude 20 = .ok (.aaload, 1) := by decide +kernel
theorem dd_P_exclude_21 : decode cd_P_exclude 21 = .ok (.getfield 103, 3) := by decide +kernel
theorem dd_P_exclude_24 : decode cd_P_exclude 24 = .ok (.astore 4, 2) := by decide +kernel
theorem dd_P_exclude_26 : decode cd_P_exclude 26 = .ok (.aload 4, 2) := by decide +kernel
theorem dd_P_exclude_28 : decode cd_P_exclude 28 = .ok (.lload_n 1, 1) := by decide +kernel
theorem dd_P_exclude_29 : decode cd_P_exclude 29 = .ok (.invokevirtual 77, 3) := by decide +kernel
theorem dd_P_exclude_32 : decode cd_P_exclude 32 = .ok (.ifCond .eq 6, 3) := by decide +kernel
theorem dd_P_exclude_35 : decode cd_P_exclude 35 = .ok (.bipush (-3), 2) := by decide +kernel
theorem dd_P_exclude_37 : decode cd_P_exclude 37 = .ok (.ireturn, 1) := by decide +kernel
theorem dd_P_exclude_38 : decode cd_P_exclude 38 = .ok (.aload 4, 2) := by decide +kernel
theorem dd_P_exclude_40 : decode cd_P_exclude 40 = .ok (.iload_n 3, 1) := by decide +kernel
theorem dd_P_exclude_41 : decode cd_P_exclude 41 = .ok (.invokevirtual 81, 3) := by decide +kernel
theorem dd_P_exclude_44 : decode cd_P_exclude 44 = .ok (.ifCond .eq 6, 3) := by decide +kernel
theorem dd_P_exclude_47 : decode cd_P_exclude 47 = .ok (.bipush (-5), 2) := by decide +kernel
theorem dd_P_exclude_49 : decode cd_P_exclude 49 = .ok (.ireturn, 1) := by decide +kernel
theorem dd_P_exclude_50 : decode cd_P_exclude 50 = .ok (.aload_n 0, 1) := by decide +kernel
theorem dd_P_exclude_51 : decode cd_P_exclude 51 = .ok (.getfield 50, 3) := by decide +kernel
theorem dd_P_exclude_54 : decode cd_P_exclude 54 = .ok (.iconst 1, 1) := by decide +kernel
theorem dd_P_exclude_55 : decode cd_P_exclude 55 = .ok (.invokevirtual 160, 3) := by decide +kernel
theorem dd_P_exclude_58 : decode cd_P_exclude 58 = .ok (.aload 4, 2) := by decide +kernel
theorem dd_P_exclude_60 : decode cd_P_exclude 60 = .ok (.aload_n 0, 1) := by decide +kernel
theorem dd_P_exclude_61 : decode cd_P_exclude 61 = .ok (.getfield 50, 3) := by decide +kernel
theorem dd_P_exclude_64 : decode cd_P_exclude 64 = .ok (.invokevirtual 162, 3) := by decide +kernel
theorem dd_P_exclude_67 : decode cd_P_exclude 67 = .ok (.aload_n 0, 1) := by decide +kernel
theorem dd_P_exclude_68 : decode cd_P_exclude 68 = .ok (.aload_n 0, 1) := by decide +kernel
theorem dd_P_exclude_69 : decode cd_P_exclude 69 = .ok (.iload_n 3, 1) := by decide +kernel
theorem dd_P_exclude_70 : decode cd_P_exclude 70 = .ok (.invokevirtual 166, 3) := by decide +kernel
theorem dd_P_exclude_73 : decode cd_P_exclude 73 = .ok (.putfield 132, 3) := by decide +kernel
theorem dd_P_exclude_76 : decode cd_P_exclude 76 = .ok (.aload_n 0, 1) := by decide +kernel
theorem dd_P_exclude_77 : decode cd_P_exclude 77 = .ok (.getfield 19, 3) := by decide +kernel
theorem dd_P_exclude_80 : decode cd_P_exclude 80 = .ok (.aload_n 0, 1) := by decide +kernel
theorem dd_P_exclude_81 : decode cd_P_exclude 81 = .ok (.getfield 19, 3) := by decide +kernel
theorem dd_P_exclude_84 : decode cd_P_exclude 84 = .ok (.getfield 170, 3) := by decide +kernel
theorem dd_P_exclude_87 : decode cd_P_exclude 87 = .ok (.aload_n 0, 1) := by decide +kernel
theorem dd_P_exclude_88 : decode cd_P_exclude 88 = .ok (.getfield 50, 3) := by decide +kernel
theorem dd_P_exclude_91 : decode cd_P_exclude 91 = .ok (.aload_n 0, 1) := by decide +kernel
theorem dd_P_exclude_92 : decode cd_P_exclude 92 = .ok (.getfield 37, 3) := by decide +kernel
theorem dd_P_exclude_95 : decode cd_P_exclude 95 = .ok (.invokevirtual 173, 3) := by decide +kernel
theorem dd_P_exclude_98 : decode cd_P_exclude 98 = .ok (.aload_n 0, 1) := by decide +kernel
theorem dd_P_exclude_99 : decode cd_P_exclude 99 = .ok (.getfield 132, 3) := by decide +kernel
theorem dd_P_exclude_102 : decode cd_P_exclude 102 = .ok (.ireturn, 1) := by decide +kernel
theorem dd_P_checkExclude_0 : decode cd_P_checkExclude 0 = .ok (.aload_n 0, 1) := by decide +kernel
theorem dd_P_checkExclude_1 : decode cd_P_checkExclude 1 = .ok (.lload_n 1, 1) := by decide +kernel
theorem dd_P_checkExclude_2 : decode cd_P_checkExclude 2 = .ok (.iload_n 3, 1) := by decide +kernel
theorem dd_P_checkExclude_3 : decode cd_P_checkExclude 3 = .ok (.invokevirtual 142, 3) := by decide +kernel
theorem dd_P_checkExclude_6 : decode cd_P_checkExclude 6 = .ok (.istore 4, 2) := by decide +kernel
theorem dd_P_checkExclude_8 : decode cd_P_checkExclude 8 = .ok (.iload 4, 2) := by decide +kernel
theorem dd_P_checkExclude_10 : decode cd_P_checkExclude 10 = .ok (.ifCond .ge 6, 3) := by decide +kernel
theorem dd_P_checkExclude_13 : decode cd_P_checkExclude 13 = .ok (.iload 4, 2) := by decide +kernel
theorem dd_P_checkExclude_15 : decode cd_P_checkExclude 15 = .ok (.ireturn, 1) := by decide +kernel
theorem dd_P_checkExclude_16 : decode cd_P_checkExclude 16 = .ok (.aload_n 0, 1) := by decide +kernel
theorem dd_P_checkExclude_17 : decode cd_P_checkExclude 17 = .ok (.getfield 50, 3) := by decide +kernel
theorem dd_P_checkExclude_20 : decode cd_P_checkExclude 20 = .ok (.aload_n 0, 1) := by decide +kernel
theorem dd_P_checkExclude_21 : decode cd_P_checkExclude 21 = .ok (.getfield 132, 3) := by decide +kernel
theorem dd_P_checkExclude_24 : decode cd_P_checkExclude 24 = .ok (.invokevirtual 160, 3) := by decide +kernel
theorem dd_P_checkExclude_27 : decode cd_P_checkExclude 27 = .ok (.aload_n 0, 1) := by decide +kernel
theorem dd_P_checkExclude_28 : decode cd_P_checkExclude 28 = .ok (.getfield 19, 3) := by decide +kernel
theorem dd_P_checkExclude_31 : decode cd_P_checkExclude 31 = .ok (.aload_n 0, 1) := by decide +kernel
theorem dd_P_checkExclude_32 : decode cd_P_checkExclude 32 = .ok (.getfield 32, 3) := by decide +kernel
theorem dd_P_checkExclude_35 : decode cd_P_checkExclude 35 = .ok (.iload_n 3, 1) := by decide +kernel
theorem dd_P_checkExclude_36 : decode cd_P_checkExclude 36 = .ok (.aaload, 1) := by decide +kernel
theorem dd_P_checkExclude_37 : decode cd_P_checkExclude 37 = .ok (.getfield 113, 3) := by decide +kernel
theorem dd_P_checkExclude_40 : decode cd_P_checkExclude 40 = .ok (.aload_n 0, 1) := by decide +kernel
theorem dd_P_checkExclude_41 : decode cd_P_checkExclude 41 = .ok (.getfield 50, 3) := by decide +kernel
theorem dd_P_checkExclude_44 : decode cd_P_checkExclude 44 = .ok (.aload_n 0, 1) := by decide +kernel
theorem dd_P_checkExclude_45 : decode cd_P_checkExclude 45 = .ok (.getfield 41, 3) := by decide +kernel
theorem dd_P_checkExclude_48 : decode cd_P_checkExclude 48 = .ok (.invokevirtual 173, 3) := by decide +kernel
theorem dd_P_checkExclude_51 : decode cd_P_checkExclude 51 = .ok (.aload_n 0, 1) := by decide +kernel
theorem dd_P_checkExclude_52 : decode cd_P_checkExclude 52 = .ok (.getfield 50, 3) := by decide +kernel
theorem dd_P_checkExclude_55 : decode cd_P_checkExclude 55 = .ok (.iload 4, 2) := by decide +kernel
theorem dd_P_checkExclude_57 : decode cd_P_checkExclude 57 = .ok (.invokevirtual 160, 3) := by decide +kernel
theorem dd_P_checkExclude_60 : decode cd_P_checkExclude 60 = .ok (.aload_n 0, 1) := by decide +kernel
theorem dd_P_checkExclude_61 : decode cd_P_checkExclude 61 = .ok (.getfield 19, 3) := by decide +kernel
theorem dd_P_checkExclude_64 : decode cd_P_checkExclude 64 = .ok (.aload_n 0, 1) := by decide +kernel
theorem dd_P_checkExclude_65 : decode cd_P_checkExclude 65 = .ok (.getfield 37, 3) := by decide +kernel
theorem dd_P_checkExclude_68 : decode cd_P_checkExclude 68 = .ok (.aload_n 0, 1) := by decide +kernel
theorem dd_P_checkExclude_69 : decode cd_P_checkExclude 69 = .ok (.getfield 50, 3) := by decide +kernel
theorem dd_P_checkExclude_72 : decode cd_P_checkExclude 72 = .ok (.aload_n 0, 1) := by decide +kernel
theorem dd_P_checkExclude_73 : decode cd_P_checkExclude 73 = .ok (.getfield 44, 3) := by decide +kernel
theorem dd_P_checkExclude_76 : decode cd_P_checkExclude 76 = .ok (.invokevirtual 173, 3) := by decide +kernel
theorem dd_P_checkExclude_79 : decode cd_P_checkExclude 79 = .ok (.aload_n 0, 1) := by decide +kernel
theorem dd_P_checkExclude_80 : decode cd_P_checkExclude 80 = .ok (.getfield 19, 3) := by decide +kernel
theorem dd_P_checkExclude_83 : decode cd_P_checkExclude 83 = .ok (.aload_n 0, 1) := by decide +kernel
theorem dd_P_checkExclude_84 : decode cd_P_checkExclude 84 = .ok (.getfield 41, 3) := by decide +kernel
theorem dd_P_checkExclude_87 : decode cd_P_checkExclude 87 = .ok (.aload_n 0, 1) := by decide +kernel
theorem dd_P_checkExclude_88 : decode cd_P_checkExclude 88 = .ok (.getfield 44, 3) := by decide +kernel
theorem dd_P_checkExclude_91 : decode cd_P_checkExclude 91 = .ok (.aload_n 0, 1) := by decide +kernel
theorem dd_P_checkExclude_92 : decode cd_P_checkExclude 92 = .ok (.getfield 41, 3) := by decide +kernel
theorem dd_P_checkExclude_95 : decode cd_P_checkExclude 95 = .ok (.invokevirtual 177, 3) := by decide +kernel
theorem dd_P_checkExclude_98 : decode cd_P_checkExclude 98 = .ok (.aload_n 0, 1) := by decide +kernel
theorem dd_P_checkExclude_99 : decode cd_P_checkExclude 99 = .ok (.getfield 41, 3) := by decide +kernel
theorem dd_P_checkExclude_102 : decode cd_P_checkExclude 102 = .ok (.aload_n 0, 1) := by decide +kernel
theorem dd_P_checkExclude_103 : decode cd_P_checkExclude 103 = .ok (.getfield 19, 3) := by decide +kernel
theorem dd_P_checkExclude_106 : decode cd_P_checkExclude 106 = .ok (.getfield 181, 3) := by decide +kernel
theorem dd_P_checkExclude_109 : decode cd_P_checkExclude 109 = .ok (.invokestatic 184, 3) := by decide +kernel
theorem dd_P_checkExclude_112 : decode cd_P_checkExclude 112 = .ok (.ifCond .eq 7, 3) := by decide +kernel
theorem dd_P_checkExclude_115 : decode cd_P_checkExclude 115 = .ok (.iconst 1, 1) := by decide +kernel
theorem dd_P_checkExclude_116 : decode cd_P_checkExclude 116 = .ok (.goto 4, 3) := by decide +kernel
theorem dd_P_checkExclude_119 : decode cd_P_checkExclude 119 = .ok (.iconst 0, 1) := by decide +kernel
theorem dd_P_checkExclude_120 : decode cd_P_checkExclude 120 = .ok (.ireturn, 1) := by decide +kernel
theorem dd_P_primeOrRefusal_J_0 : decode cd_P_primeOrRefusal_J 0 = .ok (.aload_n 0, 1) := by decide +kernel
theorem dd_P_primeOrRefusal_J_1 : decode cd_P_primeOrRefusal_J 1 = .ok (.getfield 54, 3) := by decide +kernel
theorem dd_P_primeOrRefusal_J_4 : decode cd_P_primeOrRefusal_J 4 = .ok (.ifCond .eq 14, 3) := by decide +kernel
theorem dd_P_primeOrRefusal_J_7 : decode cd_P_primeOrRefusal_J 7 = .ok (.aload_n 0, 1) := by decide +kernel
theorem dd_P_primeOrRefusal_J_8 : decode cd_P_primeOrRefusal_J 8 = .ok (.getfield 10, 3) := by decide +kernel
theorem dd_P_primeOrRefusal_J_11 : decode cd_P_primeOrRefusal_J 11 = .ok (.lload_n 1, 1) := by decide +kernel
theorem dd_P_primeOrRefusal_J_12 : decode cd_P_primeOrRefusal_J 12 = .ok (.invokevirtual 70, 3) := by decide +kernel
theorem dd_P_primeOrRefusal_J_15 : decode cd_P_primeOrRefusal_J 15 = .ok (.goto 4, 3) := by decide +kernel
theorem dd_P_primeOrRefusal_J_18 : decode cd_P_primeOrRefusal_J 18 = .ok (.iconst (-1), 1) := by decide +kernel
theorem dd_P_primeOrRefusal_J_19 : decode cd_P_primeOrRefusal_J 19 = .ok (.ireturn, 1) := by decide +kernel
theorem dd_P_primeOrRefusal_JI_0 : decode cd_P_primeOrRefusal_JI 0 = .ok (.aload_n 0, 1) := by decide +kernel
theorem dd_P_primeOrRefusal_JI_1 : decode cd_P_primeOrRefusal_JI 1 = .ok (.getfield 54, 3) := by decide +kernel
theorem dd_P_primeOrRefusal_JI_4 : decode cd_P_primeOrRefusal_JI 4 = .ok (.ifCond .eq 16, 3) := by decide +kernel
theorem dd_P_primeOrRefusal_JI_7 : decode cd_P_primeOrRefusal_JI 7 = .ok (.aload_n 0, 1) := by decide +kernel
theorem dd_P_primeOrRefusal_JI_8 : decode cd_P_primeOrRefusal_JI 8 = .ok (.iload_n 3, 1) := by decide +kernel
theorem dd_P_primeOrRefusal_JI_9 : decode cd_P_primeOrRefusal_JI 9 = .ok (.invokevirtual 110, 3) := by decide +kernel
theorem dd_P_primeOrRefusal_JI_12 : decode cd_P_primeOrRefusal_JI 12 = .ok (.ifCond .ne 8, 3) := by decide +kernel
theorem dd_P_primeOrRefusal_JI_15 : decode cd_P_primeOrRefusal_JI 15 = .ok (.bipush (-2), 2) := by decide +kernel
theorem dd_P_primeOrRefusal_JI_17 : decode cd_P_primeOrRefusal_JI 17 = .ok (.goto 8, 3) := by decide +kernel
theorem dd_P_primeOrRefusal_JI_20 : decode cd_P_primeOrRefusal_JI 20 = .ok (.aload_n 0, 1) := by decide +kernel
theorem dd_P_primeOrRefusal_JI_21 : decode cd_P_primeOrRefusal_JI 21 = .ok (.lload_n 1, 1) := by decide +kernel
theorem dd_P_primeOrRefusal_JI_22 : decode cd_P_primeOrRefusal_JI 22 = .ok (.invokevirtual 74, 3) := by decide +kernel
theorem dd_P_primeOrRefusal_JI_25 : decode cd_P_primeOrRefusal_JI 25 = .ok (.ireturn, 1) := by decide +kernel
theorem dd_P_isEpoch_0 : decode cd_P_isEpoch 0 = .ok (.iload_n 1, 1) := by decide +kernel
theorem dd_P_isEpoch_1 : decode cd_P_isEpoch 1 = .ok (.ifCond .lt 15, 3) := by decide +kernel
theorem dd_P_isEpoch_4 : decode cd_P_isEpoch 4 = .ok (.iload_n 1, 1) := by decide +kernel
theorem dd_P_isEpoch_5 : decode cd_P_isEpoch 5 = .ok (.aload_n 0, 1) := by decide +kernel
theorem dd_P_isEpoch_6 : decode cd_P_isEpoch 6 = .ok (.getfield 100, 3) := by decide +kernel
theorem dd_P_isEpoch_9 : decode cd_P_isEpoch 9 = .ok (.if_icmp .gt 7, 3) := by decide +kernel
theorem dd_P_isEpoch_12 : decode cd_P_isEpoch 12 = .ok (.iconst 1, 1) := by decide +kernel
theorem dd_P_isEpoch_13 : decode cd_P_isEpoch 13 = .ok (.goto 4, 3) := by decide +kernel
theorem dd_P_isEpoch_16 : decode cd_P_isEpoch 16 = .ok (.iconst 0, 1) := by decide +kernel
theorem dd_P_isEpoch_17 : decode cd_P_isEpoch 17 = .ok (.ireturn, 1) := by decide +kernel
theorem dd_P_isPresentSince_0 : decode cd_P_isPresentSince 0 = .ok (.iload_n 3, 1) := by decide +kernel
theorem dd_P_isPresentSince_1 : decode cd_P_isPresentSince 1 = .ok (.istore 4, 2) := by decide +kernel
theorem dd_P_isPresentSince_3 : decode cd_P_isPresentSince 3 = .ok (.iload 4, 2) := by decide +kernel
theorem dd_P_isPresentSince_5 : decode cd_P_isPresentSince 5 = .ok (.aload_n 0, 1) := by decide +kernel
theorem dd_P_isPresentSince_6 : decode cd_P_isPresentSince 6 = .ok (.getfield 100, 3) := by decide +kernel
theorem dd_P_isPresentSince_9 : decode cd_P_isPresentSince 9 = .ok (.if_icmp .gt 28, 3) := by decide +kernel
theorem dd_P_isPresentSince_12 : decode cd_P_isPresentSince 12 = .ok (.aload_n 0, 1) := by decide +kernel
theorem dd_P_isPresentSince_13 : decode cd_P_isPresentSince 13 = .ok (.getfield 32, 3) := by decide +kernel
theorem dd_P_isPresentSince_16 : decode cd_P_isPresentSince 16 = .ok (.iload 4, 2) := by decide +kernel
theorem dd_P_isPresentSince_18 : decode cd_P_isPresentSince 18 = .ok (.aaload, 1) := by decide +kernel
theorem dd_P_isPresentSince_19 : decode cd_P_isPresentSince 19 = .ok (.getfield 103, 3) := by decide +kernel
theorem dd_P_isPresentSince_22 : decode cd_P_isPresentSince 22 = .ok (.lload_n 1, 1) := by decide +kernel
theorem dd_P_isPresentSince_23 : decode cd_P_isPresentSince 23 = .ok (.invokevirtual 77, 3) := by decide +kernel
theorem dd_P_isPresentSince_26 : decode cd_P_isPresentSince 26 = .ok (.ifCond .ne 5, 3) := by decide +kernel
theorem dd_P_isPresentSince_29 : decode cd_P_isPresentSince 29 = .ok (.iconst 0, 1) := by decide +kernel
theorem dd_P_isPresentSince_30 : decode cd_P_isPresentSince 30 = .ok (.ireturn, 1) := by decide +kernel
theorem dd_P_isPresentSince_31 : decode cd_P_isPresentSince 31 = .ok (.iinc 4 1, 3) := by decide +kernel
theorem dd_P_isPresentSince_34 : decode cd_P_isPresentSince 34 = .ok (.goto (-31), 3) := by decide +kernel
theorem dd_P_isPresentSince_37 : decode cd_P_isPresentSince 37 = .ok (.iconst 1, 1) := by decide +kernel
theorem dd_P_isPresentSince_38 : decode cd_P_isPresentSince 38 = .ok (.ireturn, 1) := by decide +kernel
theorem dd_P_holdsWitness_0 : decode cd_P_holdsWitness 0 = .ok (.aload_n 0, 1) := by decide +kernel
theorem dd_P_holdsWitness_1 : decode cd_P_holdsWitness 1 = .ok (.getfield 50, 3) := by decide +kernel
theorem dd_P_holdsWitness_4 : decode cd_P_holdsWitness 4 = .ok (.iload_n 1, 1) := by decide +kernel
theorem dd_P_holdsWitness_5 : decode cd_P_holdsWitness 5 = .ok (.invokevirtual 160, 3) := by decide +kernel
theorem dd_P_holdsWitness_8 : decode cd_P_holdsWitness 8 = .ok (.aload_n 0, 1) := by decide +kernel
theorem dd_P_holdsWitness_9 : decode cd_P_holdsWitness 9 = .ok (.getfield 19, 3) := by decide +kernel
theorem dd_P_holdsWitness_12 : decode cd_P_holdsWitness 12 = .ok (.aload_n 0, 1) := by decide +kernel
theorem dd_P_holdsWitness_13 : decode cd_P_holdsWitness 13 = .ok (.getfield 37, 3) := by decide +kernel
theorem dd_P_holdsWitness_16 : decode cd_P_holdsWitness 16 = .ok (.aload_n 0, 1) := by decide +kernel
theorem dd_P_holdsWitness_17 : decode cd_P_holdsWitness 17 = .ok (.getfield 50, 3) := by decide +kernel
theorem dd_P_holdsWitness_20 : decode cd_P_holdsWitness 20 = .ok (.aload_n 0, 1) := by decide +kernel
theorem dd_P_holdsWitness_21 : decode cd_P_holdsWitness 21 = .ok (.getfield 41, 3) := by decide +kernel
theorem dd_P_holdsWitness_24 : decode cd_P_holdsWitness 24 = .ok (.invokevirtual 173, 3) := by decide +kernel
theorem dd_P_holdsWitness_27 : decode cd_P_holdsWitness 27 = .ok (.aload_n 0, 1) := by decide +kernel
theorem dd_P_holdsWitness_28 : decode cd_P_holdsWitness 28 = .ok (.getfield 41, 3) := by decide +kernel
theorem dd_P_holdsWitness_31 : decode cd_P_holdsWitness 31 = .ok (.aload_n 0, 1) := by decide +kernel
theorem dd_P_holdsWitness_32 : decode cd_P_holdsWitness 32 = .ok (.getfield 32, 3) := by decide +kernel
theorem dd_P_holdsWitness_35 : decode cd_P_holdsWitness 35 = .ok (.iload_n 2, 1) := by decide +kernel
theorem dd_P_holdsWitness_36 : decode cd_P_holdsWitness 36 = .ok (.aaload, 1) := by decide +kernel
theorem dd_P_holdsWitness_37 : decode cd_P_holdsWitness 37 = .ok (.getfield 113, 3) := by decide +kernel
theorem dd_P_holdsWitness_40 : decode cd_P_holdsWitness 40 = .ok (.invokestatic 184, 3) := by decide +kernel
theorem dd_P_holdsWitness_43 : decode cd_P_holdsWitness 43 = .ok (.ireturn, 1) := by decide +kernel
theorem dd_P_publish_0 : decode cd_P_publish 0 = .ok (.aload_n 0, 1) := by decide +kernel
theorem dd_P_publish_1 : decode cd_P_publish 1 = .ok (.getfield 50, 3) := by decide +kernel
theorem dd_P_publish_4 : decode cd_P_publish 4 = .ok (.iconst 1, 1) := by decide +kernel
theorem dd_P_publish_5 : decode cd_P_publish 5 = .ok (.invokevirtual 160, 3) := by decide +kernel
theorem dd_P_publish_8 : decode cd_P_publish 8 = .ok (.aload_n 1, 1) := by decide +kernel
theorem dd_P_publish_9 : decode cd_P_publish 9 = .ok (.getfield 103, 3) := by decide +kernel
theorem dd_P_publish_12 : decode cd_P_publish 12 = .ok (.aload_n 0, 1) := by decide +kernel
theorem dd_P_publish_13 : decode cd_P_publish 13 = .ok (.getfield 50, 3) := by decide +kernel
theorem dd_P_publish_16 : decode cd_P_publish 16 = .ok (.invokevirtual 162, 3) := by decide +kernel
theorem dd_P_publish_19 : decode cd_P_publish 19 = .ok (.aload_n 0, 1) := by decide +kernel
theorem dd_P_publish_20 : decode cd_P_publish 20 = .ok (.getfield 19, 3) := by decide +kernel
theorem dd_P_publish_23 : decode cd_P_publish 23 = .ok (.aload_n 0, 1) := by decide +kernel
theorem dd_P_publish_24 : decode cd_P_publish 24 = .ok (.getfield 19, 3) := by decide +kernel
theorem dd_P_publish_27 : decode cd_P_publish 27 = .ok (.getfield 181, 3) := by decide +kernel
theorem dd_P_publish_30 : decode cd_P_publish 30 = .ok (.aload_n 0, 1) := by decide +kernel
theorem dd_P_publish_31 : decode cd_P_publish 31 = .ok (.getfield 50, 3) := by decide +kernel
theorem dd_P_publish_34 : decode cd_P_publish 34 = .ok (.aload_n 1, 1) := by decide +kernel
theorem dd_P_publish_35 : decode cd_P_publish 35 = .ok (.getfield 113, 3) := by decide +kernel
theorem dd_P_publish_38 : decode cd_P_publish 38 = .ok (.invokevirtual 173, 3) := by decide +kernel
theorem dd_P_publish_41 : decode cd_P_publish 41 = .ok (.aload_n 0, 1) := by decide +kernel
theorem dd_P_publish_42 : decode cd_P_publish 42 = .ok (.getfield 19, 3) := by decide +kernel
theorem dd_P_publish_45 : decode cd_P_publish 45 = .ok (.aload_n 0, 1) := by decide +kernel
theorem dd_P_publish_46 : decode cd_P_publish 46 = .ok (.getfield 19, 3) := by decide +kernel
theorem dd_P_publish_49 : decode cd_P_publish 49 = .ok (.getfield 170, 3) := by decide +kernel
theorem dd_P_publish_52 : decode cd_P_publish 52 = .ok (.aload_n 0, 1) := by decide +kernel
theorem dd_P_publish_53 : decode cd_P_publish 53 = .ok (.getfield 50, 3) := by decide +kernel
theorem dd_P_publish_56 : decode cd_P_publish 56 = .ok (.aload_n 1, 1) := by decide +kernel
theorem dd_P_publish_57 : decode cd_P_publish 57 = .ok (.getfield 188, 3) := by decide +kernel
theorem dd_P_publish_60 : decode cd_P_publish 60 = .ok (.invokevirtual 173, 3) := by decide +kernel
theorem dd_P_publish_63 : decode cd_P_publish 63 = .ok (.return_, 1) := by decide +kernel
theorem dd_P_computeIssued_0 : decode cd_P_computeIssued 0 = .ok (.aload_n 0, 1) := by decide +kernel
theorem dd_P_computeIssued_1 : decode cd_P_computeIssued 1 = .ok (.getfield 50, 3) := by decide +kernel
theorem dd_P_computeIssued_4 : decode cd_P_computeIssued 4 = .ok (.iconst 1, 1) := by decide +kernel
theorem dd_P_computeIssued_5 : decode cd_P_computeIssued 5 = .ok (.invokevirtual 160, 3) := by decide +kernel
theorem dd_P_computeIssued_8 : decode cd_P_computeIssued 8 = .ok (.aload_n 0, 1) := by decide +kernel
theorem dd_P_computeIssued_9 : decode cd_P_computeIssued 9 = .ok (.getfield 32, 3) := by decide +kernel
theorem dd_P_computeIssued_12 : decode cd_P_computeIssued 12 = .ok (.aload_n 0, 1) := by decide +kernel
theorem dd_P_computeIssued_13 : decode cd_P_computeIssued 13 = .ok (.getfield 100, 3) := by decide +kernel
theorem dd_P_computeIssued_16 : decode cd_P_computeIssued 16 = .ok (.aaload, 1) := by decide +kernel
theorem dd_P_computeIssued_17 : decode cd_P_computeIssued 17 = .ok (.getfield 103, 3) := by decide +kernel
theorem dd_P_computeIssued_20 : decode cd_P_computeIssued 20 = .ok (.lload_n 1, 1) := by decide +kernel
theorem dd_P_computeIssued_21 : decode cd_P_computeIssued 21 = .ok (.aload_n 0, 1) := by decide +kernel
theorem dd_P_computeIssued_22 : decode cd_P_computeIssued 22 = .ok (.getfield 50, 3) := by decide +kernel
theorem dd_P_computeIssued_25 : decode cd_P_computeIssued 25 = .ok (.invokevirtual 191, 3) := by decide +kernel
theorem dd_P_computeIssued_28 : decode cd_P_computeIssued 28 = .ok (.aload_n 0, 1) := by decide +kernel
theorem dd_P_computeIssued_29 : decode cd_P_computeIssued 29 = .ok (.getfield 19, 3) := by decide +kernel
theorem dd_P_computeIssued_32 : decode cd_P_computeIssued 32 = .ok (.aload_n 0, 1) := by decide +kernel
theorem dd_P_computeIssued_33 : decode cd_P_computeIssued 33 = .ok (.getfield 19, 3) := by decide +kernel
theorem dd_P_computeIssued_36 : decode cd_P_computeIssued 36 = .ok (.getfield 181, 3) := by decide +kernel
theorem dd_P_computeIssued_39 : decode cd_P_computeIssued 39 = .ok (.aload_n 0, 1) := by decide +kernel
theorem dd_P_computeIssued_40 : decode cd_P_computeIssued 40 = .ok (.getfield 50, 3) := by decide +kernel
theorem dd_P_computeIssued_43 : decode cd_P_computeIssued 43 = .ok (.aload_n 3, 1) := by decide +kernel
theorem dd_P_computeIssued_44 : decode cd_P_computeIssued 44 = .ok (.invokevirtual 173, 3) := by decide +kernel
theorem dd_P_computeIssued_47 : decode cd_P_computeIssued 47 = .ok (.return_, 1) := by decide +kernel
theorem dd_P_takeInAdded_0 : decode cd_P_takeInAdded 0 = .ok (.aload_n 0, 1) := by decide +kernel
theorem dd_P_takeInAdded_1 : decode cd_P_takeInAdded 1 = .ok (.getfield 50, 3) := by decide +kernel
theorem dd_P_takeInAdded_4 : decode cd_P_takeInAdded 4 = .ok (.iconst 1, 1) := by decide +kernel
theorem dd_P_takeInAdded_5 : decode cd_P_takeInAdded 5 = .ok (.invokevirtual 160, 3) := by decide +kernel
theorem dd_P_takeInAdded_8 : decode cd_P_takeInAdded 8 = .ok (.aload_n 0, 1) := by decide +kernel
theorem dd_P_takeInAdded_9 : decode cd_P_takeInAdded 9 = .ok (.getfield 32, 3) := by decide +kernel
theorem dd_P_takeInAdded_12 : decode cd_P_takeInAdded 12 = .ok (.iload_n 1, 1) := by decide +kernel
theorem dd_P_takeInAdded_13 : decode cd_P_takeInAdded 13 = .ok (.aaload, 1) := by decide +kernel
theorem dd_P_takeInAdded_14 : decode cd_P_takeInAdded 14 = .ok (.getfield 103, 3) := by decide +kernel
theorem dd_P_takeInAdded_17 : decode cd_P_takeInAdded 17 = .ok (.aload_n 0, 1) := by decide +kernel
theorem dd_P_takeInAdded_18 : decode cd_P_takeInAdded 18 = .ok (.getfield 32, 3) := by decide +kernel
theorem dd_P_takeInAdded_21 : decode cd_P_takeInAdded 21 = .ok (.iload_n 1, 1) := by decide +kernel
theorem dd_P_takeInAdded_22 : decode cd_P_takeInAdded 22 = .ok (.iconst 1, 1) := by decide +kernel
theorem dd_P_takeInAdded_23 : decode cd_P_takeInAdded 23 = .ok (.isub, 1) := by decide +kernel
theorem dd_P_takeInAdded_24 : decode cd_P_takeInAdded 24 = .ok (.aaload, 1) := by decide +kernel
theorem dd_P_takeInAdded_25 : decode cd_P_takeInAdded 25 = .ok (.getfield 103, 3) := by decide +kernel
theorem dd_P_takeInAdded_28 : decode cd_P_takeInAdded 28 = .ok (.aload_n 0, 1) := by decide +kernel
theorem dd_P_takeInAdded_29 : decode cd_P_takeInAdded 29 = .ok (.getfield 50, 3) := by decide +kernel
theorem dd_P_takeInAdded_32 : decode cd_P_takeInAdded 32 = .ok (.invokevirtual 195, 3) := by decide +kernel
theorem dd_P_takeInAdded_35 : decode cd_P_takeInAdded 35 = .ok (.aload_n 0, 1) := by decide +kernel
theorem dd_P_takeInAdded_36 : decode cd_P_takeInAdded 36 = .ok (.getfield 19, 3) := by decide +kernel
theorem dd_P_takeInAdded_39 : decode cd_P_takeInAdded 39 = .ok (.aload_n 0, 1) := by decide +kernel
theorem dd_P_takeInAdded_40 : decode cd_P_takeInAdded 40 = .ok (.getfield 37, 3) := by decide +kernel
theorem dd_P_takeInAdded_43 : decode cd_P_takeInAdded 43 = .ok (.aload_n 0, 1) := by decide +kernel
theorem dd_P_takeInAdded_44 : decode cd_P_takeInAdded 44 = .ok (.getfield 50, 3) := by decide +kernel
theorem dd_P_takeInAdded_47 : decode cd_P_takeInAdded 47 = .ok (.aload_n 0, 1) := by decide +kernel
theorem dd_P_takeInAdded_48 : decode cd_P_takeInAdded 48 = .ok (.getfield 37, 3) := by decide +kernel
theorem dd_P_takeInAdded_51 : decode cd_P_takeInAdded 51 = .ok (.invokevirtual 173, 3) := by decide +kernel
theorem dd_P_takeInAdded_54 : decode cd_P_takeInAdded 54 = .ok (.return_, 1) := by decide +kernel
theorem dd_P_takeOutRemoved_0 : decode cd_P_takeOutRemoved 0 = .ok (.aload_n 0, 1) := by decide +kernel
theorem dd_P_takeOutRemoved_1 : decode cd_P_takeOutRemoved 1 = .ok (.getfield 50, 3) := by decide +kernel
theorem dd_P_takeOutRemoved_4 : decode cd_P_takeOutRemoved 4 = .ok (.iconst 1, 1) := by decide +kernel
theorem dd_P_takeOutRemoved_5 : decode cd_P_takeOutRemoved 5 = .ok (.invokevirtual 160, 3) := by decide +kernel
theorem dd_P_takeOutRemoved_8 : decode cd_P_takeOutRemoved 8 = .ok (.aload_n 0, 1) := by decide +kernel
theorem dd_P_takeOutRemoved_9 : decode cd_P_takeOutRemoved 9 = .ok (.getfield 32, 3) := by decide +kernel
theorem dd_P_takeOutRemoved_12 : decode cd_P_takeOutRemoved 12 = .ok (.iload_n 1, 1) := by decide +kernel
theorem dd_P_takeOutRemoved_13 : decode cd_P_takeOutRemoved 13 = .ok (.iconst 1, 1) := by decide +kernel
theorem dd_P_takeOutRemoved_14 : decode cd_P_takeOutRemoved 14 = .ok (.isub, 1) := by decide +kernel
theorem dd_P_takeOutRemoved_15 : decode cd_P_takeOutRemoved 15 = .ok (.aaload, 1) := by decide +kernel
theorem dd_P_takeOutRemoved_16 : decode cd_P_takeOutRemoved 16 = .ok (.getfield 103, 3) := by decide +kernel
theorem dd_P_takeOutRemoved_19 : decode cd_P_takeOutRemoved 19 = .ok (.aload_n 0, 1) := by decide +kernel
theorem dd_P_takeOutRemoved_20 : decode cd_P_takeOutRemoved 20 = .ok (.getfield 32, 3) := by decide +kernel
theorem dd_P_takeOutRemoved_23 : decode cd_P_takeOutRemoved 23 = .ok (.iload_n 1, 1) := by decide +kernel
theorem dd_P_takeOutRemoved_24 : decode cd_P_takeOutRemoved 24 = .ok (.aaload, 1) := by decide +kernel
theorem dd_P_takeOutRemoved_25 : decode cd_P_takeOutRemoved 25 = .ok (.getfield 103, 3) := by decide +kernel
theorem dd_P_takeOutRemoved_28 : decode cd_P_takeOutRemoved 28 = .ok (.aload_n 0, 1) := by decide +kernel
theorem dd_P_takeOutRemoved_29 : decode cd_P_takeOutRemoved 29 = .ok (.getfield 50, 3) := by decide +kernel
theorem dd_P_takeOutRemoved_32 : decode cd_P_takeOutRemoved 32 = .ok (.invokevirtual 195, 3) := by decide +kernel
theorem dd_P_takeOutRemoved_35 : decode cd_P_takeOutRemoved 35 = .ok (.aload_n 0, 1) := by decide +kernel
theorem dd_P_takeOutRemoved_36 : decode cd_P_takeOutRemoved 36 = .ok (.iload_n 2, 1) := by decide +kernel
theorem dd_P_takeOutRemoved_37 : decode cd_P_takeOutRemoved 37 = .ok (.invokevirtual 166, 3) := by decide +kernel
theorem dd_P_takeOutRemoved_40 : decode cd_P_takeOutRemoved 40 = .ok (.istore_n 3, 1) := by decide +kernel
theorem dd_P_takeOutRemoved_41 : decode cd_P_takeOutRemoved 41 = .ok (.aload_n 0, 1) := by decide +kernel
theorem dd_P_takeOutRemoved_42 : decode cd_P_takeOutRemoved 42 = .ok (.getfield 19, 3) := by decide +kernel
theorem dd_P_takeOutRemoved_45 : decode cd_P_takeOutRemoved 45 = .ok (.aload_n 0, 1) := by decide +kernel
theorem dd_P_takeOutRemoved_46 : decode cd_P_takeOutRemoved 46 = .ok (.getfield 32, 3) := by decide +kernel
theorem dd_P_takeOutRemoved_49 : decode cd_P_takeOutRemoved 49 = .ok (.iload_n 1, 1) := by decide +kernel
theorem dd_P_takeOutRemoved_50 : decode cd_P_takeOutRemoved 50 = .ok (.aaload, 1) := by decide +kernel
theorem dd_P_takeOutRemoved_51 : decode cd_P_takeOutRemoved 51 = .ok (.getfield 188, 3) := by decide +kernel
theorem dd_P_takeOutRemoved_54 : decode cd_P_takeOutRemoved 54 = .ok (.aload_n 0, 1) := by decide +kernel
theorem dd_P_takeOutRemoved_55 : decode cd_P_takeOutRemoved 55 = .ok (.getfield 50, 3) := by decide +kernel
theorem dd_P_takeOutRemoved_58 : decode cd_P_takeOutRemoved 58 = .ok (.aload_n 0, 1) := by decide +kernel
theorem dd_P_takeOutRemoved_59 : decode cd_P_takeOutRemoved 59 = .ok (.getfield 41, 3) := by decide +kernel
theorem dd_P_takeOutRemoved_62 : decode cd_P_takeOutRemoved 62 = .ok (.invokevirtual 173, 3) := by decide +kernel
theorem dd_P_takeOutRemoved_65 : decode cd_P_takeOutRemoved 65 = .ok (.aload_n 0, 1) := by decide +kernel
theorem dd_P_takeOutRemoved_66 : decode cd_P_takeOutRemoved 66 = .ok (.getfield 50, 3) := by decide +kernel
theorem dd_P_takeOutRemoved_69 : decode cd_P_takeOutRemoved 69 = .ok (.iload_n 3, 1) := by decide +kernel
theorem dd_P_takeOutRemoved_70 : decode cd_P_takeOutRemoved 70 = .ok (.invokevirtual 160, 3) := by decide +kernel
theorem dd_P_takeOutRemoved_73 : decode cd_P_takeOutRemoved 73 = .ok (.aload_n 0, 1) := by decide +kernel
theorem dd_P_takeOutRemoved_74 : decode cd_P_takeOutRemoved 74 = .ok (.getfield 19, 3) := by decide +kernel
theorem dd_P_takeOutRemoved_77 : decode cd_P_takeOutRemoved 77 = .ok (.aload_n 0, 1) := by decide +kernel
theorem dd_P_takeOutRemoved_78 : decode cd_P_takeOutRemoved 78 = .ok (.getfield 37, 3) := by decide +kernel
theorem dd_P_takeOutRemoved_81 : decode cd_P_takeOutRemoved 81 = .ok (.aload_n 0, 1) := by decide +kernel
theorem dd_P_takeOutRemoved_82 : decode cd_P_takeOutRemoved 82 = .ok (.getfield 50, 3) := by decide +kernel
theorem dd_P_takeOutRemoved_85 : decode cd_P_takeOutRemoved 85 = .ok (.aload_n 0, 1) := by decide +kernel
theorem dd_P_takeOutRemoved_86 : decode cd_P_takeOutRemoved 86 = .ok (.getfield 37, 3) := by decide +kernel
theorem dd_P_takeOutRemoved_89 : decode cd_P_takeOutRemoved 89 = .ok (.invokevirtual 173, 3) := by decide +kernel
theorem dd_P_takeOutRemoved_92 : decode cd_P_takeOutRemoved 92 = .ok (.aload_n 0, 1) := by decide +kernel
theorem dd_P_takeOutRemoved_93 : decode cd_P_takeOutRemoved 93 = .ok (.getfield 19, 3) := by decide +kernel
theorem dd_P_takeOutRemoved_96 : decode cd_P_takeOutRemoved 96 = .ok (.aload_n 0, 1) := by decide +kernel
theorem dd_P_takeOutRemoved_97 : decode cd_P_takeOutRemoved 97 = .ok (.getfield 37, 3) := by decide +kernel
theorem dd_P_takeOutRemoved_100 : decode cd_P_takeOutRemoved 100 = .ok (.aload_n 0, 1) := by decide +kernel
theorem dd_P_takeOutRemoved_101 : decode cd_P_takeOutRemoved 101 = .ok (.getfield 41, 3) := by decide +kernel
theorem dd_P_takeOutRemoved_104 : decode cd_P_takeOutRemoved 104 = .ok (.aload_n 0, 1) := by decide +kernel
theorem dd_P_takeOutRemoved_105 : decode cd_P_takeOutRemoved 105 = .ok (.getfield 37, 3) := by decide +kernel
theorem dd_P_takeOutRemoved_108 : decode cd_P_takeOutRemoved 108 = .ok (.invokevirtual 177, 3) := by decide +kernel
theorem dd_P_takeOutRemoved_111 : decode cd_P_takeOutRemoved 111 = .ok (.return_, 1) := by decide +kernel
theorem dd_P_inverseThenQuotient_0 : decode cd_P_inverseThenQuotient 0 = .ok (.aload_n 0, 1) := by decide +kernel
theorem dd_P_inverseThenQuotient_1 : decode cd_P_inverseThenQuotient 1 = .ok (.getfield 50, 3) := by decide +kernel
theorem dd_P_inverseThenQuotient_4 : decode cd_P_inverseThenQuotient 4 = .ok (.iload_n 1, 1) := by decide +kernel
theorem dd_P_inverseThenQuotient_5 : decode cd_P_inverseThenQuotient 5 = .ok (.invokevirtual 199, 3) := by decide +kernel
theorem dd_P_inverseThenQuotient_8 : decode cd_P_inverseThenQuotient 8 = .ok (.iload_n 1, 1) := by decide +kernel
theorem dd_P_inverseThenQuotient_9 : decode cd_P_inverseThenQuotient 9 = .ok (.invokestatic 202, 3) := by decide +kernel
theorem dd_P_inverseThenQuotient_12 : decode cd_P_inverseThenQuotient 12 = .ok (.istore_n 2, 1) := by decide +kernel
theorem dd_P_inverseThenQuotient_13 : decode cd_P_inverseThenQuotient 13 = .ok (.aload_n 0, 1) := by decide +kernel
theorem dd_P_inverseThenQuotient_14 : decode cd_P_inverseThenQuotient 14 = .ok (.getfield 50, 3) := by decide +kernel
theorem dd_P_inverseThenQuotient_17 : decode cd_P_inverseThenQuotient 17 = .ok (.iload_n 2, 1) := by decide +kernel
theorem dd_P_inverseThenQuotient_18 : decode cd_P_inverseThenQuotient 18 = .ok (.invokevirtual 205, 3) := by decide +kernel
theorem dd_P_inverseThenQuotient_21 : decode cd_P_inverseThenQuotient 21 = .ok (.aload_n 0, 1) := by decide +kernel
theorem dd_P_inverseThenQuotient_22 : decode cd_P_inverseThenQuotient 22 = .ok (.getfield 50, 3) := by decide +kernel
theorem dd_P_inverseThenQuotient_25 : decode cd_P_inverseThenQuotient 25 = .ok (.iload_n 1, 1) := by decide +kernel
theorem dd_P_inverseThenQuotient_26 : decode cd_P_inverseThenQuotient 26 = .ok (.invokevirtual 207, 3) := by decide +kernel
theorem dd_P_inverseThenQuotient_29 : decode cd_P_inverseThenQuotient 29 = .ok (.iload_n 2, 1) := by decide +kernel
theorem dd_P_inverseThenQuotient_30 : decode cd_P_inverseThenQuotient 30 = .ok (.ireturn, 1) := by decide +kernel
end
section
theorem dd_M_init_0 : decode cd_M_init 0 = .ok (.aload_n 0, 1) := by decide +kernel
theorem dd_M_init_1 : decode cd_M_init 1 = .ok (.invokespecial 1, 3) := by decide +kernel
theorem dd_M_init_4 : decode cd_M_init 4 = .ok (.aload_n 0, 1) := by decide +kernel
theorem dd_M_init_5 : decode cd_M_init 5 = .ok (.bipush 32, 2) := by decide +kernel
theorem dd_M_init_7 : decode cd_M_init 7 = .ok (.newarray .long, 2) := by decide +kernel
theorem dd_M_init_9 : decode cd_M_init 9 = .ok (.dup, 1) := by decide +kernel
theorem dd_M_init_10 : decode cd_M_init 10 = .ok (.iconst 0, 1) := by decide +kernel
theorem dd_M_init_11 : decode cd_M_init 11 = .ok (.ldc2_w 7, 3) := by decide +kernel
theorem dd_M_init_14 : decode cd_M_init 14 = .ok (.lastore, 1) := by decide +kernel
theorem dd_M_init_15 : decode cd_M_init 15 = .ok (.dup, 1) := by decide +kernel
theorem dd_M_init_16 : decode cd_M_init 16 = .ok (.iconst 1, 1) := by decide +kernel
theorem dd_M_init_17 : decode cd_M_init 17 = .ok (.ldc2_w 9, 3) := by decide +kernel
theorem dd_M_init_20 : decode cd_M_init 20 = .ok (.lastore, 1) := by decide +kernel
theorem dd_M_init_21 : decode cd_M_init 21 = .ok (.dup, 1) := by decide +kernel
theorem dd_M_init_22 : decode cd_M_init 22 = .ok (.iconst 2, 1) := by decide +kernel
theorem dd_M_init_23 : decode cd_M_init 23 = .ok (.ldc2_w 11, 3) := by decide +kernel
theorem dd_M_init_26 : decode cd_M_init 26 = .ok (.lastore, 1) := by decide +kernel
theorem dd_M_init_27 : decode cd_M_init 27 = .ok (.dup, 1) := by decide +kernel
theorem dd_M_init_28 : decode cd_M_init 28 = .ok (.iconst 3, 1) := by decide +kernel
theorem dd_M_init_29 : decode cd_M_init 29 = .ok (.ldc2_w 13, 3) := by decide +kernel
theorem dd_M_init_32 : decode cd_M_init 32 = .ok (.lastore, 1) := by decide +kernel
theorem dd_M_init_33 : decode cd_M_init 33 = .ok (.dup, 1) := by decide +kernel
theorem dd_M_init_34 : decode cd_M_init 34 = .ok (.iconst 4, 1) := by decide +kernel
theorem dd_M_init_35 : decode cd_M_init 35 = .ok (.ldc2_w 15, 3) := by decide +kernel
theorem dd_M_init_38 : decode cd_M_init 38 = .ok (.lastore, 1) := by decide +kernel
theorem dd_M_init_39 : decode cd_M_init 39 = .ok (.dup, 1) := by decide +kernel
theorem dd_M_init_40 : decode cd_M_init 40 = .ok (.iconst 5, 1) := by decide +kernel
theorem dd_M_init_41 : decode cd_M_init 41 = .ok (.ldc2_w 17, 3) := by decide +kernel
theorem dd_M_init_44 : decode cd_M_init 44 = .ok (.lastore, 1) := by decide +kernel
theorem dd_M_init_45 : decode cd_M_init 45 = .ok (.dup, 1) := by decide +kernel
theorem dd_M_init_46 : decode cd_M_init 46 = .ok (.bipush 6, 2) := by decide +kernel
theorem dd_M_init_48 : decode cd_M_init 48 = .ok (.ldc2_w 19, 3) := by decide +kernel
theorem dd_M_init_51 : decode cd_M_init 51 = .ok (.lastore, 1) := by decide +kernel
theorem dd_M_init_52 : decode cd_M_init 52 = .ok (.dup, 1) := by decide +kernel
theorem dd_M_init_53 : decode cd_M_init 53 = .ok (.bipush 7, 2) := by decide +kernel
theorem dd_M_init_55 : decode cd_M_init 55 = .ok (.ldc2_w 21, 3) := by decide +kernel
theorem dd_M_init_58 : decode cd_M_init 58 = .ok (.lastore, 1) := by decide +kernel
theorem dd_M_init_59 : decode cd_M_init 59 = .ok (.dup, 1) := by decide +kernel
theorem dd_M_init_60 : decode cd_M_init 60 = .ok (.bipush 8, 2) := by decide +kernel
theorem dd_M_init_62 : decode cd_M_init 62 = .ok (.ldc2_w 23, 3) := by decide +kernel
theorem dd_M_init_65 : decode cd_M_init 65 = .ok (.lastore, 1) := by decide +kernel
theorem dd_M_init_66 : decode cd_M_init 66 = .ok (.dup, 1) := by decide +kernel
theorem dd_M_init_67 : decode cd_M_init 67 = .ok (.bipush 9, 2) := by decide +kernel
theorem dd_M_init_69 : decode cd_M_init 69 = .ok (.ldc2_w 25, 3) := by decide +kernel
theorem dd_M_init_72 : decode cd_M_init 72 = .ok (.lastore, 1) := by decide +kernel
theorem dd_M_init_73 : decode cd_M_init 73 = .ok (.dup, 1) := by decide +kernel
theorem dd_M_init_74 : decode cd_M_init 74 = .ok (.bipush 10, 2) := by decide +kernel
theorem dd_M_init_76 : decode cd_M_init 76 = .ok (.ldc2_w 27, 3) := by decide +kernel
theorem dd_M_init_79 : decode cd_M_init 79 = .ok (.lastore, 1) := by decide +kernel
theorem dd_M_init_80 : decode cd_M_init 80 = .ok (.dup, 1) := by decide +kernel
theorem dd_M_init_81 : decode cd_M_init 81 = .ok (.bipush 11, 2) := by decide +kernel
theorem dd_M_init_83 : decode cd_M_init 83 = .ok (.ldc2_w 29, 3) := by decide +kernel
theorem dd_M_init_86 : decode cd_M_init 86 = .ok (.lastore, 1) := by decide +kernel
theorem dd_M_init_87 : decode cd_M_init 87 = .ok (.dup, 1) := by decide +kernel
theorem dd_M_init_88 : decode cd_M_init 88 = .ok (.bipush 12, 2) := by decide +kernel
theorem dd_M_init_90 : decode cd_M_init 90 = .ok (.ldc2_w 31, 3) := by decide +kernel
theorem dd_M_init_93 : decode cd_M_init 93 = .ok (.lastore, 1) := by decide +kernel
theorem dd_M_init_94 : decode cd_M_init 94 = .ok (.dup, 1) := by decide +kernel
theorem dd_M_init_95 : decode cd_M_init 95 = .ok (.bipush 13, 2) := by decide +kernel
theorem dd_M_init_97 : decode cd_M_init 97 = .ok (.ldc2_w 33, 3) := by decide +kernel
theorem dd_M_init_100 : decode cd_M_init 100 = .ok (.lastore, 1) := by decide +kernel
theorem dd_M_init_101 : decode cd_M_init 101 = .ok (.dup, 1) := by decide +kernel
theorem dd_M_init_102 : decode cd_M_init 102 = .ok (.bipush 14, 2) := by decide +kernel
theorem dd_M_init_104 : decode cd_M_init 104 = .ok (.ldc2_w 35, 3) := by decide +kernel
theorem dd_M_init_107 : decode cd_M_init 107 = .ok (.lastore, 1) := by decide +kernel
theorem dd_M_init_108 : decode cd_M_init 108 = .ok (.dup, 1) := by decide +kernel
theorem dd_M_init_109 : decode cd_M_init 109 = .ok (.bipush 15, 2) := by decide +kernel
theorem dd_M_init_111 : decode cd_M_init 111 = .ok (.ldc2_w 37, 3) := by decide +kernel
theorem dd_M_init_114 : decode cd_M_init 114 = .ok (.lastore, 1) := by decide +kernel
theorem dd_M_init_115 : decode cd_M_init 115 = .ok (.dup, 1) := by decide +kernel
theorem dd_M_init_116 : decode cd_M_init 116 = .ok (.bipush 16, 2) := by decide +kernel
theorem dd_M_init_118 : decode cd_M_init 118 = .ok (.ldc2_w 39, 3) := by decide +kernel
theorem dd_M_init_121 : decode cd_M_init 121 = .ok (.lastore, 1) := by decide +kernel
theorem dd_M_init_122 : decode cd_M_init 122 = .ok (.dup, 1) := by decide +kernel
theorem dd_M_init_123 : decode cd_M_init 123 = .ok (.bipush 17, 2) := by decide +kernel
theorem dd_M_init_125 : decode cd_M_init 125 = .ok (.ldc2_w 41, 3) := by decide +kernel
theorem dd_M_init_128 : decode cd_M_init 128 = .ok (.lastore, 1) := by decide +kernel
theorem dd_M_init_129 : decode cd_M_init 129 = .ok (.dup, 1) := by decide +kernel
theorem dd_M_init_130 : decode cd_M_init 130 = .ok (.bipush 18, 2) := by decide +kernel
theorem dd_M_init_132 : decode cd_M_init 132 = .ok (.ldc2_w 43, 3) := by decide +kernel
theorem dd_M_init_135 : decode cd_M_init 135 = .ok (.lastore, 1) := by decide +kernel
theorem dd_M_init_136 : decode cd_M_init 136 = .ok (.dup, 1) := by decide +kernel
theorem dd_M_init_137 : decode cd_M_init 137 = .ok (.bipush 19, 2) := by decide +kernel
theorem dd_M_init_139 : decode cd_M_init 139 = .ok (.ldc2_w 45, 3) := by decide +kernel
theorem dd_M_init_142 : decode cd_M_init 142 = .ok (.lastore, 1) := by decide +kernel
theorem dd_M_init_143 : decode cd_M_init 143 = .ok (.dup, 1) := by decide +kernel
theorem dd_M_init_144 : decode cd_M_init 144 = .ok (.bipush 20, 2) := by decide +kernel
theorem dd_M_init_146 : decode cd_M_init 146 = .ok (.ldc2_w 47, 3) := by decide +kernel
theorem dd_M_init_149 : decode cd_M_init 149 = .ok (.lastore, 1) := by decide +kernel
theorem dd_M_init_150 : decode cd_M_init 150 = .ok (.dup, 1) := by decide +kernel
theorem dd_M_init_151 : decode cd_M_init 151 = .ok (.bipush 21, 2) := by decide +kernel
theorem dd_M_init_153 : decode cd_M_init 153 = .ok (.ldc2_w 49, 3) := by decide +kernel
theorem dd_M_init_156 : decode cd_M_init 156 = .ok (.lastore, 1) := by decide +kernel
theorem dd_M_init_157 : decode cd_M_init 157 = .ok (.dup, 1) := by decide +kernel
theorem dd_M_init_158 : decode cd_M_init 158 = .ok (.bipush 22, 2) := by decide +kernel
theorem dd_M_init_160 : decode cd_M_init 160 = .ok (.ldc2_w 51, 3) := by decide +kernel
theorem dd_M_init_163 : decode cd_M_init 163 = .ok (.lastore, 1) := by decide +kernel
theorem dd_M_init_164 : decode cd_M_init 164 = .ok (.dup, 1) := by decide +kernel
theorem dd_M_init_165 : decode cd_M_init 165 = .ok (.bipush 23, 2) := by decide +kernel
theorem dd_M_init_167 : decode cd_M_init 167 = .ok (.ldc2_w 53, 3) := by decide +kernel
theorem dd_M_init_170 : decode cd_M_init 170 = .ok (.lastore, 1) := by decide +kernel
theorem dd_M_init_171 : decode cd_M_init 171 = .ok (.dup, 1) := by decide +kernel
theorem dd_M_init_172 : decode cd_M_init 172 = .ok (.bipush 24, 2) := by decide +kernel
theorem dd_M_init_174 : decode cd_M_init 174 = .ok (.ldc2_w 55, 3) := by decide +kernel
theorem dd_M_init_177 : decode cd_M_init 177 = .ok (.lastore, 1) := by decide +kernel
theorem dd_M_init_178 : decode cd_M_init 178 = .ok (.dup, 1) := by decide +kernel
theorem dd_M_init_179 : decode cd_M_init 179 = .ok (.bipush 25, 2) := by decide +kernel
theorem dd_M_init_181 : decode cd_M_init 181 = .ok (.ldc2_w 57, 3) := by decide +kernel
theorem dd_M_init_184 : decode cd_M_init 184 = .ok (.lastore, 1) := by decide +kernel
theorem dd_M_init_185 : decode cd_M_init 185 = .ok (.dup, 1) := by decide +kernel
theorem dd_M_init_186 : decode cd_M_init 186 = .ok (.bipush 26, 2) := by decide +kernel
theorem dd_M_init_188 : decode cd_M_init 188 = .ok (.ldc2_w 59, 3) := by decide +kernel
theorem dd_M_init_191 : decode cd_M_init 191 = .ok (.lastore, 1) := by decide +kernel
theorem dd_M_init_192 : decode cd_M_init 192 = .ok (.dup, 1) := by decide +kernel
theorem dd_M_init_193 : decode cd_M_init 193 = .ok (.bipush 27, 2) := by decide +kernel
theorem dd_M_init_195 : decode cd_M_init 195 = .ok (.ldc2_w 61, 3) := by decide +kernel
theorem dd_M_init_198 : decode cd_M_init 198 = .ok (.lastore, 1) := by decide +kernel
theorem dd_M_init_199 : decode cd_M_init 199 = .ok (.dup, 1) := by decide +kernel
theorem dd_M_init_200 : decode cd_M_init 200 = .ok (.bipush 28, 2) := by decide +kernel
theorem dd_M_init_202 : decode cd_M_init 202 = .ok (.ldc2_w 63, 3) := by decide +kernel
theorem dd_M_init_205 : decode cd_M_init 205 = .ok (.lastore, 1) := by decide +kernel
theorem dd_M_init_206 : decode cd_M_init 206 = .ok (.dup, 1) := by decide +kernel
theorem dd_M_init_207 : decode cd_M_init 207 = .ok (.bipush 29, 2) := by decide +kernel
theorem dd_M_init_209 : decode cd_M_init 209 = .ok (.ldc2_w 65, 3) := by decide +kernel
theorem dd_M_init_212 : decode cd_M_init 212 = .ok (.lastore, 1) := by decide +kernel
theorem dd_M_init_213 : decode cd_M_init 213 = .ok (.dup, 1) := by decide +kernel
theorem dd_M_init_214 : decode cd_M_init 214 = .ok (.bipush 30, 2) := by decide +kernel
theorem dd_M_init_216 : decode cd_M_init 216 = .ok (.ldc2_w 67, 3) := by decide +kernel
theorem dd_M_init_219 : decode cd_M_init 219 = .ok (.lastore, 1) := by decide +kernel
theorem dd_M_init_220 : decode cd_M_init 220 = .ok (.dup, 1) := by decide +kernel
theorem dd_M_init_221 : decode cd_M_init 221 = .ok (.bipush 31, 2) := by decide +kernel
theorem dd_M_init_223 : decode cd_M_init 223 = .ok (.ldc2_w 69, 3) := by decide +kernel
theorem dd_M_init_226 : decode cd_M_init 226 = .ok (.lastore, 1) := by decide +kernel
theorem dd_M_init_227 : decode cd_M_init 227 = .ok (.putfield 71, 3) := by decide +kernel
theorem dd_M_init_230 : decode cd_M_init 230 = .ok (.aload_n 0, 1) := by decide +kernel
theorem dd_M_init_231 : decode cd_M_init 231 = .ok (.bipush 64, 2) := by decide +kernel
theorem dd_M_init_233 : decode cd_M_init 233 = .ok (.newarray .int, 2) := by decide +kernel
theorem dd_M_init_235 : decode cd_M_init 235 = .ok (.putfield 77, 3) := by decide +kernel
theorem dd_M_init_238 : decode cd_M_init 238 = .ok (.aload_n 0, 1) := by decide +kernel
theorem dd_M_init_239 : decode cd_M_init 239 = .ok (.bipush 10, 2) := by decide +kernel
theorem dd_M_init_241 : decode cd_M_init 241 = .ok (.newarray .long, 2) := by decide +kernel
theorem dd_M_init_243 : decode cd_M_init 243 = .ok (.putfield 81, 3) := by decide +kernel
theorem dd_M_init_246 : decode cd_M_init 246 = .ok (.aload_n 0, 1) := by decide +kernel
theorem dd_M_init_247 : decode cd_M_init 247 = .ok (.bipush 10, 2) := by decide +kernel
theorem dd_M_init_249 : decode cd_M_init 249 = .ok (.newarray .int, 2) := by decide +kernel
theorem dd_M_init_251 : decode cd_M_init 251 = .ok (.putfield 84, 3) := by decide +kernel
theorem dd_M_init_254 : decode cd_M_init 254 = .ok (.aload_n 0, 1) := by decide +kernel
theorem dd_M_init_255 : decode cd_M_init 255 = .ok (.bipush 17, 2) := by decide +kernel
theorem dd_M_init_257 : decode cd_M_init 257 = .ok (.newarray .int, 2) := by decide +kernel
theorem dd_M_init_259 : decode cd_M_init 259 = .ok (.putfield 87, 3) := by decide +kernel
theorem dd_M_init_262 : decode cd_M_init 262 = .ok (.aload_n 0, 1) := by decide +kernel
theorem dd_M_init_263 : decode cd_M_init 263 = .ok (.sipush 170, 3) := by decide +kernel
theorem dd_M_init_266 : decode cd_M_init 266 = .ok (.newarray .long, 2) := by decide +kernel
theorem dd_M_init_268 : decode cd_M_init 268 = .ok (.putfield 90, 3) := by decide +kernel
theorem dd_M_init_271 : decode cd_M_init 271 = .ok (.aload_n 0, 1) := by decide +kernel
theorem dd_M_init_272 : decode cd_M_init 272 = .ok (.sipush 170, 3) := by decide +kernel
theorem dd_M_init_275 : decode cd_M_init 275 = .ok (.newarray .int, 2) := by decide +kernel
theorem dd_M_init_277 : decode cd_M_init 277 = .ok (.putfield 93, 3) := by decide +kernel
theorem dd_M_init_280 : decode cd_M_init 280 = .ok (.aload_n 0, 1) := by decide +kernel
theorem dd_M_init_281 : decode cd_M_init 281 = .ok (.bipush 17, 2) := by decide +kernel
theorem dd_M_init_283 : decode cd_M_init 283 = .ok (.newarray .long, 2) := by decide +kernel
theorem dd_M_init_285 : decode cd_M_init 285 = .ok (.putfield 96, 3) := by decide +kernel
theorem dd_M_init_288 : decode cd_M_init 288 = .ok (.aload_n 0, 1) := by decide +kernel
theorem dd_M_init_289 : decode cd_M_init 289 = .ok (.bipush 17, 2) := by decide +kernel
theorem dd_M_init_291 : decode cd_M_init 291 = .ok (.newarray .long, 2) := by decide +kernel
theorem dd_M_init_293 : decode cd_M_init 293 = .ok (.putfield 99, 3) := by decide +kernel
theorem dd_M_init_296 : decode cd_M_init 296 = .ok (.aload_n 0, 1) := by decide +kernel
theorem dd_M_init_297 : decode cd_M_init 297 = .ok (.bipush 32, 2) := by decide +kernel
theorem dd_M_init_299 : decode cd_M_init 299 = .ok (.newarray .int, 2) := by decide +kernel
theorem dd_M_init_301 : decode cd_M_init 301 = .ok (.putfield 102, 3) := by decide +kernel
theorem dd_M_init_304 : decode cd_M_init 304 = .ok (.return_, 1) := by decide +kernel
theorem dd_M_right_0 : decode cd_M_right 0 = .ok (.iload_n 0, 1) := by decide +kernel
theorem dd_M_right_1 : decode cd_M_right 1 = .ok (.iload_n 1, 1) := by decide +kernel
theorem dd_M_right_2 : decode cd_M_right 2 = .ok (.iushr, 1) := by decide +kernel
theorem dd_M_right_3 : decode cd_M_right 3 = .ok (.iload_n 0, 1) := by decide +kernel
theorem dd_M_right_4 : decode cd_M_right 4 = .ok (.bipush 32, 2) := by decide +kernel
theorem dd_M_right_6 : decode cd_M_right 6 = .ok (.iload_n 1, 1) := by decide +kernel
theorem dd_M_right_7 : decode cd_M_right 7 = .ok (.isub, 1) := by decide +kernel
theorem dd_M_right_8 : decode cd_M_right 8 = .ok (.ishl, 1) := by decide +kernel
theorem dd_M_right_9 : decode cd_M_right 9 = .ok (.ior, 1) := by decide +kernel
theorem dd_M_right_10 : decode cd_M_right 10 = .ok (.ireturn, 1) := by decide +kernel
theorem dd_M_hash_0 : decode cd_M_hash 0 = .ok (.iconst 0, 1) := by decide +kernel
theorem dd_M_hash_1 : decode cd_M_hash 1 = .ok (.istore 4, 2) := by decide +kernel
theorem dd_M_hash_3 : decode cd_M_hash 3 = .ok (.iload 4, 2) := by decide +kernel
theorem dd_M_hash_5 : decode cd_M_hash 5 = .ok (.bipush 16, 2) := by decide +kernel
theorem dd_M_hash_7 : decode cd_M_hash 7 = .ok (.if_icmp .ge 17, 3) := by decide +kernel
theorem dd_M_hash_10 : decode cd_M_hash 10 = .ok (.aload_n 0, 1) := by decide +kernel
theorem dd_M_hash_11 : decode cd_M_hash 11 = .ok (.getfield 77, 3) := by decide +kernel
theorem dd_M_hash_14 : decode cd_M_hash 14 = .ok (.iload 4, 2) := by decide +kernel
theorem dd_M_hash_16 : decode cd_M_hash 16 = .ok (.iconst 0, 1) := by decide +kernel
theorem dd_M_hash_17 : decode cd_M_hash 17 = .ok (.iastore, 1) := by decide +kernel
theorem dd_M_hash_18 : decode cd_M_hash 18 = .ok (.iinc 4 1, 3) := by decide +kernel
theorem dd_M_hash_21 : decode cd_M_hash 21 = .ok (.goto (-18), 3) := by decide +kernel
theorem dd_M_hash_24 : decode cd_M_hash 24 = .ok (.aload_n 0, 1) := by decide +kernel
theorem dd_M_hash_25 : decode cd_M_hash 25 = .ok (.getfield 77, 3) := by decide +kernel
theorem dd_M_hash_28 : decode cd_M_hash 28 = .ok (.iconst 0, 1) := by decide +kernel
theorem dd_M_hash_29 : decode cd_M_hash 29 = .ok (.lload_n 1, 1) := by decide +kernel
theorem dd_M_hash_30 : decode cd_M_hash 30 = .ok (.bipush 32, 2) := by decide +kernel
theorem dd_M_hash_32 : decode cd_M_hash 32 = .ok (.lshr, 1) := by decide +kernel
theorem dd_M_hash_33 : decode cd_M_hash 33 = .ok (.l2i, 1) := by decide +kernel
theorem dd_M_hash_34 : decode cd_M_hash 34 = .ok (.iastore, 1) := by decide +kernel
theorem dd_M_hash_35 : decode cd_M_hash 35 = .ok (.aload_n 0, 1) := by decide +kernel
theorem dd_M_hash_36 : decode cd_M_hash 36 = .ok (.getfield 77, 3) := by decide +kernel
theorem dd_M_hash_39 : decode cd_M_hash 39 = .ok (.iconst 1, 1) := by decide +kernel
theorem dd_M_hash_40 : decode cd_M_hash 40 = .ok (.lload_n 1, 1) := by decide +kernel
theorem dd_M_hash_41 : decode cd_M_hash 41 = .ok (.l2i, 1) := by decide +kernel
theorem dd_M_hash_42 : decode cd_M_hash 42 = .ok (.iastore, 1) := by decide +kernel
theorem dd_M_hash_43 : decode cd_M_hash 43 = .ok (.aload_n 0, 1) := by decide +kernel
theorem dd_M_hash_44 : decode cd_M_hash 44 = .ok (.getfield 77, 3) := by decide +kernel
theorem dd_M_hash_47 : decode cd_M_hash 47 = .ok (.iconst 3, 1) := by decide +kernel
theorem dd_M_hash_48 : decode cd_M_hash 48 = .ok (.iload_n 3, 1) := by decide +kernel
theorem dd_M_hash_49 : decode cd_M_hash 49 = .ok (.iastore, 1) := by decide +kernel
theorem dd_M_hash_50 : decode cd_M_hash 50 = .ok (.aload_n 0, 1) := by decide +kernel
theorem dd_M_hash_51 : decode cd_M_hash 51 = .ok (.getfield 77, 3) := by decide +kernel
theorem dd_M_hash_54 : decode cd_M_hash 54 = .ok (.iconst 4, 1) := by decide +kernel
theorem dd_M_hash_55 : decode cd_M_hash 55 = .ok (.ldc 105, 2) := by decide +kernel
theorem dd_M_hash_57 : decode cd_M_hash 57 = .ok (.iastore, 1) := by decide +kernel
theorem dd_M_hash_58 : decode cd_M_hash 58 = .ok (.aload_n 0, 1) := by decide +kernel
theorem dd_M_hash_59 : decode cd_M_hash 59 = .ok (.getfield 77, 3) := by decide +kernel
theorem dd_M_hash_62 : decode cd_M_hash 62 = .ok (.bipush 15, 2) := by decide +kernel
theorem dd_M_hash_64 : decode cd_M_hash 64 = .ok (.sipush 128, 3) := by decide +kernel
theorem dd_M_hash_67 : decode cd_M_hash 67 = .ok (.iastore, 1) := by decide +kernel
theorem dd_M_hash_68 : decode cd_M_hash 68 = .ok (.bipush 16, 2) := by decide +kernel
theorem dd_M_hash_70 : decode cd_M_hash 70 = .ok (.istore 4, 2) := by decide +kernel
theorem dd_M_hash_72 : decode cd_M_hash 72 = .ok (.iload 4, 2) := by decide +kernel
theorem dd_M_hash_74 : decode cd_M_hash 74 = .ok (.bipush 64, 2) := by decide +kernel
theorem dd_M_hash_76 : decode cd_M_hash 76 = .ok (.if_icmp .ge 103, 3) := by decide +kernel
theorem dd_M_hash_79 : decode cd_M_hash 79 = .ok (.aload_n 0, 1) := by decide +kernel
theorem dd_M_hash_80 : decode cd_M_hash 80 = .ok (.getfield 77, 3) := by decide +kernel
theorem dd_M_hash_83 : decode cd_M_hash 83 = .ok (.iload 4, 2) := by decide +kernel
theorem dd_M_hash_85 : decode cd_M_hash 85 = .ok (.iconst 2, 1) := by decide +kernel
theorem dd_M_hash_86 : decode cd_M_hash 86 = .ok (.isub, 1) := by decide +kernel
theorem dd_M_hash_87 : decode cd_M_hash 87 = .ok (.iaload, 1) := by decide +kernel
theorem dd_M_hash_88 : decode cd_M_hash 88 = .ok (.istore 5, 2) := by decide +kernel
theorem dd_M_hash_90 : decode cd_M_hash 90 = .ok (.aload_n 0, 1) := by decide +kernel
theorem dd_M_hash_91 : decode cd_M_hash 91 = .ok (.getfield 77, 3) := by decide +kernel
theorem dd_M_hash_94 : decode cd_M_hash 94 = .ok (.iload 4, 2) := by decide +kernel
theorem dd_M_hash_96 : decode cd_M_hash 96 = .ok (.bipush 15, 2) := by decide +kernel
theorem dd_M_hash_98 : decode cd_M_hash 98 = .ok (.isub, 1) := by decide +kernel
theorem dd_M_hash_99 : decode cd_M_hash 99 = .ok (.iaload, 1) := by decide +kernel
theorem dd_M_hash_100 : decode cd_M_hash 100 = .ok (.istore 6, 2) := by decide +kernel
theorem dd_M_hash_102 : decode cd_M_hash 102 = .ok (.aload_n 0, 1) := by decide +kernel
theorem dd_M_hash_103 : decode cd_M_hash 103 = .ok (.getfield 77, 3) := by decide +kernel
theorem dd_M_hash_106 : decode cd_M_hash 106 = .ok (.iload 4, 2) := by decide +kernel
theorem dd_M_hash_108 : decode cd_M_hash 108 = .ok (.iload 5, 2) := by decide +kernel
theorem dd_M_hash_110 : decode cd_M_hash 110 = .ok (.bipush 17, 2) := by decide +kernel
theorem dd_M_hash_112 : decode cd_M_hash 112 = .ok (.invokestatic 106, 3) := by decide +kernel
theorem dd_M_hash_115 : decode cd_M_hash 115 = .ok (.iload 5, 2) := by decide +kernel
theorem dd_M_hash_117 : decode cd_M_hash 117 = .ok (.bipush 19, 2) := by decide +kernel
theorem dd_M_hash_119 : decode cd_M_hash 119 = .ok (.invokestatic 106, 3) := by decide +kernel
theorem dd_M_hash_122 : decode cd_M_hash 122 = .ok (.ixor, 1) := by decide +kernel
theorem dd_M_hash_123 : decode cd_M_hash 123 = .ok (.iload 5, 2) := by decide +kernel
theorem dd_M_hash_125 : decode cd_M_hash 125 = .ok (.bipush 10, 2) := by decide +kernel
theorem dd_M_hash_127 : decode cd_M_hash 127 = .ok (.iushr, 1) := by decide +kernel
theorem dd_M_hash_128 : decode cd_M_hash 128 = .ok (.ixor, 1) := by decide +kernel
theorem dd_M_hash_129 : decode cd_M_hash 129 = .ok (.aload_n 0, 1) := by decide +kernel
theorem dd_M_hash_130 : decode cd_M_hash 130 = .ok (.getfield 77, 3) := by decide +kernel
theorem dd_M_hash_133 : decode cd_M_hash 133 = .ok (.iload 4, 2) := by decide +kernel
theorem dd_M_hash_135 : decode cd_M_hash 135 = .ok (.bipush 7, 2) := by decide +kernel
theorem dd_M_hash_137 : decode cd_M_hash 137 = .ok (.isub, 1) := by decide +kernel
theorem dd_M_hash_138 : decode cd_M_hash 138 = .ok (.iaload, 1) := by decide +kernel
theorem dd_M_hash_139 : decode cd_M_hash 139 = .ok (.iadd, 1) := by decide +kernel
theorem dd_M_hash_140 : decode cd_M_hash 140 = .ok (.iload 6, 2) := by decide +kernel
theorem dd_M_hash_142 : decode cd_M_hash 142 = .ok (.bipush 7, 2) := by decide +kernel
theorem dd_M_hash_144 : decode cd_M_hash 144 = .ok (.invokestatic 106, 3) := by decide +kernel
theorem dd_M_hash_147 : decode cd_M_hash 147 = .ok (.iload 6, 2) := by decide +kernel
theorem dd_M_hash_149 : decode cd_M_hash 149 = .ok (.bipush 18, 2) := by decide +kernel
theorem dd_M_hash_151 : decode cd_M_hash 151 = .ok (.invokestatic 106, 3) := by decide +kernel
theorem dd_M_hash_154 : decode cd_M_hash 154 = .ok (.ixor, 1) := by decide +kernel
theorem dd_M_hash_155 : decode cd_M_hash 155 = .ok (.iload 6, 2) := by decide +kernel
theorem dd_M_hash_157 : decode cd_M_hash 157 = .ok (.iconst 3, 1) := by decide +kernel
theorem dd_M_hash_158 : decode cd_M_hash 158 = .ok (.iushr, 1) := by decide +kernel
theorem dd_M_hash_159 : decode cd_M_hash 159 = .ok (.ixor, 1) := by decide +kernel
theorem dd_M_hash_160 : decode cd_M_hash 160 = .ok (.iadd, 1) := by decide +kernel
theorem dd_M_hash_161 : decode cd_M_hash 161 = .ok (.aload_n 0, 1) := by decide +kernel
theorem dd_M_hash_162 : decode cd_M_hash 162 = .ok (.getfield 77, 3) := by decide +kernel
theorem dd_M_hash_165 : decode cd_M_hash 165 = .ok (.iload 4, 2) := by decide +kernel
theorem dd_M_hash_167 : decode cd_M_hash 167 = .ok (.bipush 16, 2) := by decide +kernel
theorem dd_M_hash_169 : decode cd_M_hash 169 = .ok (.isub, 1) := by decide +kernel
theorem dd_M_hash_170 : decode cd_M_hash 170 = .ok (.iaload, 1) := by decide +kernel
theorem dd_M_hash_171 : decode cd_M_hash 171 = .ok (.iadd, 1) := by decide +kernel
theorem dd_M_hash_172 : decode cd_M_hash 172 = .ok (.iastore, 1) := by decide +kernel
theorem dd_M_hash_173 : decode cd_M_hash 173 = .ok (.iinc 4 1, 3) := by decide +kernel
theorem dd_M_hash_176 : decode cd_M_hash 176 = .ok (.goto (-104), 3) := by decide +kernel
theorem dd_M_hash_179 : decode cd_M_hash 179 = .ok (.ldc 110, 2) := by decide +kernel
theorem dd_M_hash_181 : decode cd_M_hash 181 = .ok (.istore 4, 2) := by decide +kernel
theorem dd_M_hash_183 : decode cd_M_hash 183 = .ok (.ldc 111, 2) := by decide +kernel
theorem dd_M_hash_185 : decode cd_M_hash 185 = .ok (.istore 5, 2) := by decide +kernel
theorem dd_M_hash_187 : decode cd_M_hash 187 = .ok (.ldc 112, 2) := by decide +kernel
theorem dd_M_hash_189 : decode cd_M_hash 189 = .ok (.istore 6, 2) := by decide +kernel
theorem dd_M_hash_191 : decode cd_M_hash 191 = .ok (.ldc 113, 2) := by decide +kernel
theorem dd_M_hash_193 : decode cd_M_hash 193 = .ok (.istore 7, 2) := by decide +kernel
theorem dd_M_hash_195 : decode cd_M_hash 195 = .ok (.ldc 114, 2) := by decide +kernel
theorem dd_M_hash_197 : decode cd_M_hash 197 = .ok (.istore 8, 2) := by decide +kernel
theorem dd_M_hash_199 : decode cd_M_hash 199 = .ok (.ldc 115, 2) := by decide +kernel
theorem dd_M_hash_201 : decode cd_M_hash 201 = .ok (.istore 9, 2) := by decide +kernel
theorem dd_M_hash_203 : decode cd_M_hash 203 = .ok (.ldc 116, 2) := by decide +kernel
theorem dd_M_hash_205 : decode cd_M_hash 205 = .ok (.istore 10, 2) := by decide +kernel
theorem dd_M_hash_207 : decode cd_M_hash 207 = .ok (.ldc 117, 2) := by decide +kernel
theorem dd_M_hash_209 : decode cd_M_hash 209 = .ok (.istore 11, 2) := by decide +kernel
theorem dd_M_hash_211 : decode cd_M_hash 211 = .ok (.iconst 0, 1) := by decide +kernel
theorem dd_M_hash_212 : decode cd_M_hash 212 = .ok (.istore 12, 2) := by decide +kernel
theorem dd_M_hash_214 : decode cd_M_hash 214 = .ok (.iload 12, 2) := by decide +kernel
theorem dd_M_hash_216 : decode cd_M_hash 216 = .ok (.bipush 64, 2) := by decide +kernel
theorem dd_M_hash_218 : decode cd_M_hash 218 = .ok (.if_icmp .ge 164, 3) := by decide +kernel
theorem dd_M_hash_221 : decode cd_M_hash 221 = .ok (.iload 10, 2) := by decide +kernel
theorem dd_M_hash_223 : decode cd_M_hash 223 = .ok (.iload 7, 2) := by decide +kernel
theorem dd_M_hash_225 : decode cd_M_hash 225 = .ok (.bipush 6, 2) := by decide +kernel
theorem dd_M_hash_227 : decode cd_M_hash 227 = .ok (.invokestatic 106, 3) := by decide +kernel
theorem dd_M_hash_230 : decode cd_M_hash 230 = .ok (.iload 7, 2) := by decide +kernel
theorem dd_M_hash_232 : decode cd_M_hash 232 = .ok (.bipush 11, 2) := by decide +kernel
theorem dd_M_hash_234 : decode cd_M_hash 234 = .ok (.invokestatic 106, 3) := by decide +kernel
theorem dd_M_hash_237 : decode cd_M_hash 237 = .ok (.ixor, 1) := by decide +kernel
theorem dd_M_hash_238 : decode cd_M_hash 238 = .ok (.iload 7, 2) := by decide +kernel
theorem dd_M_hash_240 : decode cd_M_hash 240 = .ok (.bipush 25, 2) := by decide +kernel
theorem dd_M_hash_242 : decode cd_M_hash 242 = .ok (.invokestatic 106, 3) := by decide +kernel
theorem dd_M_hash_245 : decode cd_M_hash 245 = .ok (.ixor, 1) := by decide +kernel
theorem dd_M_hash_246 : decode cd_M_hash 246 = .ok (.iadd, 1) := by decide +kernel
theorem dd_M_hash_247 : decode cd_M_hash 247 = .ok (.iload 7, 2) := by decide +kernel
theorem dd_M_hash_249 : decode cd_M_hash 249 = .ok (.iload 8, 2) := by decide +kernel
theorem dd_M_hash_251 : decode cd_M_hash 251 = .ok (.iand, 1) := by decide +kernel
theorem dd_M_hash_252 : decode cd_M_hash 252 = .ok (.iload 7, 2) := by decide +kernel
theorem dd_M_hash_254 : decode cd_M_hash 254 = .ok (.iconst (-1), 1) := by decide +kernel
theorem dd_M_hash_255 : decode cd_M_hash 255 = .ok (.ixor, 1) := by decide +kernel
theorem dd_M_hash_256 : decode cd_M_hash 256 = .ok (.iload 9, 2) := by decide +kernel
theorem dd_M_hash_258 : decode cd_M_hash 258 = .ok (.iand, 1) := by decide +kernel
theorem dd_M_hash_259 : decode cd_M_hash 259 = .ok (.ixor, 1) := by decide +kernel
theorem dd_M_hash_260 : decode cd_M_hash 260 = .ok (.iadd, 1) := by decide +kernel
theorem dd_M_hash_261 : decode cd_M_hash 261 = .ok (.aload_n 0, 1) := by decide +kernel
theorem dd_M_hash_262 : decode cd_M_hash 262 = .ok (.getfield 71, 3) := by decide +kernel
theorem dd_M_hash_265 : decode cd_M_hash 265 = .ok (.iload 12, 2) := by decide +kernel
theorem dd_M_hash_267 : decode cd_M_hash 267 = .ok (.iconst 2, 1) := by decide +kernel
theorem dd_M_hash_268 : decode cd_M_hash 268 = .ok (.idiv, 1) := by decide +kernel
theorem dd_M_hash_269 : decode cd_M_hash 269 = .ok (.laload, 1) := by decide +kernel
theorem dd_M_hash_270 : decode cd_M_hash 270 = .ok (.iload 12, 2) := by decide +kernel
theorem dd_M_hash_272 : decode cd_M_hash 272 = .ok (.iconst 2, 1) := by decide +kernel
theorem dd_M_hash_273 : decode cd_M_hash 273 = .ok (.irem, 1) := by decide +kernel
theorem dd_M_hash_274 : decode cd_M_hash 274 = .ok (.ifCond .ne 8, 3) := by decide +kernel
theorem dd_M_hash_277 : decode cd_M_hash 277 = .ok (.bipush 32, 2) := by decide +kernel
theorem dd_M_hash_279 : decode cd_M_hash 279 = .ok (.goto 4, 3) := by decide +kernel
theorem dd_M_hash_282 : decode cd_M_hash 282 = .ok (.iconst 0, 1) := by decide +kernel
theorem dd_M_hash_283 : decode cd_M_hash 283 = .ok (.lshr, 1) := by decide +kernel
theorem dd_M_hash_284 : decode cd_M_hash 284 = .ok (.l2i, 1) := by decide +kernel
theorem dd_M_hash_285 : decode cd_M_hash 285 = .ok (.iadd, 1) := by decide +kernel
theorem dd_M_hash_286 : decode cd_M_hash 286 = .ok (.aload_n 0, 1) := by decide +kernel
theorem dd_M_hash_287 : decode cd_M_hash 287 = .ok (.getfield 77, 3) := by decide +kernel
theorem dd_M_hash_290 : decode cd_M_hash 290 = .ok (.iload 12, 2) := by decide +kernel
theorem dd_M_hash_292 : decode cd_M_hash 292 = .ok (.iaload, 1) := by decide +kernel
theorem dd_M_hash_293 : decode cd_M_hash 293 = .ok (.iadd, 1) := by decide +kernel
theorem dd_M_hash_294 : decode cd_M_hash 294 = .ok (.istore 13, 2) := by decide +kernel
theorem dd_M_hash_296 : decode cd_M_hash 296 = .ok (.iload 4, 2) := by decide +kernel
theorem dd_M_hash_298 : decode cd_M_hash 298 = .ok (.iconst 2, 1) := by decide +kernel
theorem dd_M_hash_299 : decode cd_M_hash 299 = .ok (.invokestatic 106, 3) := by decide +kernel
theorem dd_M_hash_302 : decode cd_M_hash 302 = .ok (.iload 4, 2) := by decide +kernel
theorem dd_M_hash_304 : decode cd_M_hash 304 = .ok (.bipush 13, 2) := by decide +kernel
theorem dd_M_hash_306 : decode cd_M_hash 306 = .ok (.invokestatic 106, 3) := by decide +kernel
theorem dd_M_hash_309 : decode cd_M_hash 309 = .ok (.ixor, 1) := by decide +kernel
theorem dd_M_hash_310 : decode cd_M_hash 310 = .ok (.iload 4, 2) := by decide +kernel
theorem dd_M_hash_312 : decode cd_M_hash 312 = .ok (.bipush 22, 2) := by decide +kernel
theorem dd_M_hash_314 : decode cd_M_hash 314 = .ok (.invokestatic 106, 3) := by decide +kernel
theorem dd_M_hash_317 : decode cd_M_hash 317 = .ok (.ixor, 1) := by decide +kernel
theorem dd_M_hash_318 : decode cd_M_hash 318 = .ok (.iload 4, 2) := by decide +kernel
theorem dd_M_hash_320 : decode cd_M_hash 320 = .ok (.iload 5, 2) := by decide +kernel
theorem dd_M_hash_322 : decode cd_M_hash 322 = .ok (.iand, 1) := by decide +kernel
theorem dd_M_hash_323 : decode cd_M_hash 323 = .ok (.iload 4, 2) := by decide +kernel
theorem dd_M_hash_325 : decode cd_M_hash 325 = .ok (.iload 11, 2) := by decide +kernel
theorem dd_M_hash_327 : decode cd_M_hash 327 = .ok (.iand, 1) := by decide +kernel
theorem dd_M_hash_328 : decode cd_M_hash 328 = .ok (.ixor, 1) := by decide +kernel
theorem dd_M_hash_329 : decode cd_M_hash 329 = .ok (.iload 5, 2) := by decide +kernel
theorem dd_M_hash_331 : decode cd_M_hash 331 = .ok (.iload 11, 2) := by decide +kernel
theorem dd_M_hash_333 : decode cd_M_hash 333 = .ok (.iand, 1) := by decide +kernel
theorem dd_M_hash_334 : decode cd_M_hash 334 = .ok (.ixor, 1) := by decide +kernel
theorem dd_M_hash_335 : decode cd_M_hash 335 = .ok (.iadd, 1) := by decide +kernel
theorem dd_M_hash_336 : decode cd_M_hash 336 = .ok (.istore 14, 2) := by decide +kernel
theorem dd_M_hash_338 : decode cd_M_hash 338 = .ok (.iload 9, 2) := by decide +kernel
theorem dd_M_hash_340 : decode cd_M_hash 340 = .ok (.istore 10, 2) := by decide +kernel
theorem dd_M_hash_342 : decode cd_M_hash 342 = .ok (.iload 8, 2) := by decide +kernel
theorem dd_M_hash_344 : decode cd_M_hash 344 = .ok (.istore 9, 2) := by decide +kernel
theorem dd_M_hash_346 : decode cd_M_hash 346 = .ok (.iload 7, 2) := by decide +kernel
theorem dd_M_hash_348 : decode cd_M_hash 348 = .ok (.istore 8, 2) := by decide +kernel
theorem dd_M_hash_350 : decode cd_M_hash 350 = .ok (.iload 6, 2) := by decide +kernel
theorem dd_M_hash_352 : decode cd_M_hash 352 = .ok (.iload 13, 2) := by decide +kernel
theorem dd_M_hash_354 : decode cd_M_hash 354 = .ok (.iadd, 1) := by decide +kernel
theorem dd_M_hash_355 : decode cd_M_hash 355 = .ok (.istore 7, 2) := by decide +kernel
theorem dd_M_hash_357 : decode cd_M_hash 357 = .ok (.iload 11, 2) := by decide +kernel
theorem dd_M_hash_359 : decode cd_M_hash 359 = .ok (.istore 6, 2) := by decide +kernel
theorem dd_M_hash_361 : decode cd_M_hash 361 = .ok (.iload 5, 2) := by decide +kernel
theorem dd_M_hash_363 : decode cd_M_hash 363 = .ok (.istore 11, 2) := by decide +kernel
theorem dd_M_hash_365 : decode cd_M_hash 365 = .ok (.iload 4, 2) := by decide +kernel
theorem dd_M_hash_367 : decode cd_M_hash 367 = .ok (.istore 5, 2) := by decide +kernel
theorem dd_M_hash_369 : decode cd_M_hash 369 = .ok (.iload 13, 2) := by decide +kernel
theorem dd_M_hash_371 : decode cd_M_hash 371 = .ok (.iload 14, 2) := by decide +kernel
theorem dd_M_hash_373 : decode cd_M_hash 373 = .ok (.iadd, 1) := by decide +kernel
theorem dd_M_hash_374 : decode cd_M_hash 374 = .ok (.istore 4, 2) := by decide +kernel
theorem dd_M_hash_376 : decode cd_M_hash 376 = .ok (.iinc 12 1, 3) := by decide +kernel
theorem dd_M_hash_379 : decode cd_M_hash 379 = .ok (.goto (-165), 3) := by decide +kernel
theorem dd_M_hash_382 : decode cd_M_hash 382 = .ok (.iload 4, 2) := by decide +kernel
theorem dd_M_hash_384 : decode cd_M_hash 384 = .ok (.ldc 110, 2) := by decide +kernel
theorem dd_M_hash_386 : decode cd_M_hash 386 = .ok (.iadd, 1) := by decide +kernel
theorem dd_M_hash_387 : decode cd_M_hash 387 = .ok (.ireturn, 1) := by decide +kernel
theorem dd_M_isPrime_0 : decode cd_M_isPrime 0 = .ok (.ldc2_w 118, 3) := by decide +kernel
theorem dd_M_isPrime_3 : decode cd_M_isPrime 3 = .ok (.lstore_n 1, 1) := by decide +kernel
theorem dd_M_isPrime_4 : decode cd_M_isPrime 4 = .ok (.lload_n 1, 1) := by decide +kernel
theorem dd_M_isPrime_5 : decode cd_M_isPrime 5 = .ok (.lload_n 1, 1) := by decide +kernel
theorem dd_M_isPrime_6 : decode cd_M_isPrime 6 = .ok (.lmul, 1) := by decide +kernel
theorem dd_M_isPrime_7 : decode cd_M_isPrime 7 = .ok (.iload_n 0, 1) := by decide +kernel
theorem dd_M_isPrime_8 : decode cd_M_isPrime 8 = .ok (.i2l, 1) := by decide +kernel
theorem dd_M_isPrime_9 : decode cd_M_isPrime 9 = .ok (.lcmp, 1) := by decide +kernel
theorem dd_M_isPrime_10 : decode cd_M_isPrime 10 = .ok (.ifCond .gt 23, 3) := by decide +kernel
theorem dd_M_isPrime_13 : decode cd_M_isPrime 13 = .ok (.iload_n 0, 1) := by decide +kernel
theorem dd_M_isPrime_14 : decode cd_M_isPrime 14 = .ok (.i2l, 1) := by decide +kernel
theorem dd_M_isPrime_15 : decode cd_M_isPrime 15 = .ok (.lload_n 1, 1) := by decide +kernel
theorem dd_M_isPrime_16 : decode cd_M_isPrime 16 = .ok (.lrem, 1) := by decide +kernel
theorem dd_M_isPrime_17 : decode cd_M_isPrime 17 = .ok (.lconst 0, 1) := by decide +kernel
theorem dd_M_isPrime_18 : decode cd_M_isPrime 18 = .ok (.lcmp, 1) := by decide +kernel
theorem dd_M_isPrime_19 : decode cd_M_isPrime 19 = .ok (.ifCond .ne 5, 3) := by decide +kernel
theorem dd_M_isPrime_22 : decode cd_M_isPrime 22 = .ok (.iconst 0, 1) := by decide +kernel
theorem dd_M_isPrime_23 : decode cd_M_isPrime 23 = .ok (.ireturn, 1) := by decide +kernel
theorem dd_M_isPrime_24 : decode cd_M_isPrime 24 = .ok (.lload_n 1, 1) := by decide +kernel
theorem dd_M_isPrime_25 : decode cd_M_isPrime 25 = .ok (.ldc2_w 120, 3) := by decide +kernel
theorem dd_M_isPrime_28 : decode cd_M_isPrime 28 = .ok (.ladd, 1) := by decide +kernel
theorem dd_M_isPrime_29 : decode cd_M_isPrime 29 = .ok (.lstore_n 1, 1) := by decide +kernel
theorem dd_M_isPrime_30 : decode cd_M_isPrime 30 = .ok (.goto (-26), 3) := by decide +kernel
theorem dd_M_isPrime_33 : decode cd_M_isPrime 33 = .ok (.iconst 1, 1) := by decide +kernel
theorem dd_M_isPrime_34 : decode cd_M_isPrime 34 = .ok (.ireturn, 1) := by decide +kernel
theorem dd_M_isSerial_0 : decode cd_M_isSerial 0 = .ok (.lload_n 0, 1) := by decide +kernel
theorem dd_M_isSerial_1 : decode cd_M_isSerial 1 = .ok (.lconst 0, 1) := by decide +kernel
theorem dd_M_isSerial_2 : decode cd_M_isSerial 2 = .ok (.lcmp, 1) := by decide +kernel
theorem dd_M_isSerial_3 : decode cd_M_isSerial 3 = .ok (.ifCond .lt 15, 3) := by decide +kernel
theorem dd_M_isSerial_6 : decode cd_M_isSerial 6 = .ok (.lload_n 0, 1) := by decide +kernel
theorem dd_M_isSerial_7 : decode cd_M_isSerial 7 = .ok (.ldc2_w 122, 3) := by decide +kernel
theorem dd_M_isSerial_10 : decode cd_M_isSerial 10 = .ok (.lcmp, 1) := by decide +kernel
theorem dd_M_isSerial_11 : decode cd_M_isSerial 11 = .ok (.ifCond .ge 7, 3) := by decide +kernel
theorem dd_M_isSerial_14 : decode cd_M_isSerial 14 = .ok (.iconst 1, 1) := by decide +kernel
theorem dd_M_isSerial_15 : decode cd_M_isSerial 15 = .ok (.goto 4, 3) := by decide +kernel
theorem dd_M_isSerial_18 : decode cd_M_isSerial 18 = .ok (.iconst 0, 1) := by decide +kernel
theorem dd_M_isSerial_19 : decode cd_M_isSerial 19 = .ok (.ireturn, 1) := by decide +kernel
theorem dd_M_prime_0 : decode cd_M_prime 0 = .ok (.iconst 0, 1) := by decide +kernel
theorem dd_M_prime_1 : decode cd_M_prime 1 = .ok (.istore_n 3, 1) := by decide +kernel
theorem dd_M_prime_2 : decode cd_M_prime 2 = .ok (.iload_n 3, 1) := by decide +kernel
theorem dd_M_prime_3 : decode cd_M_prime 3 = .ok (.sipush 256, 3) := by decide +kernel
theorem dd_M_prime_6 : decode cd_M_prime 6 = .ok (.if_icmp .ge 43, 3) := by decide +kernel
theorem dd_M_prime_9 : decode cd_M_prime 9 = .ok (.lload_n 1, 1) := by decide +kernel
theorem dd_M_prime_10 : decode cd_M_prime 10 = .ok (.invokestatic 124, 3) := by decide +kernel
theorem dd_M_prime_13 : decode cd_M_prime 13 = .ok (.ifCond .eq 36, 3) := by decide +kernel
theorem dd_M_prime_16 : decode cd_M_prime 16 = .ok (.aload_n 0, 1) := by decide +kernel
theorem dd_M_prime_17 : decode cd_M_prime 17 = .ok (.lload_n 1, 1) := by decide +kernel
theorem dd_M_prime_18 : decode cd_M_prime 18 = .ok (.iload_n 3, 1) := by decide +kernel
theorem dd_M_prime_19 : decode cd_M_prime 19 = .ok (.invokevirtual 128, 3) := by decide +kernel
theorem dd_M_prime_22 : decode cd_M_prime 22 = .ok (.ldc 132, 2) := by decide +kernel
theorem dd_M_prime_24 : decode cd_M_prime 24 = .ok (.iand, 1) := by decide +kernel
theorem dd_M_prime_25 : decode cd_M_prime 25 = .ok (.ldc 133, 2) := by decide +kernel
theorem dd_M_prime_27 : decode cd_M_prime 27 = .ok (.ior, 1) := by decide +kernel
theorem dd_M_prime_28 : decode cd_M_prime 28 = .ok (.iconst 1, 1) := by decide +kernel
theorem dd_M_prime_29 : decode cd_M_prime 29 = .ok (.ior, 1) := by decide +kernel
theorem dd_M_prime_30 : decode cd_M_prime 30 = .ok (.istore 4, 2) := by decide +kernel
theorem dd_M_prime_32 : decode cd_M_prime 32 = .ok (.iload 4, 2) := by decide +kernel
theorem dd_M_prime_34 : decode cd_M_prime 34 = .ok (.invokestatic 134, 3) := by decide +kernel
theorem dd_M_prime_37 : decode cd_M_prime 37 = .ok (.ifCond .eq 6, 3) := by decide +kernel
theorem dd_M_prime_40 : decode cd_M_prime 40 = .ok (.iload 4, 2) := by decide +kernel
theorem dd_M_prime_42 : decode cd_M_prime 42 = .ok (.ireturn, 1) := by decide +kernel
theorem dd_M_prime_43 : decode cd_M_prime 43 = .ok (.iinc 3 1, 3) := by decide +kernel
theorem dd_M_prime_46 : decode cd_M_prime 46 = .ok (.goto (-44), 3) := by decide +kernel
theorem dd_M_prime_49 : decode cd_M_prime 49 = .ok (.bipush (-2), 2) := by decide +kernel
theorem dd_M_prime_51 : decode cd_M_prime 51 = .ok (.ireturn, 1) := by decide +kernel
theorem dd_M_isLess_0 : decode cd_M_isLess 0 = .ok (.lload_n 0, 1) := by decide +kernel
theorem dd_M_isLess_1 : decode cd_M_isLess 1 = .ok (.ldc2_w 138, 3) := by decide +kernel
theorem dd_M_isLess_4 : decode cd_M_isLess 4 = .ok (.ladd, 1) := by decide +kernel
theorem dd_M_isLess_5 : decode cd_M_isLess 5 = .ok (.lload_n 2, 1) := by decide +kernel
theorem dd_M_isLess_6 : decode cd_M_isLess 6 = .ok (.ldc2_w 138, 3) := by decide +kernel
theorem dd_M_isLess_9 : decode cd_M_isLess 9 = .ok (.ladd, 1) := by decide +kernel
theorem dd_M_isLess_10 : decode cd_M_isLess 10 = .ok (.lcmp, 1) := by decide +kernel
theorem dd_M_isLess_11 : decode cd_M_isLess 11 = .ok (.ifCond .ge 7, 3) := by decide +kernel
theorem dd_M_isLess_14 : decode cd_M_isLess 14 = .ok (.iconst 1, 1) := by decide +kernel
theorem dd_M_isLess_15 : decode cd_M_isLess 15 = .ok (.goto 4, 3) := by decide +kernel
theorem dd_M_isLess_18 : decode cd_M_isLess 18 = .ok (.iconst 0, 1) := by decide +kernel
theorem dd_M_isLess_19 : decode cd_M_isLess 19 = .ok (.ireturn, 1) := by decide +kernel
theorem dd_M_isBelowN_0 : decode cd_M_isBelowN 0 = .ok (.lload_n 1, 1) := by decide +kernel
theorem dd_M_isBelowN_1 : decode cd_M_isBelowN 1 = .ok (.aload_n 0, 1) := by decide +kernel
theorem dd_M_isBelowN_2 : decode cd_M_isBelowN 2 = .ok (.getfield 140, 3) := by decide +kernel
theorem dd_M_isBelowN_5 : decode cd_M_isBelowN 5 = .ok (.invokestatic 144, 3) := by decide +kernel
theorem dd_M_isBelowN_8 : decode cd_M_isBelowN 8 = .ok (.ifCond .ne 23, 3) := by decide +kernel
theorem dd_M_isBelowN_11 : decode cd_M_isBelowN 11 = .ok (.lload_n 1, 1) := by decide +kernel
theorem dd_M_isBelowN_12 : decode cd_M_isBelowN 12 = .ok (.aload_n 0, 1) := by decide +kernel
theorem dd_M_isBelowN_13 : decode cd_M_isBelowN 13 = .ok (.getfield 140, 3) := by decide +kernel
theorem dd_M_isBelowN_16 : decode cd_M_isBelowN 16 = .ok (.lcmp, 1) := by decide +kernel
theorem dd_M_isBelowN_17 : decode cd_M_isBelowN 17 = .ok (.ifCond .ne 18, 3) := by decide +kernel
theorem dd_M_isBelowN_20 : decode cd_M_isBelowN 20 = .ok (.lload_n 3, 1) := by decide +kernel
theorem dd_M_isBelowN_21 : decode cd_M_isBelowN 21 = .ok (.aload_n 0, 1) := by decide +kernel
theorem dd_M_isBelowN_22 : decode cd_M_isBelowN 22 = .ok (.getfield 148, 3) := by decide +kernel
theorem dd_M_isBelowN_25 : decode cd_M_isBelowN 25 = .ok (.invokestatic 144, 3) := by decide +kernel
theorem dd_M_isBelowN_28 : decode cd_M_isBelowN 28 = .ok (.ifCond .eq 7, 3) := by decide +kernel
theorem dd_M_isBelowN_31 : decode cd_M_isBelowN 31 = .ok (.iconst 1, 1) := by decide +kernel
theorem dd_M_isBelowN_32 : decode cd_M_isBelowN 32 = .ok (.goto 4, 3) := by decide +kernel
theorem dd_M_isBelowN_35 : decode cd_M_isBelowN 35 = .ok (.iconst 0, 1) := by decide +kernel
theorem dd_M_isBelowN_36 : decode cd_M_isBelowN 36 = .ok (.ireturn, 1) := by decide +kernel
theorem dd_M_plus_0 : decode cd_M_plus 0 = .ok (.aload_n 0, 1) := by decide +kernel
theorem dd_M_plus_1 : decode cd_M_plus 1 = .ok (.lload_n 3, 1) := by decide +kernel
theorem dd_M_plus_2 : decode cd_M_plus 2 = .ok (.lload 7, 2) := by decide +kernel
theorem dd_M_plus_4 : decode cd_M_plus 4 = .ok (.ladd, 1) := by decide +kernel
theorem dd_M_plus_5 : decode cd_M_plus 5 = .ok (.putfield 151, 3) := by decide +kernel
theorem dd_M_plus_8 : decode cd_M_plus 8 = .ok (.aload_n 0, 1) := by decide +kernel
theorem dd_M_plus_9 : decode cd_M_plus 9 = .ok (.getfield 151, 3) := by decide +kernel
theorem dd_M_plus_12 : decode cd_M_plus 12 = .ok (.lload_n 3, 1) := by decide +kernel
theorem dd_M_plus_13 : decode cd_M_plus 13 = .ok (.invokestatic 144, 3) := by decide +kernel
theorem dd_M_plus_16 : decode cd_M_plus 16 = .ok (.ifCond .eq 7, 3) := by decide +kernel
theorem dd_M_plus_19 : decode cd_M_plus 19 = .ok (.lconst 1, 1) := by decide +kernel
theorem dd_M_plus_20 : decode cd_M_plus 20 = .ok (.goto 4, 3) := by decide +kernel
theorem dd_M_plus_23 : decode cd_M_plus 23 = .ok (.lconst 0, 1) := by decide +kernel
theorem dd_M_plus_24 : decode cd_M_plus 24 = .ok (.lstore 9, 2) := by decide +kernel
theorem dd_M_plus_26 : decode cd_M_plus 26 = .ok (.aload_n 0, 1) := by decide +kernel
theorem dd_M_plus_27 : decode cd_M_plus 27 = .ok (.lload_n 1, 1) := by decide +kernel
theorem dd_M_plus_28 : decode cd_M_plus 28 = .ok (.lload 5, 2) := by decide +kernel
theorem dd_M_plus_30 : decode cd_M_plus 30 = .ok (.ladd, 1) := by decide +kernel
theorem dd_M_plus_31 : decode cd_M_plus 31 = .ok (.putfield 154, 3) := by decide +kernel
theorem dd_M_plus_34 : decode cd_M_plus 34 = .ok (.aload_n 0, 1) := by decide +kernel
theorem dd_M_plus_35 : decode cd_M_plus 35 = .ok (.getfield 154, 3) := by decide +kernel
theorem dd_M_plus_38 : decode cd_M_plus 38 = .ok (.lload_n 1, 1) := by decide +kernel
theorem dd_M_plus_39 : decode cd_M_plus 39 = .ok (.invokestatic 144, 3) := by decide +kernel
theorem dd_M_plus_42 : decode cd_M_plus 42 = .ok (.istore 11, 2) := by decide +kernel
theorem dd_M_plus_44 : decode cd_M_plus 44 = .ok (.aload_n 0, 1) := by decide +kernel
theorem dd_M_plus_45 : decode cd_M_plus 45 = .ok (.aload_n 0, 1) := by decide +kernel
theorem dd_M_plus_46 : decode cd_M_plus 46 = .ok (.getfield 154, 3) := by decide +kernel
theorem dd_M_plus_49 : decode cd_M_plus 49 = .ok (.lload 9, 2) := by decide +kernel
theorem dd_M_plus_51 : decode cd_M_plus 51 = .ok (.ladd, 1) := by decide +kernel
theorem dd_M_plus_52 : decode cd_M_plus 52 = .ok (.putfield 154, 3) := by decide +kernel
theorem dd_M_plus_55 : decode cd_M_plus 55 = .ok (.iload 11, 2) := by decide +kernel
theorem dd_M_plus_57 : decode cd_M_plus 57 = .ok (.ifCond .ne 19, 3) := by decide +kernel
theorem dd_M_plus_60 : decode cd_M_plus 60 = .ok (.lload 9, 2) := by decide +kernel
theorem dd_M_plus_62 : decode cd_M_plus 62 = .ok (.lconst 1, 1) := by decide +kernel
theorem dd_M_plus_63 : decode cd_M_plus 63 = .ok (.lcmp, 1) := by decide +kernel
theorem dd_M_plus_64 : decode cd_M_plus 64 = .ok (.ifCond .ne 16, 3) := by decide +kernel
theorem dd_M_plus_67 : decode cd_M_plus 67 = .ok (.aload_n 0, 1) := by decide +kernel
theorem dd_M_plus_68 : decode cd_M_plus 68 = .ok (.getfield 154, 3) := by decide +kernel
theorem dd_M_plus_71 : decode cd_M_plus 71 = .ok (.lconst 0, 1) := by decide +kernel
theorem dd_M_plus_72 : decode cd_M_plus 72 = .ok (.lcmp, 1) := by decide +kernel
theorem dd_M_plus_73 : decode cd_M_plus 73 = .ok (.ifCond .ne 7, 3) := by decide +kernel
theorem dd_M_plus_76 : decode cd_M_plus 76 = .ok (.iconst 1, 1) := by decide +kernel
theorem dd_M_plus_77 : decode cd_M_plus 77 = .ok (.goto 4, 3) := by decide +kernel
theorem dd_M_plus_80 : decode cd_M_plus 80 = .ok (.iconst 0, 1) := by decide +kernel
theorem dd_M_plus_81 : decode cd_M_plus 81 = .ok (.istore 11, 2) := by decide +kernel
theorem dd_M_plus_83 : decode cd_M_plus 83 = .ok (.iload 11, 2) := by decide +kernel
theorem dd_M_plus_85 : decode cd_M_plus 85 = .ok (.ifCond .ne 18, 3) := by decide +kernel
theorem dd_M_plus_88 : decode cd_M_plus 88 = .ok (.aload_n 0, 1) := by decide +kernel
theorem dd_M_plus_89 : decode cd_M_plus 89 = .ok (.aload_n 0, 1) := by decide +kernel
theorem dd_M_plus_90 : decode cd_M_plus 90 = .ok (.getfield 154, 3) := by decide +kernel
theorem dd_M_plus_93 : decode cd_M_plus 93 = .ok (.aload_n 0, 1) := by decide +kernel
theorem dd_M_plus_94 : decode cd_M_plus 94 = .ok (.getfield 151, 3) := by decide +kernel
theorem dd_M_plus_97 : decode cd_M_plus 97 = .ok (.invokevirtual 157, 3) := by decide +kernel
theorem dd_M_plus_100 : decode cd_M_plus 100 = .ok (.ifCond .ne 53, 3) := by decide +kernel
theorem dd_M_plus_103 : decode cd_M_plus 103 = .ok (.aload_n 0, 1) := by decide +kernel
theorem dd_M_plus_104 : decode cd_M_plus 104 = .ok (.getfield 151, 3) := by decide +kernel
theorem dd_M_plus_107 : decode cd_M_plus 107 = .ok (.aload_n 0, 1) := by decide +kernel
theorem dd_M_plus_108 : decode cd_M_plus 108 = .ok (.getfield 148, 3) := by decide +kernel
theorem dd_M_plus_111 : decode cd_M_plus 111 = .ok (.invokestatic 144, 3) := by decide +kernel
theorem dd_M_plus_114 : decode cd_M_plus 114 = .ok (.ifCond .eq 7, 3) := by decide +kernel
theorem dd_M_plus_117 : decode cd_M_plus 117 = .ok (.lconst 1, 1) := by decide +kernel
theorem dd_M_plus_118 : decode cd_M_plus 118 = .ok (.goto 4, 3) := by decide +kernel
theorem dd_M_plus_121 : decode cd_M_plus 121 = .ok (.lconst 0, 1) := by decide +kernel
theorem dd_M_plus_122 : decode cd_M_plus 122 = .ok (.lstore 12, 2) := by decide +kernel
theorem dd_M_plus_124 : decode cd_M_plus 124 = .ok (.aload_n 0, 1) := by decide +kernel
theorem dd_M_plus_125 : decode cd_M_plus 125 = .ok (.aload_n 0, 1) := by decide +kernel
theorem dd_M_plus_126 : decode cd_M_plus 126 = .ok (.getfield 151, 3) := by decide +kernel
theorem dd_M_plus_129 : decode cd_M_plus 129 = .ok (.aload_n 0, 1) := by decide +kernel
theorem dd_M_plus_130 : decode cd_M_plus 130 = .ok (.getfield 148, 3) := by decide +kernel
theorem dd_M_plus_133 : decode cd_M_plus 133 = .ok (.lsub, 1) := by decide +kernel
theorem dd_M_plus_134 : decode cd_M_plus 134 = .ok (.putfield 151, 3) := by decide +kernel
theorem dd_M_plus_137 : decode cd_M_plus 137 = .ok (.aload_n 0, 1) := by decide +kernel
theorem dd_M_plus_138 : decode cd_M_plus 138 = .ok (.aload_n 0, 1) := by decide +kernel
theorem dd_M_plus_139 : decode cd_M_plus 139 = .ok (.getfield 154, 3) := by decide +kernel
theorem dd_M_plus_142 : decode cd_M_plus 142 = .ok (.aload_n 0, 1) := by decide +kernel
theorem dd_M_plus_143 : decode cd_M_plus 143 = .ok (.getfield 140, 3) := by decide +kernel
theorem dd_M_plus_146 : decode cd_M_plus 146 = .ok (.lsub, 1) := by decide +kernel
theorem dd_M_plus_147 : decode cd_M_plus 147 = .ok (.lload 12, 2) := by decide +kernel
theorem dd_M_plus_149 : decode cd_M_plus 149 = .ok (.lsub, 1) := by decide +kernel
theorem dd_M_plus_150 : decode cd_M_plus 150 = .ok (.putfield 154, 3) := by decide +kernel
theorem dd_M_plus_153 : decode cd_M_plus 153 = .ok (.return_, 1) := by decide +kernel
theorem dd_M_multiply_0 : decode cd_M_multiply 0 = .ok (.lconst 0, 1) := by decide +kernel
theorem dd_M_multiply_1 : decode cd_M_multiply 1 = .ok (.lstore 9, 2) := by decide +kernel
theorem dd_M_multiply_3 : decode cd_M_multiply 3 = .ok (.lconst 0, 1) := by decide +kernel
theorem dd_M_multiply_4 : decode cd_M_multiply 4 = .ok (.lstore 11, 2) := by decide +kernel
theorem dd_M_multiply_6 : decode cd_M_multiply 6 = .ok (.bipush 127, 2) := by decide +kernel
theorem dd_M_multiply_8 : decode cd_M_multiply 8 = .ok (.istore 13, 2) := by decide +kernel
theorem dd_M_multiply_10 : decode cd_M_multiply 10 = .ok (.iload 13, 2) := by decide +kernel
theorem dd_M_multiply_12 : decode cd_M_multiply 12 = .ok (.ifCond .lt 85, 3) := by decide +kernel
theorem dd_M_multiply_15 : decode cd_M_multiply 15 = .ok (.aload_n 0, 1) := by decide +kernel
theorem dd_M_multiply_16 : decode cd_M_multiply 16 = .ok (.lload 9, 2) := by decide +kernel
theorem dd_M_multiply_18 : decode cd_M_multiply 18 = .ok (.lload 11, 2) := by decide +kernel
theorem dd_M_multiply_20 : decode cd_M_multiply 20 = .ok (.lload 9, 2) := by decide +kernel
theorem dd_M_multiply_22 : decode cd_M_multiply 22 = .ok (.lload 11, 2) := by decide +kernel
theorem dd_M_multiply_24 : decode cd_M_multiply 24 = .ok (.invokevirtual 160, 3) := by decide +kernel
theorem dd_M_multiply_27 : decode cd_M_multiply 27 = .ok (.aload_n 0, 1) := by decide +kernel
theorem dd_M_multiply_28 : decode cd_M_multiply 28 = .ok (.getfield 154, 3) := by decide +kernel
theorem dd_M_multiply_31 : decode cd_M_multiply 31 = .ok (.lstore 9, 2) := by decide +kernel
theorem dd_M_multiply_33 : decode cd_M_multiply 33 = .ok (.aload_n 0, 1) := by decide +kernel
theorem dd_M_multiply_34 : decode cd_M_multiply 34 = .ok (.getfield 151, 3) := by decide +kernel
theorem dd_M_multiply_37 : decode cd_M_multiply 37 = .ok (.lstore 11, 2) := by decide +kernel
theorem dd_M_multiply_39 : decode cd_M_multiply 39 = .ok (.iload 13, 2) := by decide +kernel
theorem dd_M_multiply_41 : decode cd_M_multiply 41 = .ok (.bipush 64, 2) := by decide +kernel
theorem dd_M_multiply_43 : decode cd_M_multiply 43 = .ok (.if_icmp .ge 11, 3) := by decide +kernel
theorem dd_M_multiply_46 : decode cd_M_multiply 46 = .ok (.lload 7, 2) := by decide +kernel
theorem dd_M_multiply_48 : decode cd_M_multiply 48 = .ok (.iload 13, 2) := by decide +kernel
theorem dd_M_multiply_50 : decode cd_M_multiply 50 = .ok (.lshr, 1) := by decide +kernel
theorem dd_M_multiply_51 : decode cd_M_multiply 51 = .ok (.goto 11, 3) := by decide +kernel
theorem dd_M_multiply_54 : decode cd_M_multiply 54 = .ok (.lload 5, 2) := by decide +kernel
theorem dd_M_multiply_56 : decode cd_M_multiply 56 = .ok (.iload 13, 2) := by decide +kernel
theorem dd_M_multiply_58 : decode cd_M_multiply 58 = .ok (.bipush 64, 2) := by decide +kernel
theorem dd_M_multiply_60 : decode cd_M_multiply 60 = .ok (.isub, 1) := by decide +kernel
theorem dd_M_multiply_61 : decode cd_M_multiply 61 = .ok (.lshr, 1) := by decide +kernel
theorem dd_M_multiply_62 : decode cd_M_multiply 62 = .ok (.lconst 1, 1) := by decide +kernel
theorem dd_M_multiply_63 : decode cd_M_multiply 63 = .ok (.land, 1) := by decide +kernel
theorem dd_M_multiply_64 : decode cd_M_multiply 64 = .ok (.lconst 1, 1) := by decide +kernel
theorem dd_M_multiply_65 : decode cd_M_multiply 65 = .ok (.lcmp, 1) := by decide +kernel
theorem dd_M_multiply_66 : decode cd_M_multiply 66 = .ok (.ifCond .ne 25, 3) := by decide +kernel
theorem dd_M_multiply_69 : decode cd_M_multiply 69 = .ok (.aload_n 0, 1) := by decide +kernel
theorem dd_M_multiply_70 : decode cd_M_multiply 70 = .ok (.lload 9, 2) := by decide +kernel
theorem dd_M_multiply_72 : decode cd_M_multiply 72 = .ok (.lload 11, 2) := by decide +kernel
theorem dd_M_multiply_74 : decode cd_M_multiply 74 = .ok (.lload_n 1, 1) := by decide +kernel
theorem dd_M_multiply_75 : decode cd_M_multiply 75 = .ok (.lload_n 3, 1) := by decide +kernel
theorem dd_M_multiply_76 : decode cd_M_multiply 76 = .ok (.invokevirtual 160, 3) := by decide +kernel
theorem dd_M_multiply_79 : decode cd_M_multiply 79 = .ok (.aload_n 0, 1) := by decide +kernel
theorem dd_M_multiply_80 : decode cd_M_multiply 80 = .ok (.getfield 154, 3) := by decide +kernel
theorem dd_M_multiply_83 : decode cd_M_multiply 83 = .ok (.lstore 9, 2) := by decide +kernel
theorem dd_M_multiply_85 : decode cd_M_multiply 85 = .ok (.aload_n 0, 1) := by decide +kernel
theorem dd_M_multiply_86 : decode cd_M_multiply 86 = .ok (.getfield 151, 3) := by decide +kernel
theorem dd_M_multiply_89 : decode cd_M_multiply 89 = .ok (.lstore 11, 2) := by decide +kernel
theorem dd_M_multiply_91 : decode cd_M_multiply 91 = .ok (.iinc 13 (-1), 3) := by decide +kernel
theorem dd_M_multiply_94 : decode cd_M_multiply 94 = .ok (.goto (-84), 3) := by decide +kernel
theorem dd_M_multiply_97 : decode cd_M_multiply 97 = .ok (.aload_n 0, 1) := by decide +kernel
theorem dd_M_multiply_98 : decode cd_M_multiply 98 = .ok (.lload 9, 2) := by decide +kernel
theorem dd_M_multiply_100 : decode cd_M_multiply 100 = .ok (.putfield 154, 3) := by decide +kernel
theorem dd_M_multiply_103 : decode cd_M_multiply 103 = .ok (.aload_n 0, 1) := by decide +kernel
theorem dd_M_multiply_104 : decode cd_M_multiply 104 = .ok (.lload 11, 2) := by decide +kernel
theorem dd_M_multiply_106 : decode cd_M_multiply 106 = .ok (.putfield 151, 3) := by decide +kernel
theorem dd_M_multiply_109 : decode cd_M_multiply 109 = .ok (.return_, 1) := by decide +kernel
theorem dd_M_power_0 : decode cd_M_power 0 = .ok (.lconst 0, 1) := by decide +kernel
theorem dd_M_power_1 : decode cd_M_power 1 = .ok (.lstore 6, 2) := by decide +kernel
theorem dd_M_power_3 : decode cd_M_power 3 = .ok (.lconst 1, 1) := by decide +kernel
theorem dd_M_power_4 : decode cd_M_power 4 = .ok (.lstore 8, 2) := by decide +kernel
theorem dd_M_power_6 : decode cd_M_power 6 = .ok (.bipush 30, 2) := by decide +kernel
theorem dd_M_power_8 : decode cd_M_power 8 = .ok (.istore 10, 2) := by decide +kernel
theorem dd_M_power_10 : decode cd_M_power 10 = .ok (.iload 10, 2) := by decide +kernel
theorem dd_M_power_12 : decode cd_M_power 12 = .ok (.ifCond .lt 66, 3) := by decide +kernel
theorem dd_M_power_15 : decode cd_M_power 15 = .ok (.aload_n 0, 1) := by decide +kernel
theorem dd_M_power_16 : decode cd_M_power 16 = .ok (.lload 6, 2) := by decide +kernel
theorem dd_M_power_18 : decode cd_M_power 18 = .ok (.lload 8, 2) := by decide +kernel
theorem dd_M_power_20 : decode cd_M_power 20 = .ok (.lload 6, 2) := by decide +kernel
theorem dd_M_power_22 : decode cd_M_power 22 = .ok (.lload 8, 2) := by decide +kernel
theorem dd_M_power_24 : decode cd_M_power 24 = .ok (.invokevirtual 164, 3) := by decide +kernel
theorem dd_M_power_27 : decode cd_M_power 27 = .ok (.aload_n 0, 1) := by decide +kernel
theorem dd_M_power_28 : decode cd_M_power 28 = .ok (.getfield 154, 3) := by decide +kernel
theorem dd_M_power_31 : decode cd_M_power 31 = .ok (.lstore 6, 2) := by decide +kernel
theorem dd_M_power_33 : decode cd_M_power 33 = .ok (.aload_n 0, 1) := by decide +kernel
theorem dd_M_power_34 : decode cd_M_power 34 = .ok (.getfield 151, 3) := by decide +kernel
theorem dd_M_power_37 : decode cd_M_power 37 = .ok (.lstore 8, 2) := by decide +kernel
theorem dd_M_power_39 : decode cd_M_power 39 = .ok (.iload 5, 2) := by decide +kernel
theorem dd_M_power_41 : decode cd_M_power 41 = .ok (.iload 10, 2) := by decide +kernel
theorem dd_M_power_43 : decode cd_M_power 43 = .ok (.ishr, 1) := by decide +kernel
theorem dd_M_power_44 : decode cd_M_power 44 = .ok (.iconst 1, 1) := by decide +kernel
theorem dd_M_power_45 : decode cd_M_power 45 = .ok (.iand, 1) := by decide +kernel
theorem dd_M_power_46 : decode cd_M_power 46 = .ok (.iconst 1, 1) := by decide +kernel
theorem dd_M_power_47 : decode cd_M_power 47 = .ok (.if_icmp .ne 25, 3) := by decide +kernel
theorem dd_M_power_50 : decode cd_M_power 50 = .ok (.aload_n 0, 1) := by decide +kernel
theorem dd_M_power_51 : decode cd_M_power 51 = .ok (.lload 6, 2) := by decide +kernel
theorem dd_M_power_53 : decode cd_M_power 53 = .ok (.lload 8, 2) := by decide +kernel
theorem dd_M_power_55 : decode cd_M_power 55 = .ok (.lload_n 1, 1) := by decide +kernel
theorem dd_M_power_56 : decode cd_M_power 56 = .ok (.lload_n 3, 1) := by decide +kernel
theorem dd_M_power_57 : decode cd_M_power 57 = .ok (.invokevirtual 164, 3) := by decide +kernel
theorem dd_M_power_60 : decode cd_M_power 60 = .ok (.aload_n 0, 1) := by decide +kernel
theorem dd_M_power_61 : decode cd_M_power 61 = .ok (.getfield 154, 3) := by decide +kernel
theorem dd_M_power_64 : decode cd_M_power 64 = .ok (.lstore 6, 2) := by decide +kernel
theorem dd_M_power_66 : decode cd_M_power 66 = .ok (.aload_n 0, 1) := by decide +kernel
theorem dd_M_power_67 : decode cd_M_power 67 = .ok (.getfield 151, 3) := by decide +kernel
theorem dd_M_power_70 : decode cd_M_power 70 = .ok (.lstore 8, 2) := by decide +kernel
theorem dd_M_power_72 : decode cd_M_power 72 = .ok (.iinc 10 (-1), 3) := by decide +kernel
theorem dd_M_power_75 : decode cd_M_power 75 = .ok (.goto (-65), 3) := by decide +kernel
theorem dd_M_power_78 : decode cd_M_power 78 = .ok (.aload_n 0, 1) := by decide +kernel
theorem dd_M_power_79 : decode cd_M_power 79 = .ok (.lload 6, 2) := by decide +kernel
theorem dd_M_power_81 : decode cd_M_power 81 = .ok (.putfield 154, 3) := by decide +kernel
theorem dd_M_power_84 : decode cd_M_power 84 = .ok (.aload_n 0, 1) := by decide +kernel
theorem dd_M_power_85 : decode cd_M_power 85 = .ok (.lload 8, 2) := by decide +kernel
theorem dd_M_power_87 : decode cd_M_power 87 = .ok (.putfield 151, 3) := by decide +kernel
theorem dd_M_power_90 : decode cd_M_power 90 = .ok (.return_, 1) := by decide +kernel
theorem dd_M_powerOfWords_0 : decode cd_M_powerOfWords 0 = .ok (.lconst 0, 1) := by decide +kernel
theorem dd_M_powerOfWords_1 : decode cd_M_powerOfWords 1 = .ok (.lstore 5, 2) := by decide +kernel
theorem dd_M_powerOfWords_3 : decode cd_M_powerOfWords 3 = .ok (.lconst 1, 1) := by decide +kernel
theorem dd_M_powerOfWords_4 : decode cd_M_powerOfWords 4 = .ok (.lstore 7, 2) := by decide +kernel
theorem dd_M_powerOfWords_6 : decode cd_M_powerOfWords 6 = .ok (.iconst 0, 1) := by decide +kernel
theorem dd_M_powerOfWords_7 : decode cd_M_powerOfWords 7 = .ok (.istore 9, 2) := by decide +kernel
theorem dd_M_powerOfWords_9 : decode cd_M_powerOfWords 9 = .ok (.sipush 511, 3) := by decide +kernel
theorem dd_M_powerOfWords_12 : decode cd_M_powerOfWords 12 = .ok (.istore 10, 2) := by decide +kernel
theorem dd_M_powerOfWords_14 : decode cd_M_powerOfWords 14 = .ok (.iload 10, 2) := by decide +kernel
theorem dd_M_powerOfWords_16 : decode cd_M_powerOfWords 16 = .ok (.ifCond .lt 85, 3) := by decide +kernel
theorem dd_M_powerOfWords_19 : decode cd_M_powerOfWords 19 = .ok (.iload 9, 2) := by decide +kernel
theorem dd_M_powerOfWords_21 : decode cd_M_powerOfWords 21 = .ok (.ifCond .eq 27, 3) := by decide +kernel
theorem dd_M_powerOfWords_24 : decode cd_M_powerOfWords 24 = .ok (.aload_n 0, 1) := by decide +kernel
theorem dd_M_powerOfWords_25 : decode cd_M_powerOfWords 25 = .ok (.lload 5, 2) := by decide +kernel
theorem dd_M_powerOfWords_27 : decode cd_M_powerOfWords 27 = .ok (.lload 7, 2) := by decide +kernel
theorem dd_M_powerOfWords_29 : decode cd_M_powerOfWords 29 = .ok (.lload 5, 2) := by decide +kernel
theorem dd_M_powerOfWords_31 : decode cd_M_powerOfWords 31 = .ok (.lload 7, 2) := by decide +kernel
theorem dd_M_powerOfWords_33 : decode cd_M_powerOfWords 33 = .ok (.invokevirtual 164, 3) := by decide +kernel
theorem dd_M_powerOfWords_36 : decode cd_M_powerOfWords 36 = .ok (.aload_n 0, 1) := by decide +kernel
theorem dd_M_powerOfWords_37 : decode cd_M_powerOfWords 37 = .ok (.getfield 154, 3) := by decide +kernel
theorem dd_M_powerOfWords_40 : decode cd_M_powerOfWords 40 = .ok (.lstore 5, 2) := by decide +kernel
theorem dd_M_powerOfWords_42 : decode cd_M_powerOfWords 42 = .ok (.aload_n 0, 1) := by decide +kernel
theorem dd_M_powerOfWords_43 : decode cd_M_powerOfWords 43 = .ok (.getfield 151, 3) := by decide +kernel
theorem dd_M_powerOfWords_46 : decode cd_M_powerOfWords 46 = .ok (.lstore 7, 2) := by decide +kernel
theorem dd_M_powerOfWords_48 : decode cd_M_powerOfWords 48 = .ok (.aload_n 0, 1) := by decide +kernel
theorem dd_M_powerOfWords_49 : decode cd_M_powerOfWords 49 = .ok (.getfield 102, 3) := by decide +kernel
theorem dd_M_powerOfWords_52 : decode cd_M_powerOfWords 52 = .ok (.iload 10, 2) := by decide +kernel
theorem dd_M_powerOfWords_54 : decode cd_M_powerOfWords 54 = .ok (.bipush 16, 2) := by decide +kernel
theorem dd_M_powerOfWords_56 : decode cd_M_powerOfWords 56 = .ok (.idiv, 1) := by decide +kernel
theorem dd_M_powerOfWords_57 : decode cd_M_powerOfWords 57 = .ok (.iaload, 1) := by decide +kernel
theorem dd_M_powerOfWords_58 : decode cd_M_powerOfWords 58 = .ok (.iload 10, 2) := by decide +kernel
theorem dd_M_powerOfWords_60 : decode cd_M_powerOfWords 60 = .ok (.bipush 16, 2) := by decide +kernel
theorem dd_M_powerOfWords_62 : decode cd_M_powerOfWords 62 = .ok (.irem, 1) := by decide +kernel
theorem dd_M_powerOfWords_63 : decode cd_M_powerOfWords 63 = .ok (.ishr, 1) := by decide +kernel
theorem dd_M_powerOfWords_64 : decode cd_M_powerOfWords 64 = .ok (.iconst 1, 1) := by decide +kernel
theorem dd_M_powerOfWords_65 : decode cd_M_powerOfWords 65 = .ok (.iand, 1) := by decide +kernel
theorem dd_M_powerOfWords_66 : decode cd_M_powerOfWords 66 = .ok (.iconst 1, 1) := by decide +kernel
theorem dd_M_powerOfWords_67 : decode cd_M_powerOfWords 67 = .ok (.if_icmp .ne 28, 3) := by decide +kernel
theorem dd_M_powerOfWords_70 : decode cd_M_powerOfWords 70 = .ok (.aload_n 0, 1) := by decide +kernel
theorem dd_M_powerOfWords_71 : decode cd_M_powerOfWords 71 = .ok (.lload 5, 2) := by decide +kernel
theorem dd_M_powerOfWords_73 : decode cd_M_powerOfWords 73 = .ok (.lload 7, 2) := by decide +kernel
theorem dd_M_powerOfWords_75 : decode cd_M_powerOfWords 75 = .ok (.lload_n 1, 1) := by decide +kernel
theorem dd_M_powerOfWords_76 : decode cd_M_powerOfWords 76 = .ok (.lload_n 3, 1) := by decide +kernel
theorem dd_M_powerOfWords_77 : decode cd_M_powerOfWords 77 = .ok (.invokevirtual 164, 3) := by decide +kernel
theorem dd_M_powerOfWords_80 : decode cd_M_powerOfWords 80 = .ok (.aload_n 0, 1) := by decide +kernel
theorem dd_M_powerOfWords_81 : decode cd_M_powerOfWords 81 = .ok (.getfield 154, 3) := by decide +kernel
theorem dd_M_powerOfWords_84 : decode cd_M_powerOfWords 84 = .ok (.lstore 5, 2) := by decide +kernel
theorem dd_M_powerOfWords_86 : decode cd_M_powerOfWords 86 = .ok (.aload_n 0, 1) := by decide +kernel
theorem dd_M_powerOfWords_87 : decode cd_M_powerOfWords 87 = .ok (.getfield 151, 3) := by decide +kernel
theorem dd_M_powerOfWords_90 : decode cd_M_powerOfWords 90 = .ok (.lstore 7, 2) := by decide +kernel
theorem dd_M_powerOfWords_92 : decode cd_M_powerOfWords 92 = .ok (.iconst 1, 1) := by decide +kernel
theorem dd_M_powerOfWords_93 : decode cd_M_powerOfWords 93 = .ok (.istore 9, 2) := by decide +kernel
theorem dd_M_powerOfWords_95 : decode cd_M_powerOfWords 95 = .ok (.iinc 10 (-1), 3) := by decide +kernel
theorem dd_M_powerOfWords_98 : decode cd_M_powerOfWords 98 = .ok (.goto (-84), 3) := by decide +kernel
theorem dd_M_powerOfWords_101 : decode cd_M_powerOfWords 101 = .ok (.aload_n 0, 1) := by decide +kernel
theorem dd_M_powerOfWords_102 : decode cd_M_powerOfWords 102 = .ok (.lload 5, 2) := by decide +kernel
theorem dd_M_powerOfWords_104 : decode cd_M_powerOfWords 104 = .ok (.putfield 154, 3) := by decide +kernel
theorem dd_M_powerOfWords_107 : decode cd_M_powerOfWords 107 = .ok (.aload_n 0, 1) := by decide +kernel
theorem dd_M_powerOfWords_108 : decode cd_M_powerOfWords 108 = .ok (.lload 7, 2) := by decide +kernel
theorem dd_M_powerOfWords_110 : decode cd_M_powerOfWords 110 = .ok (.putfield 151, 3) := by decide +kernel
theorem dd_M_powerOfWords_113 : decode cd_M_powerOfWords 113 = .ok (.return_, 1) := by decide +kernel
theorem dd_M_beginWords_0 : decode cd_M_beginWords 0 = .ok (.iconst 0, 1) := by decide +kernel
theorem dd_M_beginWords_1 : decode cd_M_beginWords 1 = .ok (.istore_n 1, 1) := by decide +kernel
theorem dd_M_beginWords_2 : decode cd_M_beginWords 2 = .ok (.iload_n 1, 1) := by decide +kernel
theorem dd_M_beginWords_3 : decode cd_M_beginWords 3 = .ok (.bipush 32, 2) := by decide +kernel
theorem dd_M_beginWords_5 : decode cd_M_beginWords 5 = .ok (.if_icmp .ge 24, 3) := by decide +kernel
theorem dd_M_beginWords_8 : decode cd_M_beginWords 8 = .ok (.aload_n 0, 1) := by decide +kernel
theorem dd_M_beginWords_9 : decode cd_M_beginWords 9 = .ok (.getfield 102, 3) := by decide +kernel
theorem dd_M_beginWords_12 : decode cd_M_beginWords 12 = .ok (.iload_n 1, 1) := by decide +kernel
theorem dd_M_beginWords_13 : decode cd_M_beginWords 13 = .ok (.iload_n 1, 1) := by decide +kernel
theorem dd_M_beginWords_14 : decode cd_M_beginWords 14 = .ok (.ifCond .ne 7, 3) := by decide +kernel
theorem dd_M_beginWords_17 : decode cd_M_beginWords 17 = .ok (.iconst 1, 1) := by decide +kernel
theorem dd_M_beginWords_18 : decode cd_M_beginWords 18 = .ok (.goto 4, 3) := by decide +kernel
theorem dd_M_beginWords_21 : decode cd_M_beginWords 21 = .ok (.iconst 0, 1) := by decide +kernel
theorem dd_M_beginWords_22 : decode cd_M_beginWords 22 = .ok (.iastore, 1) := by decide +kernel
theorem dd_M_beginWords_23 : decode cd_M_beginWords 23 = .ok (.iinc 1 1, 3) := by decide +kernel
theorem dd_M_beginWords_26 : decode cd_M_beginWords 26 = .ok (.goto (-24), 3) := by decide +kernel
theorem dd_M_beginWords_29 : decode cd_M_beginWords 29 = .ok (.return_, 1) := by decide +kernel
theorem dd_M_multiplyWords_0 : decode cd_M_multiplyWords 0 = .ok (.lconst 0, 1) := by decide +kernel
theorem dd_M_multiplyWords_1 : decode cd_M_multiplyWords 1 = .ok (.lstore_n 2, 1) := by decide +kernel
theorem dd_M_multiplyWords_2 : decode cd_M_multiplyWords 2 = .ok (.iconst 0, 1) := by decide +kernel
theorem dd_M_multiplyWords_3 : decode cd_M_multiplyWords 3 = .ok (.istore 4, 2) := by decide +kernel
theorem dd_M_multiplyWords_5 : decode cd_M_multiplyWords 5 = .ok (.iload 4, 2) := by decide +kernel
theorem dd_M_multiplyWords_7 : decode cd_M_multiplyWords 7 = .ok (.bipush 32, 2) := by decide +kernel
theorem dd_M_multiplyWords_9 : decode cd_M_multiplyWords 9 = .ok (.if_icmp .ge 41, 3) := by decide +kernel
theorem dd_M_multiplyWords_12 : decode cd_M_multiplyWords 12 = .ok (.lload_n 2, 1) := by decide +kernel
theorem dd_M_multiplyWords_13 : decode cd_M_multiplyWords 13 = .ok (.aload_n 0, 1) := by decide +kernel
theorem dd_M_multiplyWords_14 : decode cd_M_multiplyWords 14 = .ok (.getfield 102, 3) := by decide +kernel
theorem dd_M_multiplyWords_17 : decode cd_M_multiplyWords 17 = .ok (.iload 4, 2) := by decide +kernel
theorem dd_M_multiplyWords_19 : decode cd_M_multiplyWords 19 = .ok (.iaload, 1) := by decide +kernel
theorem dd_M_multiplyWords_20 : decode cd_M_multiplyWords 20 = .ok (.i2l, 1) := by decide +kernel
theorem dd_M_multiplyWords_21 : decode cd_M_multiplyWords 21 = .ok (.iload_n 1, 1) := by decide +kernel
theorem dd_M_multiplyWords_22 : decode cd_M_multiplyWords 22 = .ok (.i2l, 1) := by decide +kernel
theorem dd_M_multiplyWords_23 : decode cd_M_multiplyWords 23 = .ok (.lmul, 1) := by decide +kernel
theorem dd_M_multiplyWords_24 : decode cd_M_multiplyWords 24 = .ok (.ladd, 1) := by decide +kernel
theorem dd_M_multiplyWords_25 : decode cd_M_multiplyWords 25 = .ok (.lstore_n 2, 1) := by decide +kernel
theorem dd_M_multiplyWords_26 : decode cd_M_multiplyWords 26 = .ok (.aload_n 0, 1) := by decide +kernel
theorem dd_M_multiplyWords_27 : decode cd_M_multiplyWords 27 = .ok (.getfield 102, 3) := by decide +kernel
theorem dd_M_multiplyWords_30 : decode cd_M_multiplyWords 30 = .ok (.iload 4, 2) := by decide +kernel
theorem dd_M_multiplyWords_32 : decode cd_M_multiplyWords 32 = .ok (.lload_n 2, 1) := by decide +kernel
theorem dd_M_multiplyWords_33 : decode cd_M_multiplyWords 33 = .ok (.ldc2_w 167, 3) := by decide +kernel
theorem dd_M_multiplyWords_36 : decode cd_M_multiplyWords 36 = .ok (.land, 1) := by decide +kernel
theorem dd_M_multiplyWords_37 : decode cd_M_multiplyWords 37 = .ok (.l2i, 1) := by decide +kernel
theorem dd_M_multiplyWords_38 : decode cd_M_multiplyWords 38 = .ok (.iastore, 1) := by decide +kernel
theorem dd_M_multiplyWords_39 : decode cd_M_multiplyWords 39 = .ok (.lload_n 2, 1) := by decide +kernel
theorem dd_M_multiplyWords_40 : decode cd_M_multiplyWords 40 = .ok (.bipush 16, 2) := by decide +kernel
theorem dd_M_multiplyWords_42 : decode cd_M_multiplyWords 42 = .ok (.lshr, 1) := by decide +kernel
theorem dd_M_multiplyWords_43 : decode cd_M_multiplyWords 43 = .ok (.lstore_n 2, 1) := by decide +kernel
theorem dd_M_multiplyWords_44 : decode cd_M_multiplyWords 44 = .ok (.iinc 4 1, 3) := by decide +kernel
theorem dd_M_multiplyWords_47 : decode cd_M_multiplyWords 47 = .ok (.goto (-42), 3) := by decide +kernel
theorem dd_M_multiplyWords_50 : decode cd_M_multiplyWords 50 = .ok (.return_, 1) := by decide +kernel
theorem dd_M_restOfWords_0 : decode cd_M_restOfWords 0 = .ok (.lconst 0, 1) := by decide +kernel
theorem dd_M_restOfWords_1 : decode cd_M_restOfWords 1 = .ok (.lstore_n 2, 1) := by decide +kernel
theorem dd_M_restOfWords_2 : decode cd_M_restOfWords 2 = .ok (.bipush 31, 2) := by decide +kernel
theorem dd_M_restOfWords_4 : decode cd_M_restOfWords 4 = .ok (.istore 4, 2) := by decide +kernel
theorem dd_M_restOfWords_6 : decode cd_M_restOfWords 6 = .ok (.iload 4, 2) := by decide +kernel
theorem dd_M_restOfWords_8 : decode cd_M_restOfWords 8 = .ok (.ifCond .lt 27, 3) := by decide +kernel
theorem dd_M_restOfWords_11 : decode cd_M_restOfWords 11 = .ok (.lload_n 2, 1) := by decide +kernel
theorem dd_M_restOfWords_12 : decode cd_M_restOfWords 12 = .ok (.ldc2_w 169, 3) := by decide +kernel
theorem dd_M_restOfWords_15 : decode cd_M_restOfWords 15 = .ok (.lmul, 1) := by decide +kernel
theorem dd_M_restOfWords_16 : decode cd_M_restOfWords 16 = .ok (.aload_n 0, 1) := by decide +kernel
theorem dd_M_restOfWords_17 : decode cd_M_restOfWords 17 = .ok (.getfield 102, 3) := by decide +kernel
theorem dd_M_restOfWords_20 : decode cd_M_restOfWords 20 = .ok (.iload 4, 2) := by decide +kernel
theorem dd_M_restOfWords_22 : decode cd_M_restOfWords 22 = .ok (.iaload, 1) := by decide +kernel
theorem dd_M_restOfWords_23 : decode cd_M_restOfWords 23 = .ok (.i2l, 1) := by decide +kernel
theorem dd_M_restOfWords_24 : decode cd_M_restOfWords 24 = .ok (.ladd, 1) := by decide +kernel
theorem dd_M_restOfWords_25 : decode cd_M_restOfWords 25 = .ok (.iload_n 1, 1) := by decide +kernel
theorem dd_M_restOfWords_26 : decode cd_M_restOfWords 26 = .ok (.i2l, 1) := by decide +kernel
theorem dd_M_restOfWords_27 : decode cd_M_restOfWords 27 = .ok (.lrem, 1) := by decide +kernel
theorem dd_M_restOfWords_28 : decode cd_M_restOfWords 28 = .ok (.lstore_n 2, 1) := by decide +kernel
theorem dd_M_restOfWords_29 : decode cd_M_restOfWords 29 = .ok (.iinc 4 (-1), 3) := by decide +kernel
theorem dd_M_restOfWords_32 : decode cd_M_restOfWords 32 = .ok (.goto (-26), 3) := by decide +kernel
theorem dd_M_restOfWords_35 : decode cd_M_restOfWords 35 = .ok (.lload_n 2, 1) := by decide +kernel
theorem dd_M_restOfWords_36 : decode cd_M_restOfWords 36 = .ok (.lreturn, 1) := by decide +kernel
theorem dd_M_invertWords_0 : decode cd_M_invertWords 0 = .ok (.aload_n 0, 1) := by decide +kernel
theorem dd_M_invertWords_1 : decode cd_M_invertWords 1 = .ok (.iload_n 1, 1) := by decide +kernel
theorem dd_M_invertWords_2 : decode cd_M_invertWords 2 = .ok (.invokevirtual 171, 3) := by decide +kernel
theorem dd_M_invertWords_5 : decode cd_M_invertWords 5 = .ok (.lstore_n 2, 1) := by decide +kernel
theorem dd_M_invertWords_6 : decode cd_M_invertWords 6 = .ok (.lconst 1, 1) := by decide +kernel
theorem dd_M_invertWords_7 : decode cd_M_invertWords 7 = .ok (.lstore 4, 2) := by decide +kernel
theorem dd_M_invertWords_9 : decode cd_M_invertWords 9 = .ok (.bipush 30, 2) := by decide +kernel
theorem dd_M_invertWords_11 : decode cd_M_invertWords 11 = .ok (.istore 6, 2) := by decide +kernel
theorem dd_M_invertWords_13 : decode cd_M_invertWords 13 = .ok (.iload 6, 2) := by decide +kernel
theorem dd_M_invertWords_15 : decode cd_M_invertWords 15 = .ok (.ifCond .lt 45, 3) := by decide +kernel
theorem dd_M_invertWords_18 : decode cd_M_invertWords 18 = .ok (.lload 4, 2) := by decide +kernel
theorem dd_M_invertWords_20 : decode cd_M_invertWords 20 = .ok (.lload 4, 2) := by decide +kernel
theorem dd_M_invertWords_22 : decode cd_M_invertWords 22 = .ok (.lmul, 1) := by decide +kernel
theorem dd_M_invertWords_23 : decode cd_M_invertWords 23 = .ok (.iload_n 1, 1) := by decide +kernel
theorem dd_M_invertWords_24 : decode cd_M_invertWords 24 = .ok (.i2l, 1) := by decide +kernel
theorem dd_M_invertWords_25 : decode cd_M_invertWords 25 = .ok (.lrem, 1) := by decide +kernel
theorem dd_M_invertWords_26 : decode cd_M_invertWords 26 = .ok (.lstore 4, 2) := by decide +kernel
theorem dd_M_invertWords_28 : decode cd_M_invertWords 28 = .ok (.iload_n 1, 1) := by decide +kernel
theorem dd_M_invertWords_29 : decode cd_M_invertWords 29 = .ok (.iconst 2, 1) := by decide +kernel
theorem dd_M_invertWords_30 : decode cd_M_invertWords 30 = .ok (.isub, 1) := by decide +kernel
theorem dd_M_invertWords_31 : decode cd_M_invertWords 31 = .ok (.iload 6, 2) := by decide +kernel
theorem dd_M_invertWords_33 : decode cd_M_invertWords 33 = .ok (.ishr, 1) := by decide +kernel
theorem dd_M_invertWords_34 : decode cd_M_invertWords 34 = .ok (.iconst 1, 1) := by decide +kernel
theorem dd_M_invertWords_35 : decode cd_M_invertWords 35 = .ok (.iand, 1) := by decide +kernel
theorem dd_M_invertWords_36 : decode cd_M_invertWords 36 = .ok (.iconst 1, 1) := by decide +kernel
theorem dd_M_invertWords_37 : decode cd_M_invertWords 37 = .ok (.if_icmp .ne 13, 3) := by decide +kernel
theorem dd_M_invertWords_40 : decode cd_M_invertWords 40 = .ok (.lload 4, 2) := by decide +kernel
theorem dd_M_invertWords_42 : decode cd_M_invertWords 42 = .ok (.lload_n 2, 1) := by decide +kernel
theorem dd_M_invertWords_43 : decode cd_M_invertWords 43 = .ok (.lmul, 1) := by decide +kernel
theorem dd_M_invertWords_44 : decode cd_M_invertWords 44 = .ok (.iload_n 1, 1) := by decide +kernel
theorem dd_M_invertWords_45 : decode cd_M_invertWords 45 = .ok (.i2l, 1) := by decide +kernel
theorem dd_M_invertWords_46 : decode cd_M_invertWords 46 = .ok (.lrem, 1) := by decide +kernel
theorem dd_M_invertWords_47 : decode cd_M_invertWords 47 = .ok (.goto 5, 3) := by decide +kernel
theorem dd_M_invertWords_50 : decode cd_M_invertWords 50 = .ok (.lload 4, 2) := by decide +kernel
theorem dd_M_invertWords_52 : decode cd_M_invertWords 52 = .ok (.lstore 4, 2) := by decide +kernel
theorem dd_M_invertWords_54 : decode cd_M_invertWords 54 = .ok (.iinc 6 (-1), 3) := by decide +kernel
theorem dd_M_invertWords_57 : decode cd_M_invertWords 57 = .ok (.goto (-44), 3) := by decide +kernel
theorem dd_M_invertWords_60 : decode cd_M_invertWords 60 = .ok (.aload_n 0, 1) := by decide +kernel
theorem dd_M_invertWords_61 : decode cd_M_invertWords 61 = .ok (.lload 4, 2) := by decide +kernel
theorem dd_M_invertWords_63 : decode cd_M_invertWords 63 = .ok (.l2i, 1) := by decide +kernel
theorem dd_M_invertWords_64 : decode cd_M_invertWords 64 = .ok (.invokevirtual 175, 3) := by decide +kernel
theorem dd_M_invertWords_67 : decode cd_M_invertWords 67 = .ok (.lconst 0, 1) := by decide +kernel
theorem dd_M_invertWords_68 : decode cd_M_invertWords 68 = .ok (.lstore 6, 2) := by decide +kernel
theorem dd_M_invertWords_70 : decode cd_M_invertWords 70 = .ok (.bipush 31, 2) := by decide +kernel
theorem dd_M_invertWords_72 : decode cd_M_invertWords 72 = .ok (.istore 8, 2) := by decide +kernel
theorem dd_M_invertWords_74 : decode cd_M_invertWords 74 = .ok (.iload 8, 2) := by decide +kernel
theorem dd_M_invertWords_76 : decode cd_M_invertWords 76 = .ok (.ifCond .lt 46, 3) := by decide +kernel
theorem dd_M_invertWords_79 : decode cd_M_invertWords 79 = .ok (.lload 6, 2) := by decide +kernel
theorem dd_M_invertWords_81 : decode cd_M_invertWords 81 = .ok (.ldc2_w 169, 3) := by decide +kernel
theorem dd_M_invertWords_84 : decode cd_M_invertWords 84 = .ok (.lmul, 1) := by decide +kernel
theorem dd_M_invertWords_85 : decode cd_M_invertWords 85 = .ok (.aload_n 0, 1) := by decide +kernel
theorem dd_M_invertWords_86 : decode cd_M_invertWords 86 = .ok (.getfield 102, 3) := by decide +kernel
theorem dd_M_invertWords_89 : decode cd_M_invertWords 89 = .ok (.iload 8, 2) := by decide +kernel
theorem dd_M_invertWords_91 : decode cd_M_invertWords 91 = .ok (.iaload, 1) := by decide +kernel
theorem dd_M_invertWords_92 : decode cd_M_invertWords 92 = .ok (.i2l, 1) := by decide +kernel
theorem dd_M_invertWords_93 : decode cd_M_invertWords 93 = .ok (.ladd, 1) := by decide +kernel
theorem dd_M_invertWords_94 : decode cd_M_invertWords 94 = .ok (.lstore 6, 2) := by decide +kernel
theorem dd_M_invertWords_96 : decode cd_M_invertWords 96 = .ok (.aload_n 0, 1) := by decide +kernel
theorem dd_M_invertWords_97 : decode cd_M_invertWords 97 = .ok (.getfield 102, 3) := by decide +kernel
theorem dd_M_invertWords_100 : decode cd_M_invertWords 100 = .ok (.iload 8, 2) := by decide +kernel
theorem dd_M_invertWords_102 : decode cd_M_invertWords 102 = .ok (.lload 6, 2) := by decide +kernel
theorem dd_M_invertWords_104 : decode cd_M_invertWords 104 = .ok (.iload_n 1, 1) := by decide +kernel
theorem dd_M_invertWords_105 : decode cd_M_invertWords 105 = .ok (.i2l, 1) := by decide +kernel
theorem dd_M_invertWords_106 : decode cd_M_invertWords 106 = .ok (.ldiv, 1) := by decide +kernel
theorem dd_M_invertWords_107 : decode cd_M_invertWords 107 = .ok (.l2i, 1) := by decide +kernel
theorem dd_M_invertWords_108 : decode cd_M_invertWords 108 = .ok (.iastore, 1) := by decide +kernel
theorem dd_M_invertWords_109 : decode cd_M_invertWords 109 = .ok (.lload 6, 2) := by decide +kernel
theorem dd_M_invertWords_111 : decode cd_M_invertWords 111 = .ok (.iload_n 1, 1) := by decide +kernel
theorem dd_M_invertWords_112 : decode cd_M_invertWords 112 = .ok (.i2l, 1) := by decide +kernel
theorem dd_M_invertWords_113 : decode cd_M_invertWords 113 = .ok (.lrem, 1) := by decide +kernel
theorem dd_M_invertWords_114 : decode cd_M_invertWords 114 = .ok (.lstore 6, 2) := by decide +kernel
theorem dd_M_invertWords_116 : decode cd_M_invertWords 116 = .ok (.iinc 8 (-1), 3) := by decide +kernel
theorem dd_M_invertWords_119 : decode cd_M_invertWords 119 = .ok (.goto (-45), 3) := by decide +kernel
theorem dd_M_invertWords_122 : decode cd_M_invertWords 122 = .ok (.lload 4, 2) := by decide +kernel
theorem dd_M_invertWords_124 : decode cd_M_invertWords 124 = .ok (.l2i, 1) := by decide +kernel
theorem dd_M_invertWords_125 : decode cd_M_invertWords 125 = .ok (.ireturn, 1) := by decide +kernel
theorem dd_M_thirds_0 : decode cd_M_thirds 0 = .ok (.lload_n 0, 1) := by decide +kernel
theorem dd_M_thirds_1 : decode cd_M_thirds 1 = .ok (.bipush 32, 2) := by decide +kernel
theorem dd_M_thirds_3 : decode cd_M_thirds 3 = .ok (.lushr, 1) := by decide +kernel
theorem dd_M_thirds_4 : decode cd_M_thirds 4 = .ok (.lload_n 0, 1) := by decide +kernel
theorem dd_M_thirds_5 : decode cd_M_thirds 5 = .ok (.ldc2_w 179, 3) := by decide +kernel
theorem dd_M_thirds_8 : decode cd_M_thirds 8 = .ok (.land, 1) := by decide +kernel
theorem dd_M_thirds_9 : decode cd_M_thirds 9 = .ok (.ladd, 1) := by decide +kernel
theorem dd_M_thirds_10 : decode cd_M_thirds 10 = .ok (.ldc2_w 118, 3) := by decide +kernel
theorem dd_M_thirds_13 : decode cd_M_thirds 13 = .ok (.lrem, 1) := by decide +kernel
theorem dd_M_thirds_14 : decode cd_M_thirds 14 = .ok (.lreturn, 1) := by decide +kernel
theorem dd_M_modulus_0 : decode cd_M_modulus 0 = .ok (.aload_n 0, 1) := by decide +kernel
theorem dd_M_modulus_1 : decode cd_M_modulus 1 = .ok (.getfield 181, 3) := by decide +kernel
theorem dd_M_modulus_4 : decode cd_M_modulus 4 = .ok (.ifCond .ne 38, 3) := by decide +kernel
theorem dd_M_modulus_7 : decode cd_M_modulus 7 = .ok (.lload_n 3, 1) := by decide +kernel
theorem dd_M_modulus_8 : decode cd_M_modulus 8 = .ok (.lconst 1, 1) := by decide +kernel
theorem dd_M_modulus_9 : decode cd_M_modulus 9 = .ok (.land, 1) := by decide +kernel
theorem dd_M_modulus_10 : decode cd_M_modulus 10 = .ok (.lconst 0, 1) := by decide +kernel
theorem dd_M_modulus_11 : decode cd_M_modulus 11 = .ok (.lcmp, 1) := by decide +kernel
theorem dd_M_modulus_12 : decode cd_M_modulus 12 = .ok (.ifCond .eq 30, 3) := by decide +kernel
theorem dd_M_modulus_15 : decode cd_M_modulus 15 = .ok (.lload_n 1, 1) := by decide +kernel
theorem dd_M_modulus_16 : decode cd_M_modulus 16 = .ok (.invokestatic 185, 3) := by decide +kernel
theorem dd_M_modulus_19 : decode cd_M_modulus 19 = .ok (.lload_n 3, 1) := by decide +kernel
theorem dd_M_modulus_20 : decode cd_M_modulus 20 = .ok (.invokestatic 185, 3) := by decide +kernel
theorem dd_M_modulus_23 : decode cd_M_modulus 23 = .ok (.ladd, 1) := by decide +kernel
theorem dd_M_modulus_24 : decode cd_M_modulus 24 = .ok (.ldc2_w 118, 3) := by decide +kernel
theorem dd_M_modulus_27 : decode cd_M_modulus 27 = .ok (.lrem, 1) := by decide +kernel
theorem dd_M_modulus_28 : decode cd_M_modulus 28 = .ok (.lconst 0, 1) := by decide +kernel
theorem dd_M_modulus_29 : decode cd_M_modulus 29 = .ok (.lcmp, 1) := by decide +kernel
theorem dd_M_modulus_30 : decode cd_M_modulus 30 = .ok (.ifCond .eq 12, 3) := by decide +kernel
theorem dd_M_modulus_33 : decode cd_M_modulus 33 = .ok (.lload_n 1, 1) := by decide +kernel
theorem dd_M_modulus_34 : decode cd_M_modulus 34 = .ok (.bipush 36, 2) := by decide +kernel
theorem dd_M_modulus_36 : decode cd_M_modulus 36 = .ok (.lushr, 1) := by decide +kernel
theorem dd_M_modulus_37 : decode cd_M_modulus 37 = .ok (.lconst 0, 1) := by decide +kernel
theorem dd_M_modulus_38 : decode cd_M_modulus 38 = .ok (.lcmp, 1) := by decide +kernel
theorem dd_M_modulus_39 : decode cd_M_modulus 39 = .ok (.ifCond .ne 5, 3) := by decide +kernel
theorem dd_M_modulus_42 : decode cd_M_modulus 42 = .ok (.iconst 0, 1) := by decide +kernel
theorem dd_M_modulus_43 : decode cd_M_modulus 43 = .ok (.ireturn, 1) := by decide +kernel
theorem dd_M_modulus_44 : decode cd_M_modulus 44 = .ok (.aload_n 0, 1) := by decide +kernel
theorem dd_M_modulus_45 : decode cd_M_modulus 45 = .ok (.iconst 1, 1) := by decide +kernel
theorem dd_M_modulus_46 : decode cd_M_modulus 46 = .ok (.putfield 181, 3) := by decide +kernel
theorem dd_M_modulus_49 : decode cd_M_modulus 49 = .ok (.aload_n 0, 1) := by decide +kernel
theorem dd_M_modulus_50 : decode cd_M_modulus 50 = .ok (.lload_n 1, 1) := by decide +kernel
theorem dd_M_modulus_51 : decode cd_M_modulus 51 = .ok (.putfield 140, 3) := by decide +kernel
theorem dd_M_modulus_54 : decode cd_M_modulus 54 = .ok (.aload_n 0, 1) := by decide +kernel
theorem dd_M_modulus_55 : decode cd_M_modulus 55 = .ok (.lload_n 3, 1) := by decide +kernel
theorem dd_M_modulus_56 : decode cd_M_modulus 56 = .ok (.putfield 148, 3) := by decide +kernel
theorem dd_M_modulus_59 : decode cd_M_modulus 59 = .ok (.aload_n 0, 1) := by decide +kernel
theorem dd_M_modulus_60 : decode cd_M_modulus 60 = .ok (.invokevirtual 189, 3) := by decide +kernel
theorem dd_M_modulus_63 : decode cd_M_modulus 63 = .ok (.aload_n 0, 1) := by decide +kernel
theorem dd_M_modulus_64 : decode cd_M_modulus 64 = .ok (.getfield 96, 3) := by decide +kernel
theorem dd_M_modulus_67 : decode cd_M_modulus 67 = .ok (.iconst 0, 1) := by decide +kernel
theorem dd_M_modulus_68 : decode cd_M_modulus 68 = .ok (.lconst 0, 1) := by decide +kernel
theorem dd_M_modulus_69 : decode cd_M_modulus 69 = .ok (.lastore, 1) := by decide +kernel
theorem dd_M_modulus_70 : decode cd_M_modulus 70 = .ok (.aload_n 0, 1) := by decide +kernel
theorem dd_M_modulus_71 : decode cd_M_modulus 71 = .ok (.getfield 99, 3) := by decide +kernel
theorem dd_M_modulus_74 : decode cd_M_modulus 74 = .ok (.iconst 0, 1) := by decide +kernel
theorem dd_M_modulus_75 : decode cd_M_modulus 75 = .ok (.ldc2_w 118, 3) := by decide +kernel
theorem dd_M_modulus_78 : decode cd_M_modulus 78 = .ok (.lastore, 1) := by decide +kernel
theorem dd_M_modulus_79 : decode cd_M_modulus 79 = .ok (.iconst 1, 1) := by decide +kernel
theorem dd_M_modulus_80 : decode cd_M_modulus 80 = .ok (.ireturn, 1) := by decide +kernel
theorem dd_M_findThird_0 : decode cd_M_findThird 0 = .ok (.lconst 0, 1) := by decide +kernel
theorem dd_M_findThird_1 : decode cd_M_findThird 1 = .ok (.lstore_n 1, 1) := by decide +kernel
theorem dd_M_findThird_2 : decode cd_M_findThird 2 = .ok (.lconst 0, 1) := by decide +kernel
theorem dd_M_findThird_3 : decode cd_M_findThird 3 = .ok (.lstore_n 3, 1) := by decide +kernel
theorem dd_M_findThird_4 : decode cd_M_findThird 4 = .ok (.iconst 0, 1) := by decide +kernel
theorem dd_M_findThird_5 : decode cd_M_findThird 5 = .ok (.istore 5, 2) := by decide +kernel
theorem dd_M_findThird_7 : decode cd_M_findThird 7 = .ok (.bipush 127, 2) := by decide +kernel
theorem dd_M_findThird_9 : decode cd_M_findThird 9 = .ok (.istore 6, 2) := by decide +kernel
theorem dd_M_findThird_11 : decode cd_M_findThird 11 = .ok (.iload 6, 2) := by decide +kernel
theorem dd_M_findThird_13 : decode cd_M_findThird 13 = .ok (.ifCond .lt 77, 3) := by decide +kernel
theorem dd_M_findThird_16 : decode cd_M_findThird 16 = .ok (.iconst 2, 1) := by decide +kernel
theorem dd_M_findThird_17 : decode cd_M_findThird 17 = .ok (.iload 5, 2) := by decide +kernel
theorem dd_M_findThird_19 : decode cd_M_findThird 19 = .ok (.imul, 1) := by decide +kernel
theorem dd_M_findThird_20 : decode cd_M_findThird 20 = .ok (.iload 6, 2) := by decide +kernel
theorem dd_M_findThird_22 : decode cd_M_findThird 22 = .ok (.bipush 64, 2) := by decide +kernel
theorem dd_M_findThird_24 : decode cd_M_findThird 24 = .ok (.if_icmp .ge 13, 3) := by decide +kernel
theorem dd_M_findThird_27 : decode cd_M_findThird 27 = .ok (.aload_n 0, 1) := by decide +kernel
theorem dd_M_findThird_28 : decode cd_M_findThird 28 = .ok (.getfield 148, 3) := by decide +kernel
theorem dd_M_findThird_31 : decode cd_M_findThird 31 = .ok (.iload 6, 2) := by decide +kernel
theorem dd_M_findThird_33 : decode cd_M_findThird 33 = .ok (.lshr, 1) := by decide +kernel
theorem dd_M_findThird_34 : decode cd_M_findThird 34 = .ok (.goto 13, 3) := by decide +kernel
theorem dd_M_findThird_37 : decode cd_M_findThird 37 = .ok (.aload_n 0, 1) := by decide +kernel
theorem dd_M_findThird_38 : decode cd_M_findThird 38 = .ok (.getfield 140, 3) := by decide +kernel
theorem dd_M_findThird_41 : decode cd_M_findThird 41 = .ok (.iload 6, 2) := by decide +kernel
theorem dd_M_findThird_43 : decode cd_M_findThird 43 = .ok (.bipush 64, 2) := by decide +kernel
theorem dd_M_findThird_45 : decode cd_M_findThird 45 = .ok (.isub, 1) := by decide +kernel
theorem dd_M_findThird_46 : decode cd_M_findThird 46 = .ok (.lshr, 1) := by decide +kernel
theorem dd_M_findThird_47 : decode cd_M_findThird 47 = .ok (.lconst 1, 1) := by decide +kernel
theorem dd_M_findThird_48 : decode cd_M_findThird 48 = .ok (.land, 1) := by decide +kernel
theorem dd_M_findThird_49 : decode cd_M_findThird 49 = .ok (.l2i, 1) := by decide +kernel
theorem dd_M_findThird_50 : decode cd_M_findThird 50 = .ok (.iadd, 1) := by decide +kernel
theorem dd_M_findThird_51 : decode cd_M_findThird 51 = .ok (.istore 5, 2) := by decide +kernel
theorem dd_M_findThird_53 : decode cd_M_findThird 53 = .ok (.lload_n 1, 1) := by decide +kernel
theorem dd_M_findThird_54 : decode cd_M_findThird 54 = .ok (.iconst 1, 1) := by decide +kernel
theorem dd_M_findThird_55 : decode cd_M_findThird 55 = .ok (.lshl, 1) := by decide +kernel
theorem dd_M_findThird_56 : decode cd_M_findThird 56 = .ok (.lload_n 3, 1) := by decide +kernel
theorem dd_M_findThird_57 : decode cd_M_findThird 57 = .ok (.bipush 63, 2) := by decide +kernel
theorem dd_M_findThird_59 : decode cd_M_findThird 59 = .ok (.lushr, 1) := by decide +kernel
theorem dd_M_findThird_60 : decode cd_M_findThird 60 = .ok (.lor, 1) := by decide +kernel
theorem dd_M_findThird_61 : decode cd_M_findThird 61 = .ok (.lstore_n 1, 1) := by decide +kernel
theorem dd_M_findThird_62 : decode cd_M_findThird 62 = .ok (.lload_n 3, 1) := by decide +kernel
theorem dd_M_findThird_63 : decode cd_M_findThird 63 = .ok (.iconst 1, 1) := by decide +kernel
theorem dd_M_findThird_64 : decode cd_M_findThird 64 = .ok (.lshl, 1) := by decide +kernel
theorem dd_M_findThird_65 : decode cd_M_findThird 65 = .ok (.iload 5, 2) := by decide +kernel
theorem dd_M_findThird_67 : decode cd_M_findThird 67 = .ok (.iconst 3, 1) := by decide +kernel
theorem dd_M_findThird_68 : decode cd_M_findThird 68 = .ok (.if_icmp .lt 7, 3) := by decide +kernel
theorem dd_M_findThird_71 : decode cd_M_findThird 71 = .ok (.lconst 1, 1) := by decide +kernel
theorem dd_M_findThird_72 : decode cd_M_findThird 72 = .ok (.goto 4, 3) := by decide +kernel
theorem dd_M_findThird_75 : decode cd_M_findThird 75 = .ok (.lconst 0, 1) := by decide +kernel
theorem dd_M_findThird_76 : decode cd_M_findThird 76 = .ok (.lor, 1) := by decide +kernel
theorem dd_M_findThird_77 : decode cd_M_findThird 77 = .ok (.lstore_n 3, 1) := by decide +kernel
theorem dd_M_findThird_78 : decode cd_M_findThird 78 = .ok (.iload 5, 2) := by decide +kernel
theorem dd_M_findThird_80 : decode cd_M_findThird 80 = .ok (.iconst 3, 1) := by decide +kernel
theorem dd_M_findThird_81 : decode cd_M_findThird 81 = .ok (.irem, 1) := by decide +kernel
theorem dd_M_findThird_82 : decode cd_M_findThird 82 = .ok (.istore 5, 2) := by decide +kernel
theorem dd_M_findThird_84 : decode cd_M_findThird 84 = .ok (.iinc 6 (-1), 3) := by decide +kernel
theorem dd_M_findThird_87 : decode cd_M_findThird 87 = .ok (.goto (-76), 3) := by decide +kernel
theorem dd_M_findThird_90 : decode cd_M_findThird 90 = .ok (.iload 5, 2) := by decide +kernel
theorem dd_M_findThird_92 : decode cd_M_findThird 92 = .ok (.iconst 1, 1) := by decide +kernel
theorem dd_M_findThird_93 : decode cd_M_findThird 93 = .ok (.if_icmp .ne 21, 3) := by decide +kernel
theorem dd_M_findThird_96 : decode cd_M_findThird 96 = .ok (.aload_n 0, 1) := by decide +kernel
theorem dd_M_findThird_97 : decode cd_M_findThird 97 = .ok (.lload_n 1, 1) := by decide +kernel
theorem dd_M_findThird_98 : decode cd_M_findThird 98 = .ok (.lload_n 3, 1) := by decide +kernel
theorem dd_M_findThird_99 : decode cd_M_findThird 99 = .ok (.lload_n 1, 1) := by decide +kernel
theorem dd_M_findThird_100 : decode cd_M_findThird 100 = .ok (.lload_n 3, 1) := by decide +kernel
theorem dd_M_findThird_101 : decode cd_M_findThird 101 = .ok (.invokevirtual 160, 3) := by decide +kernel
theorem dd_M_findThird_104 : decode cd_M_findThird 104 = .ok (.aload_n 0, 1) := by decide +kernel
theorem dd_M_findThird_105 : decode cd_M_findThird 105 = .ok (.getfield 154, 3) := by decide +kernel
theorem dd_M_findThird_108 : decode cd_M_findThird 108 = .ok (.lstore_n 1, 1) := by decide +kernel
theorem dd_M_findThird_109 : decode cd_M_findThird 109 = .ok (.aload_n 0, 1) := by decide +kernel
theorem dd_M_findThird_110 : decode cd_M_findThird 110 = .ok (.getfield 151, 3) := by decide +kernel
theorem dd_M_findThird_113 : decode cd_M_findThird 113 = .ok (.lstore_n 3, 1) := by decide +kernel
theorem dd_M_findThird_114 : decode cd_M_findThird 114 = .ok (.aload_n 0, 1) := by decide +kernel
theorem dd_M_findThird_115 : decode cd_M_findThird 115 = .ok (.lload_n 1, 1) := by decide +kernel
theorem dd_M_findThird_116 : decode cd_M_findThird 116 = .ok (.lload_n 3, 1) := by decide +kernel
theorem dd_M_findThird_117 : decode cd_M_findThird 117 = .ok (.lconst 0, 1) := by decide +kernel
theorem dd_M_findThird_118 : decode cd_M_findThird 118 = .ok (.lconst 1, 1) := by decide +kernel
theorem dd_M_findThird_119 : decode cd_M_findThird 119 = .ok (.invokevirtual 160, 3) := by decide +kernel
theorem dd_M_findThird_122 : decode cd_M_findThird 122 = .ok (.aload_n 0, 1) := by decide +kernel
theorem dd_M_findThird_123 : decode cd_M_findThird 123 = .ok (.aload_n 0, 1) := by decide +kernel
theorem dd_M_findThird_124 : decode cd_M_findThird 124 = .ok (.getfield 154, 3) := by decide +kernel
theorem dd_M_findThird_127 : decode cd_M_findThird 127 = .ok (.putfield 192, 3) := by decide +kernel
theorem dd_M_findThird_130 : decode cd_M_findThird 130 = .ok (.aload_n 0, 1) := by decide +kernel
theorem dd_M_findThird_131 : decode cd_M_findThird 131 = .ok (.aload_n 0, 1) := by decide +kernel
theorem dd_M_findThird_132 : decode cd_M_findThird 132 = .ok (.getfield 151, 3) := by decide +kernel
theorem dd_M_findThird_135 : decode cd_M_findThird 135 = .ok (.putfield 195, 3) := by decide +kernel
theorem dd_M_findThird_138 : decode cd_M_findThird 138 = .ok (.return_, 1) := by decide +kernel
theorem dd_M_pendingAt_0 : decode cd_M_pendingAt 0 = .ok (.iconst 0, 1) := by decide +kernel
theorem dd_M_pendingAt_1 : decode cd_M_pendingAt 1 = .ok (.istore_n 3, 1) := by decide +kernel
theorem dd_M_pendingAt_2 : decode cd_M_pendingAt 2 = .ok (.iload_n 3, 1) := by decide +kernel
theorem dd_M_pendingAt_3 : decode cd_M_pendingAt 3 = .ok (.aload_n 0, 1) := by decide +kernel
theorem dd_M_pendingAt_4 : decode cd_M_pendingAt 4 = .ok (.getfield 198, 3) := by decide +kernel
theorem dd_M_pendingAt_7 : decode cd_M_pendingAt 7 = .ok (.if_icmp .ge 22, 3) := by decide +kernel
theorem dd_M_pendingAt_10 : decode cd_M_pendingAt 10 = .ok (.aload_n 0, 1) := by decide +kernel
theorem dd_M_pendingAt_11 : decode cd_M_pendingAt 11 = .ok (.getfield 81, 3) := by decide +kernel
theorem dd_M_pendingAt_14 : decode cd_M_pendingAt 14 = .ok (.iload_n 3, 1) := by decide +kernel
theorem dd_M_pendingAt_15 : decode cd_M_pendingAt 15 = .ok (.laload, 1) := by decide +kernel
theorem dd_M_pendingAt_16 : decode cd_M_pendingAt 16 = .ok (.lload_n 1, 1) := by decide +kernel
theorem dd_M_pendingAt_17 : decode cd_M_pendingAt 17 = .ok (.lcmp, 1) := by decide +kernel
theorem dd_M_pendingAt_18 : decode cd_M_pendingAt 18 = .ok (.ifCond .ne 5, 3) := by decide +kernel
theorem dd_M_pendingAt_21 : decode cd_M_pendingAt 21 = .ok (.iload_n 3, 1) := by decide +kernel
theorem dd_M_pendingAt_22 : decode cd_M_pendingAt 22 = .ok (.ireturn, 1) := by decide +kernel
theorem dd_M_pendingAt_23 : decode cd_M_pendingAt 23 = .ok (.iinc 3 1, 3) := by decide +kernel
theorem dd_M_pendingAt_26 : decode cd_M_pendingAt 26 = .ok (.goto (-24), 3) := by decide +kernel
theorem dd_M_pendingAt_29 : decode cd_M_pendingAt 29 = .ok (.iconst (-1), 1) := by decide +kernel
theorem dd_M_pendingAt_30 : decode cd_M_pendingAt 30 = .ok (.ireturn, 1) := by decide +kernel
theorem dd_M_placeIn_0 : decode cd_M_placeIn 0 = .ok (.bipush 10, 2) := by decide +kernel
theorem dd_M_placeIn_2 : decode cd_M_placeIn 2 = .ok (.iload_n 1, 1) := by decide +kernel
theorem dd_M_placeIn_3 : decode cd_M_placeIn 3 = .ok (.imul, 1) := by decide +kernel
theorem dd_M_placeIn_4 : decode cd_M_placeIn 4 = .ok (.istore 4, 2) := by decide +kernel
theorem dd_M_placeIn_6 : decode cd_M_placeIn 6 = .ok (.iload 4, 2) := by decide +kernel
theorem dd_M_placeIn_8 : decode cd_M_placeIn 8 = .ok (.bipush 10, 2) := by decide +kernel
theorem dd_M_placeIn_10 : decode cd_M_placeIn 10 = .ok (.iload_n 1, 1) := by decide +kernel
theorem dd_M_placeIn_11 : decode cd_M_placeIn 11 = .ok (.imul, 1) := by decide +kernel
theorem dd_M_placeIn_12 : decode cd_M_placeIn 12 = .ok (.aload_n 0, 1) := by decide +kernel
theorem dd_M_placeIn_13 : decode cd_M_placeIn 13 = .ok (.getfield 87, 3) := by decide +kernel
theorem dd_M_placeIn_16 : decode cd_M_placeIn 16 = .ok (.iload_n 1, 1) := by decide +kernel
theorem dd_M_placeIn_17 : decode cd_M_placeIn 17 = .ok (.iaload, 1) := by decide +kernel
theorem dd_M_placeIn_18 : decode cd_M_placeIn 18 = .ok (.iadd, 1) := by decide +kernel
theorem dd_M_placeIn_19 : decode cd_M_placeIn 19 = .ok (.if_icmp .ge 24, 3) := by decide +kernel
theorem dd_M_placeIn_22 : decode cd_M_placeIn 22 = .ok (.aload_n 0, 1) := by decide +kernel
theorem dd_M_placeIn_23 : decode cd_M_placeIn 23 = .ok (.getfield 90, 3) := by decide +kernel
theorem dd_M_placeIn_26 : decode cd_M_placeIn 26 = .ok (.iload 4, 2) := by decide +kernel
theorem dd_M_placeIn_28 : decode cd_M_placeIn 28 = .ok (.laload, 1) := by decide +kernel
theorem dd_M_placeIn_29 : decode cd_M_placeIn 29 = .ok (.lload_n 2, 1) := by decide +kernel
theorem dd_M_placeIn_30 : decode cd_M_placeIn 30 = .ok (.lcmp, 1) := by decide +kernel
theorem dd_M_placeIn_31 : decode cd_M_placeIn 31 = .ok (.ifCond .ne 6, 3) := by decide +kernel
theorem dd_M_placeIn_34 : decode cd_M_placeIn 34 = .ok (.iload 4, 2) := by decide +kernel
theorem dd_M_placeIn_36 : decode cd_M_placeIn 36 = .ok (.ireturn, 1) := by decide +kernel
theorem dd_M_placeIn_37 : decode cd_M_placeIn 37 = .ok (.iinc 4 1, 3) := by decide +kernel
theorem dd_M_placeIn_40 : decode cd_M_placeIn 40 = .ok (.goto (-34), 3) := by decide +kernel
theorem dd_M_placeIn_43 : decode cd_M_placeIn 43 = .ok (.iconst (-1), 1) := by decide +kernel
theorem dd_M_placeIn_44 : decode cd_M_placeIn 44 = .ok (.ireturn, 1) := by decide +kernel
theorem dd_M_add_0 : decode cd_M_add 0 = .ok (.aload_n 0, 1) := by decide +kernel
theorem dd_M_add_1 : decode cd_M_add 1 = .ok (.getfield 181, 3) := by decide +kernel
theorem dd_M_add_4 : decode cd_M_add 4 = .ok (.ifCond .ne 5, 3) := by decide +kernel
theorem dd_M_add_7 : decode cd_M_add 7 = .ok (.iconst (-1), 1) := by decide +kernel
theorem dd_M_add_8 : decode cd_M_add 8 = .ok (.ireturn, 1) := by decide +kernel
theorem dd_M_add_9 : decode cd_M_add 9 = .ok (.aload_n 0, 1) := by decide +kernel
theorem dd_M_add_10 : decode cd_M_add 10 = .ok (.lload_n 1, 1) := by decide +kernel
theorem dd_M_add_11 : decode cd_M_add 11 = .ok (.invokevirtual 202, 3) := by decide +kernel
theorem dd_M_add_14 : decode cd_M_add 14 = .ok (.istore_n 3, 1) := by decide +kernel
theorem dd_M_add_15 : decode cd_M_add 15 = .ok (.iload_n 3, 1) := by decide +kernel
theorem dd_M_add_16 : decode cd_M_add 16 = .ok (.bipush (-2), 2) := by decide +kernel
theorem dd_M_add_18 : decode cd_M_add 18 = .ok (.if_icmp .ne 6, 3) := by decide +kernel
theorem dd_M_add_21 : decode cd_M_add 21 = .ok (.bipush (-2), 2) := by decide +kernel
theorem dd_M_add_23 : decode cd_M_add 23 = .ok (.ireturn, 1) := by decide +kernel
theorem dd_M_add_24 : decode cd_M_add 24 = .ok (.aload_n 0, 1) := by decide +kernel
theorem dd_M_add_25 : decode cd_M_add 25 = .ok (.lload_n 1, 1) := by decide +kernel
theorem dd_M_add_26 : decode cd_M_add 26 = .ok (.invokevirtual 206, 3) := by decide +kernel
theorem dd_M_add_29 : decode cd_M_add 29 = .ok (.ifCond .lt 6, 3) := by decide +kernel
theorem dd_M_add_32 : decode cd_M_add 32 = .ok (.bipush (-3), 2) := by decide +kernel
theorem dd_M_add_34 : decode cd_M_add 34 = .ok (.ireturn, 1) := by decide +kernel
theorem dd_M_add_35 : decode cd_M_add 35 = .ok (.iconst 0, 1) := by decide +kernel
theorem dd_M_add_36 : decode cd_M_add 36 = .ok (.istore 4, 2) := by decide +kernel
theorem dd_M_add_38 : decode cd_M_add 38 = .ok (.iload 4, 2) := by decide +kernel
theorem dd_M_add_40 : decode cd_M_add 40 = .ok (.aload_n 0, 1) := by decide +kernel
theorem dd_M_add_41 : decode cd_M_add 41 = .ok (.getfield 198, 3) := by decide +kernel
theorem dd_M_add_44 : decode cd_M_add 44 = .ok (.if_icmp .ge 23, 3) := by decide +kernel
theorem dd_M_add_47 : decode cd_M_add 47 = .ok (.aload_n 0, 1) := by decide +kernel
theorem dd_M_add_48 : decode cd_M_add 48 = .ok (.getfield 84, 3) := by decide +kernel
theorem dd_M_add_51 : decode cd_M_add 51 = .ok (.iload 4, 2) := by decide +kernel
theorem dd_M_add_53 : decode cd_M_add 53 = .ok (.iaload, 1) := by decide +kernel
theorem dd_M_add_54 : decode cd_M_add 54 = .ok (.iload_n 3, 1) := by decide +kernel
theorem dd_M_add_55 : decode cd_M_add 55 = .ok (.if_icmp .ne 6, 3) := by decide +kernel
theorem dd_M_add_58 : decode cd_M_add 58 = .ok (.bipush (-5), 2) := by decide +kernel
theorem dd_M_add_60 : decode cd_M_add 60 = .ok (.ireturn, 1) := by decide +kernel
theorem dd_M_add_61 : decode cd_M_add 61 = .ok (.iinc 4 1, 3) := by decide +kernel
theorem dd_M_add_64 : decode cd_M_add 64 = .ok (.goto (-26), 3) := by decide +kernel
theorem dd_M_add_67 : decode cd_M_add 67 = .ok (.aload_n 0, 1) := by decide +kernel
theorem dd_M_add_68 : decode cd_M_add 68 = .ok (.getfield 198, 3) := by decide +kernel
theorem dd_M_add_71 : decode cd_M_add 71 = .ok (.bipush 10, 2) := by decide +kernel
theorem dd_M_add_73 : decode cd_M_add 73 = .ok (.if_icmp .ne 6, 3) := by decide +kernel
theorem dd_M_add_76 : decode cd_M_add 76 = .ok (.bipush (-6), 2) := by decide +kernel
theorem dd_M_add_78 : decode cd_M_add 78 = .ok (.ireturn, 1) := by decide +kernel
theorem dd_M_add_79 : decode cd_M_add 79 = .ok (.aload_n 0, 1) := by decide +kernel
theorem dd_M_add_80 : decode cd_M_add 80 = .ok (.getfield 198, 3) := by decide +kernel
theorem dd_M_add_83 : decode cd_M_add 83 = .ok (.istore 4, 2) := by decide +kernel
theorem dd_M_add_85 : decode cd_M_add 85 = .ok (.iload 4, 2) := by decide +kernel
theorem dd_M_add_87 : decode cd_M_add 87 = .ok (.ifCond .le 55, 3) := by decide +kernel
theorem dd_M_add_90 : decode cd_M_add 90 = .ok (.aload_n 0, 1) := by decide +kernel
theorem dd_M_add_91 : decode cd_M_add 91 = .ok (.getfield 81, 3) := by decide +kernel
theorem dd_M_add_94 : decode cd_M_add 94 = .ok (.iload 4, 2) := by decide +kernel
theorem dd_M_add_96 : decode cd_M_add 96 = .ok (.iconst 1, 1) := by decide +kernel
theorem dd_M_add_97 : decode cd_M_add 97 = .ok (.isub, 1) := by decide +kernel
theorem dd_M_add_98 : decode cd_M_add 98 = .ok (.laload, 1) := by decide +kernel
theorem dd_M_add_99 : decode cd_M_add 99 = .ok (.lload_n 1, 1) := by decide +kernel
theorem dd_M_add_100 : decode cd_M_add 100 = .ok (.lcmp, 1) := by decide +kernel
theorem dd_M_add_101 : decode cd_M_add 101 = .ok (.ifCond .le 41, 3) := by decide +kernel
theorem dd_M_add_104 : decode cd_M_add 104 = .ok (.aload_n 0, 1) := by decide +kernel
theorem dd_M_add_105 : decode cd_M_add 105 = .ok (.getfield 81, 3) := by decide +kernel
theorem dd_M_add_108 : decode cd_M_add 108 = .ok (.iload 4, 2) := by decide +kernel
theorem dd_M_add_110 : decode cd_M_add 110 = .ok (.aload_n 0, 1) := by decide +kernel
theorem dd_M_add_111 : decode cd_M_add 111 = .ok (.getfield 81, 3) := by decide +kernel
theorem dd_M_add_114 : decode cd_M_add 114 = .ok (.iload 4, 2) := by decide +kernel
theorem dd_M_add_116 : decode cd_M_add 116 = .ok (.iconst 1, 1) := by decide +kernel
theorem dd_M_add_117 : decode cd_M_add 117 = .ok (.isub, 1) := by decide +kernel
theorem dd_M_add_118 : decode cd_M_add 118 = .ok (.laload, 1) := by decide +kernel
theorem dd_M_add_119 : decode cd_M_add 119 = .ok (.lastore, 1) := by decide +kernel
theorem dd_M_add_120 : decode cd_M_add 120 = .ok (.aload_n 0, 1) := by decide +kernel
theorem dd_M_add_121 : decode cd_M_add 121 = .ok (.getfield 84, 3) := by decide +kernel
theorem dd_M_add_124 : decode cd_M_add 124 = .ok (.iload 4, 2) := by decide +kernel
theorem dd_M_add_126 : decode cd_M_add 126 = .ok (.aload_n 0, 1) := by decide +kernel
theorem dd_M_add_127 : decode cd_M_add 127 = .ok (.getfield 84, 3) := by decide +kernel
theorem dd_M_add_130 : decode cd_M_add 130 = .ok (.iload 4, 2) := by decide +kernel
theorem dd_M_add_132 : decode cd_M_add 132 = .ok (.iconst 1, 1) := by decide +kernel
theorem dd_M_add_133 : decode cd_M_add 133 = .ok (.isub, 1) := by decide +kernel
theorem dd_M_add_134 : decode cd_M_add 134 = .ok (.iaload, 1) := by decide +kernel
theorem dd_M_add_135 : decode cd_M_add 135 = .ok (.iastore, 1) := by decide +kernel
theorem dd_M_add_136 : decode cd_M_add 136 = .ok (.iinc 4 (-1), 3) := by decide +kernel
theorem dd_M_add_139 : decode cd_M_add 139 = .ok (.goto (-54), 3) := by decide +kernel
theorem dd_M_add_142 : decode cd_M_add 142 = .ok (.aload_n 0, 1) := by decide +kernel
theorem dd_M_add_143 : decode cd_M_add 143 = .ok (.getfield 81, 3) := by decide +kernel
theorem dd_M_add_146 : decode cd_M_add 146 = .ok (.iload 4, 2) := by decide +kernel
theorem dd_M_add_148 : decode cd_M_add 148 = .ok (.lload_n 1, 1) := by decide +kernel
theorem dd_M_add_149 : decode cd_M_add 149 = .ok (.lastore, 1) := by decide +kernel
theorem dd_M_add_150 : decode cd_M_add 150 = .ok (.aload_n 0, 1) := by decide +kernel
theorem dd_M_add_151 : decode cd_M_add 151 = .ok (.getfield 84, 3) := by decide +kernel
theorem dd_M_add_154 : decode cd_M_add 154 = .ok (.iload 4, 2) := by decide +kernel
theorem dd_M_add_156 : decode cd_M_add 156 = .ok (.iload_n 3, 1) := by decide +kernel
theorem dd_M_add_157 : decode cd_M_add 157 = .ok (.iastore, 1) := by decide +kernel
theorem dd_M_add_158 : decode cd_M_add 158 = .ok (.aload_n 0, 1) := by decide +kernel
theorem dd_M_add_159 : decode cd_M_add 159 = .ok (.dup, 1) := by decide +kernel
theorem dd_M_add_160 : decode cd_M_add 160 = .ok (.getfield 198, 3) := by decide +kernel
theorem dd_M_add_163 : decode cd_M_add 163 = .ok (.iconst 1, 1) := by decide +kernel
theorem dd_M_add_164 : decode cd_M_add 164 = .ok (.iadd, 1) := by decide +kernel
theorem dd_M_add_165 : decode cd_M_add 165 = .ok (.putfield 198, 3) := by decide +kernel
theorem dd_M_add_168 : decode cd_M_add 168 = .ok (.aload_n 0, 1) := by decide +kernel
theorem dd_M_add_169 : decode cd_M_add 169 = .ok (.getfield 198, 3) := by decide +kernel
theorem dd_M_add_172 : decode cd_M_add 172 = .ok (.ireturn, 1) := by decide +kernel
theorem dd_M_remove_0 : decode cd_M_remove 0 = .ok (.aload_n 0, 1) := by decide +kernel
theorem dd_M_remove_1 : decode cd_M_remove 1 = .ok (.getfield 181, 3) := by decide +kernel
theorem dd_M_remove_4 : decode cd_M_remove 4 = .ok (.ifCond .ne 5, 3) := by decide +kernel
theorem dd_M_remove_7 : decode cd_M_remove 7 = .ok (.iconst (-1), 1) := by decide +kernel
theorem dd_M_remove_8 : decode cd_M_remove 8 = .ok (.ireturn, 1) := by decide +kernel
theorem dd_M_remove_9 : decode cd_M_remove 9 = .ok (.aload_n 0, 1) := by decide +kernel
theorem dd_M_remove_10 : decode cd_M_remove 10 = .ok (.lload_n 1, 1) := by decide +kernel
theorem dd_M_remove_11 : decode cd_M_remove 11 = .ok (.invokevirtual 202, 3) := by decide +kernel
theorem dd_M_remove_14 : decode cd_M_remove 14 = .ok (.bipush (-2), 2) := by decide +kernel
theorem dd_M_remove_16 : decode cd_M_remove 16 = .ok (.if_icmp .ne 6, 3) := by decide +kernel
theorem dd_M_remove_19 : decode cd_M_remove 19 = .ok (.bipush (-2), 2) := by decide +kernel
theorem dd_M_remove_21 : decode cd_M_remove 21 = .ok (.ireturn, 1) := by decide +kernel
theorem dd_M_remove_22 : decode cd_M_remove 22 = .ok (.aload_n 0, 1) := by decide +kernel
theorem dd_M_remove_23 : decode cd_M_remove 23 = .ok (.lload_n 1, 1) := by decide +kernel
theorem dd_M_remove_24 : decode cd_M_remove 24 = .ok (.invokevirtual 206, 3) := by decide +kernel
theorem dd_M_remove_27 : decode cd_M_remove 27 = .ok (.istore_n 3, 1) := by decide +kernel
theorem dd_M_remove_28 : decode cd_M_remove 28 = .ok (.iload_n 3, 1) := by decide +kernel
theorem dd_M_remove_29 : decode cd_M_remove 29 = .ok (.ifCond .ge 6, 3) := by decide +kernel
theorem dd_M_remove_32 : decode cd_M_remove 32 = .ok (.bipush (-4), 2) := by decide +kernel
theorem dd_M_remove_34 : decode cd_M_remove 34 = .ok (.ireturn, 1) := by decide +kernel
theorem dd_M_remove_35 : decode cd_M_remove 35 = .ok (.aload_n 0, 1) := by decide +kernel
theorem dd_M_remove_36 : decode cd_M_remove 36 = .ok (.dup, 1) := by decide +kernel
theorem dd_M_remove_37 : decode cd_M_remove 37 = .ok (.getfield 198, 3) := by decide +kernel
theorem dd_M_remove_40 : decode cd_M_remove 40 = .ok (.iconst 1, 1) := by decide +kernel
theorem dd_M_remove_41 : decode cd_M_remove 41 = .ok (.isub, 1) := by decide +kernel
theorem dd_M_remove_42 : decode cd_M_remove 42 = .ok (.putfield 198, 3) := by decide +kernel
theorem dd_M_remove_45 : decode cd_M_remove 45 = .ok (.iload_n 3, 1) := by decide +kernel
theorem dd_M_remove_46 : decode cd_M_remove 46 = .ok (.istore 4, 2) := by decide +kernel
theorem dd_M_remove_48 : decode cd_M_remove 48 = .ok (.iload 4, 2) := by decide +kernel
theorem dd_M_remove_50 : decode cd_M_remove 50 = .ok (.aload_n 0, 1) := by decide +kernel
theorem dd_M_remove_51 : decode cd_M_remove 51 = .ok (.getfield 198, 3) := by decide +kernel
theorem dd_M_remove_54 : decode cd_M_remove 54 = .ok (.if_icmp .ge 41, 3) := by decide +kernel
theorem dd_M_remove_57 : decode cd_M_remove 57 = .ok (.aload_n 0, 1) := by decide +kernel
theorem dd_M_remove_58 : decode cd_M_remove 58 = .ok (.getfield 81, 3) := by decide +kernel
theorem dd_M_remove_61 : decode cd_M_remove 61 = .ok (.iload 4, 2) := by decide +kernel
theorem dd_M_remove_63 : decode cd_M_remove 63 = .ok (.aload_n 0, 1) := by decide +kernel
theorem dd_M_remove_64 : decode cd_M_remove 64 = .ok (.getfield 81, 3) := by decide +kernel
theorem dd_M_remove_67 : decode cd_M_remove 67 = .ok (.iload 4, 2) := by decide +kernel
theorem dd_M_remove_69 : decode cd_M_remove 69 = .ok (.iconst 1, 1) := by decide +kernel
theorem dd_M_remove_70 : decode cd_M_remove 70 = .ok (.iadd, 1) := by decide +kernel
theorem dd_M_remove_71 : decode cd_M_remove 71 = .ok (.laload, 1) := by decide +kernel
theorem dd_M_remove_72 : decode cd_M_remove 72 = .ok (.lastore, 1) := by decide +kernel
theorem dd_M_remove_73 : decode cd_M_remove 73 = .ok (.aload_n 0, 1) := by decide +kernel
theorem dd_M_remove_74 : decode cd_M_remove 74 = .ok (.getfield 84, 3) := by decide +kernel
theorem dd_M_remove_77 : decode cd_M_remove 77 = .ok (.iload 4, 2) := by decide +kernel
theorem dd_M_remove_79 : decode cd_M_remove 79 = .ok (.aload_n 0, 1) := by decide +kernel
theorem dd_M_remove_80 : decode cd_M_remove 80 = .ok (.getfield 84, 3) := by decide +kernel
theorem dd_M_remove_83 : decode cd_M_remove 83 = .ok (.iload 4, 2) := by decide +kernel
theorem dd_M_remove_85 : decode cd_M_remove 85 = .ok (.iconst 1, 1) := by decide +kernel
theorem dd_M_remove_86 : decode cd_M_remove 86 = .ok (.iadd, 1) := by decide +kernel
theorem dd_M_remove_87 : decode cd_M_remove 87 = .ok (.iaload, 1) := by decide +kernel
theorem dd_M_remove_88 : decode cd_M_remove 88 = .ok (.iastore, 1) := by decide +kernel
theorem dd_M_remove_89 : decode cd_M_remove 89 = .ok (.iinc 4 1, 3) := by decide +kernel
theorem dd_M_remove_92 : decode cd_M_remove 92 = .ok (.goto (-44), 3) := by decide +kernel
theorem dd_M_remove_95 : decode cd_M_remove 95 = .ok (.aload_n 0, 1) := by decide +kernel
theorem dd_M_remove_96 : decode cd_M_remove 96 = .ok (.getfield 198, 3) := by decide +kernel
theorem dd_M_remove_99 : decode cd_M_remove 99 = .ok (.ireturn, 1) := by decide +kernel
theorem dd_M_close_0 : decode cd_M_close 0 = .ok (.aload_n 0, 1) := by decide +kernel
theorem dd_M_close_1 : decode cd_M_close 1 = .ok (.getfield 181, 3) := by decide +kernel
theorem dd_M_close_4 : decode cd_M_close 4 = .ok (.ifCond .ne 5, 3) := by decide +kernel
theorem dd_M_close_7 : decode cd_M_close 7 = .ok (.iconst (-1), 1) := by decide +kernel
theorem dd_M_close_8 : decode cd_M_close 8 = .ok (.ireturn, 1) := by decide +kernel
theorem dd_M_close_9 : decode cd_M_close 9 = .ok (.aload_n 0, 1) := by decide +kernel
theorem dd_M_close_10 : decode cd_M_close 10 = .ok (.getfield 209, 3) := by decide +kernel
theorem dd_M_close_13 : decode cd_M_close 13 = .ok (.bipush 16, 2) := by decide +kernel
theorem dd_M_close_15 : decode cd_M_close 15 = .ok (.if_icmp .ne 6, 3) := by decide +kernel
theorem dd_M_close_18 : decode cd_M_close 18 = .ok (.bipush (-6), 2) := by decide +kernel
theorem dd_M_close_20 : decode cd_M_close 20 = .ok (.ireturn, 1) := by decide +kernel
theorem dd_M_close_21 : decode cd_M_close 21 = .ok (.aload_n 0, 1) := by decide +kernel
theorem dd_M_close_22 : decode cd_M_close 22 = .ok (.dup, 1) := by decide +kernel
theorem dd_M_close_23 : decode cd_M_close 23 = .ok (.getfield 209, 3) := by decide +kernel
theorem dd_M_close_26 : decode cd_M_close 26 = .ok (.iconst 1, 1) := by decide +kernel
theorem dd_M_close_27 : decode cd_M_close 27 = .ok (.iadd, 1) := by decide +kernel
theorem dd_M_close_28 : decode cd_M_close 28 = .ok (.putfield 209, 3) := by decide +kernel
theorem dd_M_close_31 : decode cd_M_close 31 = .ok (.aload_n 0, 1) := by decide +kernel
theorem dd_M_close_32 : decode cd_M_close 32 = .ok (.getfield 87, 3) := by decide +kernel
theorem dd_M_close_35 : decode cd_M_close 35 = .ok (.aload_n 0, 1) := by decide +kernel
theorem dd_M_close_36 : decode cd_M_close 36 = .ok (.getfield 209, 3) := by decide +kernel
theorem dd_M_close_39 : decode cd_M_close 39 = .ok (.aload_n 0, 1) := by decide +kernel
theorem dd_M_close_40 : decode cd_M_close 40 = .ok (.getfield 198, 3) := by decide +kernel
theorem dd_M_close_43 : decode cd_M_close 43 = .ok (.iastore, 1) := by decide +kernel
theorem dd_M_close_44 : decode cd_M_close 44 = .ok (.aload_n 0, 1) := by decide +kernel
theorem dd_M_close_45 : decode cd_M_close 45 = .ok (.lconst 0, 1) := by decide +kernel
theorem dd_M_close_46 : decode cd_M_close 46 = .ok (.putfield 154, 3) := by decide +kernel
theorem dd_M_close_49 : decode cd_M_close 49 = .ok (.aload_n 0, 1) := by decide +kernel
theorem dd_M_close_50 : decode cd_M_close 50 = .ok (.ldc2_w 118, 3) := by decide +kernel
theorem dd_M_close_53 : decode cd_M_close 53 = .ok (.putfield 151, 3) := by decide +kernel
theorem dd_M_close_56 : decode cd_M_close 56 = .ok (.iconst 0, 1) := by decide +kernel
theorem dd_M_close_57 : decode cd_M_close 57 = .ok (.istore_n 1, 1) := by decide +kernel
theorem dd_M_close_58 : decode cd_M_close 58 = .ok (.iload_n 1, 1) := by decide +kernel
theorem dd_M_close_59 : decode cd_M_close 59 = .ok (.aload_n 0, 1) := by decide +kernel
theorem dd_M_close_60 : decode cd_M_close 60 = .ok (.getfield 198, 3) := by decide +kernel
theorem dd_M_close_63 : decode cd_M_close 63 = .ok (.if_icmp .ge 67, 3) := by decide +kernel
theorem dd_M_close_66 : decode cd_M_close 66 = .ok (.aload_n 0, 1) := by decide +kernel
theorem dd_M_close_67 : decode cd_M_close 67 = .ok (.getfield 90, 3) := by decide +kernel
theorem dd_M_close_70 : decode cd_M_close 70 = .ok (.bipush 10, 2) := by decide +kernel
theorem dd_M_close_72 : decode cd_M_close 72 = .ok (.aload_n 0, 1) := by decide +kernel
theorem dd_M_close_73 : decode cd_M_close 73 = .ok (.getfield 209, 3) := by decide +kernel
theorem dd_M_close_76 : decode cd_M_close 76 = .ok (.imul, 1) := by decide +kernel
theorem dd_M_close_77 : decode cd_M_close 77 = .ok (.iload_n 1, 1) := by decide +kernel
theorem dd_M_close_78 : decode cd_M_close 78 = .ok (.iadd, 1) := by decide +kernel
theorem dd_M_close_79 : decode cd_M_close 79 = .ok (.aload_n 0, 1) := by decide +kernel
theorem dd_M_close_80 : decode cd_M_close 80 = .ok (.getfield 81, 3) := by decide +kernel
theorem dd_M_close_83 : decode cd_M_close 83 = .ok (.iload_n 1, 1) := by decide +kernel
theorem dd_M_close_84 : decode cd_M_close 84 = .ok (.laload, 1) := by decide +kernel
theorem dd_M_close_85 : decode cd_M_close 85 = .ok (.lastore, 1) := by decide +kernel
theorem dd_M_close_86 : decode cd_M_close 86 = .ok (.aload_n 0, 1) := by decide +kernel
theorem dd_M_close_87 : decode cd_M_close 87 = .ok (.getfield 93, 3) := by decide +kernel
theorem dd_M_close_90 : decode cd_M_close 90 = .ok (.bipush 10, 2) := by decide +kernel
theorem dd_M_close_92 : decode cd_M_close 92 = .ok (.aload_n 0, 1) := by decide +kernel
theorem dd_M_close_93 : decode cd_M_close 93 = .ok (.getfield 209, 3) := by decide +kernel
theorem dd_M_close_96 : decode cd_M_close 96 = .ok (.imul, 1) := by decide +kernel
theorem dd_M_close_97 : decode cd_M_close 97 = .ok (.iload_n 1, 1) := by decide +kernel
theorem dd_M_close_98 : decode cd_M_close 98 = .ok (.iadd, 1) := by decide +kernel
theorem dd_M_close_99 : decode cd_M_close 99 = .ok (.aload_n 0, 1) := by decide +kernel
theorem dd_M_close_100 : decode cd_M_close 100 = .ok (.getfield 84, 3) := by decide +kernel
theorem dd_M_close_103 : decode cd_M_close 103 = .ok (.iload_n 1, 1) := by decide +kernel
theorem dd_M_close_104 : decode cd_M_close 104 = .ok (.iaload, 1) := by decide +kernel
theorem dd_M_close_105 : decode cd_M_close 105 = .ok (.iastore, 1) := by decide +kernel
theorem dd_M_close_106 : decode cd_M_close 106 = .ok (.aload_n 0, 1) := by decide +kernel
theorem dd_M_close_107 : decode cd_M_close 107 = .ok (.aload_n 0, 1) := by decide +kernel
theorem dd_M_close_108 : decode cd_M_close 108 = .ok (.getfield 154, 3) := by decide +kernel
theorem dd_M_close_111 : decode cd_M_close 111 = .ok (.aload_n 0, 1) := by decide +kernel
theorem dd_M_close_112 : decode cd_M_close 112 = .ok (.getfield 151, 3) := by decide +kernel
theorem dd_M_close_115 : decode cd_M_close 115 = .ok (.aload_n 0, 1) := by decide +kernel
theorem dd_M_close_116 : decode cd_M_close 116 = .ok (.getfield 84, 3) := by decide +kernel
theorem dd_M_close_119 : decode cd_M_close 119 = .ok (.iload_n 1, 1) := by decide +kernel
theorem dd_M_close_120 : decode cd_M_close 120 = .ok (.iaload, 1) := by decide +kernel
theorem dd_M_close_121 : decode cd_M_close 121 = .ok (.invokevirtual 212, 3) := by decide +kernel
theorem dd_M_close_124 : decode cd_M_close 124 = .ok (.iinc 1 1, 3) := by decide +kernel
theorem dd_M_close_127 : decode cd_M_close 127 = .ok (.goto (-69), 3) := by decide +kernel
theorem dd_M_close_130 : decode cd_M_close 130 = .ok (.aload_n 0, 1) := by decide +kernel
theorem dd_M_close_131 : decode cd_M_close 131 = .ok (.getfield 96, 3) := by decide +kernel
theorem dd_M_close_134 : decode cd_M_close 134 = .ok (.aload_n 0, 1) := by decide +kernel
theorem dd_M_close_135 : decode cd_M_close 135 = .ok (.getfield 209, 3) := by decide +kernel
theorem dd_M_close_138 : decode cd_M_close 138 = .ok (.aload_n 0, 1) := by decide +kernel
theorem dd_M_close_139 : decode cd_M_close 139 = .ok (.getfield 154, 3) := by decide +kernel
theorem dd_M_close_142 : decode cd_M_close 142 = .ok (.lastore, 1) := by decide +kernel
theorem dd_M_close_143 : decode cd_M_close 143 = .ok (.aload_n 0, 1) := by decide +kernel
theorem dd_M_close_144 : decode cd_M_close 144 = .ok (.getfield 99, 3) := by decide +kernel
theorem dd_M_close_147 : decode cd_M_close 147 = .ok (.aload_n 0, 1) := by decide +kernel
theorem dd_M_close_148 : decode cd_M_close 148 = .ok (.getfield 209, 3) := by decide +kernel
theorem dd_M_close_151 : decode cd_M_close 151 = .ok (.aload_n 0, 1) := by decide +kernel
theorem dd_M_close_152 : decode cd_M_close 152 = .ok (.getfield 151, 3) := by decide +kernel
theorem dd_M_close_155 : decode cd_M_close 155 = .ok (.lastore, 1) := by decide +kernel
theorem dd_M_close_156 : decode cd_M_close 156 = .ok (.aload_n 0, 1) := by decide +kernel
theorem dd_M_close_157 : decode cd_M_close 157 = .ok (.getfield 209, 3) := by decide +kernel
theorem dd_M_close_160 : decode cd_M_close 160 = .ok (.ireturn, 1) := by decide +kernel
theorem dd_M_size_0 : decode cd_M_size 0 = .ok (.aload_n 0, 1) := by decide +kernel
theorem dd_M_size_1 : decode cd_M_size 1 = .ok (.getfield 181, 3) := by decide +kernel
theorem dd_M_size_4 : decode cd_M_size 4 = .ok (.ifCond .ne 5, 3) := by decide +kernel
theorem dd_M_size_7 : decode cd_M_size 7 = .ok (.iconst (-1), 1) := by decide +kernel
theorem dd_M_size_8 : decode cd_M_size 8 = .ok (.ireturn, 1) := by decide +kernel
theorem dd_M_size_9 : decode cd_M_size 9 = .ok (.iload_n 1, 1) := by decide +kernel
theorem dd_M_size_10 : decode cd_M_size 10 = .ok (.ifCond .ne 15, 3) := by decide +kernel
theorem dd_M_size_13 : decode cd_M_size 13 = .ok (.aload_n 0, 1) := by decide +kernel
theorem dd_M_size_14 : decode cd_M_size 14 = .ok (.getfield 87, 3) := by decide +kernel
theorem dd_M_size_17 : decode cd_M_size 17 = .ok (.aload_n 0, 1) := by decide +kernel
theorem dd_M_size_18 : decode cd_M_size 18 = .ok (.getfield 209, 3) := by decide +kernel
theorem dd_M_size_21 : decode cd_M_size 21 = .ok (.iaload, 1) := by decide +kernel
theorem dd_M_size_22 : decode cd_M_size 22 = .ok (.goto 29, 3) := by decide +kernel
theorem dd_M_size_25 : decode cd_M_size 25 = .ok (.iload_n 1, 1) := by decide +kernel
theorem dd_M_size_26 : decode cd_M_size 26 = .ok (.iconst 1, 1) := by decide +kernel
theorem dd_M_size_27 : decode cd_M_size 27 = .ok (.if_icmp .ne 10, 3) := by decide +kernel
theorem dd_M_size_30 : decode cd_M_size 30 = .ok (.aload_n 0, 1) := by decide +kernel
theorem dd_M_size_31 : decode cd_M_size 31 = .ok (.getfield 198, 3) := by decide +kernel
theorem dd_M_size_34 : decode cd_M_size 34 = .ok (.goto 17, 3) := by decide +kernel
theorem dd_M_size_37 : decode cd_M_size 37 = .ok (.iload_n 1, 1) := by decide +kernel
theorem dd_M_size_38 : decode cd_M_size 38 = .ok (.iconst 2, 1) := by decide +kernel
theorem dd_M_size_39 : decode cd_M_size 39 = .ok (.if_icmp .ne 10, 3) := by decide +kernel
theorem dd_M_size_42 : decode cd_M_size 42 = .ok (.aload_n 0, 1) := by decide +kernel
theorem dd_M_size_43 : decode cd_M_size 43 = .ok (.getfield 209, 3) := by decide +kernel
theorem dd_M_size_46 : decode cd_M_size 46 = .ok (.goto 5, 3) := by decide +kernel
theorem dd_M_size_49 : decode cd_M_size 49 = .ok (.bipush (-2), 2) := by decide +kernel
theorem dd_M_size_51 : decode cd_M_size 51 = .ok (.ireturn, 1) := by decide +kernel
theorem dd_M_state_0 : decode cd_M_state 0 = .ok (.aload_n 0, 1) := by decide +kernel
theorem dd_M_state_1 : decode cd_M_state 1 = .ok (.getfield 181, 3) := by decide +kernel
theorem dd_M_state_4 : decode cd_M_state 4 = .ok (.ifCond .ne 5, 3) := by decide +kernel
theorem dd_M_state_7 : decode cd_M_state 7 = .ok (.iconst (-1), 1) := by decide +kernel
theorem dd_M_state_8 : decode cd_M_state 8 = .ok (.ireturn, 1) := by decide +kernel
theorem dd_M_state_9 : decode cd_M_state 9 = .ok (.aload_n 0, 1) := by decide +kernel
theorem dd_M_state_10 : decode cd_M_state 10 = .ok (.lload_n 1, 1) := by decide +kernel
theorem dd_M_state_11 : decode cd_M_state 11 = .ok (.invokevirtual 202, 3) := by decide +kernel
theorem dd_M_state_14 : decode cd_M_state 14 = .ok (.bipush (-2), 2) := by decide +kernel
theorem dd_M_state_16 : decode cd_M_state 16 = .ok (.if_icmp .ne 6, 3) := by decide +kernel
theorem dd_M_state_19 : decode cd_M_state 19 = .ok (.bipush (-2), 2) := by decide +kernel
theorem dd_M_state_21 : decode cd_M_state 21 = .ok (.ireturn, 1) := by decide +kernel
theorem dd_M_state_22 : decode cd_M_state 22 = .ok (.aload_n 0, 1) := by decide +kernel
theorem dd_M_state_23 : decode cd_M_state 23 = .ok (.aload_n 0, 1) := by decide +kernel
theorem dd_M_state_24 : decode cd_M_state 24 = .ok (.getfield 209, 3) := by decide +kernel
theorem dd_M_state_27 : decode cd_M_state 27 = .ok (.lload_n 1, 1) := by decide +kernel
theorem dd_M_state_28 : decode cd_M_state 28 = .ok (.invokevirtual 216, 3) := by decide +kernel
theorem dd_M_state_31 : decode cd_M_state 31 = .ok (.ifCond .lt 7, 3) := by decide +kernel
theorem dd_M_state_34 : decode cd_M_state 34 = .ok (.iconst 1, 1) := by decide +kernel
theorem dd_M_state_35 : decode cd_M_state 35 = .ok (.goto 4, 3) := by decide +kernel
theorem dd_M_state_38 : decode cd_M_state 38 = .ok (.iconst 0, 1) := by decide +kernel
theorem dd_M_state_39 : decode cd_M_state 39 = .ok (.aload_n 0, 1) := by decide +kernel
theorem dd_M_state_40 : decode cd_M_state 40 = .ok (.lload_n 1, 1) := by decide +kernel
theorem dd_M_state_41 : decode cd_M_state 41 = .ok (.invokevirtual 206, 3) := by decide +kernel
theorem dd_M_state_44 : decode cd_M_state 44 = .ok (.ifCond .lt 7, 3) := by decide +kernel
theorem dd_M_state_47 : decode cd_M_state 47 = .ok (.iconst 2, 1) := by decide +kernel
theorem dd_M_state_48 : decode cd_M_state 48 = .ok (.goto 4, 3) := by decide +kernel
theorem dd_M_state_51 : decode cd_M_state 51 = .ok (.iconst 0, 1) := by decide +kernel
theorem dd_M_state_52 : decode cd_M_state 52 = .ok (.iadd, 1) := by decide +kernel
theorem dd_M_state_53 : decode cd_M_state 53 = .ok (.ireturn, 1) := by decide +kernel
theorem dd_M_isEpoch_0 : decode cd_M_isEpoch 0 = .ok (.iload_n 1, 1) := by decide +kernel
theorem dd_M_isEpoch_1 : decode cd_M_isEpoch 1 = .ok (.ifCond .lt 15, 3) := by decide +kernel
theorem dd_M_isEpoch_4 : decode cd_M_isEpoch 4 = .ok (.iload_n 1, 1) := by decide +kernel
theorem dd_M_isEpoch_5 : decode cd_M_isEpoch 5 = .ok (.aload_n 0, 1) := by decide +kernel
theorem dd_M_isEpoch_6 : decode cd_M_isEpoch 6 = .ok (.getfield 209, 3) := by decide +kernel
theorem dd_M_isEpoch_9 : decode cd_M_isEpoch 9 = .ok (.if_icmp .gt 7, 3) := by decide +kernel
theorem dd_M_isEpoch_12 : decode cd_M_isEpoch 12 = .ok (.iconst 1, 1) := by decide +kernel
theorem dd_M_isEpoch_13 : decode cd_M_isEpoch 13 = .ok (.goto 4, 3) := by decide +kernel
theorem dd_M_isEpoch_16 : decode cd_M_isEpoch 16 = .ok (.iconst 0, 1) := by decide +kernel
theorem dd_M_isEpoch_17 : decode cd_M_isEpoch 17 = .ok (.ireturn, 1) := by decide +kernel
theorem dd_M_accumulator_0 : decode cd_M_accumulator 0 = .ok (.aload_n 0, 1) := by decide +kernel
theorem dd_M_accumulator_1 : decode cd_M_accumulator 1 = .ok (.getfield 181, 3) := by decide +kernel
theorem dd_M_accumulator_4 : decode cd_M_accumulator 4 = .ok (.ifCond .eq 11, 3) := by decide +kernel
theorem dd_M_accumulator_7 : decode cd_M_accumulator 7 = .ok (.aload_n 0, 1) := by decide +kernel
theorem dd_M_accumulator_8 : decode cd_M_accumulator 8 = .ok (.iload_n 1, 1) := by decide +kernel
theorem dd_M_accumulator_9 : decode cd_M_accumulator 9 = .ok (.invokevirtual 220, 3) := by decide +kernel
theorem dd_M_accumulator_12 : decode cd_M_accumulator 12 = .ok (.ifCond .ne 7, 3) := by decide +kernel
theorem dd_M_accumulator_15 : decode cd_M_accumulator 15 = .ok (.lconst 0, 1) := by decide +kernel
theorem dd_M_accumulator_16 : decode cd_M_accumulator 16 = .ok (.goto 22, 3) := by decide +kernel
theorem dd_M_accumulator_19 : decode cd_M_accumulator 19 = .ok (.iload_n 2, 1) := by decide +kernel
theorem dd_M_accumulator_20 : decode cd_M_accumulator 20 = .ok (.ifCond .eq 12, 3) := by decide +kernel
theorem dd_M_accumulator_23 : decode cd_M_accumulator 23 = .ok (.aload_n 0, 1) := by decide +kernel
theorem dd_M_accumulator_24 : decode cd_M_accumulator 24 = .ok (.getfield 96, 3) := by decide +kernel
theorem dd_M_accumulator_27 : decode cd_M_accumulator 27 = .ok (.iload_n 1, 1) := by decide +kernel
theorem dd_M_accumulator_28 : decode cd_M_accumulator 28 = .ok (.laload, 1) := by decide +kernel
theorem dd_M_accumulator_29 : decode cd_M_accumulator 29 = .ok (.goto 9, 3) := by decide +kernel
theorem dd_M_accumulator_32 : decode cd_M_accumulator 32 = .ok (.aload_n 0, 1) := by decide +kernel
theorem dd_M_accumulator_33 : decode cd_M_accumulator 33 = .ok (.getfield 99, 3) := by decide +kernel
theorem dd_M_accumulator_36 : decode cd_M_accumulator 36 = .ok (.iload_n 1, 1) := by decide +kernel
theorem dd_M_accumulator_37 : decode cd_M_accumulator 37 = .ok (.laload, 1) := by decide +kernel
theorem dd_M_accumulator_38 : decode cd_M_accumulator 38 = .ok (.lreturn, 1) := by decide +kernel
theorem dd_M_note_0 : decode cd_M_note 0 = .ok (.aload_n 0, 1) := by decide +kernel
theorem dd_M_note_1 : decode cd_M_note 1 = .ok (.getfield 181, 3) := by decide +kernel
theorem dd_M_note_4 : decode cd_M_note 4 = .ok (.ifCond .ne 5, 3) := by decide +kernel
theorem dd_M_note_7 : decode cd_M_note 7 = .ok (.iconst (-1), 1) := by decide +kernel
theorem dd_M_note_8 : decode cd_M_note 8 = .ok (.ireturn, 1) := by decide +kernel
theorem dd_M_note_9 : decode cd_M_note 9 = .ok (.aload_n 0, 1) := by decide +kernel
theorem dd_M_note_10 : decode cd_M_note 10 = .ok (.iload_n 1, 1) := by decide +kernel
theorem dd_M_note_11 : decode cd_M_note 11 = .ok (.invokevirtual 220, 3) := by decide +kernel
theorem dd_M_note_14 : decode cd_M_note 14 = .ok (.ifCond .eq 16, 3) := by decide +kernel
theorem dd_M_note_17 : decode cd_M_note 17 = .ok (.iload_n 1, 1) := by decide +kernel
theorem dd_M_note_18 : decode cd_M_note 18 = .ok (.ifCond .eq 12, 3) := by decide +kernel
theorem dd_M_note_21 : decode cd_M_note 21 = .ok (.iload_n 2, 1) := by decide +kernel
theorem dd_M_note_22 : decode cd_M_note 22 = .ok (.ifCond .lt 8, 3) := by decide +kernel
theorem dd_M_note_25 : decode cd_M_note 25 = .ok (.iload_n 2, 1) := by decide +kernel
theorem dd_M_note_26 : decode cd_M_note 26 = .ok (.iconst 3, 1) := by decide +kernel
theorem dd_M_note_27 : decode cd_M_note 27 = .ok (.if_icmp .le 6, 3) := by decide +kernel
theorem dd_M_note_30 : decode cd_M_note 30 = .ok (.bipush (-2), 2) := by decide +kernel
theorem dd_M_note_32 : decode cd_M_note 32 = .ok (.ireturn, 1) := by decide +kernel
theorem dd_M_note_33 : decode cd_M_note 33 = .ok (.iload_n 2, 1) := by decide +kernel
theorem dd_M_note_34 : decode cd_M_note 34 = .ok (.iconst 2, 1) := by decide +kernel
theorem dd_M_note_35 : decode cd_M_note 35 = .ok (.irem, 1) := by decide +kernel
theorem dd_M_note_36 : decode cd_M_note 36 = .ok (.ifCond .ne 7, 3) := by decide +kernel
theorem dd_M_note_39 : decode cd_M_note 39 = .ok (.iload_n 1, 1) := by decide +kernel
theorem dd_M_note_40 : decode cd_M_note 40 = .ok (.goto 6, 3) := by decide +kernel
theorem dd_M_note_43 : decode cd_M_note 43 = .ok (.iload_n 1, 1) := by decide +kernel
theorem dd_M_note_44 : decode cd_M_note 44 = .ok (.iconst 1, 1) := by decide +kernel
theorem dd_M_note_45 : decode cd_M_note 45 = .ok (.isub, 1) := by decide +kernel
theorem dd_M_note_46 : decode cd_M_note 46 = .ok (.istore 4, 2) := by decide +kernel
theorem dd_M_note_48 : decode cd_M_note 48 = .ok (.iload_n 2, 1) := by decide +kernel
theorem dd_M_note_49 : decode cd_M_note 49 = .ok (.iconst 2, 1) := by decide +kernel
theorem dd_M_note_50 : decode cd_M_note 50 = .ok (.irem, 1) := by decide +kernel
theorem dd_M_note_51 : decode cd_M_note 51 = .ok (.ifCond .ne 9, 3) := by decide +kernel
theorem dd_M_note_54 : decode cd_M_note 54 = .ok (.iload_n 1, 1) := by decide +kernel
theorem dd_M_note_55 : decode cd_M_note 55 = .ok (.iconst 1, 1) := by decide +kernel
theorem dd_M_note_56 : decode cd_M_note 56 = .ok (.isub, 1) := by decide +kernel
theorem dd_M_note_57 : decode cd_M_note 57 = .ok (.goto 4, 3) := by decide +kernel
theorem dd_M_note_60 : decode cd_M_note 60 = .ok (.iload_n 1, 1) := by decide +kernel
theorem dd_M_note_61 : decode cd_M_note 61 = .ok (.istore 5, 2) := by decide +kernel
theorem dd_M_note_63 : decode cd_M_note 63 = .ok (.iconst 0, 1) := by decide +kernel
theorem dd_M_note_64 : decode cd_M_note 64 = .ok (.istore 6, 2) := by decide +kernel
theorem dd_M_note_66 : decode cd_M_note 66 = .ok (.bipush 10, 2) := by decide +kernel
theorem dd_M_note_68 : decode cd_M_note 68 = .ok (.iload 4, 2) := by decide +kernel
theorem dd_M_note_70 : decode cd_M_note 70 = .ok (.imul, 1) := by decide +kernel
theorem dd_M_note_71 : decode cd_M_note 71 = .ok (.istore 7, 2) := by decide +kernel
theorem dd_M_note_73 : decode cd_M_note 73 = .ok (.iload 7, 2) := by decide +kernel
theorem dd_M_note_75 : decode cd_M_note 75 = .ok (.bipush 10, 2) := by decide +kernel
theorem dd_M_note_77 : decode cd_M_note 77 = .ok (.iload 4, 2) := by decide +kernel
theorem dd_M_note_79 : decode cd_M_note 79 = .ok (.imul, 1) := by decide +kernel
theorem dd_M_note_80 : decode cd_M_note 80 = .ok (.aload_n 0, 1) := by decide +kernel
theorem dd_M_note_81 : decode cd_M_note 81 = .ok (.getfield 87, 3) := by decide +kernel
theorem dd_M_note_84 : decode cd_M_note 84 = .ok (.iload 4, 2) := by decide +kernel
theorem dd_M_note_86 : decode cd_M_note 86 = .ok (.iaload, 1) := by decide +kernel
theorem dd_M_note_87 : decode cd_M_note 87 = .ok (.iadd, 1) := by decide +kernel
theorem dd_M_note_88 : decode cd_M_note 88 = .ok (.if_icmp .ge 47, 3) := by decide +kernel
theorem dd_M_note_91 : decode cd_M_note 91 = .ok (.aload_n 0, 1) := by decide +kernel
theorem dd_M_note_92 : decode cd_M_note 92 = .ok (.iload 5, 2) := by decide +kernel
theorem dd_M_note_94 : decode cd_M_note 94 = .ok (.aload_n 0, 1) := by decide +kernel
theorem dd_M_note_95 : decode cd_M_note 95 = .ok (.getfield 90, 3) := by decide +kernel
theorem dd_M_note_98 : decode cd_M_note 98 = .ok (.iload 7, 2) := by decide +kernel
theorem dd_M_note_100 : decode cd_M_note 100 = .ok (.laload, 1) := by decide +kernel
theorem dd_M_note_101 : decode cd_M_note 101 = .ok (.invokevirtual 216, 3) := by decide +kernel
theorem dd_M_note_104 : decode cd_M_note 104 = .ok (.ifCond .ge 25, 3) := by decide +kernel
theorem dd_M_note_107 : decode cd_M_note 107 = .ok (.iload_n 2, 1) := by decide +kernel
theorem dd_M_note_108 : decode cd_M_note 108 = .ok (.iconst 1, 1) := by decide +kernel
theorem dd_M_note_109 : decode cd_M_note 109 = .ok (.if_icmp .le 17, 3) := by decide +kernel
theorem dd_M_note_112 : decode cd_M_note 112 = .ok (.iload 6, 2) := by decide +kernel
theorem dd_M_note_114 : decode cd_M_note 114 = .ok (.iload_n 3, 1) := by decide +kernel
theorem dd_M_note_115 : decode cd_M_note 115 = .ok (.if_icmp .ne 11, 3) := by decide +kernel
theorem dd_M_note_118 : decode cd_M_note 118 = .ok (.aload_n 0, 1) := by decide +kernel
theorem dd_M_note_119 : decode cd_M_note 119 = .ok (.getfield 93, 3) := by decide +kernel
theorem dd_M_note_122 : decode cd_M_note 122 = .ok (.iload 7, 2) := by decide +kernel
theorem dd_M_note_124 : decode cd_M_note 124 = .ok (.iaload, 1) := by decide +kernel
theorem dd_M_note_125 : decode cd_M_note 125 = .ok (.ireturn, 1) := by decide +kernel
theorem dd_M_note_126 : decode cd_M_note 126 = .ok (.iinc 6 1, 3) := by decide +kernel
theorem dd_M_note_129 : decode cd_M_note 129 = .ok (.iinc 7 1, 3) := by decide +kernel
theorem dd_M_note_132 : decode cd_M_note 132 = .ok (.goto (-59), 3) := by decide +kernel
theorem dd_M_note_135 : decode cd_M_note 135 = .ok (.iload_n 2, 1) := by decide +kernel
theorem dd_M_note_136 : decode cd_M_note 136 = .ok (.iconst 1, 1) := by decide +kernel
theorem dd_M_note_137 : decode cd_M_note 137 = .ok (.if_icmp .le 8, 3) := by decide +kernel
theorem dd_M_note_140 : decode cd_M_note 140 = .ok (.bipush (-2), 2) := by decide +kernel
theorem dd_M_note_142 : decode cd_M_note 142 = .ok (.goto 5, 3) := by decide +kernel
theorem dd_M_note_145 : decode cd_M_note 145 = .ok (.iload 6, 2) := by decide +kernel
theorem dd_M_note_147 : decode cd_M_note 147 = .ok (.ireturn, 1) := by decide +kernel
theorem dd_M_issued_0 : decode cd_M_issued 0 = .ok (.aload_n 0, 1) := by decide +kernel
theorem dd_M_issued_1 : decode cd_M_issued 1 = .ok (.lconst 0, 1) := by decide +kernel
theorem dd_M_issued_2 : decode cd_M_issued 2 = .ok (.putfield 154, 3) := by decide +kernel
theorem dd_M_issued_5 : decode cd_M_issued 5 = .ok (.aload_n 0, 1) := by decide +kernel
theorem dd_M_issued_6 : decode cd_M_issued 6 = .ok (.ldc2_w 118, 3) := by decide +kernel
theorem dd_M_issued_9 : decode cd_M_issued 9 = .ok (.putfield 151, 3) := by decide +kernel
theorem dd_M_issued_12 : decode cd_M_issued 12 = .ok (.bipush 10, 2) := by decide +kernel
theorem dd_M_issued_14 : decode cd_M_issued 14 = .ok (.aload_n 0, 1) := by decide +kernel
theorem dd_M_issued_15 : decode cd_M_issued 15 = .ok (.getfield 209, 3) := by decide +kernel
theorem dd_M_issued_18 : decode cd_M_issued 18 = .ok (.imul, 1) := by decide +kernel
theorem dd_M_issued_19 : decode cd_M_issued 19 = .ok (.istore_n 2, 1) := by decide +kernel
theorem dd_M_issued_20 : decode cd_M_issued 20 = .ok (.iload_n 2, 1) := by decide +kernel
theorem dd_M_issued_21 : decode cd_M_issued 21 = .ok (.bipush 10, 2) := by decide +kernel
theorem dd_M_issued_23 : decode cd_M_issued 23 = .ok (.aload_n 0, 1) := by decide +kernel
theorem dd_M_issued_24 : decode cd_M_issued 24 = .ok (.getfield 209, 3) := by decide +kernel
theorem dd_M_issued_27 : decode cd_M_issued 27 = .ok (.imul, 1) := by decide +kernel
theorem dd_M_issued_28 : decode cd_M_issued 28 = .ok (.aload_n 0, 1) := by decide +kernel
theorem dd_M_issued_29 : decode cd_M_issued 29 = .ok (.getfield 87, 3) := by decide +kernel
theorem dd_M_issued_32 : decode cd_M_issued 32 = .ok (.aload_n 0, 1) := by decide +kernel
theorem dd_M_issued_33 : decode cd_M_issued 33 = .ok (.getfield 209, 3) := by decide +kernel
theorem dd_M_issued_36 : decode cd_M_issued 36 = .ok (.iaload, 1) := by decide +kernel
theorem dd_M_issued_37 : decode cd_M_issued 37 = .ok (.iadd, 1) := by decide +kernel
theorem dd_M_issued_38 : decode cd_M_issued 38 = .ok (.if_icmp .ge 32, 3) := by decide +kernel
theorem dd_M_issued_41 : decode cd_M_issued 41 = .ok (.iload_n 2, 1) := by decide +kernel
theorem dd_M_issued_42 : decode cd_M_issued 42 = .ok (.iload_n 1, 1) := by decide +kernel
theorem dd_M_issued_43 : decode cd_M_issued 43 = .ok (.if_icmp .eq 21, 3) := by decide +kernel
theorem dd_M_issued_46 : decode cd_M_issued 46 = .ok (.aload_n 0, 1) := by decide +kernel
theorem dd_M_issued_47 : decode cd_M_issued 47 = .ok (.aload_n 0, 1) := by decide +kernel
theorem dd_M_issued_48 : decode cd_M_issued 48 = .ok (.getfield 154, 3) := by decide +kernel
theorem dd_M_issued_51 : decode cd_M_issued 51 = .ok (.aload_n 0, 1) := by decide +kernel
theorem dd_M_issued_52 : decode cd_M_issued 52 = .ok (.getfield 151, 3) := by decide +kernel
theorem dd_M_issued_55 : decode cd_M_issued 55 = .ok (.aload_n 0, 1) := by decide +kernel
theorem dd_M_issued_56 : decode cd_M_issued 56 = .ok (.getfield 93, 3) := by decide +kernel
theorem dd_M_issued_59 : decode cd_M_issued 59 = .ok (.iload_n 2, 1) := by decide +kernel
theorem dd_M_issued_60 : decode cd_M_issued 60 = .ok (.iaload, 1) := by decide +kernel
theorem dd_M_issued_61 : decode cd_M_issued 61 = .ok (.invokevirtual 212, 3) := by decide +kernel
theorem dd_M_issued_64 : decode cd_M_issued 64 = .ok (.iinc 2 1, 3) := by decide +kernel
theorem dd_M_issued_67 : decode cd_M_issued 67 = .ok (.goto (-47), 3) := by decide +kernel
theorem dd_M_issued_70 : decode cd_M_issued 70 = .ok (.return_, 1) := by decide +kernel
theorem dd_M_witness_0 : decode cd_M_witness 0 = .ok (.aload_n 0, 1) := by decide +kernel
theorem dd_M_witness_1 : decode cd_M_witness 1 = .ok (.getfield 181, 3) := by decide +kernel
theorem dd_M_witness_4 : decode cd_M_witness 4 = .ok (.ifCond .eq 15, 3) := by decide +kernel
theorem dd_M_witness_7 : decode cd_M_witness 7 = .ok (.aload_n 0, 1) := by decide +kernel
theorem dd_M_witness_8 : decode cd_M_witness 8 = .ok (.aload_n 0, 1) := by decide +kernel
theorem dd_M_witness_9 : decode cd_M_witness 9 = .ok (.getfield 209, 3) := by decide +kernel
theorem dd_M_witness_12 : decode cd_M_witness 12 = .ok (.lload_n 1, 1) := by decide +kernel
theorem dd_M_witness_13 : decode cd_M_witness 13 = .ok (.invokevirtual 216, 3) := by decide +kernel
theorem dd_M_witness_16 : decode cd_M_witness 16 = .ok (.goto 4, 3) := by decide +kernel
theorem dd_M_witness_19 : decode cd_M_witness 19 = .ok (.iconst (-1), 1) := by decide +kernel
theorem dd_M_witness_20 : decode cd_M_witness 20 = .ok (.istore 4, 2) := by decide +kernel
theorem dd_M_witness_22 : decode cd_M_witness 22 = .ok (.iload 4, 2) := by decide +kernel
theorem dd_M_witness_24 : decode cd_M_witness 24 = .ok (.ifCond .ge 5, 3) := by decide +kernel
theorem dd_M_witness_27 : decode cd_M_witness 27 = .ok (.lconst 0, 1) := by decide +kernel
theorem dd_M_witness_28 : decode cd_M_witness 28 = .ok (.lreturn, 1) := by decide +kernel
theorem dd_M_witness_29 : decode cd_M_witness 29 = .ok (.aload_n 0, 1) := by decide +kernel
theorem dd_M_witness_30 : decode cd_M_witness 30 = .ok (.iload 4, 2) := by decide +kernel
theorem dd_M_witness_32 : decode cd_M_witness 32 = .ok (.invokevirtual 223, 3) := by decide +kernel
theorem dd_M_witness_35 : decode cd_M_witness 35 = .ok (.iload_n 3, 1) := by decide +kernel
theorem dd_M_witness_36 : decode cd_M_witness 36 = .ok (.ifCond .eq 10, 3) := by decide +kernel
theorem dd_M_witness_39 : decode cd_M_witness 39 = .ok (.aload_n 0, 1) := by decide +kernel
theorem dd_M_witness_40 : decode cd_M_witness 40 = .ok (.getfield 154, 3) := by decide +kernel
theorem dd_M_witness_43 : decode cd_M_witness 43 = .ok (.goto 7, 3) := by decide +kernel
theorem dd_M_witness_46 : decode cd_M_witness 46 = .ok (.aload_n 0, 1) := by decide +kernel
theorem dd_M_witness_47 : decode cd_M_witness 47 = .ok (.getfield 151, 3) := by decide +kernel
theorem dd_M_witness_50 : decode cd_M_witness 50 = .ok (.lreturn, 1) := by decide +kernel
theorem dd_M_issue_0 : decode cd_M_issue 0 = .ok (.aload_n 0, 1) := by decide +kernel
theorem dd_M_issue_1 : decode cd_M_issue 1 = .ok (.getfield 181, 3) := by decide +kernel
theorem dd_M_issue_4 : decode cd_M_issue 4 = .ok (.ifCond .ne 5, 3) := by decide +kernel
theorem dd_M_issue_7 : decode cd_M_issue 7 = .ok (.iconst (-1), 1) := by decide +kernel
theorem dd_M_issue_8 : decode cd_M_issue 8 = .ok (.ireturn, 1) := by decide +kernel
theorem dd_M_issue_9 : decode cd_M_issue 9 = .ok (.aload_n 0, 1) := by decide +kernel
theorem dd_M_issue_10 : decode cd_M_issue 10 = .ok (.lload_n 1, 1) := by decide +kernel
theorem dd_M_issue_11 : decode cd_M_issue 11 = .ok (.invokevirtual 202, 3) := by decide +kernel
theorem dd_M_issue_14 : decode cd_M_issue 14 = .ok (.bipush (-2), 2) := by decide +kernel
theorem dd_M_issue_16 : decode cd_M_issue 16 = .ok (.if_icmp .ne 6, 3) := by decide +kernel
theorem dd_M_issue_19 : decode cd_M_issue 19 = .ok (.bipush (-2), 2) := by decide +kernel
theorem dd_M_issue_21 : decode cd_M_issue 21 = .ok (.ireturn, 1) := by decide +kernel
theorem dd_M_issue_22 : decode cd_M_issue 22 = .ok (.aload_n 0, 1) := by decide +kernel
theorem dd_M_issue_23 : decode cd_M_issue 23 = .ok (.aload_n 0, 1) := by decide +kernel
theorem dd_M_issue_24 : decode cd_M_issue 24 = .ok (.getfield 209, 3) := by decide +kernel
theorem dd_M_issue_27 : decode cd_M_issue 27 = .ok (.lload_n 1, 1) := by decide +kernel
theorem dd_M_issue_28 : decode cd_M_issue 28 = .ok (.invokevirtual 216, 3) := by decide +kernel
theorem dd_M_issue_31 : decode cd_M_issue 31 = .ok (.istore_n 3, 1) := by decide +kernel
theorem dd_M_issue_32 : decode cd_M_issue 32 = .ok (.iload_n 3, 1) := by decide +kernel
theorem dd_M_issue_33 : decode cd_M_issue 33 = .ok (.ifCond .ge 6, 3) := by decide +kernel
theorem dd_M_issue_36 : decode cd_M_issue 36 = .ok (.bipush (-4), 2) := by decide +kernel
theorem dd_M_issue_38 : decode cd_M_issue 38 = .ok (.ireturn, 1) := by decide +kernel
theorem dd_M_issue_39 : decode cd_M_issue 39 = .ok (.aload_n 0, 1) := by decide +kernel
theorem dd_M_issue_40 : decode cd_M_issue 40 = .ok (.iload_n 3, 1) := by decide +kernel
theorem dd_M_issue_41 : decode cd_M_issue 41 = .ok (.invokevirtual 223, 3) := by decide +kernel
theorem dd_M_issue_44 : decode cd_M_issue 44 = .ok (.aload_n 0, 1) := by decide +kernel
theorem dd_M_issue_45 : decode cd_M_issue 45 = .ok (.aload_n 0, 1) := by decide +kernel
theorem dd_M_issue_46 : decode cd_M_issue 46 = .ok (.getfield 154, 3) := by decide +kernel
theorem dd_M_issue_49 : decode cd_M_issue 49 = .ok (.putfield 226, 3) := by decide +kernel
theorem dd_M_issue_52 : decode cd_M_issue 52 = .ok (.aload_n 0, 1) := by decide +kernel
theorem dd_M_issue_53 : decode cd_M_issue 53 = .ok (.aload_n 0, 1) := by decide +kernel
theorem dd_M_issue_54 : decode cd_M_issue 54 = .ok (.getfield 151, 3) := by decide +kernel
theorem dd_M_issue_57 : decode cd_M_issue 57 = .ok (.putfield 229, 3) := by decide +kernel
theorem dd_M_issue_60 : decode cd_M_issue 60 = .ok (.aload_n 0, 1) := by decide +kernel
theorem dd_M_issue_61 : decode cd_M_issue 61 = .ok (.iconst 0, 1) := by decide +kernel
theorem dd_M_issue_62 : decode cd_M_issue 62 = .ok (.putfield 232, 3) := by decide +kernel
theorem dd_M_issue_65 : decode cd_M_issue 65 = .ok (.aload_n 0, 1) := by decide +kernel
theorem dd_M_issue_66 : decode cd_M_issue 66 = .ok (.getfield 87, 3) := by decide +kernel
theorem dd_M_issue_69 : decode cd_M_issue 69 = .ok (.aload_n 0, 1) := by decide +kernel
theorem dd_M_issue_70 : decode cd_M_issue 70 = .ok (.getfield 209, 3) := by decide +kernel
theorem dd_M_issue_73 : decode cd_M_issue 73 = .ok (.iaload, 1) := by decide +kernel
theorem dd_M_issue_74 : decode cd_M_issue 74 = .ok (.iconst 1, 1) := by decide +kernel
theorem dd_M_issue_75 : decode cd_M_issue 75 = .ok (.isub, 1) := by decide +kernel
theorem dd_M_issue_76 : decode cd_M_issue 76 = .ok (.ireturn, 1) := by decide +kernel
theorem dd_M_hold_0 : decode cd_M_hold 0 = .ok (.aload_n 0, 1) := by decide +kernel
theorem dd_M_hold_1 : decode cd_M_hold 1 = .ok (.getfield 181, 3) := by decide +kernel
theorem dd_M_hold_4 : decode cd_M_hold 4 = .ok (.ifCond .eq 17, 3) := by decide +kernel
theorem dd_M_hold_7 : decode cd_M_hold 7 = .ok (.aload_n 0, 1) := by decide +kernel
theorem dd_M_hold_8 : decode cd_M_hold 8 = .ok (.lload_n 1, 1) := by decide +kernel
theorem dd_M_hold_9 : decode cd_M_hold 9 = .ok (.lload_n 3, 1) := by decide +kernel
theorem dd_M_hold_10 : decode cd_M_hold 10 = .ok (.invokevirtual 157, 3) := by decide +kernel
theorem dd_M_hold_13 : decode cd_M_hold 13 = .ok (.ifCond .eq 8, 3) := by decide +kernel
theorem dd_M_hold_16 : decode cd_M_hold 16 = .ok (.iload 5, 2) := by decide +kernel
theorem dd_M_hold_18 : decode cd_M_hold 18 = .ok (.ifCond .ge 5, 3) := by decide +kernel
theorem dd_M_hold_21 : decode cd_M_hold 21 = .ok (.iconst 0, 1) := by decide +kernel
theorem dd_M_hold_22 : decode cd_M_hold 22 = .ok (.ireturn, 1) := by decide +kernel
theorem dd_M_hold_23 : decode cd_M_hold 23 = .ok (.aload_n 0, 1) := by decide +kernel
theorem dd_M_hold_24 : decode cd_M_hold 24 = .ok (.lload_n 1, 1) := by decide +kernel
theorem dd_M_hold_25 : decode cd_M_hold 25 = .ok (.putfield 226, 3) := by decide +kernel
theorem dd_M_hold_28 : decode cd_M_hold 28 = .ok (.aload_n 0, 1) := by decide +kernel
theorem dd_M_hold_29 : decode cd_M_hold 29 = .ok (.lload_n 3, 1) := by decide +kernel
theorem dd_M_hold_30 : decode cd_M_hold 30 = .ok (.putfield 229, 3) := by decide +kernel
theorem dd_M_hold_33 : decode cd_M_hold 33 = .ok (.aload_n 0, 1) := by decide +kernel
theorem dd_M_hold_34 : decode cd_M_hold 34 = .ok (.iload 5, 2) := by decide +kernel
theorem dd_M_hold_36 : decode cd_M_hold 36 = .ok (.putfield 232, 3) := by decide +kernel
theorem dd_M_hold_39 : decode cd_M_hold 39 = .ok (.iconst 1, 1) := by decide +kernel
theorem dd_M_hold_40 : decode cd_M_hold 40 = .ok (.ireturn, 1) := by decide +kernel
theorem dd_M_hand_0 : decode cd_M_hand 0 = .ok (.iload_n 1, 1) := by decide +kernel
theorem dd_M_hand_1 : decode cd_M_hand 1 = .ok (.ifCond .eq 10, 3) := by decide +kernel
theorem dd_M_hand_4 : decode cd_M_hand 4 = .ok (.aload_n 0, 1) := by decide +kernel
theorem dd_M_hand_5 : decode cd_M_hand 5 = .ok (.getfield 226, 3) := by decide +kernel
theorem dd_M_hand_8 : decode cd_M_hand 8 = .ok (.goto 7, 3) := by decide +kernel
theorem dd_M_hand_11 : decode cd_M_hand 11 = .ok (.aload_n 0, 1) := by decide +kernel
theorem dd_M_hand_12 : decode cd_M_hand 12 = .ok (.getfield 229, 3) := by decide +kernel
theorem dd_M_hand_15 : decode cd_M_hand 15 = .ok (.lreturn, 1) := by decide +kernel
theorem dd_M_factor_0 : decode cd_M_factor 0 = .ok (.aload_n 0, 1) := by decide +kernel
theorem dd_M_factor_1 : decode cd_M_factor 1 = .ok (.getfield 181, 3) := by decide +kernel
theorem dd_M_factor_4 : decode cd_M_factor 4 = .ok (.ifCond .eq 10, 3) := by decide +kernel
theorem dd_M_factor_7 : decode cd_M_factor 7 = .ok (.aload_n 0, 1) := by decide +kernel
theorem dd_M_factor_8 : decode cd_M_factor 8 = .ok (.getfield 232, 3) := by decide +kernel
theorem dd_M_factor_11 : decode cd_M_factor 11 = .ok (.goto 4, 3) := by decide +kernel
theorem dd_M_factor_14 : decode cd_M_factor 14 = .ok (.iconst (-1), 1) := by decide +kernel
theorem dd_M_factor_15 : decode cd_M_factor 15 = .ok (.ireturn, 1) := by decide +kernel
theorem dd_M_isWitness_0 : decode cd_M_isWitness 0 = .ok (.aload_n 0, 1) := by decide +kernel
theorem dd_M_isWitness_1 : decode cd_M_isWitness 1 = .ok (.aload_n 0, 1) := by decide +kernel
theorem dd_M_isWitness_2 : decode cd_M_isWitness 2 = .ok (.getfield 226, 3) := by decide +kernel
theorem dd_M_isWitness_5 : decode cd_M_isWitness 5 = .ok (.aload_n 0, 1) := by decide +kernel
theorem dd_M_isWitness_6 : decode cd_M_isWitness 6 = .ok (.getfield 229, 3) := by decide +kernel
theorem dd_M_isWitness_9 : decode cd_M_isWitness 9 = .ok (.iload_n 1, 1) := by decide +kernel
theorem dd_M_isWitness_10 : decode cd_M_isWitness 10 = .ok (.invokevirtual 212, 3) := by decide +kernel
theorem dd_M_isWitness_13 : decode cd_M_isWitness 13 = .ok (.aload_n 0, 1) := by decide +kernel
theorem dd_M_isWitness_14 : decode cd_M_isWitness 14 = .ok (.getfield 154, 3) := by decide +kernel
theorem dd_M_isWitness_17 : decode cd_M_isWitness 17 = .ok (.aload_n 0, 1) := by decide +kernel
theorem dd_M_isWitness_18 : decode cd_M_isWitness 18 = .ok (.getfield 96, 3) := by decide +kernel
theorem dd_M_isWitness_21 : decode cd_M_isWitness 21 = .ok (.iload_n 2, 1) := by decide +kernel
theorem dd_M_isWitness_22 : decode cd_M_isWitness 22 = .ok (.laload, 1) := by decide +kernel
theorem dd_M_isWitness_23 : decode cd_M_isWitness 23 = .ok (.lcmp, 1) := by decide +kernel
theorem dd_M_isWitness_24 : decode cd_M_isWitness 24 = .ok (.ifCond .ne 21, 3) := by decide +kernel
theorem dd_M_isWitness_27 : decode cd_M_isWitness 27 = .ok (.aload_n 0, 1) := by decide +kernel
theorem dd_M_isWitness_28 : decode cd_M_isWitness 28 = .ok (.getfield 151, 3) := by decide +kernel
theorem dd_M_isWitness_31 : decode cd_M_isWitness 31 = .ok (.aload_n 0, 1) := by decide +kernel
theorem dd_M_isWitness_32 : decode cd_M_isWitness 32 = .ok (.getfield 99, 3) := by decide +kernel
theorem dd_M_isWitness_35 : decode cd_M_isWitness 35 = .ok (.iload_n 2, 1) := by decide +kernel
theorem dd_M_isWitness_36 : decode cd_M_isWitness 36 = .ok (.laload, 1) := by decide +kernel
theorem dd_M_isWitness_37 : decode cd_M_isWitness 37 = .ok (.lcmp, 1) := by decide +kernel
theorem dd_M_isWitness_38 : decode cd_M_isWitness 38 = .ok (.ifCond .ne 7, 3) := by decide +kernel
theorem dd_M_isWitness_41 : decode cd_M_isWitness 41 = .ok (.iconst 1, 1) := by decide +kernel
theorem dd_M_isWitness_42 : decode cd_M_isWitness 42 = .ok (.goto 4, 3) := by decide +kernel
theorem dd_M_isWitness_45 : decode cd_M_isWitness 45 = .ok (.iconst 0, 1) := by decide +kernel
theorem dd_M_isWitness_46 : decode cd_M_isWitness 46 = .ok (.ireturn, 1) := by decide +kernel
theorem dd_M_check_0 : decode cd_M_check 0 = .ok (.aload_n 0, 1) := by decide +kernel
theorem dd_M_check_1 : decode cd_M_check 1 = .ok (.getfield 181, 3) := by decide +kernel
theorem dd_M_check_4 : decode cd_M_check 4 = .ok (.ifCond .ne 5, 3) := by decide +kernel
theorem dd_M_check_7 : decode cd_M_check 7 = .ok (.iconst (-1), 1) := by decide +kernel
theorem dd_M_check_8 : decode cd_M_check 8 = .ok (.ireturn, 1) := by decide +kernel
theorem dd_M_check_9 : decode cd_M_check 9 = .ok (.aload_n 0, 1) := by decide +kernel
theorem dd_M_check_10 : decode cd_M_check 10 = .ok (.lload_n 1, 1) := by decide +kernel
theorem dd_M_check_11 : decode cd_M_check 11 = .ok (.invokevirtual 202, 3) := by decide +kernel
theorem dd_M_check_14 : decode cd_M_check 14 = .ok (.istore 4, 2) := by decide +kernel
theorem dd_M_check_16 : decode cd_M_check 16 = .ok (.iload 4, 2) := by decide +kernel
theorem dd_M_check_18 : decode cd_M_check 18 = .ok (.bipush (-2), 2) := by decide +kernel
theorem dd_M_check_20 : decode cd_M_check 20 = .ok (.if_icmp .eq 11, 3) := by decide +kernel
theorem dd_M_check_23 : decode cd_M_check 23 = .ok (.aload_n 0, 1) := by decide +kernel
theorem dd_M_check_24 : decode cd_M_check 24 = .ok (.iload_n 3, 1) := by decide +kernel
theorem dd_M_check_25 : decode cd_M_check 25 = .ok (.invokevirtual 220, 3) := by decide +kernel
theorem dd_M_check_28 : decode cd_M_check 28 = .ok (.ifCond .ne 6, 3) := by decide +kernel
theorem dd_M_check_31 : decode cd_M_check 31 = .ok (.bipush (-2), 2) := by decide +kernel
theorem dd_M_check_33 : decode cd_M_check 33 = .ok (.ireturn, 1) := by decide +kernel
theorem dd_M_check_34 : decode cd_M_check 34 = .ok (.aload_n 0, 1) := by decide +kernel
theorem dd_M_check_35 : decode cd_M_check 35 = .ok (.iload 4, 2) := by decide +kernel
theorem dd_M_check_37 : decode cd_M_check 37 = .ok (.iload_n 3, 1) := by decide +kernel
theorem dd_M_check_38 : decode cd_M_check 38 = .ok (.invokevirtual 235, 3) := by decide +kernel
theorem dd_M_check_41 : decode cd_M_check 41 = .ok (.ifCond .eq 7, 3) := by decide +kernel
theorem dd_M_check_44 : decode cd_M_check 44 = .ok (.iconst 1, 1) := by decide +kernel
theorem dd_M_check_45 : decode cd_M_check 45 = .ok (.goto 4, 3) := by decide +kernel
theorem dd_M_check_48 : decode cd_M_check 48 = .ok (.iconst 0, 1) := by decide +kernel
theorem dd_M_check_49 : decode cd_M_check 49 = .ok (.ireturn, 1) := by decide +kernel
theorem dd_M_moveTo_0 : decode cd_M_moveTo 0 = .ok (.bipush 10, 2) := by decide +kernel
theorem dd_M_moveTo_2 : decode cd_M_moveTo 2 = .ok (.iload_n 1, 1) := by decide +kernel
theorem dd_M_moveTo_3 : decode cd_M_moveTo 3 = .ok (.imul, 1) := by decide +kernel
theorem dd_M_moveTo_4 : decode cd_M_moveTo 4 = .ok (.istore_n 3, 1) := by decide +kernel
theorem dd_M_moveTo_5 : decode cd_M_moveTo 5 = .ok (.iload_n 3, 1) := by decide +kernel
theorem dd_M_moveTo_6 : decode cd_M_moveTo 6 = .ok (.bipush 10, 2) := by decide +kernel
theorem dd_M_moveTo_8 : decode cd_M_moveTo 8 = .ok (.iload_n 1, 1) := by decide +kernel
theorem dd_M_moveTo_9 : decode cd_M_moveTo 9 = .ok (.imul, 1) := by decide +kernel
theorem dd_M_moveTo_10 : decode cd_M_moveTo 10 = .ok (.aload_n 0, 1) := by decide +kernel
theorem dd_M_moveTo_11 : decode cd_M_moveTo 11 = .ok (.getfield 87, 3) := by decide +kernel
theorem dd_M_moveTo_14 : decode cd_M_moveTo 14 = .ok (.iload_n 1, 1) := by decide +kernel
theorem dd_M_moveTo_15 : decode cd_M_moveTo 15 = .ok (.iaload, 1) := by decide +kernel
theorem dd_M_moveTo_16 : decode cd_M_moveTo 16 = .ok (.iadd, 1) := by decide +kernel
theorem dd_M_moveTo_17 : decode cd_M_moveTo 17 = .ok (.if_icmp .ge 59, 3) := by decide +kernel
theorem dd_M_moveTo_20 : decode cd_M_moveTo 20 = .ok (.aload_n 0, 1) := by decide +kernel
theorem dd_M_moveTo_21 : decode cd_M_moveTo 21 = .ok (.iload_n 1, 1) := by decide +kernel
theorem dd_M_moveTo_22 : decode cd_M_moveTo 22 = .ok (.iconst 1, 1) := by decide +kernel
theorem dd_M_moveTo_23 : decode cd_M_moveTo 23 = .ok (.isub, 1) := by decide +kernel
theorem dd_M_moveTo_24 : decode cd_M_moveTo 24 = .ok (.aload_n 0, 1) := by decide +kernel
theorem dd_M_moveTo_25 : decode cd_M_moveTo 25 = .ok (.getfield 90, 3) := by decide +kernel
theorem dd_M_moveTo_28 : decode cd_M_moveTo 28 = .ok (.iload_n 3, 1) := by decide +kernel
theorem dd_M_moveTo_29 : decode cd_M_moveTo 29 = .ok (.laload, 1) := by decide +kernel
theorem dd_M_moveTo_30 : decode cd_M_moveTo 30 = .ok (.invokevirtual 216, 3) := by decide +kernel
theorem dd_M_moveTo_33 : decode cd_M_moveTo 33 = .ok (.ifCond .ge 37, 3) := by decide +kernel
theorem dd_M_moveTo_36 : decode cd_M_moveTo 36 = .ok (.aload_n 0, 1) := by decide +kernel
theorem dd_M_moveTo_37 : decode cd_M_moveTo 37 = .ok (.aload_n 0, 1) := by decide +kernel
theorem dd_M_moveTo_38 : decode cd_M_moveTo 38 = .ok (.getfield 226, 3) := by decide +kernel
theorem dd_M_moveTo_41 : decode cd_M_moveTo 41 = .ok (.aload_n 0, 1) := by decide +kernel
theorem dd_M_moveTo_42 : decode cd_M_moveTo 42 = .ok (.getfield 229, 3) := by decide +kernel
theorem dd_M_moveTo_45 : decode cd_M_moveTo 45 = .ok (.aload_n 0, 1) := by decide +kernel
theorem dd_M_moveTo_46 : decode cd_M_moveTo 46 = .ok (.getfield 93, 3) := by decide +kernel
theorem dd_M_moveTo_49 : decode cd_M_moveTo 49 = .ok (.iload_n 3, 1) := by decide +kernel
theorem dd_M_moveTo_50 : decode cd_M_moveTo 50 = .ok (.iaload, 1) := by decide +kernel
theorem dd_M_moveTo_51 : decode cd_M_moveTo 51 = .ok (.invokevirtual 212, 3) := by decide +kernel
theorem dd_M_moveTo_54 : decode cd_M_moveTo 54 = .ok (.aload_n 0, 1) := by decide +kernel
theorem dd_M_moveTo_55 : decode cd_M_moveTo 55 = .ok (.aload_n 0, 1) := by decide +kernel
theorem dd_M_moveTo_56 : decode cd_M_moveTo 56 = .ok (.getfield 154, 3) := by decide +kernel
theorem dd_M_moveTo_59 : decode cd_M_moveTo 59 = .ok (.putfield 226, 3) := by decide +kernel
theorem dd_M_moveTo_62 : decode cd_M_moveTo 62 = .ok (.aload_n 0, 1) := by decide +kernel
theorem dd_M_moveTo_63 : decode cd_M_moveTo 63 = .ok (.aload_n 0, 1) := by decide +kernel
theorem dd_M_moveTo_64 : decode cd_M_moveTo 64 = .ok (.getfield 151, 3) := by decide +kernel
theorem dd_M_moveTo_67 : decode cd_M_moveTo 67 = .ok (.putfield 229, 3) := by decide +kernel
theorem dd_M_moveTo_70 : decode cd_M_moveTo 70 = .ok (.iinc 3 1, 3) := by decide +kernel
theorem dd_M_moveTo_73 : decode cd_M_moveTo 73 = .ok (.goto (-68), 3) := by decide +kernel
theorem dd_M_moveTo_76 : decode cd_M_moveTo 76 = .ok (.aload_n 0, 1) := by decide +kernel
theorem dd_M_moveTo_77 : decode cd_M_moveTo 77 = .ok (.invokevirtual 239, 3) := by decide +kernel
theorem dd_M_moveTo_80 : decode cd_M_moveTo 80 = .ok (.bipush 10, 2) := by decide +kernel
theorem dd_M_moveTo_82 : decode cd_M_moveTo 82 = .ok (.iload_n 1, 1) := by decide +kernel
theorem dd_M_moveTo_83 : decode cd_M_moveTo 83 = .ok (.imul, 1) := by decide +kernel
theorem dd_M_moveTo_84 : decode cd_M_moveTo 84 = .ok (.bipush 10, 2) := by decide +kernel
theorem dd_M_moveTo_86 : decode cd_M_moveTo 86 = .ok (.isub, 1) := by decide +kernel
theorem dd_M_moveTo_87 : decode cd_M_moveTo 87 = .ok (.istore_n 3, 1) := by decide +kernel
theorem dd_M_moveTo_88 : decode cd_M_moveTo 88 = .ok (.iload_n 3, 1) := by decide +kernel
theorem dd_M_moveTo_89 : decode cd_M_moveTo 89 = .ok (.bipush 10, 2) := by decide +kernel
theorem dd_M_moveTo_91 : decode cd_M_moveTo 91 = .ok (.iload_n 1, 1) := by decide +kernel
theorem dd_M_moveTo_92 : decode cd_M_moveTo 92 = .ok (.imul, 1) := by decide +kernel
theorem dd_M_moveTo_93 : decode cd_M_moveTo 93 = .ok (.bipush 10, 2) := by decide +kernel
theorem dd_M_moveTo_95 : decode cd_M_moveTo 95 = .ok (.isub, 1) := by decide +kernel
theorem dd_M_moveTo_96 : decode cd_M_moveTo 96 = .ok (.aload_n 0, 1) := by decide +kernel
theorem dd_M_moveTo_97 : decode cd_M_moveTo 97 = .ok (.getfield 87, 3) := by decide +kernel
theorem dd_M_moveTo_100 : decode cd_M_moveTo 100 = .ok (.iload_n 1, 1) := by decide +kernel
theorem dd_M_moveTo_101 : decode cd_M_moveTo 101 = .ok (.iconst 1, 1) := by decide +kernel
theorem dd_M_moveTo_102 : decode cd_M_moveTo 102 = .ok (.isub, 1) := by decide +kernel
theorem dd_M_moveTo_103 : decode cd_M_moveTo 103 = .ok (.iaload, 1) := by decide +kernel
theorem dd_M_moveTo_104 : decode cd_M_moveTo 104 = .ok (.iadd, 1) := by decide +kernel
theorem dd_M_moveTo_105 : decode cd_M_moveTo 105 = .ok (.if_icmp .ge 33, 3) := by decide +kernel
theorem dd_M_moveTo_108 : decode cd_M_moveTo 108 = .ok (.aload_n 0, 1) := by decide +kernel
theorem dd_M_moveTo_109 : decode cd_M_moveTo 109 = .ok (.iload_n 1, 1) := by decide +kernel
theorem dd_M_moveTo_110 : decode cd_M_moveTo 110 = .ok (.aload_n 0, 1) := by decide +kernel
theorem dd_M_moveTo_111 : decode cd_M_moveTo 111 = .ok (.getfield 90, 3) := by decide +kernel
theorem dd_M_moveTo_114 : decode cd_M_moveTo 114 = .ok (.iload_n 3, 1) := by decide +kernel
theorem dd_M_moveTo_115 : decode cd_M_moveTo 115 = .ok (.laload, 1) := by decide +kernel
theorem dd_M_moveTo_116 : decode cd_M_moveTo 116 = .ok (.invokevirtual 216, 3) := by decide +kernel
theorem dd_M_moveTo_119 : decode cd_M_moveTo 119 = .ok (.ifCond .ge 13, 3) := by decide +kernel
theorem dd_M_moveTo_122 : decode cd_M_moveTo 122 = .ok (.aload_n 0, 1) := by decide +kernel
theorem dd_M_moveTo_123 : decode cd_M_moveTo 123 = .ok (.aload_n 0, 1) := by decide +kernel
theorem dd_M_moveTo_124 : decode cd_M_moveTo 124 = .ok (.getfield 93, 3) := by decide +kernel
theorem dd_M_moveTo_127 : decode cd_M_moveTo 127 = .ok (.iload_n 3, 1) := by decide +kernel
theorem dd_M_moveTo_128 : decode cd_M_moveTo 128 = .ok (.iaload, 1) := by decide +kernel
theorem dd_M_moveTo_129 : decode cd_M_moveTo 129 = .ok (.invokevirtual 175, 3) := by decide +kernel
theorem dd_M_moveTo_132 : decode cd_M_moveTo 132 = .ok (.iinc 3 1, 3) := by decide +kernel
theorem dd_M_moveTo_135 : decode cd_M_moveTo 135 = .ok (.goto (-47), 3) := by decide +kernel
theorem dd_M_moveTo_138 : decode cd_M_moveTo 138 = .ok (.aload_n 0, 1) := by decide +kernel
theorem dd_M_moveTo_139 : decode cd_M_moveTo 139 = .ok (.iload_n 2, 1) := by decide +kernel
theorem dd_M_moveTo_140 : decode cd_M_moveTo 140 = .ok (.invokevirtual 242, 3) := by decide +kernel
theorem dd_M_moveTo_143 : decode cd_M_moveTo 143 = .ok (.istore_n 3, 1) := by decide +kernel
theorem dd_M_moveTo_144 : decode cd_M_moveTo 144 = .ok (.aload_n 0, 1) := by decide +kernel
theorem dd_M_moveTo_145 : decode cd_M_moveTo 145 = .ok (.aload_n 0, 1) := by decide +kernel
theorem dd_M_moveTo_146 : decode cd_M_moveTo 146 = .ok (.getfield 226, 3) := by decide +kernel
theorem dd_M_moveTo_149 : decode cd_M_moveTo 149 = .ok (.aload_n 0, 1) := by decide +kernel
theorem dd_M_moveTo_150 : decode cd_M_moveTo 150 = .ok (.getfield 229, 3) := by decide +kernel
theorem dd_M_moveTo_153 : decode cd_M_moveTo 153 = .ok (.iload_n 3, 1) := by decide +kernel
theorem dd_M_moveTo_154 : decode cd_M_moveTo 154 = .ok (.invokevirtual 212, 3) := by decide +kernel
theorem dd_M_moveTo_157 : decode cd_M_moveTo 157 = .ok (.aload_n 0, 1) := by decide +kernel
theorem dd_M_moveTo_158 : decode cd_M_moveTo 158 = .ok (.aload_n 0, 1) := by decide +kernel
theorem dd_M_moveTo_159 : decode cd_M_moveTo 159 = .ok (.getfield 154, 3) := by decide +kernel
theorem dd_M_moveTo_162 : decode cd_M_moveTo 162 = .ok (.putfield 226, 3) := by decide +kernel
theorem dd_M_moveTo_165 : decode cd_M_moveTo 165 = .ok (.aload_n 0, 1) := by decide +kernel
theorem dd_M_moveTo_166 : decode cd_M_moveTo 166 = .ok (.aload_n 0, 1) := by decide +kernel
theorem dd_M_moveTo_167 : decode cd_M_moveTo 167 = .ok (.getfield 151, 3) := by decide +kernel
theorem dd_M_moveTo_170 : decode cd_M_moveTo 170 = .ok (.putfield 229, 3) := by decide +kernel
theorem dd_M_moveTo_173 : decode cd_M_moveTo 173 = .ok (.aload_n 0, 1) := by decide +kernel
theorem dd_M_moveTo_174 : decode cd_M_moveTo 174 = .ok (.aload_n 0, 1) := by decide +kernel
theorem dd_M_moveTo_175 : decode cd_M_moveTo 175 = .ok (.getfield 192, 3) := by decide +kernel
theorem dd_M_moveTo_178 : decode cd_M_moveTo 178 = .ok (.putfield 154, 3) := by decide +kernel
theorem dd_M_moveTo_181 : decode cd_M_moveTo 181 = .ok (.aload_n 0, 1) := by decide +kernel
theorem dd_M_moveTo_182 : decode cd_M_moveTo 182 = .ok (.aload_n 0, 1) := by decide +kernel
theorem dd_M_moveTo_183 : decode cd_M_moveTo 183 = .ok (.getfield 195, 3) := by decide +kernel
theorem dd_M_moveTo_186 : decode cd_M_moveTo 186 = .ok (.putfield 151, 3) := by decide +kernel
theorem dd_M_moveTo_189 : decode cd_M_moveTo 189 = .ok (.bipush 10, 2) := by decide +kernel
theorem dd_M_moveTo_191 : decode cd_M_moveTo 191 = .ok (.iload_n 1, 1) := by decide +kernel
theorem dd_M_moveTo_192 : decode cd_M_moveTo 192 = .ok (.imul, 1) := by decide +kernel
theorem dd_M_moveTo_193 : decode cd_M_moveTo 193 = .ok (.istore 4, 2) := by decide +kernel
theorem dd_M_moveTo_195 : decode cd_M_moveTo 195 = .ok (.iload 4, 2) := by decide +kernel
theorem dd_M_moveTo_197 : decode cd_M_moveTo 197 = .ok (.bipush 10, 2) := by decide +kernel
theorem dd_M_moveTo_199 : decode cd_M_moveTo 199 = .ok (.iload_n 1, 1) := by decide +kernel
theorem dd_M_moveTo_200 : decode cd_M_moveTo 200 = .ok (.imul, 1) := by decide +kernel
theorem dd_M_moveTo_201 : decode cd_M_moveTo 201 = .ok (.aload_n 0, 1) := by decide +kernel
theorem dd_M_moveTo_202 : decode cd_M_moveTo 202 = .ok (.getfield 87, 3) := by decide +kernel
theorem dd_M_moveTo_205 : decode cd_M_moveTo 205 = .ok (.iload_n 1, 1) := by decide +kernel
theorem dd_M_moveTo_206 : decode cd_M_moveTo 206 = .ok (.iaload, 1) := by decide +kernel
theorem dd_M_moveTo_207 : decode cd_M_moveTo 207 = .ok (.iadd, 1) := by decide +kernel
theorem dd_M_moveTo_208 : decode cd_M_moveTo 208 = .ok (.if_icmp .ge 28, 3) := by decide +kernel
theorem dd_M_moveTo_211 : decode cd_M_moveTo 211 = .ok (.aload_n 0, 1) := by decide +kernel
theorem dd_M_moveTo_212 : decode cd_M_moveTo 212 = .ok (.aload_n 0, 1) := by decide +kernel
theorem dd_M_moveTo_213 : decode cd_M_moveTo 213 = .ok (.getfield 154, 3) := by decide +kernel
theorem dd_M_moveTo_216 : decode cd_M_moveTo 216 = .ok (.aload_n 0, 1) := by decide +kernel
theorem dd_M_moveTo_217 : decode cd_M_moveTo 217 = .ok (.getfield 151, 3) := by decide +kernel
theorem dd_M_moveTo_220 : decode cd_M_moveTo 220 = .ok (.aload_n 0, 1) := by decide +kernel
theorem dd_M_moveTo_221 : decode cd_M_moveTo 221 = .ok (.getfield 93, 3) := by decide +kernel
theorem dd_M_moveTo_224 : decode cd_M_moveTo 224 = .ok (.iload 4, 2) := by decide +kernel
theorem dd_M_moveTo_226 : decode cd_M_moveTo 226 = .ok (.iaload, 1) := by decide +kernel
theorem dd_M_moveTo_227 : decode cd_M_moveTo 227 = .ok (.invokevirtual 212, 3) := by decide +kernel
theorem dd_M_moveTo_230 : decode cd_M_moveTo 230 = .ok (.iinc 4 1, 3) := by decide +kernel
theorem dd_M_moveTo_233 : decode cd_M_moveTo 233 = .ok (.goto (-38), 3) := by decide +kernel
theorem dd_M_moveTo_236 : decode cd_M_moveTo 236 = .ok (.aload_n 0, 1) := by decide +kernel
theorem dd_M_moveTo_237 : decode cd_M_moveTo 237 = .ok (.aload_n 0, 1) := by decide +kernel
theorem dd_M_moveTo_238 : decode cd_M_moveTo 238 = .ok (.getfield 154, 3) := by decide +kernel
theorem dd_M_moveTo_241 : decode cd_M_moveTo 241 = .ok (.aload_n 0, 1) := by decide +kernel
theorem dd_M_moveTo_242 : decode cd_M_moveTo 242 = .ok (.getfield 151, 3) := by decide +kernel
theorem dd_M_moveTo_245 : decode cd_M_moveTo 245 = .ok (.invokevirtual 246, 3) := by decide +kernel
theorem dd_M_moveTo_248 : decode cd_M_moveTo 248 = .ok (.aload_n 0, 1) := by decide +kernel
theorem dd_M_moveTo_249 : decode cd_M_moveTo 249 = .ok (.aload_n 0, 1) := by decide +kernel
theorem dd_M_moveTo_250 : decode cd_M_moveTo 250 = .ok (.getfield 226, 3) := by decide +kernel
theorem dd_M_moveTo_253 : decode cd_M_moveTo 253 = .ok (.aload_n 0, 1) := by decide +kernel
theorem dd_M_moveTo_254 : decode cd_M_moveTo 254 = .ok (.getfield 229, 3) := by decide +kernel
theorem dd_M_moveTo_257 : decode cd_M_moveTo 257 = .ok (.aload_n 0, 1) := by decide +kernel
theorem dd_M_moveTo_258 : decode cd_M_moveTo 258 = .ok (.getfield 154, 3) := by decide +kernel
theorem dd_M_moveTo_261 : decode cd_M_moveTo 261 = .ok (.aload_n 0, 1) := by decide +kernel
theorem dd_M_moveTo_262 : decode cd_M_moveTo 262 = .ok (.getfield 151, 3) := by decide +kernel
theorem dd_M_moveTo_265 : decode cd_M_moveTo 265 = .ok (.invokevirtual 164, 3) := by decide +kernel
theorem dd_M_moveTo_268 : decode cd_M_moveTo 268 = .ok (.aload_n 0, 1) := by decide +kernel
theorem dd_M_moveTo_269 : decode cd_M_moveTo 269 = .ok (.aload_n 0, 1) := by decide +kernel
theorem dd_M_moveTo_270 : decode cd_M_moveTo 270 = .ok (.getfield 154, 3) := by decide +kernel
theorem dd_M_moveTo_273 : decode cd_M_moveTo 273 = .ok (.putfield 226, 3) := by decide +kernel
theorem dd_M_moveTo_276 : decode cd_M_moveTo 276 = .ok (.aload_n 0, 1) := by decide +kernel
theorem dd_M_moveTo_277 : decode cd_M_moveTo 277 = .ok (.aload_n 0, 1) := by decide +kernel
theorem dd_M_moveTo_278 : decode cd_M_moveTo 278 = .ok (.getfield 151, 3) := by decide +kernel
theorem dd_M_moveTo_281 : decode cd_M_moveTo 281 = .ok (.putfield 229, 3) := by decide +kernel
theorem dd_M_moveTo_284 : decode cd_M_moveTo 284 = .ok (.return_, 1) := by decide +kernel
theorem dd_M_advance_0 : decode cd_M_advance 0 = .ok (.aload_n 0, 1) := by decide +kernel
theorem dd_M_advance_1 : decode cd_M_advance 1 = .ok (.getfield 181, 3) := by decide +kernel
theorem dd_M_advance_4 : decode cd_M_advance 4 = .ok (.ifCond .ne 5, 3) := by decide +kernel
theorem dd_M_advance_7 : decode cd_M_advance 7 = .ok (.iconst (-1), 1) := by decide +kernel
theorem dd_M_advance_8 : decode cd_M_advance 8 = .ok (.ireturn, 1) := by decide +kernel
theorem dd_M_advance_9 : decode cd_M_advance 9 = .ok (.aload_n 0, 1) := by decide +kernel
theorem dd_M_advance_10 : decode cd_M_advance 10 = .ok (.lload_n 1, 1) := by decide +kernel
theorem dd_M_advance_11 : decode cd_M_advance 11 = .ok (.invokevirtual 202, 3) := by decide +kernel
theorem dd_M_advance_14 : decode cd_M_advance 14 = .ok (.istore 4, 2) := by decide +kernel
theorem dd_M_advance_16 : decode cd_M_advance 16 = .ok (.iload 4, 2) := by decide +kernel
theorem dd_M_advance_18 : decode cd_M_advance 18 = .ok (.bipush (-2), 2) := by decide +kernel
theorem dd_M_advance_20 : decode cd_M_advance 20 = .ok (.if_icmp .eq 11, 3) := by decide +kernel
theorem dd_M_advance_23 : decode cd_M_advance 23 = .ok (.aload_n 0, 1) := by decide +kernel
theorem dd_M_advance_24 : decode cd_M_advance 24 = .ok (.iload_n 3, 1) := by decide +kernel
theorem dd_M_advance_25 : decode cd_M_advance 25 = .ok (.invokevirtual 220, 3) := by decide +kernel
theorem dd_M_advance_28 : decode cd_M_advance 28 = .ok (.ifCond .ne 6, 3) := by decide +kernel
theorem dd_M_advance_31 : decode cd_M_advance 31 = .ok (.bipush (-2), 2) := by decide +kernel
theorem dd_M_advance_33 : decode cd_M_advance 33 = .ok (.ireturn, 1) := by decide +kernel
theorem dd_M_advance_34 : decode cd_M_advance 34 = .ok (.iload_n 3, 1) := by decide +kernel
theorem dd_M_advance_35 : decode cd_M_advance 35 = .ok (.istore 5, 2) := by decide +kernel
theorem dd_M_advance_37 : decode cd_M_advance 37 = .ok (.iload 5, 2) := by decide +kernel
theorem dd_M_advance_39 : decode cd_M_advance 39 = .ok (.aload_n 0, 1) := by decide +kernel
theorem dd_M_advance_40 : decode cd_M_advance 40 = .ok (.getfield 209, 3) := by decide +kernel
theorem dd_M_advance_43 : decode cd_M_advance 43 = .ok (.if_icmp .gt 22, 3) := by decide +kernel
theorem dd_M_advance_46 : decode cd_M_advance 46 = .ok (.aload_n 0, 1) := by decide +kernel
theorem dd_M_advance_47 : decode cd_M_advance 47 = .ok (.iload 5, 2) := by decide +kernel
theorem dd_M_advance_49 : decode cd_M_advance 49 = .ok (.lload_n 1, 1) := by decide +kernel
theorem dd_M_advance_50 : decode cd_M_advance 50 = .ok (.invokevirtual 216, 3) := by decide +kernel
theorem dd_M_advance_53 : decode cd_M_advance 53 = .ok (.ifCond .ge 6, 3) := by decide +kernel
theorem dd_M_advance_56 : decode cd_M_advance 56 = .ok (.bipush (-4), 2) := by decide +kernel
theorem dd_M_advance_58 : decode cd_M_advance 58 = .ok (.ireturn, 1) := by decide +kernel
theorem dd_M_advance_59 : decode cd_M_advance 59 = .ok (.iinc 5 1, 3) := by decide +kernel
theorem dd_M_advance_62 : decode cd_M_advance 62 = .ok (.goto (-25), 3) := by decide +kernel
theorem dd_M_advance_65 : decode cd_M_advance 65 = .ok (.aload_n 0, 1) := by decide +kernel
theorem dd_M_advance_66 : decode cd_M_advance 66 = .ok (.iload 4, 2) := by decide +kernel
theorem dd_M_advance_68 : decode cd_M_advance 68 = .ok (.iload_n 3, 1) := by decide +kernel
theorem dd_M_advance_69 : decode cd_M_advance 69 = .ok (.invokevirtual 235, 3) := by decide +kernel
theorem dd_M_advance_72 : decode cd_M_advance 72 = .ok (.ifCond .ne 6, 3) := by decide +kernel
theorem dd_M_advance_75 : decode cd_M_advance 75 = .ok (.bipush (-7), 2) := by decide +kernel
theorem dd_M_advance_77 : decode cd_M_advance 77 = .ok (.ireturn, 1) := by decide +kernel
theorem dd_M_advance_78 : decode cd_M_advance 78 = .ok (.iload_n 3, 1) := by decide +kernel
theorem dd_M_advance_79 : decode cd_M_advance 79 = .ok (.iconst 1, 1) := by decide +kernel
theorem dd_M_advance_80 : decode cd_M_advance 80 = .ok (.iadd, 1) := by decide +kernel
theorem dd_M_advance_81 : decode cd_M_advance 81 = .ok (.istore 5, 2) := by decide +kernel
theorem dd_M_advance_83 : decode cd_M_advance 83 = .ok (.iload 5, 2) := by decide +kernel
theorem dd_M_advance_85 : decode cd_M_advance 85 = .ok (.aload_n 0, 1) := by decide +kernel
theorem dd_M_advance_86 : decode cd_M_advance 86 = .ok (.getfield 209, 3) := by decide +kernel
theorem dd_M_advance_89 : decode cd_M_advance 89 = .ok (.if_icmp .gt 17, 3) := by decide +kernel
theorem dd_M_advance_92 : decode cd_M_advance 92 = .ok (.aload_n 0, 1) := by decide +kernel
theorem dd_M_advance_93 : decode cd_M_advance 93 = .ok (.iload 5, 2) := by decide +kernel
theorem dd_M_advance_95 : decode cd_M_advance 95 = .ok (.iload 4, 2) := by decide +kernel
theorem dd_M_advance_97 : decode cd_M_advance 97 = .ok (.invokevirtual 250, 3) := by decide +kernel
theorem dd_M_advance_100 : decode cd_M_advance 100 = .ok (.iinc 5 1, 3) := by decide +kernel
theorem dd_M_advance_103 : decode cd_M_advance 103 = .ok (.goto (-20), 3) := by decide +kernel
theorem dd_M_advance_106 : decode cd_M_advance 106 = .ok (.aload_n 0, 1) := by decide +kernel
theorem dd_M_advance_107 : decode cd_M_advance 107 = .ok (.getfield 209, 3) := by decide +kernel
theorem dd_M_advance_110 : decode cd_M_advance 110 = .ok (.iload_n 3, 1) := by decide +kernel
theorem dd_M_advance_111 : decode cd_M_advance 111 = .ok (.isub, 1) := by decide +kernel
theorem dd_M_advance_112 : decode cd_M_advance 112 = .ok (.ireturn, 1) := by decide +kernel
theorem dd_M_exclude_0 : decode cd_M_exclude 0 = .ok (.aload_n 0, 1) := by decide +kernel
theorem dd_M_exclude_1 : decode cd_M_exclude 1 = .ok (.getfield 181, 3) := by decide +kernel
theorem dd_M_exclude_4 : decode cd_M_exclude 4 = .ok (.ifCond .ne 5, 3) := by decide +kernel
theorem dd_M_exclude_7 : decode cd_M_exclude 7 = .ok (.iconst (-1), 1) := by decide +kernel
theorem dd_M_exclude_8 : decode cd_M_exclude 8 = .ok (.ireturn, 1) := by decide +kernel
theorem dd_M_exclude_9 : decode cd_M_exclude 9 = .ok (.aload_n 0, 1) := by decide +kernel
theorem dd_M_exclude_10 : decode cd_M_exclude 10 = .ok (.lload_n 1, 1) := by decide +kernel
theorem dd_M_exclude_11 : decode cd_M_exclude 11 = .ok (.invokevirtual 202, 3) := by decide +kernel
theorem dd_M_exclude_14 : decode cd_M_exclude 14 = .ok (.istore_n 3, 1) := by decide +kernel
theorem dd_M_exclude_15 : decode cd_M_exclude 15 = .ok (.iload_n 3, 1) := by decide +kernel
theorem dd_M_exclude_16 : decode cd_M_exclude 16 = .ok (.bipush (-2), 2) := by decide +kernel
theorem dd_M_exclude_18 : decode cd_M_exclude 18 = .ok (.if_icmp .ne 6, 3) := by decide +kernel
theorem dd_M_exclude_21 : decode cd_M_exclude 21 = .ok (.bipush (-2), 2) := by decide +kernel
theorem dd_M_exclude_23 : decode cd_M_exclude 23 = .ok (.ireturn, 1) := by decide +kernel
theorem dd_M_exclude_24 : decode cd_M_exclude 24 = .ok (.aload_n 0, 1) := by decide +kernel
theorem dd_M_exclude_25 : decode cd_M_exclude 25 = .ok (.aload_n 0, 1) := by decide +kernel
theorem dd_M_exclude_26 : decode cd_M_exclude 26 = .ok (.getfield 209, 3) := by decide +kernel
theorem dd_M_exclude_29 : decode cd_M_exclude 29 = .ok (.lload_n 1, 1) := by decide +kernel
theorem dd_M_exclude_30 : decode cd_M_exclude 30 = .ok (.invokevirtual 216, 3) := by decide +kernel
theorem dd_M_exclude_33 : decode cd_M_exclude 33 = .ok (.ifCond .lt 6, 3) := by decide +kernel
theorem dd_M_exclude_36 : decode cd_M_exclude 36 = .ok (.bipush (-3), 2) := by decide +kernel
theorem dd_M_exclude_38 : decode cd_M_exclude 38 = .ok (.ireturn, 1) := by decide +kernel
theorem dd_M_exclude_39 : decode cd_M_exclude 39 = .ok (.aload_n 0, 1) := by decide +kernel
theorem dd_M_exclude_40 : decode cd_M_exclude 40 = .ok (.invokevirtual 239, 3) := by decide +kernel
theorem dd_M_exclude_43 : decode cd_M_exclude 43 = .ok (.bipush 10, 2) := by decide +kernel
theorem dd_M_exclude_45 : decode cd_M_exclude 45 = .ok (.aload_n 0, 1) := by decide +kernel
theorem dd_M_exclude_46 : decode cd_M_exclude 46 = .ok (.getfield 209, 3) := by decide +kernel
theorem dd_M_exclude_49 : decode cd_M_exclude 49 = .ok (.imul, 1) := by decide +kernel
theorem dd_M_exclude_50 : decode cd_M_exclude 50 = .ok (.istore 4, 2) := by decide +kernel
theorem dd_M_exclude_52 : decode cd_M_exclude 52 = .ok (.iload 4, 2) := by decide +kernel
theorem dd_M_exclude_54 : decode cd_M_exclude 54 = .ok (.bipush 10, 2) := by decide +kernel
theorem dd_M_exclude_56 : decode cd_M_exclude 56 = .ok (.aload_n 0, 1) := by decide +kernel
theorem dd_M_exclude_57 : decode cd_M_exclude 57 = .ok (.getfield 209, 3) := by decide +kernel
theorem dd_M_exclude_60 : decode cd_M_exclude 60 = .ok (.imul, 1) := by decide +kernel
theorem dd_M_exclude_61 : decode cd_M_exclude 61 = .ok (.aload_n 0, 1) := by decide +kernel
theorem dd_M_exclude_62 : decode cd_M_exclude 62 = .ok (.getfield 87, 3) := by decide +kernel
theorem dd_M_exclude_65 : decode cd_M_exclude 65 = .ok (.aload_n 0, 1) := by decide +kernel
theorem dd_M_exclude_66 : decode cd_M_exclude 66 = .ok (.getfield 209, 3) := by decide +kernel
theorem dd_M_exclude_69 : decode cd_M_exclude 69 = .ok (.iaload, 1) := by decide +kernel
theorem dd_M_exclude_70 : decode cd_M_exclude 70 = .ok (.iadd, 1) := by decide +kernel
theorem dd_M_exclude_71 : decode cd_M_exclude 71 = .ok (.if_icmp .ge 34, 3) := by decide +kernel
theorem dd_M_exclude_74 : decode cd_M_exclude 74 = .ok (.aload_n 0, 1) := by decide +kernel
theorem dd_M_exclude_75 : decode cd_M_exclude 75 = .ok (.getfield 93, 3) := by decide +kernel
theorem dd_M_exclude_78 : decode cd_M_exclude 78 = .ok (.iload 4, 2) := by decide +kernel
theorem dd_M_exclude_80 : decode cd_M_exclude 80 = .ok (.iaload, 1) := by decide +kernel
theorem dd_M_exclude_81 : decode cd_M_exclude 81 = .ok (.iload_n 3, 1) := by decide +kernel
theorem dd_M_exclude_82 : decode cd_M_exclude 82 = .ok (.if_icmp .ne 6, 3) := by decide +kernel
theorem dd_M_exclude_85 : decode cd_M_exclude 85 = .ok (.bipush (-5), 2) := by decide +kernel
theorem dd_M_exclude_87 : decode cd_M_exclude 87 = .ok (.ireturn, 1) := by decide +kernel
theorem dd_M_exclude_88 : decode cd_M_exclude 88 = .ok (.aload_n 0, 1) := by decide +kernel
theorem dd_M_exclude_89 : decode cd_M_exclude 89 = .ok (.aload_n 0, 1) := by decide +kernel
theorem dd_M_exclude_90 : decode cd_M_exclude 90 = .ok (.getfield 93, 3) := by decide +kernel
theorem dd_M_exclude_93 : decode cd_M_exclude 93 = .ok (.iload 4, 2) := by decide +kernel
theorem dd_M_exclude_95 : decode cd_M_exclude 95 = .ok (.iaload, 1) := by decide +kernel
theorem dd_M_exclude_96 : decode cd_M_exclude 96 = .ok (.invokevirtual 175, 3) := by decide +kernel
theorem dd_M_exclude_99 : decode cd_M_exclude 99 = .ok (.iinc 4 1, 3) := by decide +kernel
theorem dd_M_exclude_102 : decode cd_M_exclude 102 = .ok (.goto (-50), 3) := by decide +kernel
theorem dd_M_exclude_105 : decode cd_M_exclude 105 = .ok (.aload_n 0, 1) := by decide +kernel
theorem dd_M_exclude_106 : decode cd_M_exclude 106 = .ok (.aload_n 0, 1) := by decide +kernel
theorem dd_M_exclude_107 : decode cd_M_exclude 107 = .ok (.iload_n 3, 1) := by decide +kernel
theorem dd_M_exclude_108 : decode cd_M_exclude 108 = .ok (.invokevirtual 242, 3) := by decide +kernel
theorem dd_M_exclude_111 : decode cd_M_exclude 111 = .ok (.putfield 232, 3) := by decide +kernel
theorem dd_M_exclude_114 : decode cd_M_exclude 114 = .ok (.aload_n 0, 1) := by decide +kernel
theorem dd_M_exclude_115 : decode cd_M_exclude 115 = .ok (.aload_n 0, 1) := by decide +kernel
theorem dd_M_exclude_116 : decode cd_M_exclude 116 = .ok (.getfield 192, 3) := by decide +kernel
theorem dd_M_exclude_119 : decode cd_M_exclude 119 = .ok (.aload_n 0, 1) := by decide +kernel
theorem dd_M_exclude_120 : decode cd_M_exclude 120 = .ok (.getfield 195, 3) := by decide +kernel
theorem dd_M_exclude_123 : decode cd_M_exclude 123 = .ok (.invokevirtual 246, 3) := by decide +kernel
theorem dd_M_exclude_126 : decode cd_M_exclude 126 = .ok (.aload_n 0, 1) := by decide +kernel
theorem dd_M_exclude_127 : decode cd_M_exclude 127 = .ok (.aload_n 0, 1) := by decide +kernel
theorem dd_M_exclude_128 : decode cd_M_exclude 128 = .ok (.getfield 154, 3) := by decide +kernel
theorem dd_M_exclude_131 : decode cd_M_exclude 131 = .ok (.putfield 226, 3) := by decide +kernel
theorem dd_M_exclude_134 : decode cd_M_exclude 134 = .ok (.aload_n 0, 1) := by decide +kernel
theorem dd_M_exclude_135 : decode cd_M_exclude 135 = .ok (.aload_n 0, 1) := by decide +kernel
theorem dd_M_exclude_136 : decode cd_M_exclude 136 = .ok (.getfield 151, 3) := by decide +kernel
theorem dd_M_exclude_139 : decode cd_M_exclude 139 = .ok (.putfield 229, 3) := by decide +kernel
theorem dd_M_exclude_142 : decode cd_M_exclude 142 = .ok (.aload_n 0, 1) := by decide +kernel
theorem dd_M_exclude_143 : decode cd_M_exclude 143 = .ok (.getfield 232, 3) := by decide +kernel
theorem dd_M_exclude_146 : decode cd_M_exclude 146 = .ok (.ireturn, 1) := by decide +kernel
theorem dd_M_checkExclude_0 : decode cd_M_checkExclude 0 = .ok (.aload_n 0, 1) := by decide +kernel
theorem dd_M_checkExclude_1 : decode cd_M_checkExclude 1 = .ok (.getfield 181, 3) := by decide +kernel
theorem dd_M_checkExclude_4 : decode cd_M_checkExclude 4 = .ok (.ifCond .ne 5, 3) := by decide +kernel
theorem dd_M_checkExclude_7 : decode cd_M_checkExclude 7 = .ok (.iconst (-1), 1) := by decide +kernel
theorem dd_M_checkExclude_8 : decode cd_M_checkExclude 8 = .ok (.ireturn, 1) := by decide +kernel
theorem dd_M_checkExclude_9 : decode cd_M_checkExclude 9 = .ok (.aload_n 0, 1) := by decide +kernel
theorem dd_M_checkExclude_10 : decode cd_M_checkExclude 10 = .ok (.lload_n 1, 1) := by decide +kernel
theorem dd_M_checkExclude_11 : decode cd_M_checkExclude 11 = .ok (.invokevirtual 202, 3) := by decide +kernel
theorem dd_M_checkExclude_14 : decode cd_M_checkExclude 14 = .ok (.istore 4, 2) := by decide +kernel
theorem dd_M_checkExclude_16 : decode cd_M_checkExclude 16 = .ok (.iload 4, 2) := by decide +kernel
theorem dd_M_checkExclude_18 : decode cd_M_checkExclude 18 = .ok (.bipush (-2), 2) := by decide +kernel
theorem dd_M_checkExclude_20 : decode cd_M_checkExclude 20 = .ok (.if_icmp .eq 11, 3) := by decide +kernel
theorem dd_M_checkExclude_23 : decode cd_M_checkExclude 23 = .ok (.aload_n 0, 1) := by decide +kernel
theorem dd_M_checkExclude_24 : decode cd_M_checkExclude 24 = .ok (.iload_n 3, 1) := by decide +kernel
theorem dd_M_checkExclude_25 : decode cd_M_checkExclude 25 = .ok (.invokevirtual 220, 3) := by decide +kernel
theorem dd_M_checkExclude_28 : decode cd_M_checkExclude 28 = .ok (.ifCond .ne 6, 3) := by decide +kernel
theorem dd_M_checkExclude_31 : decode cd_M_checkExclude 31 = .ok (.bipush (-2), 2) := by decide +kernel
theorem dd_M_checkExclude_33 : decode cd_M_checkExclude 33 = .ok (.ireturn, 1) := by decide +kernel
theorem dd_M_checkExclude_34 : decode cd_M_checkExclude 34 = .ok (.aload_n 0, 1) := by decide +kernel
theorem dd_M_checkExclude_35 : decode cd_M_checkExclude 35 = .ok (.aload_n 0, 1) := by decide +kernel
theorem dd_M_checkExclude_36 : decode cd_M_checkExclude 36 = .ok (.getfield 226, 3) := by decide +kernel
theorem dd_M_checkExclude_39 : decode cd_M_checkExclude 39 = .ok (.aload_n 0, 1) := by decide +kernel
theorem dd_M_checkExclude_40 : decode cd_M_checkExclude 40 = .ok (.getfield 229, 3) := by decide +kernel
theorem dd_M_checkExclude_43 : decode cd_M_checkExclude 43 = .ok (.iload 4, 2) := by decide +kernel
theorem dd_M_checkExclude_45 : decode cd_M_checkExclude 45 = .ok (.invokevirtual 212, 3) := by decide +kernel
theorem dd_M_checkExclude_48 : decode cd_M_checkExclude 48 = .ok (.aload_n 0, 1) := by decide +kernel
theorem dd_M_checkExclude_49 : decode cd_M_checkExclude 49 = .ok (.getfield 154, 3) := by decide +kernel
theorem dd_M_checkExclude_52 : decode cd_M_checkExclude 52 = .ok (.lstore 5, 2) := by decide +kernel
theorem dd_M_checkExclude_54 : decode cd_M_checkExclude 54 = .ok (.aload_n 0, 1) := by decide +kernel
theorem dd_M_checkExclude_55 : decode cd_M_checkExclude 55 = .ok (.getfield 151, 3) := by decide +kernel
theorem dd_M_checkExclude_58 : decode cd_M_checkExclude 58 = .ok (.lstore 7, 2) := by decide +kernel
theorem dd_M_checkExclude_60 : decode cd_M_checkExclude 60 = .ok (.aload_n 0, 1) := by decide +kernel
theorem dd_M_checkExclude_61 : decode cd_M_checkExclude 61 = .ok (.aload_n 0, 1) := by decide +kernel
theorem dd_M_checkExclude_62 : decode cd_M_checkExclude 62 = .ok (.getfield 96, 3) := by decide +kernel
theorem dd_M_checkExclude_65 : decode cd_M_checkExclude 65 = .ok (.iload_n 3, 1) := by decide +kernel
theorem dd_M_checkExclude_66 : decode cd_M_checkExclude 66 = .ok (.laload, 1) := by decide +kernel
theorem dd_M_checkExclude_67 : decode cd_M_checkExclude 67 = .ok (.aload_n 0, 1) := by decide +kernel
theorem dd_M_checkExclude_68 : decode cd_M_checkExclude 68 = .ok (.getfield 99, 3) := by decide +kernel
theorem dd_M_checkExclude_71 : decode cd_M_checkExclude 71 = .ok (.iload_n 3, 1) := by decide +kernel
theorem dd_M_checkExclude_72 : decode cd_M_checkExclude 72 = .ok (.laload, 1) := by decide +kernel
theorem dd_M_checkExclude_73 : decode cd_M_checkExclude 73 = .ok (.aload_n 0, 1) := by decide +kernel
theorem dd_M_checkExclude_74 : decode cd_M_checkExclude 74 = .ok (.getfield 232, 3) := by decide +kernel
theorem dd_M_checkExclude_77 : decode cd_M_checkExclude 77 = .ok (.invokevirtual 212, 3) := by decide +kernel
theorem dd_M_checkExclude_80 : decode cd_M_checkExclude 80 = .ok (.aload_n 0, 1) := by decide +kernel
theorem dd_M_checkExclude_81 : decode cd_M_checkExclude 81 = .ok (.lload 5, 2) := by decide +kernel
theorem dd_M_checkExclude_83 : decode cd_M_checkExclude 83 = .ok (.lload 7, 2) := by decide +kernel
theorem dd_M_checkExclude_85 : decode cd_M_checkExclude 85 = .ok (.aload_n 0, 1) := by decide +kernel
theorem dd_M_checkExclude_86 : decode cd_M_checkExclude 86 = .ok (.getfield 154, 3) := by decide +kernel
theorem dd_M_checkExclude_89 : decode cd_M_checkExclude 89 = .ok (.aload_n 0, 1) := by decide +kernel
theorem dd_M_checkExclude_90 : decode cd_M_checkExclude 90 = .ok (.getfield 151, 3) := by decide +kernel
theorem dd_M_checkExclude_93 : decode cd_M_checkExclude 93 = .ok (.invokevirtual 164, 3) := by decide +kernel
theorem dd_M_checkExclude_96 : decode cd_M_checkExclude 96 = .ok (.aload_n 0, 1) := by decide +kernel
theorem dd_M_checkExclude_97 : decode cd_M_checkExclude 97 = .ok (.getfield 154, 3) := by decide +kernel
theorem dd_M_checkExclude_100 : decode cd_M_checkExclude 100 = .ok (.lconst 0, 1) := by decide +kernel
theorem dd_M_checkExclude_101 : decode cd_M_checkExclude 101 = .ok (.lcmp, 1) := by decide +kernel
theorem dd_M_checkExclude_102 : decode cd_M_checkExclude 102 = .ok (.ifCond .ne 18, 3) := by decide +kernel
theorem dd_M_checkExclude_105 : decode cd_M_checkExclude 105 = .ok (.aload_n 0, 1) := by decide +kernel
theorem dd_M_checkExclude_106 : decode cd_M_checkExclude 106 = .ok (.getfield 151, 3) := by decide +kernel
theorem dd_M_checkExclude_109 : decode cd_M_checkExclude 109 = .ok (.ldc2_w 118, 3) := by decide +kernel
theorem dd_M_checkExclude_112 : decode cd_M_checkExclude 112 = .ok (.lcmp, 1) := by decide +kernel
theorem dd_M_checkExclude_113 : decode cd_M_checkExclude 113 = .ok (.ifCond .ne 7, 3) := by decide +kernel
theorem dd_M_checkExclude_116 : decode cd_M_checkExclude 116 = .ok (.iconst 1, 1) := by decide +kernel
theorem dd_M_checkExclude_117 : decode cd_M_checkExclude 117 = .ok (.goto 4, 3) := by decide +kernel
theorem dd_M_checkExclude_120 : decode cd_M_checkExclude 120 = .ok (.iconst 0, 1) := by decide +kernel
theorem dd_M_checkExclude_121 : decode cd_M_checkExclude 121 = .ok (.ireturn, 1) := by decide +kernel
end
section
theorem dd_L_law_0 : decode cd_L_law 0 = .ok (.new 7, 3) := by decide +kernel
theorem dd_L_law_3 : decode cd_L_law 3 = .ok (.dup, 1) := by decide +kernel
theorem dd_L_law_4 : decode cd_L_law 4 = .ok (.invokespecial 9, 3) := by decide +kernel
theorem dd_L_law_7 : decode cd_L_law 7 = .ok (.astore_n 1, 1) := by decide +kernel
theorem dd_L_law_8 : decode cd_L_law 8 = .ok (.new 10, 3) := by decide +kernel
theorem dd_L_law_11 : decode cd_L_law 11 = .ok (.dup, 1) := by decide +kernel
theorem dd_L_law_12 : decode cd_L_law 12 = .ok (.invokespecial 12, 3) := by decide +kernel
theorem dd_L_law_15 : decode cd_L_law 15 = .ok (.astore_n 2, 1) := by decide +kernel
theorem dd_L_law_16 : decode cd_L_law 16 = .ok (.iconst 0, 1) := by decide +kernel
theorem dd_L_law_17 : decode cd_L_law 17 = .ok (.istore_n 3, 1) := by decide +kernel
theorem dd_L_law_18 : decode cd_L_law 18 = .ok (.iload_n 3, 1) := by decide +kernel
theorem dd_L_law_19 : decode cd_L_law 19 = .ok (.aload_n 0, 1) := by decide +kernel
theorem dd_L_law_20 : decode cd_L_law 20 = .ok (.arraylength, 1) := by decide +kernel
theorem dd_L_law_21 : decode cd_L_law 21 = .ok (.bipush 6, 2) := by decide +kernel
theorem dd_L_law_23 : decode cd_L_law 23 = .ok (.isub, 1) := by decide +kernel
theorem dd_L_law_24 : decode cd_L_law 24 = .ok (.if_icmp .gt 1067, 3) := by decide +kernel
theorem dd_L_law_27 : decode cd_L_law 27 = .ok (.aload_n 0, 1) := by decide +kernel
theorem dd_L_law_28 : decode cd_L_law 28 = .ok (.iload_n 3, 1) := by decide +kernel
theorem dd_L_law_29 : decode cd_L_law 29 = .ok (.iaload, 1) := by decide +kernel
theorem dd_L_law_30 : decode cd_L_law 30 = .ok (.bipush 31, 2) := by decide +kernel
theorem dd_L_law_32 : decode cd_L_law 32 = .ok (.iand, 1) := by decide +kernel
theorem dd_L_law_33 : decode cd_L_law 33 = .ok (.tableswitch 1052 0 17 #[87, 180, 233, 286, 339, 352, 375, 428, 478, 521, 601, 654, 757, 797, 810, 873, 936, 989], 87) := by decide +kernel
theorem dd_L_law_120 : decode cd_L_law 120 = .ok (.aload_n 1, 1) := by decide +kernel
theorem dd_L_law_121 : decode cd_L_law 121 = .ok (.aload_n 0, 1) := by decide +kernel
theorem dd_L_law_122 : decode cd_L_law 122 = .ok (.iload_n 3, 1) := by decide +kernel
theorem dd_L_law_123 : decode cd_L_law 123 = .ok (.iconst 1, 1) := by decide +kernel
theorem dd_L_law_124 : decode cd_L_law 124 = .ok (.iadd, 1) := by decide +kernel
theorem dd_L_law_125 : decode cd_L_law 125 = .ok (.iaload, 1) := by decide +kernel
theorem dd_L_law_126 : decode cd_L_law 126 = .ok (.i2l, 1) := by decide +kernel
theorem dd_L_law_127 : decode cd_L_law 127 = .ok (.bipush 32, 2) := by decide +kernel
theorem dd_L_law_129 : decode cd_L_law 129 = .ok (.lshl, 1) := by decide +kernel
theorem dd_L_law_130 : decode cd_L_law 130 = .ok (.aload_n 0, 1) := by decide +kernel
theorem dd_L_law_131 : decode cd_L_law 131 = .ok (.iload_n 3, 1) := by decide +kernel
theorem dd_L_law_132 : decode cd_L_law 132 = .ok (.iconst 2, 1) := by decide +kernel
theorem dd_L_law_133 : decode cd_L_law 133 = .ok (.iadd, 1) := by decide +kernel
theorem dd_L_law_134 : decode cd_L_law 134 = .ok (.iaload, 1) := by decide +kernel
theorem dd_L_law_135 : decode cd_L_law 135 = .ok (.i2l, 1) := by decide +kernel
theorem dd_L_law_136 : decode cd_L_law 136 = .ok (.ldc2_w 13, 3) := by decide +kernel
theorem dd_L_law_139 : decode cd_L_law 139 = .ok (.land, 1) := by decide +kernel
theorem dd_L_law_140 : decode cd_L_law 140 = .ok (.lor, 1) := by decide +kernel
theorem dd_L_law_141 : decode cd_L_law 141 = .ok (.aload_n 0, 1) := by decide +kernel
theorem dd_L_law_142 : decode cd_L_law 142 = .ok (.iload_n 3, 1) := by decide +kernel
theorem dd_L_law_143 : decode cd_L_law 143 = .ok (.iconst 3, 1) := by decide +kernel
theorem dd_L_law_144 : decode cd_L_law 144 = .ok (.iadd, 1) := by decide +kernel
theorem dd_L_law_145 : decode cd_L_law 145 = .ok (.iaload, 1) := by decide +kernel
theorem dd_L_law_146 : decode cd_L_law 146 = .ok (.i2l, 1) := by decide +kernel
theorem dd_L_law_147 : decode cd_L_law 147 = .ok (.bipush 32, 2) := by decide +kernel
theorem dd_L_law_149 : decode cd_L_law 149 = .ok (.lshl, 1) := by decide +kernel
theorem dd_L_law_150 : decode cd_L_law 150 = .ok (.aload_n 0, 1) := by decide +kernel
theorem dd_L_law_151 : decode cd_L_law 151 = .ok (.iload_n 3, 1) := by decide +kernel
theorem dd_L_law_152 : decode cd_L_law 152 = .ok (.iconst 4, 1) := by decide +kernel
theorem dd_L_law_153 : decode cd_L_law 153 = .ok (.iadd, 1) := by decide +kernel
theorem dd_L_law_154 : decode cd_L_law 154 = .ok (.iaload, 1) := by decide +kernel
theorem dd_L_law_155 : decode cd_L_law 155 = .ok (.i2l, 1) := by decide +kernel
theorem dd_L_law_156 : decode cd_L_law 156 = .ok (.ldc2_w 13, 3) := by decide +kernel
theorem dd_L_law_159 : decode cd_L_law 159 = .ok (.land, 1) := by decide +kernel
theorem dd_L_law_160 : decode cd_L_law 160 = .ok (.lor, 1) := by decide +kernel
theorem dd_L_law_161 : decode cd_L_law 161 = .ok (.invokevirtual 15, 3) := by decide +kernel
theorem dd_L_law_164 : decode cd_L_law 164 = .ok (.aload_n 2, 1) := by decide +kernel
theorem dd_L_law_165 : decode cd_L_law 165 = .ok (.aload_n 0, 1) := by decide +kernel
theorem dd_L_law_166 : decode cd_L_law 166 = .ok (.iload_n 3, 1) := by decide +kernel
theorem dd_L_law_167 : decode cd_L_law 167 = .ok (.iconst 1, 1) := by decide +kernel
theorem dd_L_law_168 : decode cd_L_law 168 = .ok (.iadd, 1) := by decide +kernel
theorem dd_L_law_169 : decode cd_L_law 169 = .ok (.iaload, 1) := by decide +kernel
theorem dd_L_law_170 : decode cd_L_law 170 = .ok (.i2l, 1) := by decide +kernel
theorem dd_L_law_171 : decode cd_L_law 171 = .ok (.bipush 32, 2) := by decide +kernel
theorem dd_L_law_173 : decode cd_L_law 173 = .ok (.lshl, 1) := by decide +kernel
theorem dd_L_law_174 : decode cd_L_law 174 = .ok (.aload_n 0, 1) := by decide +kernel
theorem dd_L_law_175 : decode cd_L_law 175 = .ok (.iload_n 3, 1) := by decide +kernel
theorem dd_L_law_176 : decode cd_L_law 176 = .ok (.iconst 2, 1) := by decide +kernel
theorem dd_L_law_177 : decode cd_L_law 177 = .ok (.iadd, 1) := by decide +kernel
theorem dd_L_law_178 : decode cd_L_law 178 = .ok (.iaload, 1) := by decide +kernel
theorem dd_L_law_179 : decode cd_L_law 179 = .ok (.i2l, 1) := by decide +kernel
theorem dd_L_law_180 : decode cd_L_law 180 = .ok (.ldc2_w 13, 3) := by decide +kernel
theorem dd_L_law_183 : decode cd_L_law 183 = .ok (.land, 1) := by decide +kernel
theorem dd_L_law_184 : decode cd_L_law 184 = .ok (.lor, 1) := by decide +kernel
theorem dd_L_law_185 : decode cd_L_law 185 = .ok (.aload_n 0, 1) := by decide +kernel
theorem dd_L_law_186 : decode cd_L_law 186 = .ok (.iload_n 3, 1) := by decide +kernel
theorem dd_L_law_187 : decode cd_L_law 187 = .ok (.iconst 3, 1) := by decide +kernel
theorem dd_L_law_188 : decode cd_L_law 188 = .ok (.iadd, 1) := by decide +kernel
theorem dd_L_law_189 : decode cd_L_law 189 = .ok (.iaload, 1) := by decide +kernel
theorem dd_L_law_190 : decode cd_L_law 190 = .ok (.i2l, 1) := by decide +kernel
theorem dd_L_law_191 : decode cd_L_law 191 = .ok (.bipush 32, 2) := by decide +kernel
theorem dd_L_law_193 : decode cd_L_law 193 = .ok (.lshl, 1) := by decide +kernel
theorem dd_L_law_194 : decode cd_L_law 194 = .ok (.aload_n 0, 1) := by decide +kernel
theorem dd_L_law_195 : decode cd_L_law 195 = .ok (.iload_n 3, 1) := by decide +kernel
theorem dd_L_law_196 : decode cd_L_law 196 = .ok (.iconst 4, 1) := by decide +kernel
theorem dd_L_law_197 : decode cd_L_law 197 = .ok (.iadd, 1) := by decide +kernel
theorem dd_L_law_198 : decode cd_L_law 198 = .ok (.iaload, 1) := by decide +kernel
theorem dd_L_law_199 : decode cd_L_law 199 = .ok (.i2l, 1) := by decide +kernel
theorem dd_L_law_200 : decode cd_L_law 200 = .ok (.ldc2_w 13, 3) := by decide +kernel
theorem dd_L_law_203 : decode cd_L_law 203 = .ok (.land, 1) := by decide +kernel
theorem dd_L_law_204 : decode cd_L_law 204 = .ok (.lor, 1) := by decide +kernel
theorem dd_L_law_205 : decode cd_L_law 205 = .ok (.invokevirtual 19, 3) := by decide +kernel
theorem dd_L_law_208 : decode cd_L_law 208 = .ok (.if_icmp .eq 877, 3) := by decide +kernel
theorem dd_L_law_211 : decode cd_L_law 211 = .ok (.iconst 0, 1) := by decide +kernel
theorem dd_L_law_212 : decode cd_L_law 212 = .ok (.ireturn, 1) := by decide +kernel
theorem dd_L_law_213 : decode cd_L_law 213 = .ok (.aload_n 1, 1) := by decide +kernel
theorem dd_L_law_214 : decode cd_L_law 214 = .ok (.aload_n 0, 1) := by decide +kernel
theorem dd_L_law_215 : decode cd_L_law 215 = .ok (.iload_n 3, 1) := by decide +kernel
theorem dd_L_law_216 : decode cd_L_law 216 = .ok (.iconst 1, 1) := by decide +kernel
theorem dd_L_law_217 : decode cd_L_law 217 = .ok (.iadd, 1) := by decide +kernel
theorem dd_L_law_218 : decode cd_L_law 218 = .ok (.iaload, 1) := by decide +kernel
theorem dd_L_law_219 : decode cd_L_law 219 = .ok (.i2l, 1) := by decide +kernel
theorem dd_L_law_220 : decode cd_L_law 220 = .ok (.bipush 32, 2) := by decide +kernel
theorem dd_L_law_222 : decode cd_L_law 222 = .ok (.lshl, 1) := by decide +kernel
theorem dd_L_law_223 : decode cd_L_law 223 = .ok (.aload_n 0, 1) := by decide +kernel
theorem dd_L_law_224 : decode cd_L_law 224 = .ok (.iload_n 3, 1) := by decide +kernel
theorem dd_L_law_225 : decode cd_L_law 225 = .ok (.iconst 2, 1) := by decide +kernel
theorem dd_L_law_226 : decode cd_L_law 226 = .ok (.iadd, 1) := by decide +kernel
theorem dd_L_law_227 : decode cd_L_law 227 = .ok (.iaload, 1) := by decide +kernel
theorem dd_L_law_228 : decode cd_L_law 228 = .ok (.i2l, 1) := by decide +kernel
theorem dd_L_law_229 : decode cd_L_law 229 = .ok (.ldc2_w 13, 3) := by decide +kernel
theorem dd_L_law_232 : decode cd_L_law 232 = .ok (.land, 1) := by decide +kernel
theorem dd_L_law_233 : decode cd_L_law 233 = .ok (.lor, 1) := by decide +kernel
theorem dd_L_law_234 : decode cd_L_law 234 = .ok (.invokevirtual 20, 3) := by decide +kernel
theorem dd_L_law_237 : decode cd_L_law 237 = .ok (.aload_n 2, 1) := by decide +kernel
theorem dd_L_law_238 : decode cd_L_law 238 = .ok (.aload_n 0, 1) := by decide +kernel
theorem dd_L_law_239 : decode cd_L_law 239 = .ok (.iload_n 3, 1) := by decide +kernel
theorem dd_L_law_240 : decode cd_L_law 240 = .ok (.iconst 1, 1) := by decide +kernel
theorem dd_L_law_241 : decode cd_L_law 241 = .ok (.iadd, 1) := by decide +kernel
theorem dd_L_law_242 : decode cd_L_law 242 = .ok (.iaload, 1) := by decide +kernel
theorem dd_L_law_243 : decode cd_L_law 243 = .ok (.i2l, 1) := by decide +kernel
theorem dd_L_law_244 : decode cd_L_law 244 = .ok (.bipush 32, 2) := by decide +kernel
theorem dd_L_law_246 : decode cd_L_law 246 = .ok (.lshl, 1) := by decide +kernel
theorem dd_L_law_247 : decode cd_L_law 247 = .ok (.aload_n 0, 1) := by decide +kernel
theorem dd_L_law_248 : decode cd_L_law 248 = .ok (.iload_n 3, 1) := by decide +kernel
theorem dd_L_law_249 : decode cd_L_law 249 = .ok (.iconst 2, 1) := by decide +kernel
theorem dd_L_law_250 : decode cd_L_law 250 = .ok (.iadd, 1) := by decide +kernel
theorem dd_L_law_251 : decode cd_L_law 251 = .ok (.iaload, 1) := by decide +kernel
theorem dd_L_law_252 : decode cd_L_law 252 = .ok (.i2l, 1) := by decide +kernel
theorem dd_L_law_253 : decode cd_L_law 253 = .ok (.ldc2_w 13, 3) := by decide +kernel
theorem dd_L_law_256 : decode cd_L_law 256 = .ok (.land, 1) := by decide +kernel
theorem dd_L_law_257 : decode cd_L_law 257 = .ok (.lor, 1) := by decide +kernel
theorem dd_L_law_258 : decode cd_L_law 258 = .ok (.invokevirtual 24, 3) := by decide +kernel
theorem dd_L_law_261 : decode cd_L_law 261 = .ok (.if_icmp .eq 824, 3) := by decide +kernel
theorem dd_L_law_264 : decode cd_L_law 264 = .ok (.iconst 0, 1) := by decide +kernel
theorem dd_L_law_265 : decode cd_L_law 265 = .ok (.ireturn, 1) := by decide +kernel
theorem dd_L_law_266 : decode cd_L_law 266 = .ok (.aload_n 1, 1) := by decide +kernel
theorem dd_L_law_267 : decode cd_L_law 267 = .ok (.aload_n 0, 1) := by decide +kernel
theorem dd_L_law_268 : decode cd_L_law 268 = .ok (.iload_n 3, 1) := by decide +kernel
theorem dd_L_law_269 : decode cd_L_law 269 = .ok (.iconst 1, 1) := by decide +kernel
theorem dd_L_law_270 : decode cd_L_law 270 = .ok (.iadd, 1) := by decide +kernel
theorem dd_L_law_271 : decode cd_L_law 271 = .ok (.iaload, 1) := by decide +kernel
theorem dd_L_law_272 : decode cd_L_law 272 = .ok (.i2l, 1) := by decide +kernel
theorem dd_L_law_273 : decode cd_L_law 273 = .ok (.bipush 32, 2) := by decide +kernel
theorem dd_L_law_275 : decode cd_L_law 275 = .ok (.lshl, 1) := by decide +kernel
theorem dd_L_law_276 : decode cd_L_law 276 = .ok (.aload_n 0, 1) := by decide +kernel
theorem dd_L_law_277 : decode cd_L_law 277 = .ok (.iload_n 3, 1) := by decide +kernel
theorem dd_L_law_278 : decode cd_L_law 278 = .ok (.iconst 2, 1) := by decide +kernel
theorem dd_L_law_279 : decode cd_L_law 279 = .ok (.iadd, 1) := by decide +kernel
theorem dd_L_law_280 : decode cd_L_law 280 = .ok (.iaload, 1) := by decide +kernel
theorem dd_L_law_281 : decode cd_L_law 281 = .ok (.i2l, 1) := by decide +kernel
theorem dd_L_law_282 : decode cd_L_law 282 = .ok (.ldc2_w 13, 3) := by decide +kernel
theorem dd_L_law_285 : decode cd_L_law 285 = .ok (.land, 1) := by decide +kernel
theorem dd_L_law_286 : decode cd_L_law 286 = .ok (.lor, 1) := by decide +kernel
theorem dd_L_law_287 : decode cd_L_law 287 = .ok (.invokevirtual 25, 3) := by decide +kernel
theorem dd_L_law_290 : decode cd_L_law 290 = .ok (.aload_n 2, 1) := by decide +kernel
theorem dd_L_law_291 : decode cd_L_law 291 = .ok (.aload_n 0, 1) := by decide +kernel
theorem dd_L_law_292 : decode cd_L_law 292 = .ok (.iload_n 3, 1) := by decide +kernel
theorem dd_L_law_293 : decode cd_L_law 293 = .ok (.iconst 1, 1) := by decide +kernel
theorem dd_L_law_294 : decode cd_L_law 294 = .ok (.iadd, 1) := by decide +kernel
theorem dd_L_law_295 : decode cd_L_law 295 = .ok (.iaload, 1) := by decide +kernel
theorem dd_L_law_296 : decode cd_L_law 296 = .ok (.i2l, 1) := by decide +kernel
theorem dd_L_law_297 : decode cd_L_law 297 = .ok (.bipush 32, 2) := by decide +kernel
theorem dd_L_law_299 : decode cd_L_law 299 = .ok (.lshl, 1) := by decide +kernel
theorem dd_L_law_300 : decode cd_L_law 300 = .ok (.aload_n 0, 1) := by decide +kernel
theorem dd_L_law_301 : decode cd_L_law 301 = .ok (.iload_n 3, 1) := by decide +kernel
theorem dd_L_law_302 : decode cd_L_law 302 = .ok (.iconst 2, 1) := by decide +kernel
theorem dd_L_law_303 : decode cd_L_law 303 = .ok (.iadd, 1) := by decide +kernel
theorem dd_L_law_304 : decode cd_L_law 304 = .ok (.iaload, 1) := by decide +kernel
theorem dd_L_law_305 : decode cd_L_law 305 = .ok (.i2l, 1) := by decide +kernel
theorem dd_L_law_306 : decode cd_L_law 306 = .ok (.ldc2_w 13, 3) := by decide +kernel
theorem dd_L_law_309 : decode cd_L_law 309 = .ok (.land, 1) := by decide +kernel
theorem dd_L_law_310 : decode cd_L_law 310 = .ok (.lor, 1) := by decide +kernel
theorem dd_L_law_311 : decode cd_L_law 311 = .ok (.invokevirtual 28, 3) := by decide +kernel
theorem dd_L_law_314 : decode cd_L_law 314 = .ok (.if_icmp .eq 771, 3) := by decide +kernel
theorem dd_L_law_317 : decode cd_L_law 317 = .ok (.iconst 0, 1) := by decide +kernel
theorem dd_L_law_318 : decode cd_L_law 318 = .ok (.ireturn, 1) := by decide +kernel
theorem dd_L_law_319 : decode cd_L_law 319 = .ok (.aload_n 1, 1) := by decide +kernel
theorem dd_L_law_320 : decode cd_L_law 320 = .ok (.aload_n 0, 1) := by decide +kernel
theorem dd_L_law_321 : decode cd_L_law 321 = .ok (.iload_n 3, 1) := by decide +kernel
theorem dd_L_law_322 : decode cd_L_law 322 = .ok (.iconst 1, 1) := by decide +kernel
theorem dd_L_law_323 : decode cd_L_law 323 = .ok (.iadd, 1) := by decide +kernel
theorem dd_L_law_324 : decode cd_L_law 324 = .ok (.iaload, 1) := by decide +kernel
theorem dd_L_law_325 : decode cd_L_law 325 = .ok (.i2l, 1) := by decide +kernel
theorem dd_L_law_326 : decode cd_L_law 326 = .ok (.bipush 32, 2) := by decide +kernel
theorem dd_L_law_328 : decode cd_L_law 328 = .ok (.lshl, 1) := by decide +kernel
theorem dd_L_law_329 : decode cd_L_law 329 = .ok (.aload_n 0, 1) := by decide +kernel
theorem dd_L_law_330 : decode cd_L_law 330 = .ok (.iload_n 3, 1) := by decide +kernel
theorem dd_L_law_331 : decode cd_L_law 331 = .ok (.iconst 2, 1) := by decide +kernel
theorem dd_L_law_332 : decode cd_L_law 332 = .ok (.iadd, 1) := by decide +kernel
theorem dd_L_law_333 : decode cd_L_law 333 = .ok (.iaload, 1) := by decide +kernel
theorem dd_L_law_334 : decode cd_L_law 334 = .ok (.i2l, 1) := by decide +kernel
theorem dd_L_law_335 : decode cd_L_law 335 = .ok (.ldc2_w 13, 3) := by decide +kernel
theorem dd_L_law_338 : decode cd_L_law 338 = .ok (.land, 1) := by decide +kernel
theorem dd_L_law_339 : decode cd_L_law 339 = .ok (.lor, 1) := by decide +kernel
theorem dd_L_law_340 : decode cd_L_law 340 = .ok (.invokevirtual 29, 3) := by decide +kernel
theorem dd_L_law_343 : decode cd_L_law 343 = .ok (.aload_n 2, 1) := by decide +kernel
theorem dd_L_law_344 : decode cd_L_law 344 = .ok (.aload_n 0, 1) := by decide +kernel
theorem dd_L_law_345 : decode cd_L_law 345 = .ok (.iload_n 3, 1) := by decide +kernel
theorem dd_L_law_346 : decode cd_L_law 346 = .ok (.iconst 1, 1) := by decide +kernel
theorem dd_L_law_347 : decode cd_L_law 347 = .ok (.iadd, 1) := by decide +kernel
theorem dd_L_law_348 : decode cd_L_law 348 = .ok (.iaload, 1) := by decide +kernel
theorem dd_L_law_349 : decode cd_L_law 349 = .ok (.i2l, 1) := by decide +kernel
theorem dd_L_law_350 : decode cd_L_law 350 = .ok (.bipush 32, 2) := by decide +kernel
theorem dd_L_law_352 : decode cd_L_law 352 = .ok (.lshl, 1) := by decide +kernel
theorem dd_L_law_353 : decode cd_L_law 353 = .ok (.aload_n 0, 1) := by decide +kernel
theorem dd_L_law_354 : decode cd_L_law 354 = .ok (.iload_n 3, 1) := by decide +kernel
theorem dd_L_law_355 : decode cd_L_law 355 = .ok (.iconst 2, 1) := by decide +kernel
theorem dd_L_law_356 : decode cd_L_law 356 = .ok (.iadd, 1) := by decide +kernel
theorem dd_L_law_357 : decode cd_L_law 357 = .ok (.iaload, 1) := by decide +kernel
theorem dd_L_law_358 : decode cd_L_law 358 = .ok (.i2l, 1) := by decide +kernel
theorem dd_L_law_359 : decode cd_L_law 359 = .ok (.ldc2_w 13, 3) := by decide +kernel
theorem dd_L_law_362 : decode cd_L_law 362 = .ok (.land, 1) := by decide +kernel
theorem dd_L_law_363 : decode cd_L_law 363 = .ok (.lor, 1) := by decide +kernel
theorem dd_L_law_364 : decode cd_L_law 364 = .ok (.invokevirtual 32, 3) := by decide +kernel
theorem dd_L_law_367 : decode cd_L_law 367 = .ok (.if_icmp .eq 718, 3) := by decide +kernel
theorem dd_L_law_370 : decode cd_L_law 370 = .ok (.iconst 0, 1) := by decide +kernel
theorem dd_L_law_371 : decode cd_L_law 371 = .ok (.ireturn, 1) := by decide +kernel
theorem dd_L_law_372 : decode cd_L_law 372 = .ok (.aload_n 1, 1) := by decide +kernel
theorem dd_L_law_373 : decode cd_L_law 373 = .ok (.invokevirtual 33, 3) := by decide +kernel
theorem dd_L_law_376 : decode cd_L_law 376 = .ok (.aload_n 2, 1) := by decide +kernel
theorem dd_L_law_377 : decode cd_L_law 377 = .ok (.invokevirtual 37, 3) := by decide +kernel
theorem dd_L_law_380 : decode cd_L_law 380 = .ok (.if_icmp .eq 705, 3) := by decide +kernel
theorem dd_L_law_383 : decode cd_L_law 383 = .ok (.iconst 0, 1) := by decide +kernel
theorem dd_L_law_384 : decode cd_L_law 384 = .ok (.ireturn, 1) := by decide +kernel
theorem dd_L_law_385 : decode cd_L_law 385 = .ok (.aload_n 1, 1) := by decide +kernel
theorem dd_L_law_386 : decode cd_L_law 386 = .ok (.aload_n 0, 1) := by decide +kernel
theorem dd_L_law_387 : decode cd_L_law 387 = .ok (.iload_n 3, 1) := by decide +kernel
theorem dd_L_law_388 : decode cd_L_law 388 = .ok (.iconst 1, 1) := by decide +kernel
theorem dd_L_law_389 : decode cd_L_law 389 = .ok (.iadd, 1) := by decide +kernel
theorem dd_L_law_390 : decode cd_L_law 390 = .ok (.iaload, 1) := by decide +kernel
theorem dd_L_law_391 : decode cd_L_law 391 = .ok (.invokevirtual 38, 3) := by decide +kernel
theorem dd_L_law_394 : decode cd_L_law 394 = .ok (.aload_n 2, 1) := by decide +kernel
theorem dd_L_law_395 : decode cd_L_law 395 = .ok (.aload_n 0, 1) := by decide +kernel
theorem dd_L_law_396 : decode cd_L_law 396 = .ok (.iload_n 3, 1) := by decide +kernel
theorem dd_L_law_397 : decode cd_L_law 397 = .ok (.iconst 1, 1) := by decide +kernel
theorem dd_L_law_398 : decode cd_L_law 398 = .ok (.iadd, 1) := by decide +kernel
theorem dd_L_law_399 : decode cd_L_law 399 = .ok (.iaload, 1) := by decide +kernel
theorem dd_L_law_400 : decode cd_L_law 400 = .ok (.invokevirtual 42, 3) := by decide +kernel
theorem dd_L_law_403 : decode cd_L_law 403 = .ok (.if_icmp .eq 682, 3) := by decide +kernel
theorem dd_L_law_406 : decode cd_L_law 406 = .ok (.iconst 0, 1) := by decide +kernel
theorem dd_L_law_407 : decode cd_L_law 407 = .ok (.ireturn, 1) := by decide +kernel
theorem dd_L_law_408 : decode cd_L_law 408 = .ok (.aload_n 1, 1) := by decide +kernel
theorem dd_L_law_409 : decode cd_L_law 409 = .ok (.aload_n 0, 1) := by decide +kernel
theorem dd_L_law_410 : decode cd_L_law 410 = .ok (.iload_n 3, 1) := by decide +kernel
theorem dd_L_law_411 : decode cd_L_law 411 = .ok (.iconst 1, 1) := by decide +kernel
theorem dd_L_law_412 : decode cd_L_law 412 = .ok (.iadd, 1) := by decide +kernel
theorem dd_L_law_413 : decode cd_L_law 413 = .ok (.iaload, 1) := by decide +kernel
theorem dd_L_law_414 : decode cd_L_law 414 = .ok (.i2l, 1) := by decide +kernel
theorem dd_L_law_415 : decode cd_L_law 415 = .ok (.bipush 32, 2) := by decide +kernel
theorem dd_L_law_417 : decode cd_L_law 417 = .ok (.lshl, 1) := by decide +kernel
theorem dd_L_law_418 : decode cd_L_law 418 = .ok (.aload_n 0, 1) := by decide +kernel
theorem dd_L_law_419 : decode cd_L_law 419 = .ok (.iload_n 3, 1) := by decide +kernel
theorem dd_L_law_420 : decode cd_L_law 420 = .ok (.iconst 2, 1) := by decide +kernel
theorem dd_L_law_421 : decode cd_L_law 421 = .ok (.iadd, 1) := by decide +kernel
theorem dd_L_law_422 : decode cd_L_law 422 = .ok (.iaload, 1) := by decide +kernel
theorem dd_L_law_423 : decode cd_L_law 423 = .ok (.i2l, 1) := by decide +kernel
theorem dd_L_law_424 : decode cd_L_law 424 = .ok (.ldc2_w 13, 3) := by decide +kernel
theorem dd_L_law_427 : decode cd_L_law 427 = .ok (.land, 1) := by decide +kernel
theorem dd_L_law_428 : decode cd_L_law 428 = .ok (.lor, 1) := by decide +kernel
theorem dd_L_law_429 : decode cd_L_law 429 = .ok (.invokevirtual 43, 3) := by decide +kernel
theorem dd_L_law_432 : decode cd_L_law 432 = .ok (.aload_n 2, 1) := by decide +kernel
theorem dd_L_law_433 : decode cd_L_law 433 = .ok (.aload_n 0, 1) := by decide +kernel
theorem dd_L_law_434 : decode cd_L_law 434 = .ok (.iload_n 3, 1) := by decide +kernel
theorem dd_L_law_435 : decode cd_L_law 435 = .ok (.iconst 1, 1) := by decide +kernel
theorem dd_L_law_436 : decode cd_L_law 436 = .ok (.iadd, 1) := by decide +kernel
theorem dd_L_law_437 : decode cd_L_law 437 = .ok (.iaload, 1) := by decide +kernel
theorem dd_L_law_438 : decode cd_L_law 438 = .ok (.i2l, 1) := by decide +kernel
theorem dd_L_law_439 : decode cd_L_law 439 = .ok (.bipush 32, 2) := by decide +kernel
theorem dd_L_law_441 : decode cd_L_law 441 = .ok (.lshl, 1) := by decide +kernel
theorem dd_L_law_442 : decode cd_L_law 442 = .ok (.aload_n 0, 1) := by decide +kernel
theorem dd_L_law_443 : decode cd_L_law 443 = .ok (.iload_n 3, 1) := by decide +kernel
theorem dd_L_law_444 : decode cd_L_law 444 = .ok (.iconst 2, 1) := by decide +kernel
theorem dd_L_law_445 : decode cd_L_law 445 = .ok (.iadd, 1) := by decide +kernel
theorem dd_L_law_446 : decode cd_L_law 446 = .ok (.iaload, 1) := by decide +kernel
theorem dd_L_law_447 : decode cd_L_law 447 = .ok (.i2l, 1) := by decide +kernel
theorem dd_L_law_448 : decode cd_L_law 448 = .ok (.ldc2_w 13, 3) := by decide +kernel
theorem dd_L_law_451 : decode cd_L_law 451 = .ok (.land, 1) := by decide +kernel
theorem dd_L_law_452 : decode cd_L_law 452 = .ok (.lor, 1) := by decide +kernel
theorem dd_L_law_453 : decode cd_L_law 453 = .ok (.invokevirtual 46, 3) := by decide +kernel
theorem dd_L_law_456 : decode cd_L_law 456 = .ok (.if_icmp .eq 629, 3) := by decide +kernel
theorem dd_L_law_459 : decode cd_L_law 459 = .ok (.iconst 0, 1) := by decide +kernel
theorem dd_L_law_460 : decode cd_L_law 460 = .ok (.ireturn, 1) := by decide +kernel
theorem dd_L_law_461 : decode cd_L_law 461 = .ok (.aload_n 1, 1) := by decide +kernel
theorem dd_L_law_462 : decode cd_L_law 462 = .ok (.aload_n 0, 1) := by decide +kernel
theorem dd_L_law_463 : decode cd_L_law 463 = .ok (.iload_n 3, 1) := by decide +kernel
theorem dd_L_law_464 : decode cd_L_law 464 = .ok (.iconst 1, 1) := by decide +kernel
theorem dd_L_law_465 : decode cd_L_law 465 = .ok (.iadd, 1) := by decide +kernel
theorem dd_L_law_466 : decode cd_L_law 466 = .ok (.iaload, 1) := by decide +kernel
theorem dd_L_law_467 : decode cd_L_law 467 = .ok (.aload_n 0, 1) := by decide +kernel
theorem dd_L_law_468 : decode cd_L_law 468 = .ok (.iload_n 3, 1) := by decide +kernel
theorem dd_L_law_469 : decode cd_L_law 469 = .ok (.iconst 2, 1) := by decide +kernel
theorem dd_L_law_470 : decode cd_L_law 470 = .ok (.iadd, 1) := by decide +kernel
theorem dd_L_law_471 : decode cd_L_law 471 = .ok (.iaload, 1) := by decide +kernel
theorem dd_L_law_472 : decode cd_L_law 472 = .ok (.ifCond .eq 7, 3) := by decide +kernel
theorem dd_L_law_475 : decode cd_L_law 475 = .ok (.iconst 1, 1) := by decide +kernel
theorem dd_L_law_476 : decode cd_L_law 476 = .ok (.goto 4, 3) := by decide +kernel
theorem dd_L_law_479 : decode cd_L_law 479 = .ok (.iconst 0, 1) := by decide +kernel
theorem dd_L_law_480 : decode cd_L_law 480 = .ok (.invokevirtual 47, 3) := by decide +kernel
theorem dd_L_law_483 : decode cd_L_law 483 = .ok (.aload_n 2, 1) := by decide +kernel
theorem dd_L_law_484 : decode cd_L_law 484 = .ok (.aload_n 0, 1) := by decide +kernel
theorem dd_L_law_485 : decode cd_L_law 485 = .ok (.iload_n 3, 1) := by decide +kernel
theorem dd_L_law_486 : decode cd_L_law 486 = .ok (.iconst 1, 1) := by decide +kernel
theorem dd_L_law_487 : decode cd_L_law 487 = .ok (.iadd, 1) := by decide +kernel
theorem dd_L_law_488 : decode cd_L_law 488 = .ok (.iaload, 1) := by decide +kernel
theorem dd_L_law_489 : decode cd_L_law 489 = .ok (.aload_n 0, 1) := by decide +kernel
theorem dd_L_law_490 : decode cd_L_law 490 = .ok (.iload_n 3, 1) := by decide +kernel
theorem dd_L_law_491 : decode cd_L_law 491 = .ok (.iconst 2, 1) := by decide +kernel
theorem dd_L_law_492 : decode cd_L_law 492 = .ok (.iadd, 1) := by decide +kernel
theorem dd_L_law_493 : decode cd_L_law 493 = .ok (.iaload, 1) := by decide +kernel
theorem dd_L_law_494 : decode cd_L_law 494 = .ok (.ifCond .eq 7, 3) := by decide +kernel
theorem dd_L_law_497 : decode cd_L_law 497 = .ok (.iconst 1, 1) := by decide +kernel
theorem dd_L_law_498 : decode cd_L_law 498 = .ok (.goto 4, 3) := by decide +kernel
theorem dd_L_law_501 : decode cd_L_law 501 = .ok (.iconst 0, 1) := by decide +kernel
theorem dd_L_law_502 : decode cd_L_law 502 = .ok (.invokevirtual 51, 3) := by decide +kernel
theorem dd_L_law_505 : decode cd_L_law 505 = .ok (.lcmp, 1) := by decide +kernel
theorem dd_L_law_506 : decode cd_L_law 506 = .ok (.ifCond .eq 579, 3) := by decide +kernel
theorem dd_L_law_509 : decode cd_L_law 509 = .ok (.iconst 0, 1) := by decide +kernel
theorem dd_L_law_510 : decode cd_L_law 510 = .ok (.ireturn, 1) := by decide +kernel
theorem dd_L_law_511 : decode cd_L_law 511 = .ok (.aload_n 1, 1) := by decide +kernel
theorem dd_L_law_512 : decode cd_L_law 512 = .ok (.aload_n 0, 1) := by decide +kernel
theorem dd_L_law_513 : decode cd_L_law 513 = .ok (.iload_n 3, 1) := by decide +kernel
theorem dd_L_law_514 : decode cd_L_law 514 = .ok (.iconst 1, 1) := by decide +kernel
theorem dd_L_law_515 : decode cd_L_law 515 = .ok (.iadd, 1) := by decide +kernel
theorem dd_L_law_516 : decode cd_L_law 516 = .ok (.iaload, 1) := by decide +kernel
theorem dd_L_law_517 : decode cd_L_law 517 = .ok (.aload_n 0, 1) := by decide +kernel
theorem dd_L_law_518 : decode cd_L_law 518 = .ok (.iload_n 3, 1) := by decide +kernel
theorem dd_L_law_519 : decode cd_L_law 519 = .ok (.iconst 2, 1) := by decide +kernel
theorem dd_L_law_520 : decode cd_L_law 520 = .ok (.iadd, 1) := by decide +kernel
theorem dd_L_law_521 : decode cd_L_law 521 = .ok (.iaload, 1) := by decide +kernel
theorem dd_L_law_522 : decode cd_L_law 522 = .ok (.aload_n 0, 1) := by decide +kernel
theorem dd_L_law_523 : decode cd_L_law 523 = .ok (.iload_n 3, 1) := by decide +kernel
theorem dd_L_law_524 : decode cd_L_law 524 = .ok (.iconst 3, 1) := by decide +kernel
theorem dd_L_law_525 : decode cd_L_law 525 = .ok (.iadd, 1) := by decide +kernel
theorem dd_L_law_526 : decode cd_L_law 526 = .ok (.iaload, 1) := by decide +kernel
theorem dd_L_law_527 : decode cd_L_law 527 = .ok (.invokevirtual 52, 3) := by decide +kernel
theorem dd_L_law_530 : decode cd_L_law 530 = .ok (.aload_n 2, 1) := by decide +kernel
theorem dd_L_law_531 : decode cd_L_law 531 = .ok (.aload_n 0, 1) := by decide +kernel
theorem dd_L_law_532 : decode cd_L_law 532 = .ok (.iload_n 3, 1) := by decide +kernel
theorem dd_L_law_533 : decode cd_L_law 533 = .ok (.iconst 1, 1) := by decide +kernel
theorem dd_L_law_534 : decode cd_L_law 534 = .ok (.iadd, 1) := by decide +kernel
theorem dd_L_law_535 : decode cd_L_law 535 = .ok (.iaload, 1) := by decide +kernel
theorem dd_L_law_536 : decode cd_L_law 536 = .ok (.aload_n 0, 1) := by decide +kernel
theorem dd_L_law_537 : decode cd_L_law 537 = .ok (.iload_n 3, 1) := by decide +kernel
theorem dd_L_law_538 : decode cd_L_law 538 = .ok (.iconst 2, 1) := by decide +kernel
theorem dd_L_law_539 : decode cd_L_law 539 = .ok (.iadd, 1) := by decide +kernel
theorem dd_L_law_540 : decode cd_L_law 540 = .ok (.iaload, 1) := by decide +kernel
theorem dd_L_law_541 : decode cd_L_law 541 = .ok (.aload_n 0, 1) := by decide +kernel
theorem dd_L_law_542 : decode cd_L_law 542 = .ok (.iload_n 3, 1) := by decide +kernel
theorem dd_L_law_543 : decode cd_L_law 543 = .ok (.iconst 3, 1) := by decide +kernel
theorem dd_L_law_544 : decode cd_L_law 544 = .ok (.iadd, 1) := by decide +kernel
theorem dd_L_law_545 : decode cd_L_law 545 = .ok (.iaload, 1) := by decide +kernel
theorem dd_L_law_546 : decode cd_L_law 546 = .ok (.invokevirtual 56, 3) := by decide +kernel
theorem dd_L_law_549 : decode cd_L_law 549 = .ok (.if_icmp .eq 536, 3) := by decide +kernel
theorem dd_L_law_552 : decode cd_L_law 552 = .ok (.iconst 0, 1) := by decide +kernel
theorem dd_L_law_553 : decode cd_L_law 553 = .ok (.ireturn, 1) := by decide +kernel
theorem dd_L_law_554 : decode cd_L_law 554 = .ok (.aload_n 1, 1) := by decide +kernel
theorem dd_L_law_555 : decode cd_L_law 555 = .ok (.aload_n 0, 1) := by decide +kernel
theorem dd_L_law_556 : decode cd_L_law 556 = .ok (.iload_n 3, 1) := by decide +kernel
theorem dd_L_law_557 : decode cd_L_law 557 = .ok (.iconst 1, 1) := by decide +kernel
theorem dd_L_law_558 : decode cd_L_law 558 = .ok (.iadd, 1) := by decide +kernel
theorem dd_L_law_559 : decode cd_L_law 559 = .ok (.iaload, 1) := by decide +kernel
theorem dd_L_law_560 : decode cd_L_law 560 = .ok (.i2l, 1) := by decide +kernel
theorem dd_L_law_561 : decode cd_L_law 561 = .ok (.bipush 32, 2) := by decide +kernel
theorem dd_L_law_563 : decode cd_L_law 563 = .ok (.lshl, 1) := by decide +kernel
theorem dd_L_law_564 : decode cd_L_law 564 = .ok (.aload_n 0, 1) := by decide +kernel
theorem dd_L_law_565 : decode cd_L_law 565 = .ok (.iload_n 3, 1) := by decide +kernel
theorem dd_L_law_566 : decode cd_L_law 566 = .ok (.iconst 2, 1) := by decide +kernel
theorem dd_L_law_567 : decode cd_L_law 567 = .ok (.iadd, 1) := by decide +kernel
theorem dd_L_law_568 : decode cd_L_law 568 = .ok (.iaload, 1) := by decide +kernel
theorem dd_L_law_569 : decode cd_L_law 569 = .ok (.i2l, 1) := by decide +kernel
theorem dd_L_law_570 : decode cd_L_law 570 = .ok (.ldc2_w 13, 3) := by decide +kernel
theorem dd_L_law_573 : decode cd_L_law 573 = .ok (.land, 1) := by decide +kernel
theorem dd_L_law_574 : decode cd_L_law 574 = .ok (.lor, 1) := by decide +kernel
theorem dd_L_law_575 : decode cd_L_law 575 = .ok (.aload_n 0, 1) := by decide +kernel
theorem dd_L_law_576 : decode cd_L_law 576 = .ok (.iload_n 3, 1) := by decide +kernel
theorem dd_L_law_577 : decode cd_L_law 577 = .ok (.iconst 3, 1) := by decide +kernel
theorem dd_L_law_578 : decode cd_L_law 578 = .ok (.iadd, 1) := by decide +kernel
theorem dd_L_law_579 : decode cd_L_law 579 = .ok (.iaload, 1) := by decide +kernel
theorem dd_L_law_580 : decode cd_L_law 580 = .ok (.ifCond .eq 7, 3) := by decide +kernel
theorem dd_L_law_583 : decode cd_L_law 583 = .ok (.iconst 1, 1) := by decide +kernel
theorem dd_L_law_584 : decode cd_L_law 584 = .ok (.goto 4, 3) := by decide +kernel
theorem dd_L_law_587 : decode cd_L_law 587 = .ok (.iconst 0, 1) := by decide +kernel
theorem dd_L_law_588 : decode cd_L_law 588 = .ok (.invokevirtual 57, 3) := by decide +kernel
theorem dd_L_law_591 : decode cd_L_law 591 = .ok (.aload_n 2, 1) := by decide +kernel
theorem dd_L_law_592 : decode cd_L_law 592 = .ok (.aload_n 0, 1) := by decide +kernel
theorem dd_L_law_593 : decode cd_L_law 593 = .ok (.iload_n 3, 1) := by decide +kernel
theorem dd_L_law_594 : decode cd_L_law 594 = .ok (.iconst 1, 1) := by decide +kernel
theorem dd_L_law_595 : decode cd_L_law 595 = .ok (.iadd, 1) := by decide +kernel
theorem dd_L_law_596 : decode cd_L_law 596 = .ok (.iaload, 1) := by decide +kernel
theorem dd_L_law_597 : decode cd_L_law 597 = .ok (.i2l, 1) := by decide +kernel
theorem dd_L_law_598 : decode cd_L_law 598 = .ok (.bipush 32, 2) := by decide +kernel
theorem dd_L_law_600 : decode cd_L_law 600 = .ok (.lshl, 1) := by decide +kernel
theorem dd_L_law_601 : decode cd_L_law 601 = .ok (.aload_n 0, 1) := by decide +kernel
theorem dd_L_law_602 : decode cd_L_law 602 = .ok (.iload_n 3, 1) := by decide +kernel
theorem dd_L_law_603 : decode cd_L_law 603 = .ok (.iconst 2, 1) := by decide +kernel
theorem dd_L_law_604 : decode cd_L_law 604 = .ok (.iadd, 1) := by decide +kernel
theorem dd_L_law_605 : decode cd_L_law 605 = .ok (.iaload, 1) := by decide +kernel
theorem dd_L_law_606 : decode cd_L_law 606 = .ok (.i2l, 1) := by decide +kernel
theorem dd_L_law_607 : decode cd_L_law 607 = .ok (.ldc2_w 13, 3) := by decide +kernel
theorem dd_L_law_610 : decode cd_L_law 610 = .ok (.land, 1) := by decide +kernel
theorem dd_L_law_611 : decode cd_L_law 611 = .ok (.lor, 1) := by decide +kernel
theorem dd_L_law_612 : decode cd_L_law 612 = .ok (.aload_n 0, 1) := by decide +kernel
theorem dd_L_law_613 : decode cd_L_law 613 = .ok (.iload_n 3, 1) := by decide +kernel
theorem dd_L_law_614 : decode cd_L_law 614 = .ok (.iconst 3, 1) := by decide +kernel
theorem dd_L_law_615 : decode cd_L_law 615 = .ok (.iadd, 1) := by decide +kernel
theorem dd_L_law_616 : decode cd_L_law 616 = .ok (.iaload, 1) := by decide +kernel
theorem dd_L_law_617 : decode cd_L_law 617 = .ok (.ifCond .eq 7, 3) := by decide +kernel
theorem dd_L_law_620 : decode cd_L_law 620 = .ok (.iconst 1, 1) := by decide +kernel
theorem dd_L_law_621 : decode cd_L_law 621 = .ok (.goto 4, 3) := by decide +kernel
theorem dd_L_law_624 : decode cd_L_law 624 = .ok (.iconst 0, 1) := by decide +kernel
theorem dd_L_law_625 : decode cd_L_law 625 = .ok (.invokevirtual 61, 3) := by decide +kernel
theorem dd_L_law_628 : decode cd_L_law 628 = .ok (.lcmp, 1) := by decide +kernel
theorem dd_L_law_629 : decode cd_L_law 629 = .ok (.ifCond .eq 456, 3) := by decide +kernel
theorem dd_L_law_632 : decode cd_L_law 632 = .ok (.iconst 0, 1) := by decide +kernel
theorem dd_L_law_633 : decode cd_L_law 633 = .ok (.ireturn, 1) := by decide +kernel
theorem dd_L_law_634 : decode cd_L_law 634 = .ok (.aload_n 1, 1) := by decide +kernel
theorem dd_L_law_635 : decode cd_L_law 635 = .ok (.aload_n 0, 1) := by decide +kernel
theorem dd_L_law_636 : decode cd_L_law 636 = .ok (.iload_n 3, 1) := by decide +kernel
theorem dd_L_law_637 : decode cd_L_law 637 = .ok (.iconst 1, 1) := by decide +kernel
theorem dd_L_law_638 : decode cd_L_law 638 = .ok (.iadd, 1) := by decide +kernel
theorem dd_L_law_639 : decode cd_L_law 639 = .ok (.iaload, 1) := by decide +kernel
theorem dd_L_law_640 : decode cd_L_law 640 = .ok (.i2l, 1) := by decide +kernel
theorem dd_L_law_641 : decode cd_L_law 641 = .ok (.bipush 32, 2) := by decide +kernel
theorem dd_L_law_643 : decode cd_L_law 643 = .ok (.lshl, 1) := by decide +kernel
theorem dd_L_law_644 : decode cd_L_law 644 = .ok (.aload_n 0, 1) := by decide +kernel
theorem dd_L_law_645 : decode cd_L_law 645 = .ok (.iload_n 3, 1) := by decide +kernel
theorem dd_L_law_646 : decode cd_L_law 646 = .ok (.iconst 2, 1) := by decide +kernel
theorem dd_L_law_647 : decode cd_L_law 647 = .ok (.iadd, 1) := by decide +kernel
theorem dd_L_law_648 : decode cd_L_law 648 = .ok (.iaload, 1) := by decide +kernel
theorem dd_L_law_649 : decode cd_L_law 649 = .ok (.i2l, 1) := by decide +kernel
theorem dd_L_law_650 : decode cd_L_law 650 = .ok (.ldc2_w 13, 3) := by decide +kernel
theorem dd_L_law_653 : decode cd_L_law 653 = .ok (.land, 1) := by decide +kernel
theorem dd_L_law_654 : decode cd_L_law 654 = .ok (.lor, 1) := by decide +kernel
theorem dd_L_law_655 : decode cd_L_law 655 = .ok (.invokevirtual 62, 3) := by decide +kernel
theorem dd_L_law_658 : decode cd_L_law 658 = .ok (.aload_n 2, 1) := by decide +kernel
theorem dd_L_law_659 : decode cd_L_law 659 = .ok (.aload_n 0, 1) := by decide +kernel
theorem dd_L_law_660 : decode cd_L_law 660 = .ok (.iload_n 3, 1) := by decide +kernel
theorem dd_L_law_661 : decode cd_L_law 661 = .ok (.iconst 1, 1) := by decide +kernel
theorem dd_L_law_662 : decode cd_L_law 662 = .ok (.iadd, 1) := by decide +kernel
theorem dd_L_law_663 : decode cd_L_law 663 = .ok (.iaload, 1) := by decide +kernel
theorem dd_L_law_664 : decode cd_L_law 664 = .ok (.i2l, 1) := by decide +kernel
theorem dd_L_law_665 : decode cd_L_law 665 = .ok (.bipush 32, 2) := by decide +kernel
theorem dd_L_law_667 : decode cd_L_law 667 = .ok (.lshl, 1) := by decide +kernel
theorem dd_L_law_668 : decode cd_L_law 668 = .ok (.aload_n 0, 1) := by decide +kernel
theorem dd_L_law_669 : decode cd_L_law 669 = .ok (.iload_n 3, 1) := by decide +kernel
theorem dd_L_law_670 : decode cd_L_law 670 = .ok (.iconst 2, 1) := by decide +kernel
theorem dd_L_law_671 : decode cd_L_law 671 = .ok (.iadd, 1) := by decide +kernel
theorem dd_L_law_672 : decode cd_L_law 672 = .ok (.iaload, 1) := by decide +kernel
theorem dd_L_law_673 : decode cd_L_law 673 = .ok (.i2l, 1) := by decide +kernel
theorem dd_L_law_674 : decode cd_L_law 674 = .ok (.ldc2_w 13, 3) := by decide +kernel
theorem dd_L_law_677 : decode cd_L_law 677 = .ok (.land, 1) := by decide +kernel
theorem dd_L_law_678 : decode cd_L_law 678 = .ok (.lor, 1) := by decide +kernel
theorem dd_L_law_679 : decode cd_L_law 679 = .ok (.invokevirtual 65, 3) := by decide +kernel
theorem dd_L_law_682 : decode cd_L_law 682 = .ok (.if_icmp .eq 403, 3) := by decide +kernel
theorem dd_L_law_685 : decode cd_L_law 685 = .ok (.iconst 0, 1) := by decide +kernel
theorem dd_L_law_686 : decode cd_L_law 686 = .ok (.ireturn, 1) := by decide +kernel
theorem dd_L_law_687 : decode cd_L_law 687 = .ok (.aload_n 1, 1) := by decide +kernel
theorem dd_L_law_688 : decode cd_L_law 688 = .ok (.aload_n 0, 1) := by decide +kernel
theorem dd_L_law_689 : decode cd_L_law 689 = .ok (.iload_n 3, 1) := by decide +kernel
theorem dd_L_law_690 : decode cd_L_law 690 = .ok (.iconst 1, 1) := by decide +kernel
theorem dd_L_law_691 : decode cd_L_law 691 = .ok (.iadd, 1) := by decide +kernel
theorem dd_L_law_692 : decode cd_L_law 692 = .ok (.iaload, 1) := by decide +kernel
theorem dd_L_law_693 : decode cd_L_law 693 = .ok (.i2l, 1) := by decide +kernel
theorem dd_L_law_694 : decode cd_L_law 694 = .ok (.bipush 32, 2) := by decide +kernel
theorem dd_L_law_696 : decode cd_L_law 696 = .ok (.lshl, 1) := by decide +kernel
theorem dd_L_law_697 : decode cd_L_law 697 = .ok (.aload_n 0, 1) := by decide +kernel
theorem dd_L_law_698 : decode cd_L_law 698 = .ok (.iload_n 3, 1) := by decide +kernel
theorem dd_L_law_699 : decode cd_L_law 699 = .ok (.iconst 2, 1) := by decide +kernel
theorem dd_L_law_700 : decode cd_L_law 700 = .ok (.iadd, 1) := by decide +kernel
theorem dd_L_law_701 : decode cd_L_law 701 = .ok (.iaload, 1) := by decide +kernel
theorem dd_L_law_702 : decode cd_L_law 702 = .ok (.i2l, 1) := by decide +kernel
theorem dd_L_law_703 : decode cd_L_law 703 = .ok (.ldc2_w 13, 3) := by decide +kernel
theorem dd_L_law_706 : decode cd_L_law 706 = .ok (.land, 1) := by decide +kernel
theorem dd_L_law_707 : decode cd_L_law 707 = .ok (.lor, 1) := by decide +kernel
theorem dd_L_law_708 : decode cd_L_law 708 = .ok (.aload_n 0, 1) := by decide +kernel
theorem dd_L_law_709 : decode cd_L_law 709 = .ok (.iload_n 3, 1) := by decide +kernel
theorem dd_L_law_710 : decode cd_L_law 710 = .ok (.iconst 3, 1) := by decide +kernel
theorem dd_L_law_711 : decode cd_L_law 711 = .ok (.iadd, 1) := by decide +kernel
theorem dd_L_law_712 : decode cd_L_law 712 = .ok (.iaload, 1) := by decide +kernel
theorem dd_L_law_713 : decode cd_L_law 713 = .ok (.i2l, 1) := by decide +kernel
theorem dd_L_law_714 : decode cd_L_law 714 = .ok (.bipush 32, 2) := by decide +kernel
theorem dd_L_law_716 : decode cd_L_law 716 = .ok (.lshl, 1) := by decide +kernel
theorem dd_L_law_717 : decode cd_L_law 717 = .ok (.aload_n 0, 1) := by decide +kernel
theorem dd_L_law_718 : decode cd_L_law 718 = .ok (.iload_n 3, 1) := by decide +kernel
theorem dd_L_law_719 : decode cd_L_law 719 = .ok (.iconst 4, 1) := by decide +kernel
theorem dd_L_law_720 : decode cd_L_law 720 = .ok (.iadd, 1) := by decide +kernel
theorem dd_L_law_721 : decode cd_L_law 721 = .ok (.iaload, 1) := by decide +kernel
theorem dd_L_law_722 : decode cd_L_law 722 = .ok (.i2l, 1) := by decide +kernel
theorem dd_L_law_723 : decode cd_L_law 723 = .ok (.ldc2_w 13, 3) := by decide +kernel
theorem dd_L_law_726 : decode cd_L_law 726 = .ok (.land, 1) := by decide +kernel
theorem dd_L_law_727 : decode cd_L_law 727 = .ok (.lor, 1) := by decide +kernel
theorem dd_L_law_728 : decode cd_L_law 728 = .ok (.aload_n 0, 1) := by decide +kernel
theorem dd_L_law_729 : decode cd_L_law 729 = .ok (.iload_n 3, 1) := by decide +kernel
theorem dd_L_law_730 : decode cd_L_law 730 = .ok (.iconst 5, 1) := by decide +kernel
theorem dd_L_law_731 : decode cd_L_law 731 = .ok (.iadd, 1) := by decide +kernel
theorem dd_L_law_732 : decode cd_L_law 732 = .ok (.iaload, 1) := by decide +kernel
theorem dd_L_law_733 : decode cd_L_law 733 = .ok (.invokevirtual 66, 3) := by decide +kernel
theorem dd_L_law_736 : decode cd_L_law 736 = .ok (.aload_n 2, 1) := by decide +kernel
theorem dd_L_law_737 : decode cd_L_law 737 = .ok (.aload_n 0, 1) := by decide +kernel
theorem dd_L_law_738 : decode cd_L_law 738 = .ok (.iload_n 3, 1) := by decide +kernel
theorem dd_L_law_739 : decode cd_L_law 739 = .ok (.iconst 1, 1) := by decide +kernel
theorem dd_L_law_740 : decode cd_L_law 740 = .ok (.iadd, 1) := by decide +kernel
theorem dd_L_law_741 : decode cd_L_law 741 = .ok (.iaload, 1) := by decide +kernel
theorem dd_L_law_742 : decode cd_L_law 742 = .ok (.i2l, 1) := by decide +kernel
theorem dd_L_law_743 : decode cd_L_law 743 = .ok (.bipush 32, 2) := by decide +kernel
theorem dd_L_law_745 : decode cd_L_law 745 = .ok (.lshl, 1) := by decide +kernel
theorem dd_L_law_746 : decode cd_L_law 746 = .ok (.aload_n 0, 1) := by decide +kernel
theorem dd_L_law_747 : decode cd_L_law 747 = .ok (.iload_n 3, 1) := by decide +kernel
theorem dd_L_law_748 : decode cd_L_law 748 = .ok (.iconst 2, 1) := by decide +kernel
theorem dd_L_law_749 : decode cd_L_law 749 = .ok (.iadd, 1) := by decide +kernel
theorem dd_L_law_750 : decode cd_L_law 750 = .ok (.iaload, 1) := by decide +kernel
theorem dd_L_law_751 : decode cd_L_law 751 = .ok (.i2l, 1) := by decide +kernel
theorem dd_L_law_752 : decode cd_L_law 752 = .ok (.ldc2_w 13, 3) := by decide +kernel
theorem dd_L_law_755 : decode cd_L_law 755 = .ok (.land, 1) := by decide +kernel
theorem dd_L_law_756 : decode cd_L_law 756 = .ok (.lor, 1) := by decide +kernel
theorem dd_L_law_757 : decode cd_L_law 757 = .ok (.aload_n 0, 1) := by decide +kernel
theorem dd_L_law_758 : decode cd_L_law 758 = .ok (.iload_n 3, 1) := by decide +kernel
theorem dd_L_law_759 : decode cd_L_law 759 = .ok (.iconst 3, 1) := by decide +kernel
theorem dd_L_law_760 : decode cd_L_law 760 = .ok (.iadd, 1) := by decide +kernel
theorem dd_L_law_761 : decode cd_L_law 761 = .ok (.iaload, 1) := by decide +kernel
theorem dd_L_law_762 : decode cd_L_law 762 = .ok (.i2l, 1) := by decide +kernel
theorem dd_L_law_763 : decode cd_L_law 763 = .ok (.bipush 32, 2) := by decide +kernel
theorem dd_L_law_765 : decode cd_L_law 765 = .ok (.lshl, 1) := by decide +kernel
theorem dd_L_law_766 : decode cd_L_law 766 = .ok (.aload_n 0, 1) := by decide +kernel
theorem dd_L_law_767 : decode cd_L_law 767 = .ok (.iload_n 3, 1) := by decide +kernel
theorem dd_L_law_768 : decode cd_L_law 768 = .ok (.iconst 4, 1) := by decide +kernel
theorem dd_L_law_769 : decode cd_L_law 769 = .ok (.iadd, 1) := by decide +kernel
theorem dd_L_law_770 : decode cd_L_law 770 = .ok (.iaload, 1) := by decide +kernel
theorem dd_L_law_771 : decode cd_L_law 771 = .ok (.i2l, 1) := by decide +kernel
theorem dd_L_law_772 : decode cd_L_law 772 = .ok (.ldc2_w 13, 3) := by decide +kernel
theorem dd_L_law_775 : decode cd_L_law 775 = .ok (.land, 1) := by decide +kernel
theorem dd_L_law_776 : decode cd_L_law 776 = .ok (.lor, 1) := by decide +kernel
theorem dd_L_law_777 : decode cd_L_law 777 = .ok (.aload_n 0, 1) := by decide +kernel
theorem dd_L_law_778 : decode cd_L_law 778 = .ok (.iload_n 3, 1) := by decide +kernel
theorem dd_L_law_779 : decode cd_L_law 779 = .ok (.iconst 5, 1) := by decide +kernel
theorem dd_L_law_780 : decode cd_L_law 780 = .ok (.iadd, 1) := by decide +kernel
theorem dd_L_law_781 : decode cd_L_law 781 = .ok (.iaload, 1) := by decide +kernel
theorem dd_L_law_782 : decode cd_L_law 782 = .ok (.invokevirtual 70, 3) := by decide +kernel
theorem dd_L_law_785 : decode cd_L_law 785 = .ok (.if_icmp .eq 300, 3) := by decide +kernel
theorem dd_L_law_788 : decode cd_L_law 788 = .ok (.iconst 0, 1) := by decide +kernel
theorem dd_L_law_789 : decode cd_L_law 789 = .ok (.ireturn, 1) := by decide +kernel
theorem dd_L_law_790 : decode cd_L_law 790 = .ok (.aload_n 1, 1) := by decide +kernel
theorem dd_L_law_791 : decode cd_L_law 791 = .ok (.aload_n 0, 1) := by decide +kernel
theorem dd_L_law_792 : decode cd_L_law 792 = .ok (.iload_n 3, 1) := by decide +kernel
theorem dd_L_law_793 : decode cd_L_law 793 = .ok (.iconst 1, 1) := by decide +kernel
theorem dd_L_law_794 : decode cd_L_law 794 = .ok (.iadd, 1) := by decide +kernel
theorem dd_L_law_795 : decode cd_L_law 795 = .ok (.iaload, 1) := by decide +kernel
theorem dd_L_law_796 : decode cd_L_law 796 = .ok (.ifCond .eq 7, 3) := by decide +kernel
theorem dd_L_law_799 : decode cd_L_law 799 = .ok (.iconst 1, 1) := by decide +kernel
theorem dd_L_law_800 : decode cd_L_law 800 = .ok (.goto 4, 3) := by decide +kernel
theorem dd_L_law_803 : decode cd_L_law 803 = .ok (.iconst 0, 1) := by decide +kernel
theorem dd_L_law_804 : decode cd_L_law 804 = .ok (.invokevirtual 71, 3) := by decide +kernel
theorem dd_L_law_807 : decode cd_L_law 807 = .ok (.aload_n 2, 1) := by decide +kernel
theorem dd_L_law_808 : decode cd_L_law 808 = .ok (.aload_n 0, 1) := by decide +kernel
theorem dd_L_law_809 : decode cd_L_law 809 = .ok (.iload_n 3, 1) := by decide +kernel
theorem dd_L_law_810 : decode cd_L_law 810 = .ok (.iconst 1, 1) := by decide +kernel
theorem dd_L_law_811 : decode cd_L_law 811 = .ok (.iadd, 1) := by decide +kernel
theorem dd_L_law_812 : decode cd_L_law 812 = .ok (.iaload, 1) := by decide +kernel
theorem dd_L_law_813 : decode cd_L_law 813 = .ok (.ifCond .eq 7, 3) := by decide +kernel
theorem dd_L_law_816 : decode cd_L_law 816 = .ok (.iconst 1, 1) := by decide +kernel
theorem dd_L_law_817 : decode cd_L_law 817 = .ok (.goto 4, 3) := by decide +kernel
theorem dd_L_law_820 : decode cd_L_law 820 = .ok (.iconst 0, 1) := by decide +kernel
theorem dd_L_law_821 : decode cd_L_law 821 = .ok (.invokevirtual 75, 3) := by decide +kernel
theorem dd_L_law_824 : decode cd_L_law 824 = .ok (.lcmp, 1) := by decide +kernel
theorem dd_L_law_825 : decode cd_L_law 825 = .ok (.ifCond .eq 260, 3) := by decide +kernel
theorem dd_L_law_828 : decode cd_L_law 828 = .ok (.iconst 0, 1) := by decide +kernel
theorem dd_L_law_829 : decode cd_L_law 829 = .ok (.ireturn, 1) := by decide +kernel
theorem dd_L_law_830 : decode cd_L_law 830 = .ok (.aload_n 1, 1) := by decide +kernel
theorem dd_L_law_831 : decode cd_L_law 831 = .ok (.invokevirtual 76, 3) := by decide +kernel
theorem dd_L_law_834 : decode cd_L_law 834 = .ok (.aload_n 2, 1) := by decide +kernel
theorem dd_L_law_835 : decode cd_L_law 835 = .ok (.invokevirtual 79, 3) := by decide +kernel
theorem dd_L_law_838 : decode cd_L_law 838 = .ok (.if_icmp .eq 247, 3) := by decide +kernel
theorem dd_L_law_841 : decode cd_L_law 841 = .ok (.iconst 0, 1) := by decide +kernel
theorem dd_L_law_842 : decode cd_L_law 842 = .ok (.ireturn, 1) := by decide +kernel
theorem dd_L_law_843 : decode cd_L_law 843 = .ok (.aload_n 1, 1) := by decide +kernel
theorem dd_L_law_844 : decode cd_L_law 844 = .ok (.aload_n 0, 1) := by decide +kernel
theorem dd_L_law_845 : decode cd_L_law 845 = .ok (.iload_n 3, 1) := by decide +kernel
theorem dd_L_law_846 : decode cd_L_law 846 = .ok (.iconst 1, 1) := by decide +kernel
theorem dd_L_law_847 : decode cd_L_law 847 = .ok (.iadd, 1) := by decide +kernel
theorem dd_L_law_848 : decode cd_L_law 848 = .ok (.iaload, 1) := by decide +kernel
theorem dd_L_law_849 : decode cd_L_law 849 = .ok (.i2l, 1) := by decide +kernel
theorem dd_L_law_850 : decode cd_L_law 850 = .ok (.bipush 32, 2) := by decide +kernel
theorem dd_L_law_852 : decode cd_L_law 852 = .ok (.lshl, 1) := by decide +kernel
theorem dd_L_law_853 : decode cd_L_law 853 = .ok (.aload_n 0, 1) := by decide +kernel
theorem dd_L_law_854 : decode cd_L_law 854 = .ok (.iload_n 3, 1) := by decide +kernel
theorem dd_L_law_855 : decode cd_L_law 855 = .ok (.iconst 2, 1) := by decide +kernel
theorem dd_L_law_856 : decode cd_L_law 856 = .ok (.iadd, 1) := by decide +kernel
theorem dd_L_law_857 : decode cd_L_law 857 = .ok (.iaload, 1) := by decide +kernel
theorem dd_L_law_858 : decode cd_L_law 858 = .ok (.i2l, 1) := by decide +kernel
theorem dd_L_law_859 : decode cd_L_law 859 = .ok (.ldc2_w 13, 3) := by decide +kernel
theorem dd_L_law_862 : decode cd_L_law 862 = .ok (.land, 1) := by decide +kernel
theorem dd_L_law_863 : decode cd_L_law 863 = .ok (.lor, 1) := by decide +kernel
theorem dd_L_law_864 : decode cd_L_law 864 = .ok (.aload_n 0, 1) := by decide +kernel
theorem dd_L_law_865 : decode cd_L_law 865 = .ok (.iload_n 3, 1) := by decide +kernel
theorem dd_L_law_866 : decode cd_L_law 866 = .ok (.iconst 3, 1) := by decide +kernel
theorem dd_L_law_867 : decode cd_L_law 867 = .ok (.iadd, 1) := by decide +kernel
theorem dd_L_law_868 : decode cd_L_law 868 = .ok (.iaload, 1) := by decide +kernel
theorem dd_L_law_869 : decode cd_L_law 869 = .ok (.invokevirtual 80, 3) := by decide +kernel
theorem dd_L_law_872 : decode cd_L_law 872 = .ok (.aload_n 2, 1) := by decide +kernel
theorem dd_L_law_873 : decode cd_L_law 873 = .ok (.aload_n 0, 1) := by decide +kernel
theorem dd_L_law_874 : decode cd_L_law 874 = .ok (.iload_n 3, 1) := by decide +kernel
theorem dd_L_law_875 : decode cd_L_law 875 = .ok (.iconst 1, 1) := by decide +kernel
theorem dd_L_law_876 : decode cd_L_law 876 = .ok (.iadd, 1) := by decide +kernel
theorem dd_L_law_877 : decode cd_L_law 877 = .ok (.iaload, 1) := by decide +kernel
theorem dd_L_law_878 : decode cd_L_law 878 = .ok (.i2l, 1) := by decide +kernel
theorem dd_L_law_879 : decode cd_L_law 879 = .ok (.bipush 32, 2) := by decide +kernel
theorem dd_L_law_881 : decode cd_L_law 881 = .ok (.lshl, 1) := by decide +kernel
theorem dd_L_law_882 : decode cd_L_law 882 = .ok (.aload_n 0, 1) := by decide +kernel
theorem dd_L_law_883 : decode cd_L_law 883 = .ok (.iload_n 3, 1) := by decide +kernel
theorem dd_L_law_884 : decode cd_L_law 884 = .ok (.iconst 2, 1) := by decide +kernel
theorem dd_L_law_885 : decode cd_L_law 885 = .ok (.iadd, 1) := by decide +kernel
theorem dd_L_law_886 : decode cd_L_law 886 = .ok (.iaload, 1) := by decide +kernel
theorem dd_L_law_887 : decode cd_L_law 887 = .ok (.i2l, 1) := by decide +kernel
theorem dd_L_law_888 : decode cd_L_law 888 = .ok (.ldc2_w 13, 3) := by decide +kernel
theorem dd_L_law_891 : decode cd_L_law 891 = .ok (.land, 1) := by decide +kernel
theorem dd_L_law_892 : decode cd_L_law 892 = .ok (.lor, 1) := by decide +kernel
theorem dd_L_law_893 : decode cd_L_law 893 = .ok (.aload_n 0, 1) := by decide +kernel
theorem dd_L_law_894 : decode cd_L_law 894 = .ok (.iload_n 3, 1) := by decide +kernel
theorem dd_L_law_895 : decode cd_L_law 895 = .ok (.iconst 3, 1) := by decide +kernel
theorem dd_L_law_896 : decode cd_L_law 896 = .ok (.iadd, 1) := by decide +kernel
theorem dd_L_law_897 : decode cd_L_law 897 = .ok (.iaload, 1) := by decide +kernel
theorem dd_L_law_898 : decode cd_L_law 898 = .ok (.invokevirtual 84, 3) := by decide +kernel
theorem dd_L_law_901 : decode cd_L_law 901 = .ok (.if_icmp .eq 184, 3) := by decide +kernel
theorem dd_L_law_904 : decode cd_L_law 904 = .ok (.iconst 0, 1) := by decide +kernel
theorem dd_L_law_905 : decode cd_L_law 905 = .ok (.ireturn, 1) := by decide +kernel
theorem dd_L_law_906 : decode cd_L_law 906 = .ok (.aload_n 1, 1) := by decide +kernel
theorem dd_L_law_907 : decode cd_L_law 907 = .ok (.aload_n 0, 1) := by decide +kernel
theorem dd_L_law_908 : decode cd_L_law 908 = .ok (.iload_n 3, 1) := by decide +kernel
theorem dd_L_law_909 : decode cd_L_law 909 = .ok (.iconst 1, 1) := by decide +kernel
theorem dd_L_law_910 : decode cd_L_law 910 = .ok (.iadd, 1) := by decide +kernel
theorem dd_L_law_911 : decode cd_L_law 911 = .ok (.iaload, 1) := by decide +kernel
theorem dd_L_law_912 : decode cd_L_law 912 = .ok (.i2l, 1) := by decide +kernel
theorem dd_L_law_913 : decode cd_L_law 913 = .ok (.bipush 32, 2) := by decide +kernel
theorem dd_L_law_915 : decode cd_L_law 915 = .ok (.lshl, 1) := by decide +kernel
theorem dd_L_law_916 : decode cd_L_law 916 = .ok (.aload_n 0, 1) := by decide +kernel
theorem dd_L_law_917 : decode cd_L_law 917 = .ok (.iload_n 3, 1) := by decide +kernel
theorem dd_L_law_918 : decode cd_L_law 918 = .ok (.iconst 2, 1) := by decide +kernel
theorem dd_L_law_919 : decode cd_L_law 919 = .ok (.iadd, 1) := by decide +kernel
theorem dd_L_law_920 : decode cd_L_law 920 = .ok (.iaload, 1) := by decide +kernel
theorem dd_L_law_921 : decode cd_L_law 921 = .ok (.i2l, 1) := by decide +kernel
theorem dd_L_law_922 : decode cd_L_law 922 = .ok (.ldc2_w 13, 3) := by decide +kernel
theorem dd_L_law_925 : decode cd_L_law 925 = .ok (.land, 1) := by decide +kernel
theorem dd_L_law_926 : decode cd_L_law 926 = .ok (.lor, 1) := by decide +kernel
theorem dd_L_law_927 : decode cd_L_law 927 = .ok (.aload_n 0, 1) := by decide +kernel
theorem dd_L_law_928 : decode cd_L_law 928 = .ok (.iload_n 3, 1) := by decide +kernel
theorem dd_L_law_929 : decode cd_L_law 929 = .ok (.iconst 3, 1) := by decide +kernel
theorem dd_L_law_930 : decode cd_L_law 930 = .ok (.iadd, 1) := by decide +kernel
theorem dd_L_law_931 : decode cd_L_law 931 = .ok (.iaload, 1) := by decide +kernel
theorem dd_L_law_932 : decode cd_L_law 932 = .ok (.invokevirtual 85, 3) := by decide +kernel
theorem dd_L_law_935 : decode cd_L_law 935 = .ok (.aload_n 2, 1) := by decide +kernel
theorem dd_L_law_936 : decode cd_L_law 936 = .ok (.aload_n 0, 1) := by decide +kernel
theorem dd_L_law_937 : decode cd_L_law 937 = .ok (.iload_n 3, 1) := by decide +kernel
theorem dd_L_law_938 : decode cd_L_law 938 = .ok (.iconst 1, 1) := by decide +kernel
theorem dd_L_law_939 : decode cd_L_law 939 = .ok (.iadd, 1) := by decide +kernel
theorem dd_L_law_940 : decode cd_L_law 940 = .ok (.iaload, 1) := by decide +kernel
theorem dd_L_law_941 : decode cd_L_law 941 = .ok (.i2l, 1) := by decide +kernel
theorem dd_L_law_942 : decode cd_L_law 942 = .ok (.bipush 32, 2) := by decide +kernel
theorem dd_L_law_944 : decode cd_L_law 944 = .ok (.lshl, 1) := by decide +kernel
theorem dd_L_law_945 : decode cd_L_law 945 = .ok (.aload_n 0, 1) := by decide +kernel
theorem dd_L_law_946 : decode cd_L_law 946 = .ok (.iload_n 3, 1) := by decide +kernel
theorem dd_L_law_947 : decode cd_L_law 947 = .ok (.iconst 2, 1) := by decide +kernel
theorem dd_L_law_948 : decode cd_L_law 948 = .ok (.iadd, 1) := by decide +kernel
theorem dd_L_law_949 : decode cd_L_law 949 = .ok (.iaload, 1) := by decide +kernel
theorem dd_L_law_950 : decode cd_L_law 950 = .ok (.i2l, 1) := by decide +kernel
theorem dd_L_law_951 : decode cd_L_law 951 = .ok (.ldc2_w 13, 3) := by decide +kernel
theorem dd_L_law_954 : decode cd_L_law 954 = .ok (.land, 1) := by decide +kernel
theorem dd_L_law_955 : decode cd_L_law 955 = .ok (.lor, 1) := by decide +kernel
theorem dd_L_law_956 : decode cd_L_law 956 = .ok (.aload_n 0, 1) := by decide +kernel
theorem dd_L_law_957 : decode cd_L_law 957 = .ok (.iload_n 3, 1) := by decide +kernel
theorem dd_L_law_958 : decode cd_L_law 958 = .ok (.iconst 3, 1) := by decide +kernel
theorem dd_L_law_959 : decode cd_L_law 959 = .ok (.iadd, 1) := by decide +kernel
theorem dd_L_law_960 : decode cd_L_law 960 = .ok (.iaload, 1) := by decide +kernel
theorem dd_L_law_961 : decode cd_L_law 961 = .ok (.invokevirtual 88, 3) := by decide +kernel
theorem dd_L_law_964 : decode cd_L_law 964 = .ok (.if_icmp .eq 121, 3) := by decide +kernel
theorem dd_L_law_967 : decode cd_L_law 967 = .ok (.iconst 0, 1) := by decide +kernel
theorem dd_L_law_968 : decode cd_L_law 968 = .ok (.ireturn, 1) := by decide +kernel
theorem dd_L_law_969 : decode cd_L_law 969 = .ok (.aload_n 1, 1) := by decide +kernel
theorem dd_L_law_970 : decode cd_L_law 970 = .ok (.aload_n 0, 1) := by decide +kernel
theorem dd_L_law_971 : decode cd_L_law 971 = .ok (.iload_n 3, 1) := by decide +kernel
theorem dd_L_law_972 : decode cd_L_law 972 = .ok (.iconst 1, 1) := by decide +kernel
theorem dd_L_law_973 : decode cd_L_law 973 = .ok (.iadd, 1) := by decide +kernel
theorem dd_L_law_974 : decode cd_L_law 974 = .ok (.iaload, 1) := by decide +kernel
theorem dd_L_law_975 : decode cd_L_law 975 = .ok (.i2l, 1) := by decide +kernel
theorem dd_L_law_976 : decode cd_L_law 976 = .ok (.bipush 32, 2) := by decide +kernel
theorem dd_L_law_978 : decode cd_L_law 978 = .ok (.lshl, 1) := by decide +kernel
theorem dd_L_law_979 : decode cd_L_law 979 = .ok (.aload_n 0, 1) := by decide +kernel
theorem dd_L_law_980 : decode cd_L_law 980 = .ok (.iload_n 3, 1) := by decide +kernel
theorem dd_L_law_981 : decode cd_L_law 981 = .ok (.iconst 2, 1) := by decide +kernel
theorem dd_L_law_982 : decode cd_L_law 982 = .ok (.iadd, 1) := by decide +kernel
theorem dd_L_law_983 : decode cd_L_law 983 = .ok (.iaload, 1) := by decide +kernel
theorem dd_L_law_984 : decode cd_L_law 984 = .ok (.i2l, 1) := by decide +kernel
theorem dd_L_law_985 : decode cd_L_law 985 = .ok (.ldc2_w 13, 3) := by decide +kernel
theorem dd_L_law_988 : decode cd_L_law 988 = .ok (.land, 1) := by decide +kernel
theorem dd_L_law_989 : decode cd_L_law 989 = .ok (.lor, 1) := by decide +kernel
theorem dd_L_law_990 : decode cd_L_law 990 = .ok (.invokevirtual 89, 3) := by decide +kernel
theorem dd_L_law_993 : decode cd_L_law 993 = .ok (.aload_n 2, 1) := by decide +kernel
theorem dd_L_law_994 : decode cd_L_law 994 = .ok (.aload_n 0, 1) := by decide +kernel
theorem dd_L_law_995 : decode cd_L_law 995 = .ok (.iload_n 3, 1) := by decide +kernel
theorem dd_L_law_996 : decode cd_L_law 996 = .ok (.iconst 1, 1) := by decide +kernel
theorem dd_L_law_997 : decode cd_L_law 997 = .ok (.iadd, 1) := by decide +kernel
theorem dd_L_law_998 : decode cd_L_law 998 = .ok (.iaload, 1) := by decide +kernel
theorem dd_L_law_999 : decode cd_L_law 999 = .ok (.i2l, 1) := by decide +kernel
theorem dd_L_law_1000 : decode cd_L_law 1000 = .ok (.bipush 32, 2) := by decide +kernel
theorem dd_L_law_1002 : decode cd_L_law 1002 = .ok (.lshl, 1) := by decide +kernel
theorem dd_L_law_1003 : decode cd_L_law 1003 = .ok (.aload_n 0, 1) := by decide +kernel
theorem dd_L_law_1004 : decode cd_L_law 1004 = .ok (.iload_n 3, 1) := by decide +kernel
theorem dd_L_law_1005 : decode cd_L_law 1005 = .ok (.iconst 2, 1) := by decide +kernel
theorem dd_L_law_1006 : decode cd_L_law 1006 = .ok (.iadd, 1) := by decide +kernel
theorem dd_L_law_1007 : decode cd_L_law 1007 = .ok (.iaload, 1) := by decide +kernel
theorem dd_L_law_1008 : decode cd_L_law 1008 = .ok (.i2l, 1) := by decide +kernel
theorem dd_L_law_1009 : decode cd_L_law 1009 = .ok (.ldc2_w 13, 3) := by decide +kernel
theorem dd_L_law_1012 : decode cd_L_law 1012 = .ok (.land, 1) := by decide +kernel
theorem dd_L_law_1013 : decode cd_L_law 1013 = .ok (.lor, 1) := by decide +kernel
theorem dd_L_law_1014 : decode cd_L_law 1014 = .ok (.invokevirtual 92, 3) := by decide +kernel
theorem dd_L_law_1017 : decode cd_L_law 1017 = .ok (.if_icmp .eq 68, 3) := by decide +kernel
theorem dd_L_law_1020 : decode cd_L_law 1020 = .ok (.iconst 0, 1) := by decide +kernel
theorem dd_L_law_1021 : decode cd_L_law 1021 = .ok (.ireturn, 1) := by decide +kernel
theorem dd_L_law_1022 : decode cd_L_law 1022 = .ok (.aload_n 1, 1) := by decide +kernel
theorem dd_L_law_1023 : decode cd_L_law 1023 = .ok (.aload_n 0, 1) := by decide +kernel
theorem dd_L_law_1024 : decode cd_L_law 1024 = .ok (.iload_n 3, 1) := by decide +kernel
theorem dd_L_law_1025 : decode cd_L_law 1025 = .ok (.iconst 1, 1) := by decide +kernel
theorem dd_L_law_1026 : decode cd_L_law 1026 = .ok (.iadd, 1) := by decide +kernel
theorem dd_L_law_1027 : decode cd_L_law 1027 = .ok (.iaload, 1) := by decide +kernel
theorem dd_L_law_1028 : decode cd_L_law 1028 = .ok (.i2l, 1) := by decide +kernel
theorem dd_L_law_1029 : decode cd_L_law 1029 = .ok (.bipush 32, 2) := by decide +kernel
theorem dd_L_law_1031 : decode cd_L_law 1031 = .ok (.lshl, 1) := by decide +kernel
theorem dd_L_law_1032 : decode cd_L_law 1032 = .ok (.aload_n 0, 1) := by decide +kernel
theorem dd_L_law_1033 : decode cd_L_law 1033 = .ok (.iload_n 3, 1) := by decide +kernel
theorem dd_L_law_1034 : decode cd_L_law 1034 = .ok (.iconst 2, 1) := by decide +kernel
theorem dd_L_law_1035 : decode cd_L_law 1035 = .ok (.iadd, 1) := by decide +kernel
theorem dd_L_law_1036 : decode cd_L_law 1036 = .ok (.iaload, 1) := by decide +kernel
theorem dd_L_law_1037 : decode cd_L_law 1037 = .ok (.i2l, 1) := by decide +kernel
theorem dd_L_law_1038 : decode cd_L_law 1038 = .ok (.ldc2_w 13, 3) := by decide +kernel
theorem dd_L_law_1041 : decode cd_L_law 1041 = .ok (.land, 1) := by decide +kernel
theorem dd_L_law_1042 : decode cd_L_law 1042 = .ok (.lor, 1) := by decide +kernel
theorem dd_L_law_1043 : decode cd_L_law 1043 = .ok (.aload_n 0, 1) := by decide +kernel
theorem dd_L_law_1044 : decode cd_L_law 1044 = .ok (.iload_n 3, 1) := by decide +kernel
theorem dd_L_law_1045 : decode cd_L_law 1045 = .ok (.iconst 3, 1) := by decide +kernel
theorem dd_L_law_1046 : decode cd_L_law 1046 = .ok (.iadd, 1) := by decide +kernel
theorem dd_L_law_1047 : decode cd_L_law 1047 = .ok (.iaload, 1) := by decide +kernel
theorem dd_L_law_1048 : decode cd_L_law 1048 = .ok (.invokevirtual 93, 3) := by decide +kernel
theorem dd_L_law_1051 : decode cd_L_law 1051 = .ok (.aload_n 2, 1) := by decide +kernel
theorem dd_L_law_1052 : decode cd_L_law 1052 = .ok (.aload_n 0, 1) := by decide +kernel
theorem dd_L_law_1053 : decode cd_L_law 1053 = .ok (.iload_n 3, 1) := by decide +kernel
theorem dd_L_law_1054 : decode cd_L_law 1054 = .ok (.iconst 1, 1) := by decide +kernel
theorem dd_L_law_1055 : decode cd_L_law 1055 = .ok (.iadd, 1) := by decide +kernel
theorem dd_L_law_1056 : decode cd_L_law 1056 = .ok (.iaload, 1) := by decide +kernel
theorem dd_L_law_1057 : decode cd_L_law 1057 = .ok (.i2l, 1) := by decide +kernel
theorem dd_L_law_1058 : decode cd_L_law 1058 = .ok (.bipush 32, 2) := by decide +kernel
theorem dd_L_law_1060 : decode cd_L_law 1060 = .ok (.lshl, 1) := by decide +kernel
theorem dd_L_law_1061 : decode cd_L_law 1061 = .ok (.aload_n 0, 1) := by decide +kernel
theorem dd_L_law_1062 : decode cd_L_law 1062 = .ok (.iload_n 3, 1) := by decide +kernel
theorem dd_L_law_1063 : decode cd_L_law 1063 = .ok (.iconst 2, 1) := by decide +kernel
theorem dd_L_law_1064 : decode cd_L_law 1064 = .ok (.iadd, 1) := by decide +kernel
theorem dd_L_law_1065 : decode cd_L_law 1065 = .ok (.iaload, 1) := by decide +kernel
theorem dd_L_law_1066 : decode cd_L_law 1066 = .ok (.i2l, 1) := by decide +kernel
theorem dd_L_law_1067 : decode cd_L_law 1067 = .ok (.ldc2_w 13, 3) := by decide +kernel
theorem dd_L_law_1070 : decode cd_L_law 1070 = .ok (.land, 1) := by decide +kernel
theorem dd_L_law_1071 : decode cd_L_law 1071 = .ok (.lor, 1) := by decide +kernel
theorem dd_L_law_1072 : decode cd_L_law 1072 = .ok (.aload_n 0, 1) := by decide +kernel
theorem dd_L_law_1073 : decode cd_L_law 1073 = .ok (.iload_n 3, 1) := by decide +kernel
theorem dd_L_law_1074 : decode cd_L_law 1074 = .ok (.iconst 3, 1) := by decide +kernel
theorem dd_L_law_1075 : decode cd_L_law 1075 = .ok (.iadd, 1) := by decide +kernel
theorem dd_L_law_1076 : decode cd_L_law 1076 = .ok (.iaload, 1) := by decide +kernel
theorem dd_L_law_1077 : decode cd_L_law 1077 = .ok (.invokevirtual 96, 3) := by decide +kernel
theorem dd_L_law_1080 : decode cd_L_law 1080 = .ok (.if_icmp .eq 5, 3) := by decide +kernel
theorem dd_L_law_1083 : decode cd_L_law 1083 = .ok (.iconst 0, 1) := by decide +kernel
theorem dd_L_law_1084 : decode cd_L_law 1084 = .ok (.ireturn, 1) := by decide +kernel
theorem dd_L_law_1085 : decode cd_L_law 1085 = .ok (.iinc 3 6, 3) := by decide +kernel
theorem dd_L_law_1088 : decode cd_L_law 1088 = .ok (.goto (-1070), 3) := by decide +kernel
theorem dd_L_law_1091 : decode cd_L_law 1091 = .ok (.iconst 1, 1) := by decide +kernel
theorem dd_L_law_1092 : decode cd_L_law 1092 = .ok (.ireturn, 1) := by decide +kernel
end
section
theorem ly_E : ∀ w ∈ u_ws rn_E ft_E 3, w ∈ tb_ := by
  have h : u_ws rn_E ft_E 3 = [Cond.laysFinal "PartsAccumulator$Epoch" "PartsAccumulator$Epoch" "roster" "LPartsAccumulator$Roster;", Cond.laysFinal "PartsAccumulator$Epoch" "PartsAccumulator$Epoch" "published" "[J", Cond.laysFinal "PartsAccumulator$Epoch" "PartsAccumulator$Epoch" "inverse" "[J"] := by decide +kernel
  rw [h]
  exact List.forall_mem_cons.mpr ⟨tw_105, List.forall_mem_cons.mpr ⟨tw_107, List.forall_mem_cons.mpr ⟨tw_109, fun _ h => absurd h List.not_mem_nil⟩⟩⟩
theorem ly_N : ∀ w ∈ u_ws rn_N ft_N 1, w ∈ tb_ := by
  have h : u_ws rn_N ft_N 1 = [Cond.laysFinal "PartsAccumulator$Natural" "PartsAccumulator$Natural" "limbs" "[J"] := by decide +kernel
  rw [h]
  exact List.forall_mem_cons.mpr ⟨tw_119, fun _ h => absurd h List.not_mem_nil⟩
theorem ly_R : ∀ w ∈ u_ws rn_R ft_R 11, w ∈ tb_ := by
  have h : u_ws rn_R ft_R 11 = [Cond.laysFinal "PartsAccumulator$Ring" "PartsAccumulator$Ring" "three" "[J", Cond.laysFinal "PartsAccumulator$Ring" "PartsAccumulator$Ring" "third" "[J", Cond.laysFinal "PartsAccumulator$Ring" "PartsAccumulator$Ring" "unit" "[J", Cond.laysFinal "PartsAccumulator$Ring" "PartsAccumulator$Ring" "modulusLimbs" "[J", Cond.laysFinal "PartsAccumulator$Ring" "PartsAccumulator$Ring" "montgomeryOne" "[J", Cond.laysFinal "PartsAccumulator$Ring" "PartsAccumulator$Ring" "montgomerySquare" "[J", Cond.laysFinal "PartsAccumulator$Ring" "PartsAccumulator$Ring" "total" "[J", Cond.laysFinal "PartsAccumulator$Ring" "PartsAccumulator$Ring" "reduced" "[J", Cond.laysFinal "PartsAccumulator$Ring" "PartsAccumulator$Ring" "base" "[J", Cond.laysFinal "PartsAccumulator$Ring" "PartsAccumulator$Ring" "result" "[J", Cond.lays "PartsAccumulator$Ring" "PartsAccumulator$Ring" "negatedInverse" "J"] := by decide +kernel
  rw [h]
  exact List.forall_mem_cons.mpr ⟨tw_49, List.forall_mem_cons.mpr ⟨tw_51, List.forall_mem_cons.mpr ⟨tw_53, List.forall_mem_cons.mpr ⟨tw_55, List.forall_mem_cons.mpr ⟨tw_57, List.forall_mem_cons.mpr ⟨tw_59, List.forall_mem_cons.mpr ⟨tw_61, List.forall_mem_cons.mpr ⟨tw_63, List.forall_mem_cons.mpr ⟨tw_65, List.forall_mem_cons.mpr ⟨tw_67, List.forall_mem_cons.mpr ⟨tw_69, fun _ h => absurd h List.not_mem_nil⟩⟩⟩⟩⟩⟩⟩⟩⟩⟩⟩
theorem ly_T : ∀ w ∈ u_ws rn_T ft_T 3, w ∈ tb_ := by
  have h : u_ws rn_T ft_T 3 = [Cond.laysFinal "PartsAccumulator$Roster" "PartsAccumulator$Roster" "serials" "[J", Cond.laysFinal "PartsAccumulator$Roster" "PartsAccumulator$Roster" "primes" "[I", Cond.lays "PartsAccumulator$Roster" "PartsAccumulator$Roster" "count" "I"] := by decide +kernel
  rw [h]
  exact List.forall_mem_cons.mpr ⟨tw_83, List.forall_mem_cons.mpr ⟨tw_85, List.forall_mem_cons.mpr ⟨tw_87, fun _ h => absurd h List.not_mem_nil⟩⟩⟩
theorem ly_S : ∀ w ∈ u_ws rn_S ft_S 1, w ∈ tb_ := by
  have h : u_ws rn_S ft_S 1 = [Cond.laysFinal "PartsAccumulator$SerialPrimes" "PartsAccumulator$SerialPrimes" "w" "[I"] := by decide +kernel
  rw [h]
  exact List.forall_mem_cons.mpr ⟨tw_25, fun _ h => absurd h List.not_mem_nil⟩
theorem ly_P : ∀ w ∈ u_ws rn_P ft_P 11, w ∈ tb_ := by
  have h : u_ws rn_P ft_P 11 = [Cond.laysFinal "PartsAccumulator" "PartsAccumulator" "serialPrimes" "LPartsAccumulator$SerialPrimes;", Cond.laysFinal "PartsAccumulator" "PartsAccumulator" "ring" "LPartsAccumulator$Ring;", Cond.laysFinal "PartsAccumulator" "PartsAccumulator" "pending" "LPartsAccumulator$Roster;", Cond.laysFinal "PartsAccumulator" "PartsAccumulator" "epochs" "[LPartsAccumulator$Epoch;", Cond.laysFinal "PartsAccumulator" "PartsAccumulator" "held" "[J", Cond.laysFinal "PartsAccumulator" "PartsAccumulator" "scratch" "[J", Cond.laysFinal "PartsAccumulator" "PartsAccumulator" "otherScratch" "[J", Cond.laysFinal "PartsAccumulator" "PartsAccumulator" "exponent" "LPartsAccumulator$Natural;", Cond.lays "PartsAccumulator" "PartsAccumulator" "hasModulus" "Z", Cond.lays "PartsAccumulator" "PartsAccumulator" "now" "I", Cond.lays "PartsAccumulator" "PartsAccumulator" "heldFactor" "I"] := by decide +kernel
  rw [h]
  exact List.forall_mem_cons.mpr ⟨tw_133, List.forall_mem_cons.mpr ⟨tw_135, List.forall_mem_cons.mpr ⟨tw_137, List.forall_mem_cons.mpr ⟨tw_139, List.forall_mem_cons.mpr ⟨tw_141, List.forall_mem_cons.mpr ⟨tw_143, List.forall_mem_cons.mpr ⟨tw_145, List.forall_mem_cons.mpr ⟨tw_147, List.forall_mem_cons.mpr ⟨tw_149, List.forall_mem_cons.mpr ⟨tw_151, List.forall_mem_cons.mpr ⟨tw_153, fun _ h => absurd h List.not_mem_nil⟩⟩⟩⟩⟩⟩⟩⟩⟩⟩⟩
theorem ly_M : ∀ w ∈ u_ws rn_M ft_M 22, w ∈ tb_ := by
  have h : u_ws rn_M ft_M 22 = [Cond.laysFinal "PartsAccumulatorModel" "PartsAccumulatorModel" "k" "[J", Cond.laysFinal "PartsAccumulatorModel" "PartsAccumulatorModel" "w" "[I", Cond.lays "PartsAccumulatorModel" "PartsAccumulatorModel" "has" "Z", Cond.lays "PartsAccumulatorModel" "PartsAccumulatorModel" "n1" "J", Cond.lays "PartsAccumulatorModel" "PartsAccumulatorModel" "n0" "J", Cond.lays "PartsAccumulatorModel" "PartsAccumulatorModel" "v1" "J", Cond.lays "PartsAccumulatorModel" "PartsAccumulatorModel" "v0" "J", Cond.lays "PartsAccumulatorModel" "PartsAccumulatorModel" "pending" "I", Cond.laysFinal "PartsAccumulatorModel" "PartsAccumulatorModel" "pendingSerials" "[J", Cond.laysFinal "PartsAccumulatorModel" "PartsAccumulatorModel" "pendingPrimes" "[I", Cond.lays "PartsAccumulatorModel" "PartsAccumulatorModel" "now" "I", Cond.laysFinal "PartsAccumulatorModel" "PartsAccumulatorModel" "counts" "[I", Cond.laysFinal "PartsAccumulatorModel" "PartsAccumulatorModel" "serials" "[J", Cond.laysFinal "PartsAccumulatorModel" "PartsAccumulatorModel" "primes" "[I", Cond.laysFinal "PartsAccumulatorModel" "PartsAccumulatorModel" "upper" "[J", Cond.laysFinal "PartsAccumulatorModel" "PartsAccumulatorModel" "lower" "[J", Cond.lays "PartsAccumulatorModel" "PartsAccumulatorModel" "hand1" "J", Cond.lays "PartsAccumulatorModel" "PartsAccumulatorModel" "hand0" "J", Cond.lays "PartsAccumulatorModel" "PartsAccumulatorModel" "factor" "I", Cond.lays "PartsAccumulatorModel" "PartsAccumulatorModel" "r1" "J", Cond.lays "PartsAccumulatorModel" "PartsAccumulatorModel" "r0" "J", Cond.laysFinal "PartsAccumulatorModel" "PartsAccumulatorModel" "words" "[I"] := by decide +kernel
  rw [h]
  exact List.forall_mem_cons.mpr ⟨tw_517, List.forall_mem_cons.mpr ⟨tw_519, List.forall_mem_cons.mpr ⟨tw_521, List.forall_mem_cons.mpr ⟨tw_523, List.forall_mem_cons.mpr ⟨tw_525, List.forall_mem_cons.mpr ⟨tw_527, List.forall_mem_cons.mpr ⟨tw_529, List.forall_mem_cons.mpr ⟨tw_531, List.forall_mem_cons.mpr ⟨tw_533, List.forall_mem_cons.mpr ⟨tw_535, List.forall_mem_cons.mpr ⟨tw_537, List.forall_mem_cons.mpr ⟨tw_539, List.forall_mem_cons.mpr ⟨tw_541, List.forall_mem_cons.mpr ⟨tw_543, List.forall_mem_cons.mpr ⟨tw_545, List.forall_mem_cons.mpr ⟨tw_547, List.forall_mem_cons.mpr ⟨tw_549, List.forall_mem_cons.mpr ⟨tw_551, List.forall_mem_cons.mpr ⟨tw_553, List.forall_mem_cons.mpr ⟨tw_555, List.forall_mem_cons.mpr ⟨tw_557, List.forall_mem_cons.mpr ⟨tw_559, fun _ h => absurd h List.not_mem_nil⟩⟩⟩⟩⟩⟩⟩⟩⟩⟩⟩⟩⟩⟩⟩⟩⟩⟩⟩⟩⟩⟩
theorem fk_S_11 : fl_ok "PartsAccumulator$SerialPrimes" 11 4 rn_S ft_S 1 0 := ⟨rfl, ly_S, by decide, tw_24, rfl⟩
theorem fp_S_11 : fp_ok rn_S ft_S 1 0 ty_S (.array .int) := ⟨ok_S, nm_S, by decide +kernel⟩
theorem fk_R_9 : fl_ok "PartsAccumulator$Ring" 9 2 rn_R ft_R 11 0 := ⟨rfl, ly_R, by decide, tw_36, rfl⟩
theorem fp_R_9 : fp_ok rn_R ft_R 11 0 ty_R (.array .long) := ⟨ok_R, nm_R, by decide +kernel⟩
theorem fk_P_181 : fl_ok "PartsAccumulator" 181 2 rn_R ft_R 11 0 := ⟨rfl, ly_R, by decide, tw_37, rfl⟩
theorem fp_P_181 : fp_ok rn_R ft_R 11 0 ty_R (.array .long) := ⟨ok_R, nm_R, by decide +kernel⟩
theorem fk_R_15 : fl_ok "PartsAccumulator$Ring" 15 2 rn_R ft_R 11 1 := ⟨rfl, ly_R, by decide, tw_38, rfl⟩
theorem fp_R_15 : fp_ok rn_R ft_R 11 1 ty_R (.array .long) := ⟨ok_R, nm_R, by decide +kernel⟩
theorem fk_P_170 : fl_ok "PartsAccumulator" 170 2 rn_R ft_R 11 1 := ⟨rfl, ly_R, by decide, tw_39, rfl⟩
theorem fp_P_170 : fp_ok rn_R ft_R 11 1 ty_R (.array .long) := ⟨ok_R, nm_R, by decide +kernel⟩
theorem fk_R_18 : fl_ok "PartsAccumulator$Ring" 18 2 rn_R ft_R 11 2 := ⟨rfl, ly_R, by decide, tw_40, rfl⟩
theorem fp_R_18 : fp_ok rn_R ft_R 11 2 ty_R (.array .long) := ⟨ok_R, nm_R, by decide +kernel⟩
theorem fk_R_21 : fl_ok "PartsAccumulator$Ring" 21 2 rn_R ft_R 11 3 := ⟨rfl, ly_R, by decide, tw_41, rfl⟩
theorem fp_R_21 : fp_ok rn_R ft_R 11 3 ty_R (.array .long) := ⟨ok_R, nm_R, by decide +kernel⟩
theorem fk_R_24 : fl_ok "PartsAccumulator$Ring" 24 2 rn_R ft_R 11 4 := ⟨rfl, ly_R, by decide, tw_42, rfl⟩
theorem fp_R_24 : fp_ok rn_R ft_R 11 4 ty_R (.array .long) := ⟨ok_R, nm_R, by decide +kernel⟩
theorem fk_R_27 : fl_ok "PartsAccumulator$Ring" 27 2 rn_R ft_R 11 5 := ⟨rfl, ly_R, by decide, tw_43, rfl⟩
theorem fp_R_27 : fp_ok rn_R ft_R 11 5 ty_R (.array .long) := ⟨ok_R, nm_R, by decide +kernel⟩
theorem fk_R_30 : fl_ok "PartsAccumulator$Ring" 30 2 rn_R ft_R 11 6 := ⟨rfl, ly_R, by decide, tw_44, rfl⟩
theorem fp_R_30 : fp_ok rn_R ft_R 11 6 ty_R (.array .long) := ⟨ok_R, nm_R, by decide +kernel⟩
theorem fk_R_33 : fl_ok "PartsAccumulator$Ring" 33 2 rn_R ft_R 11 7 := ⟨rfl, ly_R, by decide, tw_45, rfl⟩
theorem fp_R_33 : fp_ok rn_R ft_R 11 7 ty_R (.array .long) := ⟨ok_R, nm_R, by decide +kernel⟩
theorem fk_R_36 : fl_ok "PartsAccumulator$Ring" 36 2 rn_R ft_R 11 8 := ⟨rfl, ly_R, by decide, tw_46, rfl⟩
theorem fp_R_36 : fp_ok rn_R ft_R 11 8 ty_R (.array .long) := ⟨ok_R, nm_R, by decide +kernel⟩
theorem fk_R_39 : fl_ok "PartsAccumulator$Ring" 39 2 rn_R ft_R 11 9 := ⟨rfl, ly_R, by decide, tw_47, rfl⟩
theorem fp_R_39 : fp_ok rn_R ft_R 11 9 ty_R (.array .long) := ⟨ok_R, nm_R, by decide +kernel⟩
theorem fk_R_92 : fl_ok "PartsAccumulator$Ring" 92 2 rn_R ft_R 11 10 := ⟨rfl, ly_R, by decide, tw_48, rfl⟩
theorem fp_R_92 : fp_ok rn_R ft_R 11 10 ty_R (.long) := ⟨ok_R, nm_R, by decide +kernel⟩
theorem fk_T_11 : fl_ok "PartsAccumulator$Roster" 11 3 rn_T ft_T 3 0 := ⟨rfl, ly_T, by decide, tw_79, rfl⟩
theorem fp_T_11 : fp_ok rn_T ft_T 3 0 ty_T (.array .long) := ⟨ok_T, nm_T, by decide +kernel⟩
theorem fk_T_15 : fl_ok "PartsAccumulator$Roster" 15 3 rn_T ft_T 3 1 := ⟨rfl, ly_T, by decide, tw_80, rfl⟩
theorem fp_T_15 : fp_ok rn_T ft_T 3 1 ty_T (.array .int) := ⟨ok_T, nm_T, by decide +kernel⟩
theorem fk_T_19 : fl_ok "PartsAccumulator$Roster" 19 3 rn_T ft_T 3 2 := ⟨rfl, ly_T, by decide, tw_81, rfl⟩
theorem fp_T_19 : fp_ok rn_T ft_T 3 2 ty_T (.int) := ⟨ok_T, nm_T, by decide +kernel⟩
theorem fk_P_85 : fl_ok "PartsAccumulator" 85 3 rn_T ft_T 3 2 := ⟨rfl, ly_T, by decide, tw_82, rfl⟩
theorem fp_P_85 : fp_ok rn_T ft_T 3 2 ty_T (.int) := ⟨ok_T, nm_T, by decide +kernel⟩
theorem fk_E_10 : fl_ok "PartsAccumulator$Epoch" 10 0 rn_E ft_E 3 0 := ⟨rfl, ly_E, by decide, tw_99, rfl⟩
theorem fp_E_10 : fp_ok rn_E ft_E 3 0 ty_E (.object "PartsAccumulator$Roster") := ⟨ok_E, nm_E, by decide +kernel⟩
theorem fk_P_103 : fl_ok "PartsAccumulator" 103 0 rn_E ft_E 3 0 := ⟨rfl, ly_E, by decide, tw_100, rfl⟩
theorem fp_P_103 : fp_ok rn_E ft_E 3 0 ty_E (.object "PartsAccumulator$Roster") := ⟨ok_E, nm_E, by decide +kernel⟩
theorem fk_E_18 : fl_ok "PartsAccumulator$Epoch" 18 0 rn_E ft_E 3 1 := ⟨rfl, ly_E, by decide, tw_101, rfl⟩
theorem fp_E_18 : fp_ok rn_E ft_E 3 1 ty_E (.array .long) := ⟨ok_E, nm_E, by decide +kernel⟩
theorem fk_P_113 : fl_ok "PartsAccumulator" 113 0 rn_E ft_E 3 1 := ⟨rfl, ly_E, by decide, tw_102, rfl⟩
theorem fp_P_113 : fp_ok rn_E ft_E 3 1 ty_E (.array .long) := ⟨ok_E, nm_E, by decide +kernel⟩
theorem fk_E_22 : fl_ok "PartsAccumulator$Epoch" 22 0 rn_E ft_E 3 2 := ⟨rfl, ly_E, by decide, tw_103, rfl⟩
theorem fp_E_22 : fp_ok rn_E ft_E 3 2 ty_E (.array .long) := ⟨ok_E, nm_E, by decide +kernel⟩
theorem fk_P_188 : fl_ok "PartsAccumulator" 188 0 rn_E ft_E 3 2 := ⟨rfl, ly_E, by decide, tw_104, rfl⟩
theorem fp_P_188 : fp_ok rn_E ft_E 3 2 ty_E (.array .long) := ⟨ok_E, nm_E, by decide +kernel⟩
theorem fk_N_9 : fl_ok "PartsAccumulator$Natural" 9 1 rn_N ft_N 1 0 := ⟨rfl, ly_N, by decide, tw_118, rfl⟩
theorem fp_N_9 : fp_ok rn_N ft_N 1 0 ty_N (.array .long) := ⟨ok_N, nm_N, by decide +kernel⟩
theorem fk_P_10 : fl_ok "PartsAccumulator" 10 5 rn_P ft_P 11 0 := ⟨rfl, ly_P, by decide, tw_122, rfl⟩
theorem fp_P_10 : fp_ok rn_P ft_P 11 0 ty_P (.object "PartsAccumulator$SerialPrimes") := ⟨ok_P, nm_P, by decide +kernel⟩
theorem fk_P_19 : fl_ok "PartsAccumulator" 19 5 rn_P ft_P 11 1 := ⟨rfl, ly_P, by decide, tw_123, rfl⟩
theorem fp_P_19 : fp_ok rn_P ft_P 11 1 ty_P (.object "PartsAccumulator$Ring") := ⟨ok_P, nm_P, by decide +kernel⟩
theorem fk_P_26 : fl_ok "PartsAccumulator" 26 5 rn_P ft_P 11 2 := ⟨rfl, ly_P, by decide, tw_124, rfl⟩
theorem fp_P_26 : fp_ok rn_P ft_P 11 2 ty_P (.object "PartsAccumulator$Roster") := ⟨ok_P, nm_P, by decide +kernel⟩
theorem fk_P_32 : fl_ok "PartsAccumulator" 32 5 rn_P ft_P 11 3 := ⟨rfl, ly_P, by decide, tw_125, rfl⟩
theorem fp_P_32 : fp_ok rn_P ft_P 11 3 ty_P (.array (.object "PartsAccumulator$Epoch")) := ⟨ok_P, nm_P, by decide +kernel⟩
theorem fk_P_37 : fl_ok "PartsAccumulator" 37 5 rn_P ft_P 11 4 := ⟨rfl, ly_P, by decide, tw_126, rfl⟩
theorem fp_P_37 : fp_ok rn_P ft_P 11 4 ty_P (.array .long) := ⟨ok_P, nm_P, by decide +kernel⟩
theorem fk_P_41 : fl_ok "PartsAccumulator" 41 5 rn_P ft_P 11 5 := ⟨rfl, ly_P, by decide, tw_127, rfl⟩
theorem fp_P_41 : fp_ok rn_P ft_P 11 5 ty_P (.array .long) := ⟨ok_P, nm_P, by decide +kernel⟩
theorem fk_P_44 : fl_ok "PartsAccumulator" 44 5 rn_P ft_P 11 6 := ⟨rfl, ly_P, by decide, tw_128, rfl⟩
theorem fp_P_44 : fp_ok rn_P ft_P 11 6 ty_P (.array .long) := ⟨ok_P, nm_P, by decide +kernel⟩
theorem fk_P_50 : fl_ok "PartsAccumulator" 50 5 rn_P ft_P 11 7 := ⟨rfl, ly_P, by decide, tw_129, rfl⟩
theorem fp_P_50 : fp_ok rn_P ft_P 11 7 ty_P (.object "PartsAccumulator$Natural") := ⟨ok_P, nm_P, by decide +kernel⟩
theorem fk_P_54 : fl_ok "PartsAccumulator" 54 5 rn_P ft_P 11 8 := ⟨rfl, ly_P, by decide, tw_130, rfl⟩
theorem fp_P_54 : fp_ok rn_P ft_P 11 8 ty_P (.boolean) := ⟨ok_P, nm_P, by decide +kernel⟩
theorem fk_P_100 : fl_ok "PartsAccumulator" 100 5 rn_P ft_P 11 9 := ⟨rfl, ly_P, by decide, tw_131, rfl⟩
theorem fp_P_100 : fp_ok rn_P ft_P 11 9 ty_P (.int) := ⟨ok_P, nm_P, by decide +kernel⟩
theorem fk_P_132 : fl_ok "PartsAccumulator" 132 5 rn_P ft_P 11 10 := ⟨rfl, ly_P, by decide, tw_132, rfl⟩
theorem fp_P_132 : fp_ok rn_P ft_P 11 10 ty_P (.int) := ⟨ok_P, nm_P, by decide +kernel⟩
theorem fk_M_71 : fl_ok "PartsAccumulatorModel" 71 6 rn_M ft_M 22 0 := ⟨rfl, ly_M, by decide, tw_495, rfl⟩
theorem fp_M_71 : fp_ok rn_M ft_M 22 0 ty_M (.array .long) := ⟨ok_M, nm_M, by decide +kernel⟩
theorem fk_M_77 : fl_ok "PartsAccumulatorModel" 77 6 rn_M ft_M 22 1 := ⟨rfl, ly_M, by decide, tw_496, rfl⟩
theorem fp_M_77 : fp_ok rn_M ft_M 22 1 ty_M (.array .int) := ⟨ok_M, nm_M, by decide +kernel⟩
theorem fk_M_181 : fl_ok "PartsAccumulatorModel" 181 6 rn_M ft_M 22 2 := ⟨rfl, ly_M, by decide, tw_497, rfl⟩
theorem fp_M_181 : fp_ok rn_M ft_M 22 2 ty_M (.boolean) := ⟨ok_M, nm_M, by decide +kernel⟩
theorem fk_M_140 : fl_ok "PartsAccumulatorModel" 140 6 rn_M ft_M 22 3 := ⟨rfl, ly_M, by decide, tw_498, rfl⟩
theorem fp_M_140 : fp_ok rn_M ft_M 22 3 ty_M (.long) := ⟨ok_M, nm_M, by decide +kernel⟩
theorem fk_M_148 : fl_ok "PartsAccumulatorModel" 148 6 rn_M ft_M 22 4 := ⟨rfl, ly_M, by decide, tw_499, rfl⟩
theorem fp_M_148 : fp_ok rn_M ft_M 22 4 ty_M (.long) := ⟨ok_M, nm_M, by decide +kernel⟩
theorem fk_M_192 : fl_ok "PartsAccumulatorModel" 192 6 rn_M ft_M 22 5 := ⟨rfl, ly_M, by decide, tw_500, rfl⟩
theorem fp_M_192 : fp_ok rn_M ft_M 22 5 ty_M (.long) := ⟨ok_M, nm_M, by decide +kernel⟩
theorem fk_M_195 : fl_ok "PartsAccumulatorModel" 195 6 rn_M ft_M 22 6 := ⟨rfl, ly_M, by decide, tw_501, rfl⟩
theorem fp_M_195 : fp_ok rn_M ft_M 22 6 ty_M (.long) := ⟨ok_M, nm_M, by decide +kernel⟩
theorem fk_M_198 : fl_ok "PartsAccumulatorModel" 198 6 rn_M ft_M 22 7 := ⟨rfl, ly_M, by decide, tw_502, rfl⟩
theorem fp_M_198 : fp_ok rn_M ft_M 22 7 ty_M (.int) := ⟨ok_M, nm_M, by decide +kernel⟩
theorem fk_M_81 : fl_ok "PartsAccumulatorModel" 81 6 rn_M ft_M 22 8 := ⟨rfl, ly_M, by decide, tw_503, rfl⟩
theorem fp_M_81 : fp_ok rn_M ft_M 22 8 ty_M (.array .long) := ⟨ok_M, nm_M, by decide +kernel⟩
theorem fk_M_84 : fl_ok "PartsAccumulatorModel" 84 6 rn_M ft_M 22 9 := ⟨rfl, ly_M, by decide, tw_504, rfl⟩
theorem fp_M_84 : fp_ok rn_M ft_M 22 9 ty_M (.array .int) := ⟨ok_M, nm_M, by decide +kernel⟩
theorem fk_M_209 : fl_ok "PartsAccumulatorModel" 209 6 rn_M ft_M 22 10 := ⟨rfl, ly_M, by decide, tw_505, rfl⟩
theorem fp_M_209 : fp_ok rn_M ft_M 22 10 ty_M (.int) := ⟨ok_M, nm_M, by decide +kernel⟩
theorem fk_M_87 : fl_ok "PartsAccumulatorModel" 87 6 rn_M ft_M 22 11 := ⟨rfl, ly_M, by decide, tw_506, rfl⟩
theorem fp_M_87 : fp_ok rn_M ft_M 22 11 ty_M (.array .int) := ⟨ok_M, nm_M, by decide +kernel⟩
theorem fk_M_90 : fl_ok "PartsAccumulatorModel" 90 6 rn_M ft_M 22 12 := ⟨rfl, ly_M, by decide, tw_507, rfl⟩
theorem fp_M_90 : fp_ok rn_M ft_M 22 12 ty_M (.array .long) := ⟨ok_M, nm_M, by decide +kernel⟩
theorem fk_M_93 : fl_ok "PartsAccumulatorModel" 93 6 rn_M ft_M 22 13 := ⟨rfl, ly_M, by decide, tw_508, rfl⟩
theorem fp_M_93 : fp_ok rn_M ft_M 22 13 ty_M (.array .int) := ⟨ok_M, nm_M, by decide +kernel⟩
theorem fk_M_96 : fl_ok "PartsAccumulatorModel" 96 6 rn_M ft_M 22 14 := ⟨rfl, ly_M, by decide, tw_509, rfl⟩
theorem fp_M_96 : fp_ok rn_M ft_M 22 14 ty_M (.array .long) := ⟨ok_M, nm_M, by decide +kernel⟩
theorem fk_M_99 : fl_ok "PartsAccumulatorModel" 99 6 rn_M ft_M 22 15 := ⟨rfl, ly_M, by decide, tw_510, rfl⟩
theorem fp_M_99 : fp_ok rn_M ft_M 22 15 ty_M (.array .long) := ⟨ok_M, nm_M, by decide +kernel⟩
theorem fk_M_226 : fl_ok "PartsAccumulatorModel" 226 6 rn_M ft_M 22 16 := ⟨rfl, ly_M, by decide, tw_511, rfl⟩
theorem fp_M_226 : fp_ok rn_M ft_M 22 16 ty_M (.long) := ⟨ok_M, nm_M, by decide +kernel⟩
theorem fk_M_229 : fl_ok "PartsAccumulatorModel" 229 6 rn_M ft_M 22 17 := ⟨rfl, ly_M, by decide, tw_512, rfl⟩
theorem fp_M_229 : fp_ok rn_M ft_M 22 17 ty_M (.long) := ⟨ok_M, nm_M, by decide +kernel⟩
theorem fk_M_232 : fl_ok "PartsAccumulatorModel" 232 6 rn_M ft_M 22 18 := ⟨rfl, ly_M, by decide, tw_513, rfl⟩
theorem fp_M_232 : fp_ok rn_M ft_M 22 18 ty_M (.int) := ⟨ok_M, nm_M, by decide +kernel⟩
theorem fk_M_154 : fl_ok "PartsAccumulatorModel" 154 6 rn_M ft_M 22 19 := ⟨rfl, ly_M, by decide, tw_514, rfl⟩
theorem fp_M_154 : fp_ok rn_M ft_M 22 19 ty_M (.long) := ⟨ok_M, nm_M, by decide +kernel⟩
theorem fk_M_151 : fl_ok "PartsAccumulatorModel" 151 6 rn_M ft_M 22 20 := ⟨rfl, ly_M, by decide, tw_515, rfl⟩
theorem fp_M_151 : fp_ok rn_M ft_M 22 20 ty_M (.long) := ⟨ok_M, nm_M, by decide +kernel⟩
theorem fk_M_102 : fl_ok "PartsAccumulatorModel" 102 6 rn_M ft_M 22 21 := ⟨rfl, ly_M, by decide, tw_516, rfl⟩
theorem fp_M_102 : fp_ok rn_M ft_M 22 21 ty_M (.array .int) := ⟨ok_M, nm_M, by decide +kernel⟩
theorem vk_L_15 : vk_ok "PartsAccumulatorLaw" 15 my_P_modulus cd_P_modulus 5 (some .boolean) 2 := ⟨tw_159, tw_156, tw_157, tw_158, tw_1, by decide, by decide, by decide +kernel⟩
theorem sk_P_58 : sk_ok "PartsAccumulator" 58 my_R_accepts cd_R_accepts 8 (some .boolean) 2 := ⟨tw_162, tw_160, tw_161, tw_3, by decide, by decide, by decide +kernel⟩
theorem vk_P_62 : vk_ok "PartsAccumulator" 62 my_R_begin cd_R_begin 5 none 2 := ⟨tw_167, tw_164, tw_165, tw_166, tw_3, by decide, by decide, by decide +kernel⟩
theorem sk_R_44 : sk_ok "PartsAccumulator$Ring" 44 my_R_split cd_R_split 5 none 3 := ⟨tw_170, tw_168, tw_169, tw_3, by decide, by decide, by decide +kernel⟩
theorem vk_R_48 : vk_ok "PartsAccumulator$Ring" 48 my_R_findNegatedInverse cd_R_findNegatedInverse 6 none 0 := ⟨tw_174, tw_171, tw_173, (tb_memP 0 (by decide +kernel) (by decide +kernel)), tw_3, by decide, by decide, by decide +kernel⟩
theorem vk_R_51 : vk_ok "PartsAccumulator$Ring" 51 my_R_findThird cd_R_findThird 10 none 0 := ⟨tw_179, tw_176, tw_178, (tb_memP 1 (by decide +kernel) (by decide +kernel)), tw_3, by decide, by decide, by decide +kernel⟩
theorem vk_R_60 : vk_ok "PartsAccumulator$Ring" 60 my_R_shiftBy128 cd_R_shiftBy128 8 none 1 := ⟨tw_186, tw_183, tw_185, (tb_memP 2 (by decide +kernel) (by decide +kernel)), tw_3, by decide, by decide, by decide +kernel⟩
theorem vk_R_96 : vk_ok "PartsAccumulator$Ring" 96 my_R_reduceTotal cd_R_reduceTotal 7 none 1 := ⟨tw_190, tw_187, tw_189, (tb_memP 3 (by decide +kernel) (by decide +kernel)), tw_3, by decide, by decide, by decide +kernel⟩
theorem vk_P_66 : vk_ok "PartsAccumulator" 66 my_P_publish cd_P_publish 2 none 1 := ⟨tw_194, tw_191, tw_193, (tb_memP 4 (by decide +kernel) (by decide +kernel)), tw_1, by decide, by decide, by decide +kernel⟩
theorem vk_P_160 : vk_ok "PartsAccumulator" 160 my_N_become cd_N_become 2 none 1 := ⟨tw_198, tw_195, tw_196, tw_197, tw_6, by decide, by decide, by decide +kernel⟩
theorem sk_N_13 : sk_ok "PartsAccumulator$Natural" 13 my_A_fill_aJJ cd_A_fill_aJJ 5 none 2 := ⟨tw_201, tw_199, tw_200, tw_9, by decide, by decide, by decide +kernel⟩
theorem vk_P_162 : vk_ok "PartsAccumulator" 162 my_T_multiplyInto cd_T_multiplyInto 3 none 1 := ⟨tw_205, tw_202, tw_203, tw_204, tw_4, by decide, by decide, by decide +kernel⟩
theorem vk_T_37 : vk_ok "PartsAccumulator$Roster" 37 my_N_multiply cd_N_multiply 7 none 1 := ⟨tw_209, tw_206, tw_207, tw_208, tw_6, by decide, by decide, by decide +kernel⟩
theorem vk_P_173 : vk_ok "PartsAccumulator" 173 my_R_power cd_R_power 5 none 3 := ⟨tw_214, tw_211, tw_212, tw_213, tw_3, by decide, by decide, by decide +kernel⟩
theorem vk_R_72 : vk_ok "PartsAccumulator$Ring" 72 my_R_montgomery cd_R_montgomery 5 none 3 := ⟨tw_218, tw_215, tw_217, (tb_memP 5 (by decide +kernel) (by decide +kernel)), tw_3, by decide, by decide, by decide +kernel⟩
theorem sk_R_99 : sk_ok "PartsAccumulator$Ring" 99 my_A_fill_aJJ cd_A_fill_aJJ 5 none 2 := ⟨tw_201, tw_219, tw_200, tw_9, by decide, by decide, by decide +kernel⟩
theorem vk_R_105 : vk_ok "PartsAccumulator$Ring" 105 my_R_addProduct cd_R_addProduct 9 none 2 := ⟨tw_223, tw_220, tw_222, (tb_memP 6 (by decide +kernel) (by decide +kernel)), tw_3, by decide, by decide, by decide +kernel⟩
theorem vk_R_108 : vk_ok "PartsAccumulator$Ring" 108 my_R_dropLowestLimb cd_R_dropLowestLimb 8 none 0 := ⟨tw_227, tw_224, tw_226, (tb_memP 7 (by decide +kernel) (by decide +kernel)), tw_3, by decide, by decide, by decide +kernel⟩
theorem vk_R_76 : vk_ok "PartsAccumulator$Ring" 76 my_N_highestBit cd_N_highestBit 2 (some .int) 0 := ⟨tw_231, tw_228, tw_229, tw_230, tw_6, by decide, by decide, by decide +kernel⟩
theorem vk_N_21 : vk_ok "PartsAccumulator$Natural" 21 my_N_bit cd_N_bit 2 (some .boolean) 1 := ⟨tw_235, tw_232, tw_233, tw_234, tw_6, by decide, by decide, by decide +kernel⟩
theorem vk_R_82 : vk_ok "PartsAccumulator$Ring" 82 my_N_bit cd_N_bit 2 (some .boolean) 1 := ⟨tw_235, tw_236, tw_233, tw_234, tw_6, by decide, by decide, by decide +kernel⟩
theorem vk_L_20 : vk_ok "PartsAccumulatorLaw" 20 my_P_prime cd_P_prime 3 (some .int) 1 := ⟨tw_240, tw_237, tw_238, tw_239, tw_1, by decide, by decide, by decide +kernel⟩
theorem vk_P_70 : vk_ok "PartsAccumulator" 70 my_S_primeOf cd_S_primeOf 5 (some .int) 1 := ⟨tw_244, tw_241, tw_242, tw_243, tw_2, by decide, by decide, by decide +kernel⟩
theorem vk_S_17 : vk_ok "PartsAccumulator$SerialPrimes" 17 my_S_hash cd_S_hash 15 (some .int) 2 := ⟨tw_249, tw_246, tw_248, (tb_memP 8 (by decide +kernel) (by decide +kernel)), tw_2, by decide, by decide, by decide +kernel⟩
theorem vk_S_27 : vk_ok "PartsAccumulator$SerialPrimes" 27 my_S_fillSchedule cd_S_fillSchedule 7 none 2 := ⟨tw_253, tw_250, tw_252, (tb_memP 9 (by decide +kernel) (by decide +kernel)), tw_2, by decide, by decide, by decide +kernel⟩
theorem sk_S_46 : sk_ok "PartsAccumulator$SerialPrimes" 46 my_A_fill_aII cd_A_fill_aII 4 none 2 := ⟨tw_256, tw_254, tw_255, tw_9, by decide, by decide, by decide +kernel⟩
theorem sk_S_39 : sk_ok "PartsAccumulator$SerialPrimes" 39 my_S_turn cd_S_turn 2 (some .int) 2 := ⟨tw_260, tw_258, tw_259, tw_2, by decide, by decide, by decide +kernel⟩
theorem sk_S_23 : sk_ok "PartsAccumulator$SerialPrimes" 23 my_S_isPrime cd_S_isPrime 1 (some .boolean) 1 := ⟨tw_275, tw_273, tw_274, tw_2, by decide, by decide, by decide +kernel⟩
theorem sk_S_53 : sk_ok "PartsAccumulator$SerialPrimes" 53 my_S_passes cd_S_passes 7 (some .boolean) 2 := ⟨tw_278, tw_276, tw_277, tw_2, by decide, by decide, by decide +kernel⟩
theorem sk_S_57 : sk_ok "PartsAccumulator$SerialPrimes" 57 my_S_power cd_S_power 7 (some .long) 3 := ⟨tw_281, tw_279, tw_280, tw_2, by decide, by decide, by decide +kernel⟩
theorem vk_L_25 : vk_ok "PartsAccumulatorLaw" 25 my_P_add cd_P_add 4 (some .int) 1 := ⟨tw_285, tw_282, tw_283, tw_284, tw_1, by decide, by decide, by decide +kernel⟩
theorem vk_P_74 : vk_ok "PartsAccumulator" 74 my_P_primeOrRefusal_J cd_P_primeOrRefusal_J 3 (some .int) 1 := ⟨tw_289, tw_286, tw_288, (tb_memP 10 (by decide +kernel) (by decide +kernel)), tw_1, by decide, by decide, by decide +kernel⟩
theorem vk_P_77 : vk_ok "PartsAccumulator" 77 my_T_has cd_T_has 3 (some .boolean) 1 := ⟨tw_293, tw_290, tw_291, tw_292, tw_4, by decide, by decide, by decide +kernel⟩
theorem vk_T_23 : vk_ok "PartsAccumulator$Roster" 23 my_T_placeOf cd_T_placeOf 4 (some .int) 1 := ⟨tw_297, tw_294, tw_295, tw_296, tw_4, by decide, by decide, by decide +kernel⟩
theorem vk_P_81 : vk_ok "PartsAccumulator" 81 my_T_hasPrime cd_T_hasPrime 3 (some .boolean) 1 := ⟨tw_301, tw_298, tw_299, tw_300, tw_4, by decide, by decide, by decide +kernel⟩
theorem vk_P_89 : vk_ok "PartsAccumulator" 89 my_T_insert cd_T_insert 5 none 2 := ⟨tw_305, tw_302, tw_303, tw_304, tw_4, by decide, by decide, by decide +kernel⟩
theorem vk_L_29 : vk_ok "PartsAccumulatorLaw" 29 my_P_remove cd_P_remove 5 (some .int) 1 := ⟨tw_309, tw_306, tw_307, tw_308, tw_1, by decide, by decide, by decide +kernel⟩
theorem vk_P_93 : vk_ok "PartsAccumulator" 93 my_T_placeOf cd_T_placeOf 4 (some .int) 1 := ⟨tw_297, tw_310, tw_295, tw_296, tw_4, by decide, by decide, by decide +kernel⟩
theorem vk_P_96 : vk_ok "PartsAccumulator" 96 my_T_delete cd_T_delete 3 none 1 := ⟨tw_314, tw_311, tw_312, tw_313, tw_4, by decide, by decide, by decide +kernel⟩
theorem vk_L_33 : vk_ok "PartsAccumulatorLaw" 33 my_P_close cd_P_close 1 (some .int) 0 := ⟨tw_318, tw_315, tw_316, tw_317, tw_1, by decide, by decide, by decide +kernel⟩
theorem vk_P_106 : vk_ok "PartsAccumulator" 106 my_T_become cd_T_become 2 none 1 := ⟨tw_322, tw_319, tw_320, tw_321, tw_4, by decide, by decide, by decide +kernel⟩
theorem vk_L_38 : vk_ok "PartsAccumulatorLaw" 38 my_P_size cd_P_size 2 (some .int) 1 := ⟨tw_327, tw_324, tw_325, tw_326, tw_1, by decide, by decide, by decide +kernel⟩
theorem vk_L_43 : vk_ok "PartsAccumulatorLaw" 43 my_P_state cd_P_state 4 (some .int) 1 := ⟨tw_331, tw_328, tw_329, tw_330, tw_1, by decide, by decide, by decide +kernel⟩
theorem vk_L_47 : vk_ok "PartsAccumulatorLaw" 47 my_P_accumulator cd_P_accumulator 3 (some .long) 2 := ⟨tw_335, tw_332, tw_333, tw_334, tw_1, by decide, by decide, by decide +kernel⟩
theorem vk_P_110 : vk_ok "PartsAccumulator" 110 my_P_isEpoch cd_P_isEpoch 2 (some .boolean) 1 := ⟨tw_339, tw_336, tw_338, (tb_memP 11 (by decide +kernel) (by decide +kernel)), tw_1, by decide, by decide, by decide +kernel⟩
theorem sk_P_116 : sk_ok "PartsAccumulator" 116 my_R_word cd_R_word 2 (some .long) 2 := ⟨tw_342, tw_340, tw_341, tw_3, by decide, by decide, by decide +kernel⟩
theorem vk_L_52 : vk_ok "PartsAccumulatorLaw" 52 my_P_note cd_P_note 6 (some .int) 3 := ⟨tw_346, tw_343, tw_344, tw_345, tw_1, by decide, by decide, by decide +kernel⟩
theorem vk_P_120 : vk_ok "PartsAccumulator" 120 my_T_countOutside cd_T_countOutside 4 (some .int) 1 := ⟨tw_350, tw_347, tw_348, tw_349, tw_4, by decide, by decide, by decide +kernel⟩
theorem vk_T_33 : vk_ok "PartsAccumulator$Roster" 33 my_T_has cd_T_has 3 (some .boolean) 1 := ⟨tw_293, tw_351, tw_291, tw_292, tw_4, by decide, by decide, by decide +kernel⟩
theorem vk_P_124 : vk_ok "PartsAccumulator" 124 my_T_primeOutside cd_T_primeOutside 5 (some .int) 2 := ⟨tw_355, tw_352, tw_353, tw_354, tw_4, by decide, by decide, by decide +kernel⟩
theorem vk_L_57 : vk_ok "PartsAccumulatorLaw" 57 my_P_witness cd_P_witness 4 (some .long) 2 := ⟨tw_359, tw_356, tw_357, tw_358, tw_1, by decide, by decide, by decide +kernel⟩
theorem vk_P_128 : vk_ok "PartsAccumulator" 128 my_P_computeIssued cd_P_computeIssued 4 none 2 := ⟨tw_363, tw_360, tw_362, (tb_memP 12 (by decide +kernel) (by decide +kernel)), tw_1, by decide, by decide, by decide +kernel⟩
theorem vk_P_191 : vk_ok "PartsAccumulator" 191 my_T_multiplyOthersInto cd_T_multiplyOthersInto 5 none 2 := ⟨tw_367, tw_364, tw_365, tw_366, tw_4, by decide, by decide, by decide +kernel⟩
theorem vk_L_62 : vk_ok "PartsAccumulatorLaw" 62 my_P_issue cd_P_issue 4 (some .int) 1 := ⟨tw_371, tw_368, tw_369, tw_370, tw_1, by decide, by decide, by decide +kernel⟩
theorem vk_L_66 : vk_ok "PartsAccumulatorLaw" 66 my_P_hold cd_P_hold 6 (some .boolean) 3 := ⟨tw_375, tw_372, tw_373, tw_374, tw_1, by decide, by decide, by decide +kernel⟩
theorem vk_P_135 : vk_ok "PartsAccumulator" 135 my_R_isBelowModulus cd_R_isBelowModulus 9 (some .boolean) 2 := ⟨tw_379, tw_376, tw_377, tw_378, tw_3, by decide, by decide, by decide +kernel⟩
theorem sk_R_64 : sk_ok "PartsAccumulator$Ring" 64 my_R_word cd_R_word 2 (some .long) 2 := ⟨tw_342, tw_380, tw_341, tw_3, by decide, by decide, by decide +kernel⟩
theorem sk_R_68 : sk_ok "PartsAccumulator$Ring" 68 my_R_isBelow cd_R_isBelow 4 (some .boolean) 2 := ⟨tw_383, tw_381, tw_382, tw_3, by decide, by decide, by decide +kernel⟩
theorem sk_P_138 : sk_ok "PartsAccumulator" 138 my_R_split cd_R_split 5 none 3 := ⟨tw_170, tw_385, tw_169, tw_3, by decide, by decide, by decide +kernel⟩
theorem vk_L_71 : vk_ok "PartsAccumulatorLaw" 71 my_P_hand cd_P_hand 2 (some .long) 1 := ⟨tw_389, tw_386, tw_387, tw_388, tw_1, by decide, by decide, by decide +kernel⟩
theorem vk_L_76 : vk_ok "PartsAccumulatorLaw" 76 my_P_factor cd_P_factor 1 (some .int) 0 := ⟨tw_393, tw_390, tw_391, tw_392, tw_1, by decide, by decide, by decide +kernel⟩
theorem vk_L_80 : vk_ok "PartsAccumulatorLaw" 80 my_P_check cd_P_check 5 (some .int) 2 := ⟨tw_397, tw_394, tw_395, tw_396, tw_1, by decide, by decide, by decide +kernel⟩
theorem vk_P_142 : vk_ok "PartsAccumulator" 142 my_P_primeOrRefusal_JI cd_P_primeOrRefusal_JI 4 (some .int) 2 := ⟨tw_401, tw_398, tw_400, (tb_memP 13 (by decide +kernel) (by decide +kernel)), tw_1, by decide, by decide, by decide +kernel⟩
theorem vk_P_145 : vk_ok "PartsAccumulator" 145 my_P_holdsWitness cd_P_holdsWitness 3 (some .boolean) 2 := ⟨tw_405, tw_402, tw_404, (tb_memP 14 (by decide +kernel) (by decide +kernel)), tw_1, by decide, by decide, by decide +kernel⟩
theorem sk_P_184 : sk_ok "PartsAccumulator" 184 my_R_same cd_R_same 3 (some .boolean) 2 := ⟨tw_408, tw_406, tw_407, tw_3, by decide, by decide, by decide +kernel⟩
theorem vk_L_85 : vk_ok "PartsAccumulatorLaw" 85 my_P_advance cd_P_advance 6 (some .int) 2 := ⟨tw_412, tw_409, tw_410, tw_411, tw_1, by decide, by decide, by decide +kernel⟩
theorem vk_P_149 : vk_ok "PartsAccumulator" 149 my_P_isPresentSince cd_P_isPresentSince 5 (some .boolean) 2 := ⟨tw_416, tw_413, tw_415, (tb_memP 15 (by decide +kernel) (by decide +kernel)), tw_1, by decide, by decide, by decide +kernel⟩
theorem vk_P_153 : vk_ok "PartsAccumulator" 153 my_P_takeInAdded cd_P_takeInAdded 2 none 1 := ⟨tw_420, tw_417, tw_419, (tb_memP 16 (by decide +kernel) (by decide +kernel)), tw_1, by decide, by decide, by decide +kernel⟩
theorem vk_P_195 : vk_ok "PartsAccumulator" 195 my_T_multiplyOutsideInto cd_T_multiplyOutsideInto 4 none 2 := ⟨tw_424, tw_421, tw_422, tw_423, tw_4, by decide, by decide, by decide +kernel⟩
theorem vk_P_156 : vk_ok "PartsAccumulator" 156 my_P_takeOutRemoved cd_P_takeOutRemoved 4 none 2 := ⟨tw_428, tw_425, tw_427, (tb_memP 17 (by decide +kernel) (by decide +kernel)), tw_1, by decide, by decide, by decide +kernel⟩
theorem vk_P_166 : vk_ok "PartsAccumulator" 166 my_P_inverseThenQuotient cd_P_inverseThenQuotient 3 (some .int) 1 := ⟨tw_432, tw_429, tw_431, (tb_memP 18 (by decide +kernel) (by decide +kernel)), tw_1, by decide, by decide, by decide +kernel⟩
theorem vk_P_199 : vk_ok "PartsAccumulator" 199 my_N_remainder cd_N_remainder 5 (some .int) 1 := ⟨tw_436, tw_433, tw_434, tw_435, tw_6, by decide, by decide, by decide +kernel⟩
theorem sk_P_202 : sk_ok "PartsAccumulator" 202 my_S_inverse cd_S_inverse 2 (some .int) 2 := ⟨tw_439, tw_437, tw_438, tw_2, by decide, by decide, by decide +kernel⟩
theorem vk_P_205 : vk_ok "PartsAccumulator" 205 my_N_multiply cd_N_multiply 7 none 1 := ⟨tw_209, tw_440, tw_207, tw_208, tw_6, by decide, by decide, by decide +kernel⟩
theorem vk_P_207 : vk_ok "PartsAccumulator" 207 my_N_divide cd_N_divide 7 none 1 := ⟨tw_444, tw_441, tw_442, tw_443, tw_6, by decide, by decide, by decide +kernel⟩
theorem vk_P_177 : vk_ok "PartsAccumulator" 177 my_R_multiply cd_R_multiply 4 none 3 := ⟨tw_448, tw_445, tw_446, tw_447, tw_3, by decide, by decide, by decide +kernel⟩
theorem vk_L_89 : vk_ok "PartsAccumulatorLaw" 89 my_P_exclude cd_P_exclude 5 (some .int) 1 := ⟨tw_452, tw_449, tw_450, tw_451, tw_1, by decide, by decide, by decide +kernel⟩
theorem vk_L_93 : vk_ok "PartsAccumulatorLaw" 93 my_P_checkExclude cd_P_checkExclude 5 (some .int) 2 := ⟨tw_456, tw_453, tw_454, tw_455, tw_1, by decide, by decide, by decide +kernel⟩
theorem vk_L_24 : vk_ok "PartsAccumulatorLaw" 24 my_M_prime cd_M_prime 5 (some .int) 1 := ⟨tw_565, tw_562, tw_563, tw_564, tw_7, by decide, by decide, by decide +kernel⟩
theorem sk_M_124 : sk_ok "PartsAccumulatorModel" 124 my_M_isSerial cd_M_isSerial 2 (some .boolean) 1 := ⟨tw_568, tw_566, tw_567, tw_7, by decide, by decide, by decide +kernel⟩
theorem vk_M_128 : vk_ok "PartsAccumulatorModel" 128 my_M_hash cd_M_hash 15 (some .int) 2 := ⟨tw_573, tw_570, tw_572, (tb_memP 19 (by decide +kernel) (by decide +kernel)), tw_7, by decide, by decide, by decide +kernel⟩
theorem sk_M_106 : sk_ok "PartsAccumulatorModel" 106 my_M_right cd_M_right 2 (some .int) 2 := ⟨tw_577, tw_575, tw_576, tw_7, by decide, by decide, by decide +kernel⟩
theorem sk_M_134 : sk_ok "PartsAccumulatorModel" 134 my_M_isPrime cd_M_isPrime 3 (some .boolean) 1 := ⟨tw_590, tw_588, tw_589, tw_7, by decide, by decide, by decide +kernel⟩
theorem vk_L_19 : vk_ok "PartsAccumulatorLaw" 19 my_M_modulus cd_M_modulus 5 (some .boolean) 2 := ⟨tw_596, tw_593, tw_594, tw_595, tw_7, by decide, by decide, by decide +kernel⟩
theorem sk_M_185 : sk_ok "PartsAccumulatorModel" 185 my_M_thirds cd_M_thirds 2 (some .long) 1 := ⟨tw_599, tw_597, tw_598, tw_7, by decide, by decide, by decide +kernel⟩
theorem vk_M_189 : vk_ok "PartsAccumulatorModel" 189 my_M_findThird cd_M_findThird 7 none 0 := ⟨tw_604, tw_601, tw_603, (tb_memP 20 (by decide +kernel) (by decide +kernel)), tw_7, by decide, by decide, by decide +kernel⟩
theorem vk_M_160 : vk_ok "PartsAccumulatorModel" 160 my_M_plus cd_M_plus 14 none 4 := ⟨tw_608, tw_605, tw_607, (tb_memP 21 (by decide +kernel) (by decide +kernel)), tw_7, by decide, by decide, by decide +kernel⟩
theorem sk_M_144 : sk_ok "PartsAccumulatorModel" 144 my_M_isLess cd_M_isLess 4 (some .boolean) 2 := ⟨tw_611, tw_609, tw_610, tw_7, by decide, by decide, by decide +kernel⟩
theorem vk_M_157 : vk_ok "PartsAccumulatorModel" 157 my_M_isBelowN cd_M_isBelowN 5 (some .boolean) 2 := ⟨tw_616, tw_613, tw_615, (tb_memP 22 (by decide +kernel) (by decide +kernel)), tw_7, by decide, by decide, by decide +kernel⟩
theorem vk_L_28 : vk_ok "PartsAccumulatorLaw" 28 my_M_add cd_M_add 5 (some .int) 1 := ⟨tw_620, tw_617, tw_618, tw_619, tw_7, by decide, by decide, by decide +kernel⟩
theorem vk_M_202 : vk_ok "PartsAccumulatorModel" 202 my_M_prime cd_M_prime 5 (some .int) 1 := ⟨tw_565, tw_621, tw_563, tw_564, tw_7, by decide, by decide, by decide +kernel⟩
theorem vk_M_206 : vk_ok "PartsAccumulatorModel" 206 my_M_pendingAt cd_M_pendingAt 4 (some .int) 1 := ⟨tw_625, tw_622, tw_624, (tb_memP 23 (by decide +kernel) (by decide +kernel)), tw_7, by decide, by decide, by decide +kernel⟩
theorem vk_L_32 : vk_ok "PartsAccumulatorLaw" 32 my_M_remove cd_M_remove 5 (some .int) 1 := ⟨tw_629, tw_626, tw_627, tw_628, tw_7, by decide, by decide, by decide +kernel⟩
theorem vk_L_37 : vk_ok "PartsAccumulatorLaw" 37 my_M_close cd_M_close 2 (some .int) 0 := ⟨tw_633, tw_630, tw_631, tw_632, tw_7, by decide, by decide, by decide +kernel⟩
theorem vk_M_212 : vk_ok "PartsAccumulatorModel" 212 my_M_power cd_M_power 11 none 3 := ⟨tw_637, tw_634, tw_636, (tb_memP 24 (by decide +kernel) (by decide +kernel)), tw_7, by decide, by decide, by decide +kernel⟩
theorem vk_M_164 : vk_ok "PartsAccumulatorModel" 164 my_M_multiply cd_M_multiply 14 none 4 := ⟨tw_641, tw_638, tw_640, (tb_memP 25 (by decide +kernel) (by decide +kernel)), tw_7, by decide, by decide, by decide +kernel⟩
theorem vk_L_42 : vk_ok "PartsAccumulatorLaw" 42 my_M_size cd_M_size 2 (some .int) 1 := ⟨tw_645, tw_642, tw_643, tw_644, tw_7, by decide, by decide, by decide +kernel⟩
theorem vk_L_46 : vk_ok "PartsAccumulatorLaw" 46 my_M_state cd_M_state 3 (some .int) 1 := ⟨tw_649, tw_646, tw_647, tw_648, tw_7, by decide, by decide, by decide +kernel⟩
theorem vk_M_216 : vk_ok "PartsAccumulatorModel" 216 my_M_placeIn cd_M_placeIn 5 (some .int) 2 := ⟨tw_653, tw_650, tw_652, (tb_memP 26 (by decide +kernel) (by decide +kernel)), tw_7, by decide, by decide, by decide +kernel⟩
theorem vk_L_51 : vk_ok "PartsAccumulatorLaw" 51 my_M_accumulator cd_M_accumulator 3 (some .long) 2 := ⟨tw_657, tw_654, tw_655, tw_656, tw_7, by decide, by decide, by decide +kernel⟩
theorem vk_M_220 : vk_ok "PartsAccumulatorModel" 220 my_M_isEpoch cd_M_isEpoch 2 (some .boolean) 1 := ⟨tw_661, tw_658, tw_660, (tb_memP 27 (by decide +kernel) (by decide +kernel)), tw_7, by decide, by decide, by decide +kernel⟩
theorem vk_L_56 : vk_ok "PartsAccumulatorLaw" 56 my_M_note cd_M_note 8 (some .int) 3 := ⟨tw_665, tw_662, tw_663, tw_664, tw_7, by decide, by decide, by decide +kernel⟩
theorem vk_L_61 : vk_ok "PartsAccumulatorLaw" 61 my_M_witness cd_M_witness 5 (some .long) 2 := ⟨tw_669, tw_666, tw_667, tw_668, tw_7, by decide, by decide, by decide +kernel⟩
theorem vk_M_223 : vk_ok "PartsAccumulatorModel" 223 my_M_issued cd_M_issued 3 none 1 := ⟨tw_673, tw_670, tw_672, (tb_memP 28 (by decide +kernel) (by decide +kernel)), tw_7, by decide, by decide, by decide +kernel⟩
theorem vk_L_65 : vk_ok "PartsAccumulatorLaw" 65 my_M_issue cd_M_issue 4 (some .int) 1 := ⟨tw_677, tw_674, tw_675, tw_676, tw_7, by decide, by decide, by decide +kernel⟩
theorem vk_L_70 : vk_ok "PartsAccumulatorLaw" 70 my_M_hold cd_M_hold 6 (some .boolean) 3 := ⟨tw_681, tw_678, tw_679, tw_680, tw_7, by decide, by decide, by decide +kernel⟩
theorem vk_L_75 : vk_ok "PartsAccumulatorLaw" 75 my_M_hand cd_M_hand 2 (some .long) 1 := ⟨tw_685, tw_682, tw_683, tw_684, tw_7, by decide, by decide, by decide +kernel⟩
theorem vk_L_79 : vk_ok "PartsAccumulatorLaw" 79 my_M_factor cd_M_factor 1 (some .int) 0 := ⟨tw_689, tw_686, tw_687, tw_688, tw_7, by decide, by decide, by decide +kernel⟩
theorem vk_L_84 : vk_ok "PartsAccumulatorLaw" 84 my_M_check cd_M_check 5 (some .int) 2 := ⟨tw_693, tw_690, tw_691, tw_692, tw_7, by decide, by decide, by decide +kernel⟩
theorem vk_M_235 : vk_ok "PartsAccumulatorModel" 235 my_M_isWitness cd_M_isWitness 3 (some .boolean) 2 := ⟨tw_697, tw_694, tw_696, (tb_memP 29 (by decide +kernel) (by decide +kernel)), tw_7, by decide, by decide, by decide +kernel⟩
theorem vk_L_88 : vk_ok "PartsAccumulatorLaw" 88 my_M_advance cd_M_advance 6 (some .int) 2 := ⟨tw_701, tw_698, tw_699, tw_700, tw_7, by decide, by decide, by decide +kernel⟩
theorem vk_M_250 : vk_ok "PartsAccumulatorModel" 250 my_M_moveTo cd_M_moveTo 5 none 2 := ⟨tw_705, tw_702, tw_704, (tb_memP 30 (by decide +kernel) (by decide +kernel)), tw_7, by decide, by decide, by decide +kernel⟩
theorem vk_M_239 : vk_ok "PartsAccumulatorModel" 239 my_M_beginWords cd_M_beginWords 2 none 0 := ⟨tw_709, tw_706, tw_708, (tb_memP 31 (by decide +kernel) (by decide +kernel)), tw_7, by decide, by decide, by decide +kernel⟩
theorem vk_M_175 : vk_ok "PartsAccumulatorModel" 175 my_M_multiplyWords cd_M_multiplyWords 5 none 1 := ⟨tw_713, tw_710, tw_712, (tb_memP 32 (by decide +kernel) (by decide +kernel)), tw_7, by decide, by decide, by decide +kernel⟩
theorem vk_M_242 : vk_ok "PartsAccumulatorModel" 242 my_M_invertWords cd_M_invertWords 9 (some .int) 1 := ⟨tw_718, tw_715, tw_717, (tb_memP 33 (by decide +kernel) (by decide +kernel)), tw_7, by decide, by decide, by decide +kernel⟩
theorem vk_M_171 : vk_ok "PartsAccumulatorModel" 171 my_M_restOfWords cd_M_restOfWords 5 (some .long) 1 := ⟨tw_722, tw_719, tw_721, (tb_memP 34 (by decide +kernel) (by decide +kernel)), tw_7, by decide, by decide, by decide +kernel⟩
theorem vk_M_246 : vk_ok "PartsAccumulatorModel" 246 my_M_powerOfWords cd_M_powerOfWords 11 none 2 := ⟨tw_727, tw_724, tw_726, (tb_memP 35 (by decide +kernel) (by decide +kernel)), tw_7, by decide, by decide, by decide +kernel⟩
theorem vk_L_92 : vk_ok "PartsAccumulatorLaw" 92 my_M_exclude cd_M_exclude 5 (some .int) 1 := ⟨tw_731, tw_728, tw_729, tw_730, tw_7, by decide, by decide, by decide +kernel⟩
theorem vk_L_96 : vk_ok "PartsAccumulatorLaw" 96 my_M_checkExclude cd_M_checkExclude 9 (some .int) 2 := ⟨tw_735, tw_732, tw_733, tw_734, tw_7, by decide, by decide, by decide +kernel⟩
end
section
theorem wb_tb (n : Nat) : (lN n).toBitVec = BitVec.ofNat 64 n := rfl
theorem wb_inj {a b : Int64} (h : a.toBitVec = b.toBitVec) : a = b := Int64.toBitVec_inj.mp h
theorem wb_tn {n : Nat} (h : n < 2 ^ 64) : (lN n).toBitVec.toNat = n := by rw [wb_tb, BitVec.toNat_ofNat, Nat.mod_eq_of_lt h]
theorem wb_of (x : Int64) : ∃ n, n < 2 ^ 64 ∧ x = lN n := ⟨x.toBitVec.toNat, x.toBitVec.isLt, wb_inj (by rw [wb_tb]; simp)⟩
theorem wb_of32 (x : Int32) : ∃ n, n < 2 ^ 32 ∧ x = nI n := ⟨x.toBitVec.toNat, x.toBitVec.isLt, Int32.toBitVec_inj.mp (by show _ = BitVec.ofNat 32 _; simp)⟩
theorem wb_c : ∀ k, k < 64 → ((nI k).toInt64 &&& 63) = lN k := by decide +kernel
theorem wb_cu : ∀ k, k < 64 → ((nI k).toInt64.toUInt64 &&& Int64.toUInt64 63) = UInt64.ofNat k := by decide +kernel
theorem wb_sm : ∀ k, k < 64 → (BitVec.ofNat 64 k).smod 64 = BitVec.ofNat 64 k := by decide +kernel
theorem wb_pw {a b : Nat} (h : a ≤ b) : 2 ^ b = 2 ^ a * 2 ^ (b - a) := by rw [← Nat.pow_add]; congr 1; omega
theorem wb_lt2 {a b : Nat} (h : a < b) : 2 ^ a < 2 ^ b := Nat.pow_lt_pow_right (by decide) h
theorem wb_mod (n : Nat) : lN n = lN (n % 2 ^ 64) := wb_inj (by rw [wb_tb, wb_tb]; apply BitVec.eq_of_toNat_eq; rw [BitVec.toNat_ofNat, BitVec.toNat_ofNat, Nat.mod_mod])
theorem wb_shr {n k : Nat} (hn : n < 2 ^ 64) (hk : k < 64) : ((lN n).toUInt64 >>> ((nI k).toInt64.toUInt64 &&& Int64.toUInt64 63)).toInt64 = lN (n / 2 ^ k) := by
  rw [wb_cu k hk]
  apply wb_inj
  apply BitVec.eq_of_toNat_eq
  show ((lN n).toUInt64 >>> UInt64.ofNat k).toNat = (BitVec.ofNat 64 _).toNat
  have h1 : (UInt64.ofNat k).toNat = k := by
    show (BitVec.ofNat 64 k).toNat = k
    rw [BitVec.toNat_ofNat, Nat.mod_eq_of_lt (by omega)]
  have h2 : (lN n).toUInt64.toNat = n := wb_tn hn
  rw [UInt64.toNat_shiftRight, h1, h2, Nat.mod_eq_of_lt hk, Nat.shiftRight_eq_div_pow, BitVec.toNat_ofNat, Nat.mod_eq_of_lt (Nat.lt_of_le_of_lt (Nat.div_le_self _ _) hn)]
theorem wb_shl (n : Nat) {k : Nat} (hk : k < 64) : lN n <<< ((nI k).toInt64 &&& 63) = lN (n * 2 ^ k) := by
  rw [wb_c k hk]
  apply wb_inj
  rw [Int64.toBitVec_shiftLeft, wb_tb, wb_tb, wb_tb, wb_sm k hk]
  apply BitVec.eq_of_toNat_eq
  rw [BitVec.shiftLeft_eq', BitVec.toNat_shiftLeft, BitVec.toNat_ofNat, BitVec.toNat_ofNat, BitVec.toNat_ofNat, Nat.mod_eq_of_lt (show k < 2 ^ 64 by omega), Nat.shiftLeft_eq, Nat.mul_mod, Nat.mod_mod, ← Nat.mul_mod]
theorem wb_and {a b : Nat} (ha : a < 2 ^ 64) (hb : b < 2 ^ 64) : lN a &&& lN b = lN (a &&& b) := by
  apply wb_inj
  rw [Int64.toBitVec_and, wb_tb, wb_tb, wb_tb]
  apply BitVec.eq_of_toNat_eq
  rw [BitVec.toNat_and, BitVec.toNat_ofNat, BitVec.toNat_ofNat, BitVec.toNat_ofNat, Nat.mod_eq_of_lt ha, Nat.mod_eq_of_lt hb, Nat.mod_eq_of_lt (Nat.and_lt_two_pow _ hb)]
theorem wb_or {a b : Nat} (ha : a < 2 ^ 64) (hb : b < 2 ^ 64) : lN a ||| lN b = lN (a ||| b) := by
  apply wb_inj
  rw [Int64.toBitVec_or, wb_tb, wb_tb, wb_tb]
  apply BitVec.eq_of_toNat_eq
  rw [BitVec.toNat_or, BitVec.toNat_ofNat, BitVec.toNat_ofNat, BitVec.toNat_ofNat, Nat.mod_eq_of_lt ha, Nat.mod_eq_of_lt hb, Nat.mod_eq_of_lt (Nat.or_lt_two_pow ha hb)]
theorem wb_mask {n k : Nat} (hn : n < 2 ^ 64) (hk : k < 64) : lN n &&& lN (2 ^ k - 1) = lN (n % 2 ^ k) := by
  rw [wb_and hn (by have := wb_lt2 hk; omega), Nat.and_two_pow_sub_one_eq_mod]
theorem wb_a1 {n : Nat} (hn : n < 2 ^ 64) : lN n &&& 1 = lN (n % 2) := wb_mask (k := 1) hn (by decide)
theorem wb_bit {n k : Nat} (hn : n < 2 ^ 64) (hk : k < 64) : ((lN n).toUInt64 >>> ((nI k).toInt64.toUInt64 &&& Int64.toUInt64 63)).toInt64 &&& 1 = lN (n / 2 ^ k % 2) := by
  rw [wb_shr hn hk, wb_a1 (Nat.lt_of_le_of_lt (Nat.div_le_self _ _) hn)]
theorem u_tn {n : Nat} (h : n < 2 ^ 64) : (UInt64.ofNat n).toNat = n := Nat.mod_eq_of_lt h
theorem g_and {a b c : Nat} (ha : a < 2 ^ 64) (hb : b < 2 ^ 64) (hc : a &&& b = c) : lN a &&& lN b = lN c := by
  subst hc
  have h : UInt64.ofNat a &&& UInt64.ofNat b = UInt64.ofNat (a &&& b) := UInt64.toNat_inj.mp (by rw [UInt64.toNat_and, u_tn ha, u_tn hb, u_tn (Nat.and_lt_two_pow a hb)])
  have h2 := congrArg UInt64.toInt64 h
  exact h2
theorem g_and1 {a : Nat} (ha : a < 2 ^ 64) : lN a &&& 1 = lN (a % 2) := g_and (b := 1) ha (by decide) (Nat.and_two_pow_sub_one_eq_mod a 1)
theorem g_mask {a s p : Nat} (hp : 2 ^ s = p) (hs : s < 64) (ha : a < 2 ^ 64) : lN a &&& lN (p - 1) = lN (a % p) := by
  subst hp
  have := Nat.pow_lt_pow_right (show 1 < 2 by decide) hs
  exact g_and ha (by omega) (Nat.and_two_pow_sub_one_eq_mod a s)
theorem g_or {k p a b : Nat} (hp : 2 ^ k = p) (ha : a < p) (h : b * p + a < 2 ^ 64) : lN (b * p) ||| lN a = lN (b * p + a) := by
  subst hp
  have h1 : b * 2 ^ k ||| a = b * 2 ^ k + a := by rw [← Nat.shiftLeft_eq, Nat.shiftLeft_add_eq_or_of_lt ha]
  have h3 : UInt64.ofNat (b * 2 ^ k) ||| UInt64.ofNat a = UInt64.ofNat (b * 2 ^ k + a) := UInt64.toNat_inj.mp (by rw [UInt64.toNat_or, u_tn (by omega), u_tn (by omega), u_tn h, h1])
  have h2 := congrArg UInt64.toInt64 h3
  exact h2
theorem g_or' {k p a b : Nat} (hp : 2 ^ k = p) (ha : a < p) (h : a + b * p < 2 ^ 64) : lN a ||| lN (b * p) = lN (a + b * p) := by
  rw [Int64.or_comm, g_or hp ha (by omega), Nat.add_comm]
theorem lx_arr {cA : ClassId} {n : Nat} {f g : Nat → Value} (h : ∀ j, j < n → f j = g j) : arrV cA n f = arrV cA n g := by
  unfold arrV
  congr 2
  funext j
  exact h j.val j.isLt

theorem lm_ {a : Nat} (h : a < 18446744073709551616) : lN a &&& lN 4294967295 = lN (a % 4294967296) := wb_mask (k := 32) h (by decide)
theorem lh_ {a : Nat} (h : a < 18446744073709551616) : lus_ (lN a) (nI 32) = lN (a / 4294967296) := wb_shr (k := 32) h (by decide)
theorem mr_lext {G : mg_} {M : mw_} {H : Heap} {a n : Nat} {f g : Nat → Int64} (h : ∀ j, j < n → f j = g j) (hM : mm_ G (mu_ M a (la_ G n f)) H) : mm_ G (mu_ M a (la_ G n g)) H := by
  refine ⟨hM.1, fun b e hb => ?_⟩
  by_cases hq : b = a
  · subst hq
    rw [mu_s] at hb
    cases hb
    have h1 := hM.2 b (la_ G n f) mu_s
    refine ⟨?_, h1.2⟩
    have h2 : H[b]? = some (vp_cell (gL G) (n, .inr (.inl f))) := h1.1
    show H[b]? = some (vp_cell (gL G) (n, .inr (.inl g)))
    rw [h2, vp_cell_l, vp_cell_l, lx_arr (fun j hj => by rw [h j hj])]
  · rw [mu_n hq] at hb
    exact hM.2 b e (by rw [mu_n hq]; exact hb)
theorem mr_iext {G : mg_} {M : mw_} {H : Heap} {a n : Nat} {f g : Nat → Int32} (h : ∀ j, j < n → f j = g j) (hM : mm_ G (mu_ M a (ia_ G n f)) H) : mm_ G (mu_ M a (ia_ G n g)) H := by
  refine ⟨hM.1, fun b e hb => ?_⟩
  by_cases hq : b = a
  · subst hq
    rw [mu_s] at hb
    cases hb
    have h1 := hM.2 b (ia_ G n f) mu_s
    refine ⟨?_, h1.2⟩
    have h2 : H[b]? = some (vp_cell (gI G) (n, .inl f)) := h1.1
    show H[b]? = some (vp_cell (gI G) (n, .inl g))
    rw [h2, vp_cell_i, vp_cell_i, lx_arr (fun j hj => by rw [h j hj])]
  · rw [mu_n hq] at hb
    exact hM.2 b e (by rw [mu_n hq]; exact hb)
/-! digits to a base -/
def db_ (b V i : Nat) : Nat := V / b ^ i % b
abbrev dg_ (V i : Nat) : Nat := db_ 4294967296 V i
theorem db_lt {b V i : Nat} (hb : 0 < b) : db_ b V i < b := Nat.mod_lt _ hb
theorem db_split (b V i : Nat) : V % b ^ (i + 1) = V % b ^ i + b ^ i * db_ b V i := Nat.mod_pow_succ
theorem db_top (b V i : Nat) : V / b ^ i = V / b ^ (i + 1) * b + db_ b V i := by
  have h : V / b ^ (i + 1) = V / b ^ i / b := by rw [Nat.pow_succ, Nat.div_div_eq_div_mul]
  rw [h, Nat.mul_comm]
  exact (Nat.div_add_mod _ _).symm
def cm_ (b V x i : Nat) : Nat := V % b ^ i * x / b ^ i
theorem cm_0 (b V x : Nat) : cm_ b V x 0 = 0 := by simp [cm_, Nat.mod_one]
theorem cm_step {b : Nat} (hb : 0 < b) (V x i : Nat) : db_ b V i * x + cm_ b V x i = V % b ^ (i + 1) * x / b ^ i := by
  rw [db_split, Nat.add_mul, Nat.mul_assoc, Nat.add_mul_div_left _ _ (Nat.pow_pos hb), Nat.add_comm]
  rfl
theorem db_mod (b V i : Nat) : db_ b V i = V % b ^ (i + 1) / b ^ i := by
  rw [db_, Nat.pow_succ, Nat.mod_mul_right_div_self]
theorem cm_dig (b V x i : Nat) : V % b ^ (i + 1) * x / b ^ i % b = db_ b (V * x) i := by
  have h : V % b ^ (i + 1) * x / b ^ i % b = db_ b (V % b ^ (i + 1) * x) i := rfl
  rw [h, db_mod, db_mod, Nat.mod_mul_mod]
theorem cm_next (b V x i : Nat) : V % b ^ (i + 1) * x / b ^ i / b = cm_ b V x (i + 1) := by
  rw [cm_, Nat.div_div_eq_div_mul, ← Nat.pow_succ]
theorem cm_lt {b : Nat} (hb : 0 < b) (V : Nat) {x : Nat} (hx : 0 < x) (i : Nat) : cm_ b V x i < x := by
  rw [cm_, Nat.div_lt_iff_lt_mul (Nat.pow_pos hb), Nat.mul_comm x]
  exact Nat.mul_lt_mul_of_pos_right (Nat.mod_lt _ (Nat.pow_pos hb)) hx
theorem dq_step {b d : Nat} (hb : 0 < b) (hd : 0 < d) (V i : Nat) : db_ b (V / d) i = (V / b ^ (i + 1) % d * b + db_ b V i) / d := by
  have h1 : V / d / b ^ i = V / b ^ i / d := by rw [Nat.div_div_eq_div_mul, Nat.div_div_eq_div_mul, Nat.mul_comm]
  rw [db_, h1, db_top]
  generalize V / b ^ (i + 1) = Y
  have h2 : db_ b V i < b := db_lt hb
  generalize db_ b V i = g at h2 ⊢
  have h3 : Y * b + g = d * (Y / d * b) + (Y % d * b + g) := by
    have h4 := Nat.div_add_mod Y d
    have h5 : Y * b = (d * (Y / d) + Y % d) * b := by rw [h4]
    rw [h5, Nat.add_mul, Nat.mul_assoc, Nat.add_assoc]
  rw [h3, Nat.mul_add_div hd, Nat.add_comm, Nat.add_mul_mod_self_right]
  apply Nat.mod_eq_of_lt
  rw [Nat.div_lt_iff_lt_mul hd]
  have h6 : Y % d < d := Nat.mod_lt _ hd
  have h7 : (Y % d + 1) * b ≤ d * b := Nat.mul_le_mul_right b h6
  rw [Nat.add_mul, Nat.one_mul] at h7
  rw [Nat.mul_comm b d]
  omega
theorem dr_step {b d : Nat} (V i : Nat) : (V / b ^ (i + 1) % d * b + db_ b V i) % d = V / b ^ i % d := by
  rw [db_top b V i, Nat.add_mod, Nat.mul_mod, Nat.mod_mod, ← Nat.mul_mod, ← Nat.add_mod]
theorem db_big {b V i n : Nat} (hb : 0 < b) (h : V < b ^ n) (hi : n ≤ i) : db_ b V i = 0 := by
  rw [db_, Nat.div_eq_of_lt (Nat.lt_of_lt_of_le h (Nat.pow_le_pow_right hb hi)), Nat.zero_mod]
/-- a number's limbs as a long array holds them -/
def nl_ (V : Nat) : Nat → Int64 := fun j => lN (dg_ V j)
theorem pr_lt64 {a x c : Nat} (ha : a < 4294967296) (hx : x < 4294967296) (hc : c < 4294967296) : a * x + c < 18446744073709551616 := by
  have h : a * x ≤ 4294967295 * 4294967295 := Nat.mul_le_mul (by omega) (by omega)
  omega
theorem ne_k {M : mw_} {a b : Nat} {e f : va_E} (h : M a = some e) (k : M b = some f) (hn : e ≠ f) : a ≠ b := by
  intro q
  subst q
  rw [h] at k
  exact hn (Option.some.inj k)
end
section

theorem ln0_ {d : Nat} (h0 : 0 < d) (h : d < 2147483648) : ¬ lN d = 0 := fun q => absurd ((pk_lEQ (a := d) (b := 0) (by omega) (by omega)).mp q) (by omega)
theorem cm_le {b : Nat} (hb : 0 < b) (V x i : Nat) : cm_ b V x i ≤ x := by
  rw [cm_]
  apply Nat.div_le_of_le_mul
  exact Nat.mul_le_mul_right x (Nat.le_of_lt (Nat.mod_lt _ (Nat.pow_pos hb)))
/-- limbs of W below i, of V from i on -/
def nf_ (V W i : Nat) : Nat → Int64 := fun j => if j < i then lN (dg_ W j) else lN (dg_ V j)
theorem nf_0 (V W : Nat) : nl_ V = nf_ V W 0 := by funext j; simp [nl_, nf_]
theorem nf_s (V W i : Nat) : vp_updL (nf_ V W i) i (lN (dg_ W i)) = nf_ V W (i + 1) := by
  funext j
  by_cases h : j = i
  · subst h; simp [vp_updL, nf_]
  · by_cases h2 : j < i
    · simp [vp_updL, nf_, h, h2, Nat.lt_succ_of_lt h2]
    · simp [vp_updL, nf_, h, h2, show ¬ j < i + 1 by omega]
theorem nf_d (V W i : Nat) : vp_updL (nf_ V W (i + 1)) i (lN (dg_ V i)) = nf_ V W i := by
  funext j
  by_cases h : j = i
  · subst h; simp [vp_updL, nf_]
  · by_cases h2 : j < i
    · simp [vp_updL, nf_, h, h2, Nat.lt_succ_of_lt h2]
    · simp [vp_updL, nf_, h, h2, show ¬ j < i + 1 by omega]
theorem nf_at (V W i : Nat) : nf_ V W i i = lN (dg_ V i) := by simp [nf_]
theorem nf_b {V W i j : Nat} (h : j < i) : nf_ V W i j = lN (dg_ W j) := by simp [nf_, h]
theorem nf_a {V W i j : Nat} (h : ¬ j < i) : nf_ V W i j = lN (dg_ V j) := by simp [nf_, h]
theorem bit_dg (V pl : Nat) : dg_ V (pl / 32) / 2 ^ (pl % 32) % 2 = V / 2 ^ pl % 2 := by
  have e1 : (4294967296 : Nat) ^ (pl / 32) = 2 ^ (32 * (pl / 32)) := by rw [Nat.pow_mul]
  have h := Nat.testBit_mod_two_pow (V / 2 ^ (32 * (pl / 32))) 32 (pl % 32)
  rw [show decide (pl % 32 < 32) = true from decide_eq_true (Nat.mod_lt _ (by decide)), Bool.true_and] at h
  have h2 := congrArg Bool.toNat h
  rw [Nat.toNat_testBit, Nat.toNat_testBit, Nat.div_div_eq_div_mul, ← Nat.pow_add, Nat.div_add_mod] at h2
  show V / 4294967296 ^ (pl / 32) % 4294967296 / 2 ^ (pl % 32) % 2 = _
  rw [e1]
  exact h2
def hb_ (V : Nat) : Int32 := if V = 0 then (-1) else nI (Nat.log2 V)
theorem hb_0 : hb_ 0 = (-1) := rfl
theorem hb_n {V k : Nat} (h1 : V < 2 ^ (k + 1)) (h2 : V / 2 ^ k % 2 ≠ 0) : nI k = hb_ V := by
  have h3 : 2 ^ k ≤ V := by
    apply Nat.le_of_not_lt
    intro h
    rw [Nat.div_eq_of_lt h] at h2
    exact h2 rfl
  have h0 : V ≠ 0 := by
    have := Nat.pow_pos (n := k) (show 0 < 2 by decide)
    omega
  rw [hb_, if_neg h0, (Nat.log2_eq_iff h0).mpr ⟨h3, h1⟩]
theorem hb_s {V k : Nat} (h1 : V < 2 ^ (k + 1)) (h2 : V / 2 ^ k % 2 = 0) : V < 2 ^ k := by
  apply Nat.lt_of_not_le
  intro h
  have h3 : V / 2 ^ k < 2 := by rw [Nat.div_lt_iff_lt_mul (Nat.pow_pos (by decide)), Nat.mul_comm, ← Nat.pow_succ]; exact h1
  have h4 : 1 ≤ V / 2 ^ k := (Nat.le_div_iff_mul_le (Nat.pow_pos (by decide))).mpr (by rw [Nat.one_mul]; exact h)
  omega
theorem dg_small {v j : Nat} (h : v < 4294967296) : dg_ v j = if j = 0 then v else 0 := by
  by_cases hj : j = 0
  · subst hj; simp [db_, Nat.mod_eq_of_lt h]
  · rw [if_neg hj]
    exact db_big (n := 1) (by decide) (by omega) (by omega)

set_option maxHeartbeats 4000000 in
set_option maxRecDepth 100000 in
theorem c_A_fill_aJJ (l : Launch) {G : mg_} {M : mw_} {A n : Nat} {f : Nat → Int64} {x : Int64} (h_A : M A = some (la_ G n f))  (hn : n < 2147483648) : dt_ l my_A_fill_aJJ cd_A_fill_aJJ 5 none { frames := 0, cells := 0, slots := 0, locals := 0 } G [.ref A, .long x] M none (mu_ M A (la_ G n (fun _ => x))) 0 0 := by
  refine ct_.intro2 (by decide) (Nat.le_of_ble_eq_true rfl) ?_
  intro p e s m args below meth c ls R Q hR hQ C0 hl hM hS
  have hx := C0.1
  have hb := C0.2.1
  have hl : lv_has ls 5 [(0, .ref A), (1, .long x)] := hl
  refine lv_iconst (v := nI 0) hx hb dd_A_fill_aJJ_0 (by decide) ?_
  refine lv_istore_n (lv' := [(3, .int (nI 0)), (0, .ref A), (1, .long x)]) hx hb dd_A_fill_aJJ_1 rfl hl (by decide) rfl (fun ls hl => ?_)
  refine lv_aload_n hx hb dd_A_fill_aJJ_2 rfl (lv_at hl 1 rfl) ?_
  refine mr_alen C0 hM 1 h_A rfl (n := n) rfl dd_A_fill_aJJ_3 ?_
  refine lv_istore (lv' := [(4, .int (nI n)), (3, .int (nI 0)), (0, .ref A), (1, .long x)]) hx hb dd_A_fill_aJJ_4 hl (by decide) rfl (fun ls hl => ?_)
  have loop_6 : ∀ (k : Nat) (i : Nat) (H : Heap) (locs : List Loc) (ls : Array Slot), i + k = n → mm_ G (mu_ M A (la_ G n (fun j => if j < i then x else f j))) H → va_S (fz_ G) s.heap H locs → lv_has ls 5 [(0, .ref A), (1, .long x), (3, .int (nI i)), (4, .int (nI n))] → W p l e R s m args below meth c H locs 0 0 Q (F0 m 6 ls []) := by
    intro k
    induction k with
    | zero =>
      intro i H locs ls hi hM hS hl
      refine lv_iload_n hx hb dd_A_fill_aJJ_6 rfl (lv_at hl 2 rfl) ?_
      refine lv_iload hx hb dd_A_fill_aJJ_7 (lv_at hl 3 rfl) ?_
      refine lv_icmp_ge (tgt := 22) hx hb dd_A_fill_aJJ_9 rfl (fun _ => ?_) (fun hc => absurd (le_nI (a := n) (b := i) (by omega) (by omega) (by omega)) hc)
      have hM := mr_lext (g := fun _ => x) (fun j hj => if_pos (show j < i by omega)) hM
      exact mr_ret hQ (mr_vret C0 hM hS (⟨rfl, rfl⟩) dd_A_fill_aJJ_22)
    | succ k ih =>
      intro i H locs ls hi hM hS hl
      refine lv_iload_n hx hb dd_A_fill_aJJ_6 rfl (lv_at hl 2 rfl) ?_
      refine lv_iload hx hb dd_A_fill_aJJ_7 (lv_at hl 3 rfl) ?_
      refine lv_icmp_ge (tgt := 22) hx hb dd_A_fill_aJJ_9 rfl (fun hc => absurd hc (nle_nI (a := n) (b := i) (by omega) (by omega) (by omega))) (fun _ => ?_)
      refine lv_aload_n hx hb dd_A_fill_aJJ_12 rfl (lv_at hl 0 rfl) ?_
      refine lv_iload_n hx hb dd_A_fill_aJJ_13 rfl (lv_at hl 2 rfl) ?_
      refine lv_lload_n hx hb dd_A_fill_aJJ_14 rfl (lv_at hl 1 rfl) ?_
      refine mr_last C0 hM hS mu_s (i) (rfl) (by omega) hn dd_A_fill_aJJ_15 (fun H locs hM hS => ?_)
      have hM := mr_M mu_mu hM
      have hM := mr_M (congrArg (fun z__ => mu_ M A (la_ G n z__)) (show (vp_updL (fun j => if j < i then x else f j) i x : Nat → Int64) = (fun j => if j < i + 1 then x else f j) from by funext j; simp only [vp_updL]; by_cases h1 : j = i <;> by_cases h2 : j < i <;> simp [h1, h2] <;> first | omega | (intro; omega) | (rw [if_neg (by omega)]) | skip)) hM
      have hM : mm_ G (mu_ M A (la_ G n (fun j => if j < i + 1 then x else f j))) H := hM
      refine lv_iinc (k := 2) (v := nI (i + 1)) (lv' := [(3, .int (nI (i + 1))), (0, .ref A), (1, .long x), (4, .int (nI n))]) hx hb dd_A_fill_aJJ_16 hl rfl (inc_ i) (by decide) rfl (fun ls hl => ?_)
      refine lv_goto (tgt := 6) hx hb dd_A_fill_aJJ_19 rfl ?_
      exact ih _ _ _ _ (by omega) hM hS (lv_sub hl [1, 2, 0, 3] rfl)
  have hM := mr_M (mu_id h_A).symm hM
  have hM := mr_lext (g := fun j => if j < 0 then x else f j) (fun j _ => by simp) hM
  exact loop_6 n 0 _ _ _ (by omega) hM hS (lv_sub hl [2, 3, 1, 0] rfl)

set_option maxHeartbeats 4000000 in
set_option maxRecDepth 100000 in
theorem c_A_fill_aII (l : Launch) {G : mg_} {M : mw_} {A n : Nat} {f : Nat → Int32} {x : Int32} (h_A : M A = some (ia_ G n f))  (hn : n < 2147483648) : dt_ l my_A_fill_aII cd_A_fill_aII 4 none { frames := 0, cells := 0, slots := 0, locals := 0 } G [.ref A, .int x] M none (mu_ M A (ia_ G n (fun _ => x))) 0 0 := by
  refine ct_.intro2 (by decide) (Nat.le_of_ble_eq_true rfl) ?_
  intro p e s m args below meth c ls R Q hR hQ C0 hl hM hS
  have hx := C0.1
  have hb := C0.2.1
  have hl : lv_has ls 4 [(0, .ref A), (1, .int x)] := hl
  refine lv_iconst (v := nI 0) hx hb dd_A_fill_aII_0 (by decide) ?_
  refine lv_istore_n (lv' := [(2, .int (nI 0)), (0, .ref A), (1, .int x)]) hx hb dd_A_fill_aII_1 rfl hl (by decide) rfl (fun ls hl => ?_)
  refine lv_aload_n hx hb dd_A_fill_aII_2 rfl (lv_at hl 1 rfl) ?_
  refine mr_alen C0 hM 0 h_A rfl (n := n) rfl dd_A_fill_aII_3 ?_
  refine lv_istore_n (lv' := [(3, .int (nI n)), (2, .int (nI 0)), (0, .ref A), (1, .int x)]) hx hb dd_A_fill_aII_4 rfl hl (by decide) rfl (fun ls hl => ?_)
  have loop_5 : ∀ (k : Nat) (i : Nat) (H : Heap) (locs : List Loc) (ls : Array Slot), i + k = n → mm_ G (mu_ M A (ia_ G n (fun j => if j < i then x else f j))) H → va_S (fz_ G) s.heap H locs → lv_has ls 4 [(0, .ref A), (1, .int x), (2, .int (nI i)), (3, .int (nI n))] → W p l e R s m args below meth c H locs 0 0 Q (F0 m 5 ls []) := by
    intro k
    induction k with
    | zero =>
      intro i H locs ls hi hM hS hl
      refine lv_iload_n hx hb dd_A_fill_aII_5 rfl (lv_at hl 2 rfl) ?_
      refine lv_iload_n hx hb dd_A_fill_aII_6 rfl (lv_at hl 3 rfl) ?_
      refine lv_icmp_ge (tgt := 20) hx hb dd_A_fill_aII_7 rfl (fun _ => ?_) (fun hc => absurd (le_nI (a := n) (b := i) (by omega) (by omega) (by omega)) hc)
      have hM := mr_iext (g := fun _ => x) (fun j hj => if_pos (show j < i by omega)) hM
      exact mr_ret hQ (mr_vret C0 hM hS (⟨rfl, rfl⟩) dd_A_fill_aII_20)
    | succ k ih =>
      intro i H locs ls hi hM hS hl
      refine lv_iload_n hx hb dd_A_fill_aII_5 rfl (lv_at hl 2 rfl) ?_
      refine lv_iload_n hx hb dd_A_fill_aII_6 rfl (lv_at hl 3 rfl) ?_
      refine lv_icmp_ge (tgt := 20) hx hb dd_A_fill_aII_7 rfl (fun hc => absurd hc (nle_nI (a := n) (b := i) (by omega) (by omega) (by omega))) (fun _ => ?_)
      refine lv_aload_n hx hb dd_A_fill_aII_10 rfl (lv_at hl 0 rfl) ?_
      refine lv_iload_n hx hb dd_A_fill_aII_11 rfl (lv_at hl 2 rfl) ?_
      refine lv_iload_n hx hb dd_A_fill_aII_12 rfl (lv_at hl 1 rfl) ?_
      refine mr_iast C0 hM hS mu_s (i) (rfl) (by omega) hn dd_A_fill_aII_13 (fun H locs hM hS => ?_)
      have hM := mr_M mu_mu hM
      have hM := mr_M (congrArg (fun z__ => mu_ M A (ia_ G n z__)) (show (upd (fun j => if j < i then x else f j) i x : Nat → Int32) = (fun j => if j < i + 1 then x else f j) from by funext j; simp only [upd]; by_cases h1 : j = i <;> by_cases h2 : j < i <;> simp [h1, h2] <;> first | omega | (intro; omega) | (rw [if_neg (by omega)]) | skip)) hM
      have hM : mm_ G (mu_ M A (ia_ G n (fun j => if j < i + 1 then x else f j))) H := hM
      refine lv_iinc (k := 2) (v := nI (i + 1)) (lv' := [(2, .int (nI (i + 1))), (0, .ref A), (1, .int x), (3, .int (nI n))]) hx hb dd_A_fill_aII_14 hl rfl (inc_ i) (by decide) rfl (fun ls hl => ?_)
      refine lv_goto (tgt := 5) hx hb dd_A_fill_aII_17 rfl ?_
      exact ih _ _ _ _ (by omega) hM hS (lv_sub hl [1, 2, 0, 3] rfl)
  have hM := mr_M (mu_id h_A).symm hM
  have hM := mr_iext (g := fun j => if j < 0 then x else f j) (fun j _ => by simp) hM
  exact loop_5 n 0 _ _ _ (by omega) hM hS (lv_sub hl [2, 3, 1, 0] rfl)

set_option maxHeartbeats 4000000 in
set_option maxRecDepth 100000 in
theorem c_N_become (l : Launch) {G : mg_} {M : mw_} {o A v V : Nat} (h_o : M o = some (ob_ 1 [.ref A])) (h_A : M A = some (la_ G 11 (nl_ V)))  (hv : v < 2147483648) : dt_ l my_N_become cd_N_become 2 none { frames := 1, cells := 0, slots := 0, locals := 24 } G [.ref o, .int (nI v)] M none (mu_ M A (la_ G 11 (nl_ v))) 0 0 := by
  refine ct_.intro2 (by decide) (Nat.le_of_ble_eq_true rfl) ?_
  intro p e s m args below meth c ls R Q hR hQ C0 hl hM hS
  have hx := C0.1
  have hb := C0.2.1
  have hl : lv_has ls 2 [(0, .ref o), (1, .int (nI v))] := hl
  refine lv_aload_n hx hb dd_N_become_0 rfl (lv_at hl 0 rfl) ?_
  refine mr_get C0 hM fk_N_9 h_o (v := .ref A) rfl dd_N_become_1 ?_
  refine lv_lconst (v := lN 0) hx hb dd_N_become_4 rfl ?_
  refine mr_callS (As := [.ref A, .long (lN 0)]) (rest := []) C0 hM hS sk_N_13 (c_A_fill_aJJ l h_A (by decide)) rfl rfl hl.1 (by decide) rfl rfl (by subst hR; exact ⟨Nat.le_of_ble_eq_true rfl, Nat.le_of_ble_eq_true rfl⟩) (by subst hR; exact ⟨Nat.le_of_ble_eq_true rfl, Nat.le_of_ble_eq_true rfl⟩) dd_N_become_5 (fun v1 M1 H locs hp hM hS => ?_)
  obtain ⟨ev1, eM1⟩ := hp
  subst ev1
  rw [eM1] at hM
  have hM : mm_ G (mu_ M A (la_ G 11 (fun _ => lN 0))) H := hM
  refine W.eq (g2 := F0 m 8 ls []) rfl ?_
  refine lv_aload_n hx hb dd_N_become_8 rfl (lv_at hl 0 rfl) ?_
  refine mr_get C0 hM fk_N_9 (mu_n' (ne_k h_o h_A (fun q => by cases q)) h_o) (v := .ref A) rfl dd_N_become_9 ?_
  refine lv_iconst (v := nI 0) hx hb dd_N_become_12 (by decide) ?_
  refine lv_iload_n hx hb dd_N_become_13 rfl (lv_at hl 1 rfl) ?_
  refine lv_i2l (v := lN v) hx hb dd_N_become_14 (nI_l hv) ?_
  refine lv_topl (fun v1 e2 => ?_)
  refine mr_last C0 hM hS mu_s (0) (rfl) (by omega) (by decide) dd_N_become_15 (fun H locs hM hS => ?_)
  have hM := mr_M mu_mu hM
  subst e2
  have hM := mr_lext (g := nl_ v) (fun j hj => by show vp_updL _ 0 (lN v) j = lN (dg_ v j); rw [dg_small (by omega)]; by_cases h : j = 0 <;> simp [vp_updL, h]) hM
  exact mr_ret hQ (mr_vret C0 hM hS (⟨rfl, rfl⟩) dd_N_become_16)

set_option maxHeartbeats 4000000 in
set_option maxRecDepth 100000 in
theorem c_N_multiply (l : Launch) {G : mg_} {M : mw_} {o A V x : Nat} (h_o : M o = some (ob_ 1 [.ref A])) (h_A : M A = some (la_ G 11 (nl_ V)))  (hx31 : x < 2147483648) : dt_ l my_N_multiply cd_N_multiply 7 none { frames := 0, cells := 0, slots := 0, locals := 0 } G [.ref o, .int (nI x)] M none (mu_ M A (la_ G 11 (nl_ (V * x)))) 0 0 := by
  refine ct_.intro2 (by decide) (Nat.le_of_ble_eq_true rfl) ?_
  intro p e s m args below meth c ls R Q hR hQ C0 hl hM hS
  have hx := C0.1
  have hb := C0.2.1
  have hl : lv_has ls 7 [(0, .ref o), (1, .int (nI x))] := hl
  refine lv_lconst (v := lN 0) hx hb dd_N_multiply_0 rfl ?_
  refine lv_lstore_n (lv' := [(2, .long (lN 0)), (0, .ref o), (1, .int (nI x))]) hx hb dd_N_multiply_1 rfl hl (by decide) rfl (fun ls hl => ?_)
  refine lv_iconst (v := nI 0) hx hb dd_N_multiply_2 (by decide) ?_
  refine lv_istore (lv' := [(4, .int (nI 0)), (2, .long (lN 0)), (0, .ref o), (1, .int (nI x))]) hx hb dd_N_multiply_3 hl (by decide) rfl (fun ls hl => ?_)
  have loop_5 : ∀ (k : Nat) (i : Nat) (H : Heap) (locs : List Loc) (ls : Array Slot), i + k = 11 → mm_ G (mu_ M A (la_ G 11 (nf_ V (V * x) i))) H → va_S (fz_ G) s.heap H locs → lv_has ls 7 [(0, .ref o), (1, .int (nI x)), (2, .long (lN (cm_ 4294967296 V x i))), (4, .int (nI i))] → W p l e R s m args below meth c H locs 0 0 Q (F0 m 5 ls []) := by
    intro k
    induction k with
    | zero =>
      intro i H locs ls hi hM hS hl
      refine lv_iload hx hb dd_N_multiply_5 (lv_at hl 3 rfl) ?_
      refine lv_bipush (v := nI 11) hx hb dd_N_multiply_7 (by decide) ?_
      refine lv_icmp_ge (tgt := 51) hx hb dd_N_multiply_9 rfl (fun _ => ?_) (fun hc => absurd (le_nI (a := 11) (b := i) (by omega) (by omega) (by omega)) hc)
      have hM := mr_lext (g := nl_ (V * x)) (fun j hj => nf_b (by omega)) hM
      exact mr_ret hQ (mr_vret C0 hM hS (⟨rfl, rfl⟩) dd_N_multiply_51)
    | succ k ih =>
      intro i H locs ls hi hM hS hl
      have hg : dg_ V i < 4294967296 := db_lt (by decide)
      have hc : cm_ 4294967296 V x i ≤ x := cm_le (by decide) V x i
      have h64 : dg_ V i * x + cm_ 4294967296 V x i < 18446744073709551616 := pr_lt64 hg (by omega) (by omega)
      refine lv_iload hx hb dd_N_multiply_5 (lv_at hl 3 rfl) ?_
      refine lv_bipush (v := nI 11) hx hb dd_N_multiply_7 (by decide) ?_
      refine lv_icmp_ge (tgt := 51) hx hb dd_N_multiply_9 rfl (fun hc => absurd hc (nle_nI (a := 11) (b := i) (by omega) (by omega) (by omega))) (fun _ => ?_)
      refine lv_aload_n hx hb dd_N_multiply_12 rfl (lv_at hl 0 rfl) ?_
      refine mr_get C0 hM fk_N_9 (mu_n' (ne_k h_o h_A (fun q => by cases q)) h_o) (v := .ref A) rfl dd_N_multiply_13 ?_
      refine lv_iload hx hb dd_N_multiply_16 (lv_at hl 3 rfl) ?_
      refine mr_lald C0 hM mu_s (i) (rfl) (by omega) (by decide) dd_N_multiply_18 ?_
      refine lv_iload_n hx hb dd_N_multiply_19 rfl (lv_at hl 1 rfl) ?_
      refine lv_i2l (v := lN x) hx hb dd_N_multiply_20 (nI_l hx31) ?_
      refine lv_lmul hx hb dd_N_multiply_21 ?_
      refine mr_vl (x' := lN (dg_ V i * x)) ((congrArg (· * lN x) (nf_at V (V * x) i)).trans (lN_mul _ _)) ?_
      refine lv_lload_n hx hb dd_N_multiply_22 rfl (lv_at hl 2 rfl) ?_
      refine lv_ladd hx hb dd_N_multiply_23 ?_
      refine mr_vl (x' := lN (dg_ V i * x + cm_ 4294967296 V x i)) (lN_add _ _) ?_
      refine lv_lstore (lv' := [(5, .long (lN (dg_ V i * x + cm_ 4294967296 V x i))), (0, .ref o), (1, .int (nI x)), (2, .long (lN (cm_ 4294967296 V x i))), (4, .int (nI i))]) hx hb dd_N_multiply_24 hl (by decide) rfl (fun ls hl => ?_)
      refine lv_aload_n hx hb dd_N_multiply_26 rfl (lv_at hl 1 rfl) ?_
      refine mr_get C0 hM fk_N_9 (mu_n' (ne_k h_o h_A (fun q => by cases q)) h_o) (v := .ref A) rfl dd_N_multiply_27 ?_
      refine lv_iload hx hb dd_N_multiply_30 (lv_at hl 4 rfl) ?_
      refine lv_lload hx hb dd_N_multiply_32 (lv_at hl 0 rfl) ?_
      refine mr_ldc2 (v := lN 4294967295) C0 tw_210 dd_N_multiply_34 ?_
      refine lv_land hx hb dd_N_multiply_37 ?_
      refine mr_vl (x' := lN (dg_ (V * x) i)) ((lm_ h64).trans (congrArg lN (by rw [cm_step (by decide), cm_dig]))) ?_
      refine mr_last C0 hM hS mu_s (i) (rfl) (by omega) (by decide) dd_N_multiply_38 (fun H locs hM hS => ?_)
      have hM := mr_M mu_mu hM
      have hM := mr_M (congrArg (fun z__ => mu_ M A (la_ G 11 z__)) (show (vp_updL (nf_ V (V * x) i) i (lN (dg_ (V * x) i)) : Nat → Int64) = (nf_ V (V * x) (i + 1)) from nf_s V (V * x) i)) hM
      have hM : mm_ G (mu_ M A (la_ G 11 (nf_ V (V * x) (i + 1)))) H := hM
      refine lv_lload hx hb dd_N_multiply_39 (lv_at hl 0 rfl) ?_
      refine lv_bipush (v := nI 32) hx hb dd_N_multiply_41 (by decide) ?_
      refine lv_lushr (v := lN (cm_ 4294967296 V x (i + 1))) hx hb dd_N_multiply_43 ((lh_ h64).trans (congrArg lN (by rw [cm_step (by decide), cm_next]))) ?_
      refine lv_lstore_n (lv' := [(2, .long (lN (cm_ 4294967296 V x (i + 1)))), (5, .long (lN (dg_ V i * x + cm_ 4294967296 V x i))), (0, .ref o), (1, .int (nI x)), (4, .int (nI i))]) hx hb dd_N_multiply_44 rfl hl (by decide) rfl (fun ls hl => ?_)
      refine lv_iinc (k := 4) (v := nI (i + 1)) (lv' := [(4, .int (nI (i + 1))), (2, .long (lN (cm_ 4294967296 V x (i + 1)))), (5, .long (lN (dg_ V i * x + cm_ 4294967296 V x i))), (0, .ref o), (1, .int (nI x))]) hx hb dd_N_multiply_45 hl rfl (inc_ i) (by decide) rfl (fun ls hl => ?_)
      refine lv_goto (tgt := 5) hx hb dd_N_multiply_48 rfl ?_
      exact ih _ _ _ _ (by omega) hM hS (lv_sub hl [3, 4, 1, 0] rfl)
  have hM := mr_M (mu_id h_A).symm hM
  have hM := mr_lext (g := nf_ V (V * x) 0) (fun j _ => by rw [← nf_0]) hM
  exact loop_5 11 0 _ _ _ (rfl) hM hS (by rw [cm_0]; exact lv_sub hl [2, 3, 1, 0] rfl)

set_option maxHeartbeats 4000000 in
set_option maxRecDepth 100000 in
theorem c_N_remainder (l : Launch) {G : mg_} {M : mw_} {o A V d : Nat} (h_o : M o = some (ob_ 1 [.ref A])) (h_A : M A = some (la_ G 11 (nl_ V)))  (hV : V < 4294967296 ^ 11) (hd : 0 < d) (hd31 : d < 2147483648) : dt_ l my_N_remainder cd_N_remainder 5 (some .int) { frames := 0, cells := 0, slots := 0, locals := 0 } G [.ref o, .int (nI d)] M (some (.int (nI (V % d)))) (M) 0 0 := by
  refine ct_.intro2 (by decide) (Nat.le_of_ble_eq_true rfl) ?_
  intro p e s m args below meth c ls R Q hR hQ C0 hl hM hS
  have hx := C0.1
  have hb := C0.2.1
  have hl : lv_has ls 5 [(0, .ref o), (1, .int (nI d))] := hl
  refine lv_iload_n hx hb dd_N_remainder_0 rfl (lv_at hl 1 rfl) ?_
  refine lv_if_gt (tgt := 6) hx hb dd_N_remainder_1 rfl (fun _ => ?_) (fun hc => absurd (lt_nI (a := 0) (b := d) (by omega) (by omega) (by omega)) hc)
  refine lv_lconst (v := lN 0) hx hb dd_N_remainder_6 rfl ?_
  refine lv_lstore_n (lv' := [(2, .long (lN 0)), (0, .ref o), (1, .int (nI d))]) hx hb dd_N_remainder_7 rfl hl (by decide) rfl (fun ls hl => ?_)
  refine lv_bipush (v := nI 10) hx hb dd_N_remainder_8 (by decide) ?_
  refine lv_istore (lv' := [(4, .int (nI 10)), (2, .long (lN 0)), (0, .ref o), (1, .int (nI d))]) hx hb dd_N_remainder_10 hl (by decide) rfl (fun ls hl => ?_)
  have loop_12 : ∀ (k : Nat)  (H : Heap) (locs : List Loc) (ls : Array Slot), k ≤ 11 → mm_ G (M) H → va_S (fz_ G) s.heap H locs → lv_has ls 5 [(0, .ref o), (1, .int (nI d)), (2, .long (lN (V / 4294967296 ^ k % d))), (4, .int (nI k + (-1 : Int32)))] → W p l e R s m args below meth c H locs 0 0 Q (F0 m 12 ls []) := by
    intro k
    induction k with
    | zero =>
      intro  H locs ls hk hM hS hl
      have hl : lv_has ls 5 [(0, .ref o), (1, .int (nI d)), (2, .long (lN (V / 4294967296 ^ 0 % d))), (4, .int (nI 0 + (-1 : Int32)))] := by exact hl
      refine lv_iload hx hb dd_N_remainder_12 (lv_at hl 3 rfl) ?_
      refine lv_if_lt (tgt := 39) hx hb dd_N_remainder_14 rfl (fun _ => ?_) (fun hc => absurd (by decide) hc)
      refine lv_lload_n hx hb dd_N_remainder_39 rfl (lv_at hl 2 rfl) ?_
      refine lv_l2i (v := nI (V / 4294967296 ^ 0 % d)) hx hb dd_N_remainder_40 (lN_i _) ?_
      exact mr_ret hQ (mr_iret C0 hM hS (rfl) (⟨by rw [Nat.pow_zero, Nat.div_one], rfl⟩) dd_N_remainder_41)
    | succ k ih =>
      intro  H locs ls hk hM hS hl
      have hk10 : k < 11 := by omega
      have hr : V / 4294967296 ^ (k + 1) % d < d := Nat.mod_lt _ hd
      have hg : dg_ V k < 4294967296 := db_lt (by decide)
      have hl : lv_has ls 5 [(0, .ref o), (1, .int (nI d)), (2, .long (lN (V / 4294967296 ^ (k + 1) % d))), (4, .int (nI k))] := by rw [pk_m1] at hl; exact hl
      refine lv_iload hx hb dd_N_remainder_12 (lv_at hl 3 rfl) ?_
      refine lv_if_lt (tgt := 39) hx hb dd_N_remainder_14 rfl (fun hc => absurd hc (z_nlt (by omega))) (fun _ => ?_)
      refine lv_lload_n hx hb dd_N_remainder_17 rfl (lv_at hl 2 rfl) ?_
      refine lv_bipush (v := nI 32) hx hb dd_N_remainder_18 (by decide) ?_
      refine lv_lshl (v := lN (V / 4294967296 ^ (k + 1) % d * 4294967296)) hx hb dd_N_remainder_20 (wb_shl _ (by decide)) ?_
      refine lv_aload_n hx hb dd_N_remainder_21 rfl (lv_at hl 0 rfl) ?_
      refine mr_get C0 hM fk_N_9 h_o (v := .ref A) rfl dd_N_remainder_22 ?_
      refine lv_iload hx hb dd_N_remainder_25 (lv_at hl 3 rfl) ?_
      refine mr_lald C0 hM h_A (k) (rfl) (by omega) (by decide) dd_N_remainder_27 ?_
      refine lv_lor hx hb dd_N_remainder_28 ?_
      refine mr_vl (x' := lN (V / 4294967296 ^ (k + 1) % d * 4294967296 + dg_ V k)) (g_or (k := 32) rfl hg (by omega)) ?_
      refine lv_iload_n hx hb dd_N_remainder_29 rfl (lv_at hl 1 rfl) ?_
      refine lv_i2l (v := lN d) hx hb dd_N_remainder_30 (nI_l hd31) ?_
      refine lv_lrem hx hb dd_N_remainder_31 (ln0_ hd hd31) ?_
      refine mr_vl (x' := lN (V / 4294967296 ^ k % d)) ((pk_lRem (by omega) hd (by omega)).trans (congrArg lN (dr_step V k))) ?_
      refine lv_topl (fun v1 e2 => ?_)
      refine lv_lstore_n (lv' := [(2, .long v1), (0, .ref o), (1, .int (nI d)), (4, .int (nI k))]) hx hb dd_N_remainder_32 rfl hl (by decide) rfl (fun ls hl => ?_)
      refine lv_iinc (k := 3) (v := nI k + (-1 : Int32)) (lv' := [(4, .int (nI k + (-1 : Int32))), (2, .long v1), (0, .ref o), (1, .int (nI d))]) hx hb dd_N_remainder_33 hl rfl (rfl) (by decide) rfl (fun ls hl => ?_)
      refine lv_goto (tgt := 12) hx hb dd_N_remainder_36 rfl ?_
      subst e2
      exact ih  _ _ _ (by omega) hM hS (lv_sub hl [2, 3, 1, 0] rfl)
  exact loop_12 11  _ _ _ (Nat.le_refl _) hM hS (by rw [show nI 11 + (-1 : Int32) = nI 10 from by decide, show V / 4294967296 ^ 11 % d = 0 by rw [Nat.div_eq_of_lt hV, Nat.zero_mod]]; exact lv_sub hl [2, 3, 1, 0] rfl)

set_option maxHeartbeats 4000000 in
set_option maxRecDepth 100000 in
theorem c_N_divide (l : Launch) {G : mg_} {M : mw_} {o A V d : Nat} (h_o : M o = some (ob_ 1 [.ref A])) (h_A : M A = some (la_ G 11 (nl_ V)))  (hV : V < 4294967296 ^ 11) (hd : 0 < d) (hd31 : d < 2147483648) : dt_ l my_N_divide cd_N_divide 7 none { frames := 0, cells := 0, slots := 0, locals := 0 } G [.ref o, .int (nI d)] M none (mu_ M A (la_ G 11 (nl_ (V / d)))) 0 0 := by
  refine ct_.intro2 (by decide) (Nat.le_of_ble_eq_true rfl) ?_
  intro p e s m args below meth c ls R Q hR hQ C0 hl hM hS
  have hx := C0.1
  have hb := C0.2.1
  have hl : lv_has ls 7 [(0, .ref o), (1, .int (nI d))] := hl
  refine lv_iload_n hx hb dd_N_divide_0 rfl (lv_at hl 1 rfl) ?_
  refine lv_if_gt (tgt := 5) hx hb dd_N_divide_1 rfl (fun _ => ?_) (fun hc => absurd (lt_nI (a := 0) (b := d) (by omega) (by omega) (by omega)) hc)
  refine lv_lconst (v := lN 0) hx hb dd_N_divide_5 rfl ?_
  refine lv_lstore_n (lv' := [(2, .long (lN 0)), (0, .ref o), (1, .int (nI d))]) hx hb dd_N_divide_6 rfl hl (by decide) rfl (fun ls hl => ?_)
  refine lv_bipush (v := nI 10) hx hb dd_N_divide_7 (by decide) ?_
  refine lv_istore (lv' := [(4, .int (nI 10)), (2, .long (lN 0)), (0, .ref o), (1, .int (nI d))]) hx hb dd_N_divide_9 hl (by decide) rfl (fun ls hl => ?_)
  have loop_11 : ∀ (k : Nat)  (H : Heap) (locs : List Loc) (ls : Array Slot), k ≤ 11 → mm_ G (mu_ M A (la_ G 11 (nf_ (V / d) V k))) H → va_S (fz_ G) s.heap H locs → lv_has ls 7 [(0, .ref o), (1, .int (nI d)), (2, .long (lN (V / 4294967296 ^ k % d))), (4, .int (nI k + (-1 : Int32)))] → W p l e R s m args below meth c H locs 0 0 Q (F0 m 11 ls []) := by
    intro k
    induction k with
    | zero =>
      intro  H locs ls hk hM hS hl
      have hl : lv_has ls 7 [(0, .ref o), (1, .int (nI d)), (2, .long (lN (V / 4294967296 ^ 0 % d))), (4, .int (nI 0 + (-1 : Int32)))] := by exact hl
      have hM : mm_ G (mu_ M A (la_ G 11 (nf_ (V / d) V 0))) H := hM
      refine lv_iload hx hb dd_N_divide_11 (lv_at hl 3 rfl) ?_
      refine lv_if_lt (tgt := 54) hx hb dd_N_divide_13 rfl (fun _ => ?_) (fun hc => absurd (by decide) hc)
      have hM := mr_lext (g := nl_ (V / d)) (fun j _ => nf_a (Nat.not_lt_zero j)) hM
      exact mr_ret hQ (mr_vret C0 hM hS (⟨rfl, rfl⟩) dd_N_divide_54)
    | succ k ih =>
      intro  H locs ls hk hM hS hl
      have hk10 : k < 11 := by omega
      have hr : V / 4294967296 ^ (k + 1) % d < d := Nat.mod_lt _ hd
      have hg : dg_ V k < 4294967296 := db_lt (by decide)
      have hl : lv_has ls 7 [(0, .ref o), (1, .int (nI d)), (2, .long (lN (V / 4294967296 ^ (k + 1) % d))), (4, .int (nI k))] := by rw [pk_m1] at hl; exact hl
      have hM : mm_ G (mu_ M A (la_ G 11 (nf_ (V / d) V (k + 1)))) H := hM
      refine lv_iload hx hb dd_N_divide_11 (lv_at hl 3 rfl) ?_
      refine lv_if_lt (tgt := 54) hx hb dd_N_divide_13 rfl (fun hc => absurd hc (z_nlt (by omega))) (fun _ => ?_)
      refine lv_lload_n hx hb dd_N_divide_16 rfl (lv_at hl 2 rfl) ?_
      refine lv_bipush (v := nI 32) hx hb dd_N_divide_17 (by decide) ?_
      refine lv_lshl (v := lN (V / 4294967296 ^ (k + 1) % d * 4294967296)) hx hb dd_N_divide_19 (wb_shl _ (by decide)) ?_
      refine lv_aload_n hx hb dd_N_divide_20 rfl (lv_at hl 0 rfl) ?_
      refine mr_get C0 hM fk_N_9 (mu_n' (ne_k h_o h_A (fun q => by cases q)) h_o) (v := .ref A) rfl dd_N_divide_21 ?_
      refine lv_iload hx hb dd_N_divide_24 (lv_at hl 3 rfl) ?_
      refine mr_lald C0 hM mu_s (k) (rfl) (by omega) (by decide) dd_N_divide_26 ?_
      refine lv_lor hx hb dd_N_divide_27 ?_
      refine mr_vl (x' := lN (V / 4294967296 ^ (k + 1) % d * 4294967296 + dg_ V k)) ((congrArg (_ ||| ·) (nf_b (Nat.lt_succ_self k))).trans (g_or (k := 32) rfl hg (by omega))) ?_
      refine lv_lstore (lv' := [(5, .long (lN (V / 4294967296 ^ (k + 1) % d * 4294967296 + dg_ V k))), (0, .ref o), (1, .int (nI d)), (2, .long (lN (V / 4294967296 ^ (k + 1) % d))), (4, .int (nI k))]) hx hb dd_N_divide_28 hl (by decide) rfl (fun ls hl => ?_)
      refine lv_aload_n hx hb dd_N_divide_30 rfl (lv_at hl 1 rfl) ?_
      refine mr_get C0 hM fk_N_9 (mu_n' (ne_k h_o h_A (fun q => by cases q)) h_o) (v := .ref A) rfl dd_N_divide_31 ?_
      refine lv_iload hx hb dd_N_divide_34 (lv_at hl 4 rfl) ?_
      refine lv_lload hx hb dd_N_divide_36 (lv_at hl 0 rfl) ?_
      refine lv_iload_n hx hb dd_N_divide_38 rfl (lv_at hl 2 rfl) ?_
      refine lv_i2l (v := lN d) hx hb dd_N_divide_39 (nI_l hd31) ?_
      refine lv_ldiv hx hb dd_N_divide_40 (ln0_ hd hd31) ?_
      refine mr_vl (x' := lN (dg_ (V / d) k)) ((pk_lDiv (by omega) hd (by omega)).trans (congrArg lN (dq_step (by decide) hd V k).symm)) ?_
      refine mr_last C0 hM hS mu_s (k) (rfl) (by omega) (by decide) dd_N_divide_41 (fun H locs hM hS => ?_)
      have hM := mr_M mu_mu hM
      have hM := mr_M (congrArg (fun z__ => mu_ M A (la_ G 11 z__)) (show (vp_updL (nf_ (V / d) V (k + 1)) k (lN (dg_ (V / d) k)) : Nat → Int64) = (nf_ (V / d) V k) from nf_d (V / d) V k)) hM
      have hM : mm_ G (mu_ M A (la_ G 11 (nf_ (V / d) V k))) H := hM
      refine lv_lload hx hb dd_N_divide_42 (lv_at hl 0 rfl) ?_
      refine lv_iload_n hx hb dd_N_divide_44 rfl (lv_at hl 2 rfl) ?_
      refine lv_i2l (v := lN d) hx hb dd_N_divide_45 (nI_l hd31) ?_
      refine lv_lrem hx hb dd_N_divide_46 (ln0_ hd hd31) ?_
      refine mr_vl (x' := lN (V / 4294967296 ^ k % d)) ((pk_lRem (by omega) hd (by omega)).trans (congrArg lN (dr_step V k))) ?_
      refine lv_lstore_n (lv' := [(2, .long (lN (V / 4294967296 ^ k % d))), (5, .long (lN (V / 4294967296 ^ (k + 1) % d * 4294967296 + dg_ V k))), (0, .ref o), (1, .int (nI d)), (4, .int (nI k))]) hx hb dd_N_divide_47 rfl hl (by decide) rfl (fun ls hl => ?_)
      refine lv_iinc (k := 4) (v := nI k + (-1 : Int32)) (lv' := [(4, .int (nI k + (-1 : Int32))), (2, .long (lN (V / 4294967296 ^ k % d))), (5, .long (lN (V / 4294967296 ^ (k + 1) % d * 4294967296 + dg_ V k))), (0, .ref o), (1, .int (nI d))]) hx hb dd_N_divide_48 hl rfl (rfl) (by decide) rfl (fun ls hl => ?_)
      refine lv_goto (tgt := 11) hx hb dd_N_divide_51 rfl ?_
      exact ih  _ _ _ (by omega) hM hS (lv_sub hl [3, 4, 1, 0] rfl)
  have hM := mr_M (mu_id h_A).symm hM
  have hM := mr_lext (g := nf_ (V / d) V 11) (fun j hj => (nf_b hj).symm) hM
  exact loop_11 11  _ _ _ (Nat.le_refl _) hM hS (by rw [show nI 11 + (-1 : Int32) = nI 10 from by decide, show V / 4294967296 ^ 11 % d = 0 by rw [Nat.div_eq_of_lt hV, Nat.zero_mod]]; exact lv_sub hl [2, 3, 1, 0] rfl)

set_option maxHeartbeats 4000000 in
set_option maxRecDepth 100000 in
theorem c_N_bit (l : Launch) {G : mg_} {M : mw_} {o A V pl : Nat} (h_o : M o = some (ob_ 1 [.ref A])) (h_A : M A = some (la_ G 11 (nl_ V)))  (hp : pl < 352) : dt_ l my_N_bit cd_N_bit 2 (some .boolean) { frames := 0, cells := 0, slots := 0, locals := 0 } G [.ref o, .int (nI pl)] M (some (.int (nI (V / 2 ^ pl % 2)))) (M) 0 0 := by
  refine ct_.intro2 (by decide) (Nat.le_of_ble_eq_true rfl) ?_
  intro p e s m args below meth c ls R Q hR hQ C0 hl hM hS
  have hx := C0.1
  have hb := C0.2.1
  have hl : lv_has ls 2 [(0, .ref o), (1, .int (nI pl))] := hl
  refine lv_aload_n hx hb dd_N_bit_0 rfl (lv_at hl 0 rfl) ?_
  refine mr_get C0 hM fk_N_9 h_o (v := .ref A) rfl dd_N_bit_1 ?_
  refine lv_iload_n hx hb dd_N_bit_4 rfl (lv_at hl 1 rfl) ?_
  refine lv_iconst (v := nI 5) hx hb dd_N_bit_5 (by decide) ?_
  refine lv_iushr (v := nI (pl / 32)) hx hb dd_N_bit_6 (pk_ushrN (by omega) (nI 5) 5 (by decide)) ?_
  refine mr_lald C0 hM h_A ((pl / 32)) (rfl) (by omega) (by decide) dd_N_bit_7 ?_
  refine lv_iload_n hx hb dd_N_bit_8 rfl (lv_at hl 1 rfl) ?_
  refine lv_bipush (v := nI 31) hx hb dd_N_bit_9 (by decide) ?_
  refine lv_iand hx hb dd_N_bit_11 ?_
  refine mr_vi (x' := nI (pl % 32)) (pk_andN (by omega) 5 (by decide)) ?_
  refine lv_lushr (v := lN (dg_ V (pl / 32) / 2 ^ (pl % 32))) hx hb dd_N_bit_12 (wb_shr (Nat.lt_trans (db_lt (by decide)) (by decide)) (by omega)) ?_
  refine lv_lconst (v := lN 1) hx hb dd_N_bit_13 rfl ?_
  refine lv_land hx hb dd_N_bit_14 ?_
  refine mr_vl (x' := lN (V / 2 ^ pl % 2)) ((wb_a1 (Nat.lt_of_le_of_lt (Nat.div_le_self _ _) (Nat.lt_trans (db_lt (by decide)) (by decide)))).trans (congrArg lN (bit_dg V pl))) ?_
  refine lv_lconst (v := lN 0) hx hb dd_N_bit_15 rfl ?_
  refine mr_lif_eq (tgt := 24) hx hb dd_N_bit_16 dd_N_bit_17 rfl (fun h16 => ?_) (fun h16 => ?_)
  · skip
    have hv : V / 2 ^ pl % 2 = 0 := (pk_lEQ (by omega) (by decide)).mp h16
    refine lv_iconst (v := nI 0) hx hb dd_N_bit_24 (by decide) ?_
    exact mr_ret hQ (mr_iret C0 hM hS (rfl) (⟨by rw [hv], rfl⟩) dd_N_bit_25)
  · skip
    have hv : V / 2 ^ pl % 2 = 1 := by
      have h2 : V / 2 ^ pl % 2 ≠ 0 := fun q => h16 (by rw [q])
      omega
    refine lv_iconst (v := nI 1) hx hb dd_N_bit_20 (by decide) ?_
    refine lv_goto (tgt := 25) hx hb dd_N_bit_21 rfl ?_
    exact mr_ret hQ (mr_iret C0 hM hS (rfl) (⟨by rw [hv], rfl⟩) dd_N_bit_25)

set_option maxHeartbeats 4000000 in
set_option maxRecDepth 100000 in
theorem c_N_highestBit (l : Launch) {G : mg_} {M : mw_} {o A V : Nat} (h_o : M o = some (ob_ 1 [.ref A])) (h_A : M A = some (la_ G 11 (nl_ V)))  (hV : V < 2 ^ 352) : dt_ l my_N_highestBit cd_N_highestBit 2 (some .int) { frames := 1, cells := 0, slots := 0, locals := 21 } G [.ref o] M (some (.int (hb_ V))) (M) 0 0 := by
  refine ct_.intro2 (by decide) (Nat.le_of_ble_eq_true rfl) ?_
  intro p e s m args below meth c ls R Q hR hQ C0 hl hM hS
  have hx := C0.1
  have hb := C0.2.1
  have hl : lv_has ls 2 [(0, .ref o)] := hl
  refine lv_sipush (v := nI 351) hx hb dd_N_highestBit_0 (by decide) ?_
  refine lv_istore_n (lv' := [(1, .int (nI 351)), (0, .ref o)]) hx hb dd_N_highestBit_3 rfl hl (by decide) rfl (fun ls hl => ?_)
  have loop_4 : ∀ (k : Nat)  (H : Heap) (locs : List Loc) (ls : Array Slot), k ≤ 352 → V < 2 ^ k → mm_ G (M) H → va_S (fz_ G) s.heap H locs → lv_has ls 2 [(0, .ref o), (1, .int (nI k + (-1 : Int32)))] → W p l e R s m args below meth c H locs 0 0 Q (F0 m 4 ls []) := by
    intro k
    induction k with
    | zero =>
      intro  H locs ls hk hv hM hS hl
      have hl : lv_has ls 2 [(0, .ref o), (1, .int (nI 0 + (-1 : Int32)))] := by exact hl
      refine lv_iload_n hx hb dd_N_highestBit_4 rfl (lv_at hl 1 rfl) ?_
      refine lv_if_lt (tgt := 24) hx hb dd_N_highestBit_5 rfl (fun _ => ?_) (fun hc => absurd (by decide) hc)
      refine lv_iconst (v := (-1 : Int32)) hx hb dd_N_highestBit_24 (by decide) ?_
      exact mr_ret hQ (mr_iret C0 hM hS (rfl) (⟨by rw [show V = 0 by omega]; rfl, rfl⟩) dd_N_highestBit_25)
    | succ k ih =>
      intro  H locs ls hk hv hM hS hl
      have hk10 : k < 352 := by omega
      have hl : lv_has ls 2 [(0, .ref o), (1, .int (nI k))] := by rw [pk_m1] at hl; exact hl
      refine lv_iload_n hx hb dd_N_highestBit_4 rfl (lv_at hl 1 rfl) ?_
      refine lv_if_lt (tgt := 24) hx hb dd_N_highestBit_5 rfl (fun hc => absurd hc (z_nlt (by omega))) (fun _ => ?_)
      refine lv_aload_n hx hb dd_N_highestBit_8 rfl (lv_at hl 0 rfl) ?_
      refine lv_iload_n hx hb dd_N_highestBit_9 rfl (lv_at hl 1 rfl) ?_
      refine mr_callV (As := [.int (nI k)]) (rest := []) C0 hM hS vk_N_21 h_o rfl (c_N_bit l h_o h_A hk10) rfl rfl hl.1 (by decide) rfl rfl (by subst hR; exact ⟨Nat.le_of_ble_eq_true rfl, Nat.le_of_ble_eq_true rfl⟩) (by subst hR; exact ⟨Nat.le_of_ble_eq_true rfl, Nat.le_of_ble_eq_true rfl⟩) dd_N_highestBit_10 (fun v1 M1 H locs hp hM hS => ?_)
      obtain ⟨ev1, eM1⟩ := hp
      subst ev1
      rw [eM1] at hM
      refine W.eq (g2 := F0 m 13 ls [.int (nI (V / 2 ^ k % 2))]) rfl ?_
      refine lv_if_eq (tgt := 18) hx hb dd_N_highestBit_13 rfl (fun h13 => ?_) (fun h13 => ?_)
      · skip
        refine lv_iinc (k := 1) (v := nI k + (-1 : Int32)) (lv' := [(1, .int (nI k + (-1 : Int32))), (0, .ref o)]) hx hb dd_N_highestBit_18 hl rfl (rfl) (by decide) rfl (fun ls hl => ?_)
        refine lv_goto (tgt := 4) hx hb dd_N_highestBit_21 rfl ?_
        exact ih  _ _ _ (by omega) (hb_s hv (by first | exact h13 | exact (nI_eq (by omega) (by decide)).mp h13)) hM hS (lv_sub hl [1, 0] rfl)
      · skip
        refine lv_iload_n hx hb dd_N_highestBit_16 rfl (lv_at hl 1 rfl) ?_
        exact mr_ret hQ (mr_iret C0 hM hS (rfl) (⟨by rw [hb_n hv (fun q => h13 (by rw [q]; rfl))], rfl⟩) dd_N_highestBit_17)
  exact loop_4 352  _ _ _ (Nat.le_refl _) (hV) hM hS (by rw [show nI 352 + (-1 : Int32) = nI 351 from by decide]; exact lv_sub hl [1, 0] rfl)
end
section
/-! numbers under the ring: a product added, a limb dropped, a modulus taken off -/
def ca_ (b T X l j : Nat) : Nat := (T % b ^ j + X % b ^ j * l) / b ^ j
theorem ca_0 (b T X l : Nat) : ca_ b T X l 0 = 0 := by simp [ca_, Nat.mod_one]
theorem ca_step {b : Nat} (hb : 0 < b) (T X l j : Nat) : db_ b T j + db_ b X j * l + ca_ b T X l j = (T % b ^ (j + 1) + X % b ^ (j + 1) * l) / b ^ j := by
  have e : T % b ^ (j + 1) + X % b ^ (j + 1) * l = (T % b ^ j + X % b ^ j * l) + b ^ j * (db_ b T j + db_ b X j * l) := by
    rw [db_split, db_split, Nat.add_mul, Nat.mul_add, Nat.mul_assoc]
    omega
  rw [e, Nat.add_mul_div_left _ _ (Nat.pow_pos hb), ca_]
  omega
theorem ca_dig (b T X l j : Nat) : (T % b ^ (j + 1) + X % b ^ (j + 1) * l) / b ^ j % b = db_ b (T + X * l) j := by
  have h : (T % b ^ (j + 1) + X % b ^ (j + 1) * l) / b ^ j % b = db_ b (T % b ^ (j + 1) + X % b ^ (j + 1) * l) j := rfl
  rw [h, db_mod, db_mod b (T + X * l), Nat.add_mod, Nat.mod_mod, Nat.mod_mul_mod, ← Nat.add_mod]
theorem ca_next (b T X l j : Nat) : (T % b ^ (j + 1) + X % b ^ (j + 1) * l) / b ^ j / b = ca_ b T X l (j + 1) := by
  rw [ca_, Nat.div_div_eq_div_mul, ← Nat.pow_succ]
theorem ca_le {b : Nat} (hb : 0 < b) (T X l j : Nat) : ca_ b T X l j ≤ l := by
  rw [ca_]
  have hp : 0 < b ^ j := Nat.pow_pos hb
  apply Nat.le_of_lt_succ
  rw [Nat.div_lt_iff_lt_mul hp]
  have h1 : T % b ^ j < b ^ j := Nat.mod_lt _ hp
  have h2 : X % b ^ j * l ≤ b ^ j * l := Nat.mul_le_mul_right l (Nat.le_of_lt (Nat.mod_lt _ hp))
  rw [Nat.succ_mul, Nat.mul_comm l]
  omega
theorem ca_top {b T X l n : Nat} (hb : 0 < b) (hX : X < b ^ n) (hT : T < b ^ (n + 1)) : db_ b T n + ca_ b T X l n = (T + X * l) / b ^ n := by
  have hp : 0 < b ^ n := Nat.pow_pos hb
  have e : T + X * l = (T % b ^ n + X * l) + b ^ n * (T / b ^ n) := by
    have := Nat.mod_add_div T (b ^ n)
    omega
  have h2 : db_ b T n = T / b ^ n := by
    rw [db_]
    apply Nat.mod_eq_of_lt
    rw [Nat.div_lt_iff_lt_mul hp, Nat.mul_comm, ← Nat.pow_succ]
    exact hT
  rw [e, Nat.add_mul_div_left _ _ hp, ca_, h2, Nat.mod_eq_of_lt hX]
  omega
theorem db_div (b W j : Nat) : db_ b (W / b) j = db_ b W (j + 1) := by
  rw [db_, db_, Nat.div_div_eq_div_mul, ← Nat.pow_succ']
theorem db_last {b W n : Nat} (hb : 0 < b) (h : W < b ^ (n + 1)) : db_ b W n = W / b ^ n := by
  rw [db_]
  apply Nat.mod_eq_of_lt
  rw [Nat.div_lt_iff_lt_mul (Nat.pow_pos hb), Nat.mul_comm, ← Nat.pow_succ]
  exact h
/-- carries with a constant -/
def ce_ (b A V x i : Nat) : Nat := (A + V % b ^ i * x) / b ^ i
theorem ce_0 (b A V x : Nat) : ce_ b A V x 0 = A := by simp [ce_, Nat.mod_one]
theorem ce_step {b : Nat} (hb : 0 < b) (A V x i : Nat) : db_ b V i * x + ce_ b A V x i = (A + V % b ^ (i + 1) * x) / b ^ i := by
  have e : A + V % b ^ (i + 1) * x = (A + V % b ^ i * x) + b ^ i * (db_ b V i * x) := by
    rw [db_split, Nat.add_mul, Nat.mul_assoc]; omega
  rw [e, Nat.add_mul_div_left _ _ (Nat.pow_pos hb), ce_, Nat.add_comm]
theorem ce_dig (b A V x i : Nat) : (A + V % b ^ (i + 1) * x) / b ^ i % b = db_ b (A + V * x) i := by
  have h : (A + V % b ^ (i + 1) * x) / b ^ i % b = db_ b (A + V % b ^ (i + 1) * x) i := rfl
  rw [h, db_mod, db_mod b (A + V * x), Nat.add_mod, Nat.mod_mul_mod, ← Nat.add_mod]
theorem ce_next (b A V x i : Nat) : (A + V % b ^ (i + 1) * x) / b ^ i / b = ce_ b A V x (i + 1) := by
  rw [ce_, Nat.div_div_eq_div_mul, ← Nat.pow_succ]
theorem ce_le {b : Nat} (hb : 0 < b) {A : Nat} (V x i : Nat) : ce_ b A V x i ≤ A + x := by
  rw [ce_]
  have hp : 0 < b ^ i := Nat.pow_pos hb
  apply Nat.div_le_of_le_mul
  have h2 : V % b ^ i * x ≤ b ^ i * x := Nat.mul_le_mul_right x (Nat.le_of_lt (Nat.mod_lt _ hp))
  have h3 : A ≤ b ^ i * A := Nat.le_mul_of_pos_left A hp
  rw [Nat.mul_add]
  omega
/-- the borrow before limb j -/
def bo_ (b T N j : Nat) : Nat := if T % b ^ j < N % b ^ j then 1 else 0
theorem bo_0 (b T N : Nat) : bo_ b T N 0 = 0 := by simp [bo_, Nat.mod_one]
theorem bo_le (b T N j : Nat) : bo_ b T N j ≤ 1 := by rw [bo_]; split <;> omega
theorem bo_s {b : Nat} (hb : 0 < b) (T N j : Nat) : bo_ b T N (j + 1) = if db_ b T j < db_ b N j + bo_ b T N j then 1 else 0 := by
  have hp : 0 < b ^ j := Nat.pow_pos hb
  have h1 : T % b ^ j < b ^ j := Nat.mod_lt _ hp
  have h2 : N % b ^ j < b ^ j := Nat.mod_lt _ hp
  rw [bo_, bo_, db_split, db_split]
  generalize T % b ^ j = t at *
  generalize N % b ^ j = n at *
  generalize db_ b T j = x
  generalize db_ b N j = y
  generalize b ^ j = P at *
  congr 1
  apply propext
  rcases Nat.lt_trichotomy x y with h | h | h
  · have h3 : P * (x + 1) ≤ P * y := Nat.mul_le_mul_left P h
    rw [Nat.mul_add, Nat.mul_one] at h3
    constructor
    · intro _; split <;> omega
    · intro _; omega
  · subst h
    constructor
    · intro h; rw [if_pos (by omega)]; omega
    · intro h
      by_cases h4 : t < n
      · omega
      · rw [if_neg h4] at h; omega
  · have h3 : P * (y + 1) ≤ P * x := Nat.mul_le_mul_left P h
    rw [Nat.mul_add, Nat.mul_one] at h3
    constructor
    · intro _; omega
    · intro h4; split at h4 <;> omega
theorem bo_dig {b T N n j : Nat} (hb : 0 < b) (hN : N < b ^ n) (hj : j < n) : (db_ b T j + b - db_ b N j - bo_ b T N j) % b = db_ b (T % b ^ n + b ^ n - N) j := by
  have hp : 0 < b ^ j := Nat.pow_pos hb
  have h1 : T % b ^ j < b ^ j := Nat.mod_lt _ hp
  have h2 : N % b ^ j < b ^ j := Nat.mod_lt _ hp
  have hx : db_ b T j < b := db_lt hb
  have hy : db_ b N j < b := db_lt hb
  obtain ⟨c, hc⟩ : ∃ c, b ^ n = b ^ (j + 1) * c := ⟨b ^ (n - (j + 1)), by rw [← Nat.pow_add]; congr 1; omega⟩
  have hcp : 0 < c := by
    rcases Nat.eq_zero_or_pos c with h | h
    · rw [h, Nat.mul_zero] at hc; have := Nat.pow_pos (n := n) hb; omega
    · exact h
  have e1 : (T % b ^ n + b ^ n - N) % b ^ (j + 1) = (T % b ^ (j + 1) + b ^ (j + 1) - N % b ^ (j + 1)) % b ^ (j + 1) := by
    have hT : T % b ^ n % b ^ (j + 1) = T % b ^ (j + 1) := by rw [hc, Nat.mod_mul_right_mod]
    generalize T % b ^ n = T' at *
    rw [← hT]
    have hP1 : 0 < b ^ (j + 1) := Nat.pow_pos hb
    generalize b ^ (j + 1) = P1 at *
    rw [hc] at hN ⊢
    have a1 := Nat.div_add_mod T' P1
    have a2 := Nat.div_add_mod N P1
    have a3 : N / P1 < c := by rw [Nat.div_lt_iff_lt_mul hP1, Nat.mul_comm]; exact hN
    have a4 : N % P1 < P1 := Nat.mod_lt _ hP1
    have a5 : P1 * (N / P1 + 1) ≤ P1 * c := Nat.mul_le_mul_left P1 a3
    rw [Nat.mul_add, Nat.mul_one] at a5
    obtain ⟨d, hd⟩ : ∃ d, P1 * c = P1 * (N / P1) + P1 + d * P1 := by
      refine ⟨c - (N / P1 + 1), ?_⟩
      have : c = N / P1 + 1 + (c - (N / P1 + 1)) := by omega
      conv => lhs; rw [this]
      rw [Nat.mul_add, Nat.mul_add, Nat.mul_one, Nat.mul_comm P1 (c - _)]
    have a6 : T' + P1 * c - N = (T' % P1 + P1 - N % P1) + P1 * (T' / P1 + d) := by
      rw [Nat.mul_add, Nat.mul_comm P1 d]
      omega
    rw [a6, Nat.add_mul_mod_self_left]
  rw [db_mod b (T % b ^ n + b ^ n - N), e1, db_split b T j, db_split b N j, Nat.pow_succ]
  have hbo : bo_ b T N j = if T % b ^ j < N % b ^ j then 1 else 0 := rfl
  generalize T % b ^ j = t at *
  generalize N % b ^ j = m at *
  generalize db_ b T j = x at *
  generalize db_ b N j = y at *
  generalize hP : b ^ j = P at *
  have e2 : t + P * x + P * b - (m + P * y) = (t + P * bo_ b T N j - m) + P * (x + b - y - bo_ b T N j) := by
    rw [hbo]
    have b1 : P * (x + b - y - if t < m then 1 else 0) = P * x + P * b - P * y - P * (if t < m then 1 else 0) := by
      rw [Nat.mul_sub, Nat.mul_sub, Nat.mul_add]
    have b2 : P * (y + 1) ≤ P * b := Nat.mul_le_mul_left P hy
    rw [Nat.mul_add, Nat.mul_one] at b2
    rw [b1]
    split <;> omega
  rw [e2, Nat.mod_mul_right_div_self, Nat.add_mul_div_left _ _ hp]
  have e3 : (t + P * bo_ b T N j - m) / P = 0 := by
    apply Nat.div_eq_of_lt
    rw [hbo]
    split <;> omega
  rw [e3, Nat.zero_add]
theorem red_val {T N P : Nat} (hN : N < P) (hT : T < 2 * N) : (if T / P < (if T % P < N then 1 else 0) then T else (T % P + P - N) % P) = T % N := by
  have h1 := Nat.div_add_mod T P
  have h4 : T % P < P := Nat.mod_lt _ (by omega)
  have h3 : T / P < 2 := by rw [Nat.div_lt_iff_lt_mul (by omega)]; omega
  have key : T % N = if T < N then T else T - N := by
    split
    · exact Nat.mod_eq_of_lt (by assumption)
    · rw [Nat.mod_eq_sub_mod (by omega), Nat.mod_eq_of_lt (by omega)]
  rw [key]
  rcases Nat.lt_or_ge (T / P) 1 with h | h
  · have h0 : T / P = 0 := Nat.lt_one_iff.mp h
    rw [h0, Nat.mul_zero, Nat.zero_add] at h1
    rw [h0, h1]
    by_cases h5 : T < N
    · simp [h5]
    · simp only [h5, if_false, Nat.lt_irrefl]
      rw [show T + P - N = (T - N) + P by omega, Nat.add_mod_right, Nat.mod_eq_of_lt (by omega)]
  · have h0 : T / P = 1 := Nat.le_antisymm (Nat.le_of_lt_succ h3) h
    rw [h0, Nat.mul_one] at h1
    rw [h0, if_neg (by split <;> omega), if_neg (by omega), Nat.mod_eq_of_lt (by omega)]
    omega

theorem lsb_ {a b c : Nat} (ha : a < 4294967296) (hb : b < 4294967296) (hc : c ≤ 1) : lN a - lN b - lN c = lN (a + 18446744073709551616 - b - c) := by
  have e : lN a = lN (a + 18446744073709551616) := by
    rw [wb_mod (a + 18446744073709551616), wb_mod a, show (a + 18446744073709551616) % 2 ^ 64 = a % 2 ^ 64 by omega]
  rw [e, lN_sub (by omega), lN_sub (by omega)]
theorem lsb_m {a b c : Nat} (ha : a < 4294967296) (hb : b < 4294967296) (hc : c ≤ 1) : (lN a - lN b - lN c) &&& lN 4294967295 = lN ((a + 4294967296 - b - c) % 4294967296) := by
  rw [lsb_ ha hb hc, wb_mod, lm_ (by omega)]
  congr 1
  omega
theorem lsb_s {a b c : Nat} (ha : a < 4294967296) (hb : b < 4294967296) (hc : c ≤ 1) : lus_ (lN a - lN b - lN c) (nI 63) = lN (if a < b + c then 1 else 0) := by
  rw [lsb_ ha hb hc, wb_mod]
  refine (wb_shr (k := 63) (by omega) (by decide)).trans (congrArg lN ?_)
  split <;> omega
/-- Montgomery's step -/
theorem mg_step {b T X l N m i : Nat} (hb : 0 < b) (hd : (T + X * l + N * m) % b = 0) {Y : Nat} (hl : l = db_ b Y i) (h : T * b ^ i % N = X * (Y % b ^ i) % N) : (T + X * l + N * m) / b * b ^ (i + 1) % N = X * (Y % b ^ (i + 1)) % N := by
  have e1 : (T + X * l + N * m) / b * b ^ (i + 1) = (T + X * l + N * m) * b ^ i := by
    rw [Nat.pow_succ', ← Nat.mul_assoc, Nat.div_mul_cancel (Nat.dvd_of_mod_eq_zero hd)]
  have e2 : (T + X * l + N * m) * b ^ i = (T * b ^ i + X * (b ^ i * l)) + N * (m * b ^ i) := by
    rw [Nat.add_mul, Nat.add_mul, Nat.mul_assoc, Nat.mul_assoc, Nat.mul_comm l]
  rw [e1, e2, Nat.add_mul_mod_self_left, Nat.add_mod, h, ← Nat.add_mod, db_split, Nat.mul_add, hl]
theorem mg_lt {b T X l N m : Nat} (hb : 0 < b) (hT : T < 2 * N) (hX : X < N) (hl : l < b) (hm : m < b) : (T + X * l + N * m) / b < 2 * N := by
  rw [Nat.div_lt_iff_lt_mul hb]
  obtain ⟨x, rfl⟩ : ∃ x, N = X + 1 + x := ⟨N - X - 1, by omega⟩
  obtain ⟨u, rfl⟩ : ∃ u, b = l + 1 + u := ⟨b - l - 1, by omega⟩
  obtain ⟨w, hw⟩ : ∃ w, l + 1 + u = m + 1 + w := ⟨l + 1 + u - m - 1, by omega⟩
  have h1 : X * l + X + X * u = X * (l + 1 + u) := by simp only [Nat.mul_add, Nat.mul_one]
  have h2 : (X + 1 + x) * m + (X + 1 + x) + (X + 1 + x) * w = (X + 1 + x) * (l + 1 + u) := by rw [hw]; simp only [Nat.mul_add, Nat.mul_one]
  have h3 : X * (l + 1 + u) + (l + 1 + u) + x * (l + 1 + u) = (X + 1 + x) * (l + 1 + u) := by rw [Nat.add_mul, Nat.add_mul, Nat.one_mul]
  have h4 : x ≤ x * (l + 1 + u) := Nat.le_mul_of_pos_right x (by omega)
  rw [Nat.mul_assoc]
  omega
theorem mg_zero {b t n' N : Nat} (h : (n' * N + 1) % b = 0) : (t + N * (t % b * n' % b)) % b = 0 := by
  have e : (t + N * (t % b * n' % b)) % b = (t * (n' * N + 1)) % b := by
    rw [Nat.add_mod, Nat.mul_mod_mod, Nat.mul_comm N, Nat.mul_assoc, Nat.mod_mul_mod, ← Nat.add_mod]
    congr 1
    rw [Nat.mul_add, Nat.mul_one, Nat.add_comm]
  rw [e, Nat.mul_mod, h, Nat.mul_zero, Nat.zero_mod]
/-- what is left of a product behind Montgomery's division -/
theorem mg_end {T X Y N P Bi : Nat} (hBi : P * Bi % N = 1 % N) (h : T * P % N = X * Y % N) : T % N = X * Y * Bi % N := by
  have e : T * P * Bi % N = X * Y * Bi % N := by rw [Nat.mul_mod, h, ← Nat.mul_mod]
  rw [← e, Nat.mul_assoc, Nat.mul_mod, hBi, ← Nat.mul_mod, Nat.mul_one]
/-- limbs of W / 2^32 below j, of T from there on -/
def ds_ (T W j : Nat) : Nat → Int64 := fun i => if i + 1 < j then lN (dg_ W (i + 1)) else lN (dg_ T i)
theorem ds_1 (T W : Nat) : nl_ T = ds_ T W 1 := by funext i; simp [nl_, ds_]
theorem ds_s {T W j : Nat} (h : 0 < j) : vp_updL (ds_ T W j) (j - 1) (lN (dg_ W j)) = ds_ T W (j + 1) := by
  funext i
  by_cases h1 : i = j - 1
  · subst h1
    simp [vp_updL, ds_, show j - 1 + 1 = j by omega]
  · by_cases h2 : i + 1 < j
    · simp [vp_updL, ds_, h1, h2, show i + 1 < j + 1 by omega]
    · simp [vp_updL, ds_, h1, h2, show ¬ i < j by omega]
theorem ds_at {T W j : Nat} : ds_ T W j j = lN (dg_ T j) := if_neg (by omega)
theorem ds_b {T W j i : Nat} (h : i + 1 < j) : ds_ T W j i = lN (dg_ W (i + 1)) := if_pos h
theorem ds_a {T W j i : Nat} (h : ¬ i + 1 < j) : ds_ T W j i = lN (dg_ T i) := if_neg h
/-- limbs of W below i, else as before -/
def nu_ (f : Nat → Int64) (W i : Nat) : Nat → Int64 := fun j => if j < i then lN (dg_ W j) else f j
theorem nu_0 (f : Nat → Int64) (W : Nat) : f = nu_ f W 0 := by funext j; simp [nu_]
theorem nu_s (f : Nat → Int64) (W i : Nat) : vp_updL (nu_ f W i) i (lN (dg_ W i)) = nu_ f W (i + 1) := by
  funext j
  by_cases h : j = i
  · subst h; simp [vp_updL, nu_]
  · by_cases h2 : j < i
    · simp [vp_updL, nu_, h, h2, Nat.lt_succ_of_lt h2]
    · simp [vp_updL, nu_, h, h2, show ¬ j < i + 1 by omega]
theorem nu_at (f : Nat → Int64) (W i : Nat) : nu_ f W i i = f i := by simp [nu_]
theorem nu_b {f : Nat → Int64} {W i j : Nat} (h : j < i) : nu_ f W i j = lN (dg_ W j) := if_pos h
theorem nu_a {f : Nat → Int64} {W i j : Nat} (h : ¬ j < i) : nu_ f W i j = f j := if_neg h
end
section

theorem lN_bv (n : Nat) : (lN n).toBitVec = BitVec.ofNat 64 n := rfl
theorem lN_nat {n : Nat} (h : n < 2 ^ 64) : (lN n).toBitVec.toNat = n := by rw [lN_bv, BitVec.toNat_ofNat]; exact Nat.mod_eq_of_lt h
theorem lN_ti {m : Nat} (h : m < 2 ^ 64) : (lN m).toInt = if m < 2 ^ 63 then (m : Int) else (m : Int) - 2 ^ 64 := by
  have c := BitVec.toInt_eq_toNat_cond (lN m).toBitVec
  rw [lN_nat h] at c
  show (lN m).toBitVec.toInt = _
  rw [c]
  split <;> split <;> omega
theorem ub_t {a : Nat} (ha : a < 18446744073709551616) : (lN a + (-9223372036854775808 : Int64)).toInt = (a : Int) - 9223372036854775808 := by
  have e : lN a + (-9223372036854775808 : Int64) = lN ((a + 9223372036854775808) % 18446744073709551616) := by
    rw [show (-9223372036854775808 : Int64) = lN 9223372036854775808 from by decide, lN_add, wb_mod]
  rw [e, lN_ti (by omega)]
  split <;> omega
theorem ub_ {a b : Nat} (ha : a < 18446744073709551616) (hb : b < 18446744073709551616) : (lN b + (-9223372036854775808 : Int64) ≤ lN a + (-9223372036854775808 : Int64)) ↔ b ≤ a := by
  rw [Int64.le_iff_toInt_le, ub_t ha, ub_t hb]
  omega
theorem ubl_ {a b : Nat} (ha : a < 18446744073709551616) (hb : b < 18446744073709551616) : (lN b + (-9223372036854775808 : Int64) < lN a + (-9223372036854775808 : Int64)) ↔ b < a := by
  rw [Int64.lt_iff_toInt_lt, ub_t ha, ub_t hb]
  omega
theorem lE_ {a b : Nat} (ha : a < 18446744073709551616) (hb : b < 18446744073709551616) : lN a = lN b ↔ a = b := by
  constructor
  · intro h
    have h2 := congrArg (fun z => z.toBitVec.toNat) h
    simp only [lN_nat ha, lN_nat hb] at h2
    exact h2
  · intro h; rw [h]
theorem up4_ {f g : Nat → Int64} {a0 a1 a2 a3 : Int64} (h0 : a0 = g 0) (h1 : a1 = g 1) (h2 : a2 = g 2) (h3 : a3 = g 3) : ∀ j, j < 4 → vp_updL (vp_updL (vp_updL (vp_updL f 0 a0) 1 a1) 2 a2) 3 a3 j = g j := by
  intro j hj
  rcases (show j = 0 ∨ j = 1 ∨ j = 2 ∨ j = 3 by omega) with rfl | rfl | rfl | rfl <;> simp [vp_updL, h0, h1, h2, h3]
theorem dg_0 (V : Nat) : dg_ V 0 = V % 4294967296 := by show V / 4294967296 ^ 0 % 4294967296 = _; rw [Nat.pow_zero, Nat.div_one]
theorem dg_1 (V : Nat) : dg_ V 1 = V / 4294967296 % 4294967296 := by show V / 4294967296 ^ 1 % 4294967296 = _; rw [Nat.pow_one]
theorem dg_2 (V : Nat) : dg_ V 2 = V / 18446744073709551616 % 4294967296 := rfl
theorem dg_3 (V : Nat) : dg_ V 3 = V / 79228162514264337593543950336 % 4294967296 := rfl
theorem hl_lt {a c : Nat} (ha : a < 4294967296) (hc : c < 4294967296) : a * 4294967296 + c < 18446744073709551616 := by omega
theorem w_hi {X : Nat} (h : X < 340282366920938463463374607431768211456) : dg_ X 3 * 4294967296 + dg_ X 2 = X / 18446744073709551616 := by rw [dg_3, dg_2]; omega
theorem w_lo (X : Nat) : dg_ X 1 * 4294967296 + dg_ X 0 = X % 18446744073709551616 := by rw [dg_1, dg_0]; omega
def rw_ (X : Nat) (b : Int32) : Int64 := if b = 0 then lN (X % 18446744073709551616) else lN (X / 18446744073709551616)
theorem eq_mod {X Y : Nat} : ∀ n, (∀ j, j < n → dg_ X j = dg_ Y j) → X % 4294967296 ^ n = Y % 4294967296 ^ n
  | 0, _ => by simp [Nat.mod_one]
  | n + 1, h => by
    have h1 : db_ 4294967296 X n = db_ 4294967296 Y n := h n (by omega)
    rw [db_split, db_split, eq_mod n (fun j hj => h j (by omega)), h1]
theorem eq4_ {X Y : Nat} (hX : X < 4294967296 ^ 4) (hY : Y < 4294967296 ^ 4) (h : ∀ j, j < 4 → dg_ X j = dg_ Y j) : X = Y := by
  have := eq_mod 4 h
  rwa [Nat.mod_eq_of_lt hX, Nat.mod_eq_of_lt hY] at this
theorem dgl {V j : Nat} : dg_ V j < 18446744073709551616 := Nat.lt_trans (db_lt (by decide)) (by decide)
def acc_ (V : Nat) : Prop := V % 2 = 1 ∧ 1267650600228229401496703205376 ≤ V ∧ V % 3 ≠ 0
theorem ap_lt {T X l : Nat} (hT : T < 4294967296 ^ 5) (hX : X < 4294967296 ^ 4) (hl : l < 4294967296) : T + X * l < 4294967296 ^ 6 := by
  have h : X * l ≤ 4294967296 ^ 4 * 4294967296 := Nat.mul_le_mul (Nat.le_of_lt hX) (Nat.le_of_lt hl)
  have h2 : (4294967296 : Nat) ^ 4 * 4294967296 = 4294967296 ^ 5 := rfl
  have h3 : (4294967296 : Nat) ^ 5 + 4294967296 ^ 5 ≤ 4294967296 ^ 6 := by decide
  omega
def mq_ (T n1 : Nat) : Nat := T % 4294967296 * n1 % 4294967296
theorem mq_lt {T n1 : Nat} : mq_ T n1 < 4294967296 := Nat.mod_lt _ (by decide)
theorem w64 {W : Nat} (h : W < 4294967296 ^ 6) : W / 4294967296 ^ 4 < 18446744073709551616 := by
  rw [Nat.div_lt_iff_lt_mul (Nat.pow_pos (by decide))]
  exact h
theorem s3_lt {a b l c : Nat} (ha : a < 4294967296) (hb : b < 4294967296) (hl : l < 4294967296) (hc : c ≤ l) : a + b * l + c < 18446744073709551616 := by
  have h : b * l ≤ 4294967295 * 4294967295 := Nat.mul_le_mul (by omega) (by omega)
  omega
theorem dg_mod {V j n : Nat} (h : j < n) : dg_ (V % 4294967296 ^ n) j = dg_ V j := by
  show V % 4294967296 ^ n / 4294967296 ^ j % 4294967296 = V / 4294967296 ^ j % 4294967296
  obtain ⟨c, hc⟩ : ∃ c, 4294967296 ^ n = 4294967296 ^ j * (4294967296 * c) := ⟨4294967296 ^ (n - (j + 1)), by rw [← Nat.mul_assoc, ← Nat.pow_succ, ← Nat.pow_add]; congr 1; omega⟩
  rw [hc, Nat.mod_mul_right_div_self, Nat.mod_mul_right_mod]

def acn_ (V : Nat) : Int32 := if V % 2 = 1 ∧ 1267650600228229401496703205376 ≤ V ∧ V % 3 ≠ 0 then nI 1 else nI 0
theorem acn_y {V : Nat} (h : acc_ V) : acn_ V = nI 1 := if_pos h
theorem acn_n {V : Nat} (h : ¬ acc_ V) : acn_ V = nI 0 := if_neg h

set_option maxHeartbeats 4000000 in
set_option maxRecDepth 100000 in
theorem c_R_isBelow (l : Launch) {G : mg_} {M : mw_} {a b : Nat}   (ha : a < 18446744073709551616) (hb0 : b < 18446744073709551616) : dt_ l my_R_isBelow cd_R_isBelow 4 (some .boolean) { frames := 0, cells := 0, slots := 0, locals := 0 } G [.long (lN a), .long (lN b)] M (some (.int (nI (if a < b then 1 else 0)))) (M) 0 0 := by
  refine ct_.intro2 (by decide) (Nat.le_of_ble_eq_true rfl) ?_
  intro p e s m args below meth c ls R Q hR hQ C0 hl hM hS
  have hx := C0.1
  have hb := C0.2.1
  have hl : lv_has ls 4 [(0, .long (lN a)), (2, .long (lN b))] := hl
  refine lv_lload_n hx hb dd_R_isBelow_0 rfl (lv_at hl 0 rfl) ?_
  refine mr_ldc2 (v := (-9223372036854775808 : Int64)) C0 tw_384 dd_R_isBelow_1 ?_
  refine lv_ladd hx hb dd_R_isBelow_4 ?_
  refine lv_lload_n hx hb dd_R_isBelow_5 rfl (lv_at hl 1 rfl) ?_
  refine mr_ldc2 (v := (-9223372036854775808 : Int64)) C0 tw_384 dd_R_isBelow_6 ?_
  refine lv_ladd hx hb dd_R_isBelow_9 ?_
  refine mr_lif_ge (tgt := 18) hx hb dd_R_isBelow_10 dd_R_isBelow_11 rfl (fun h10 => ?_) (fun h10 => ?_)
  · skip
    have hv : ¬ a < b := Nat.not_lt.mpr ((ub_ ha hb0).mp h10)
    refine lv_iconst (v := nI 0) hx hb dd_R_isBelow_18 (by decide) ?_
    exact mr_ret hQ (mr_iret C0 hM hS (rfl) (⟨by simp [hv], rfl⟩) dd_R_isBelow_19)
  · skip
    have hv : a < b := Nat.lt_of_not_le (fun q => h10 ((ub_ ha hb0).mpr q))
    refine lv_iconst (v := nI 1) hx hb dd_R_isBelow_14 (by decide) ?_
    refine lv_goto (tgt := 19) hx hb dd_R_isBelow_15 rfl ?_
    exact mr_ret hQ (mr_iret C0 hM hS (rfl) (⟨by simp [hv], rfl⟩) dd_R_isBelow_19)

set_option maxHeartbeats 4000000 in
set_option maxRecDepth 100000 in
theorem c_R_split (l : Launch) {G : mg_} {M : mw_} {U L out : Nat} {f : Nat → Int64} (h_out : M out = some (la_ G 4 f))  (hU : U < 18446744073709551616) (hL : L < 18446744073709551616) : dt_ l my_R_split cd_R_split 5 none { frames := 0, cells := 0, slots := 0, locals := 0 } G [.long (lN U), .long (lN L), .ref out] M none (mu_ M out (la_ G 4 (nl_ (U * 18446744073709551616 + L)))) 0 0 := by
  refine ct_.intro2 (by decide) (Nat.le_of_ble_eq_true rfl) ?_
  intro p e s m args below meth c ls R Q hR hQ C0 hl hM hS
  have hx := C0.1
  have hb := C0.2.1
  have hl : lv_has ls 5 [(0, .long (lN U)), (2, .long (lN L)), (4, .ref out)] := hl
  refine lv_aload hx hb dd_R_split_0 (lv_at hl 2 rfl) ?_
  refine lv_iconst (v := nI 0) hx hb dd_R_split_2 (by decide) ?_
  refine lv_lload_n hx hb dd_R_split_3 rfl (lv_at hl 1 rfl) ?_
  refine mr_ldc2 (v := lN 4294967295) C0 tw_163 dd_R_split_4 ?_
  refine lv_land hx hb dd_R_split_7 ?_
  refine mr_vl (x' := lN (L % 4294967296)) (lm_ hL) ?_
  refine mr_last C0 hM hS h_out (0) (rfl) (by omega) (by decide) dd_R_split_8 (fun H locs hM hS => ?_)
  refine lv_aload hx hb dd_R_split_9 (lv_at hl 2 rfl) ?_
  refine lv_iconst (v := nI 1) hx hb dd_R_split_11 (by decide) ?_
  refine lv_lload_n hx hb dd_R_split_12 rfl (lv_at hl 1 rfl) ?_
  refine lv_bipush (v := nI 32) hx hb dd_R_split_13 (by decide) ?_
  refine lv_lushr (v := lN (L / 4294967296)) hx hb dd_R_split_15 (lh_ hL) ?_
  refine mr_last C0 hM hS mu_s (1) (rfl) (by omega) (by decide) dd_R_split_16 (fun H locs hM hS => ?_)
  have hM := mr_M mu_mu hM
  refine lv_aload hx hb dd_R_split_17 (lv_at hl 2 rfl) ?_
  refine lv_iconst (v := nI 2) hx hb dd_R_split_19 (by decide) ?_
  refine lv_lload_n hx hb dd_R_split_20 rfl (lv_at hl 0 rfl) ?_
  refine mr_ldc2 (v := lN 4294967295) C0 tw_163 dd_R_split_21 ?_
  refine lv_land hx hb dd_R_split_24 ?_
  refine mr_vl (x' := lN (U % 4294967296)) (lm_ hU) ?_
  refine mr_last C0 hM hS mu_s (2) (rfl) (by omega) (by decide) dd_R_split_25 (fun H locs hM hS => ?_)
  have hM := mr_M mu_mu hM
  refine lv_aload hx hb dd_R_split_26 (lv_at hl 2 rfl) ?_
  refine lv_iconst (v := nI 3) hx hb dd_R_split_28 (by decide) ?_
  refine lv_lload_n hx hb dd_R_split_29 rfl (lv_at hl 0 rfl) ?_
  refine lv_bipush (v := nI 32) hx hb dd_R_split_30 (by decide) ?_
  refine lv_lushr (v := lN (U / 4294967296)) hx hb dd_R_split_32 (lh_ hU) ?_
  refine mr_last C0 hM hS mu_s (3) (rfl) (by omega) (by decide) dd_R_split_33 (fun H locs hM hS => ?_)
  have hM := mr_M mu_mu hM
  have hM := mr_lext (g := nl_ (U * 18446744073709551616 + L)) (up4_ (congrArg lN (by rw [dg_0]; omega)) (congrArg lN (by rw [dg_1]; omega)) (congrArg lN (by rw [dg_2]; omega)) (congrArg lN (by rw [dg_3]; omega))) hM
  exact mr_ret hQ (mr_vret C0 hM hS (⟨rfl, rfl⟩) dd_R_split_34)

set_option maxHeartbeats 4000000 in
set_option maxRecDepth 100000 in
theorem c_R_word (l : Launch) {G : mg_} {M : mw_} {x X : Nat} {b : Int32} (h_x : M x = some (la_ G 4 (nl_ X)))  (hX : X < 4294967296 ^ 4) : dt_ l my_R_word cd_R_word 2 (some .long) { frames := 0, cells := 0, slots := 0, locals := 0 } G [.ref x, .int b] M (some (.long (rw_ X b))) (M) 0 0 := by
  refine ct_.intro2 (by decide) (Nat.le_of_ble_eq_true rfl) ?_
  intro p e s m args below meth c ls R Q hR hQ C0 hl hM hS
  have hx := C0.1
  have hb := C0.2.1
  have hl : lv_has ls 2 [(0, .ref x), (1, .int b)] := hl
  refine lv_iload_n hx hb dd_R_word_0 rfl (lv_at hl 1 rfl) ?_
  refine lv_if_eq (tgt := 17) hx hb dd_R_word_1 rfl (fun h1 => ?_) (fun h1 => ?_)
  · skip
    refine lv_aload_n hx hb dd_R_word_17 rfl (lv_at hl 0 rfl) ?_
    refine lv_iconst (v := nI 1) hx hb dd_R_word_18 (by decide) ?_
    refine mr_lald C0 hM h_x (1) (rfl) (by omega) (by decide) dd_R_word_19 ?_
    refine lv_bipush (v := nI 32) hx hb dd_R_word_20 (by decide) ?_
    refine lv_lshl (v := lN (dg_ X 1 * 4294967296)) hx hb dd_R_word_22 (wb_shl _ (by decide)) ?_
    refine lv_aload_n hx hb dd_R_word_23 rfl (lv_at hl 0 rfl) ?_
    refine lv_iconst (v := nI 0) hx hb dd_R_word_24 (by decide) ?_
    refine mr_lald C0 hM h_x (0) (rfl) (by omega) (by decide) dd_R_word_25 ?_
    refine lv_lor hx hb dd_R_word_26 ?_
    refine mr_vl (x' := lN (X % 18446744073709551616)) ((g_or (k := 32) rfl (db_lt (by decide)) (hl_lt (db_lt (by decide)) (db_lt (by decide)))).trans (congrArg lN (w_lo X))) ?_
    exact mr_ret hQ (mr_lret C0 hM hS (⟨by simp [rw_, h1], rfl⟩) dd_R_word_27)
  · skip
    refine lv_aload_n hx hb dd_R_word_4 rfl (lv_at hl 0 rfl) ?_
    refine lv_iconst (v := nI 3) hx hb dd_R_word_5 (by decide) ?_
    refine mr_lald C0 hM h_x (3) (rfl) (by omega) (by decide) dd_R_word_6 ?_
    refine lv_bipush (v := nI 32) hx hb dd_R_word_7 (by decide) ?_
    refine lv_lshl (v := lN (dg_ X 3 * 4294967296)) hx hb dd_R_word_9 (wb_shl _ (by decide)) ?_
    refine lv_aload_n hx hb dd_R_word_10 rfl (lv_at hl 0 rfl) ?_
    refine lv_iconst (v := nI 2) hx hb dd_R_word_11 (by decide) ?_
    refine mr_lald C0 hM h_x (2) (rfl) (by omega) (by decide) dd_R_word_12 ?_
    refine lv_lor hx hb dd_R_word_13 ?_
    refine mr_vl (x' := lN (X / 18446744073709551616)) ((g_or (k := 32) rfl (db_lt (by decide)) (hl_lt (db_lt (by decide)) (db_lt (by decide)))).trans (congrArg lN (w_hi hX))) ?_
    refine lv_goto (tgt := 27) hx hb dd_R_word_14 rfl ?_
    exact mr_ret hQ (mr_lret C0 hM hS (⟨by simp [rw_, h1], rfl⟩) dd_R_word_27)

set_option maxHeartbeats 4000000 in
set_option maxRecDepth 100000 in
theorem c_R_same (l : Launch) {G : mg_} {M : mw_} {x y X Y : Nat} (h_x : M x = some (la_ G 4 (nl_ X))) (h_y : M y = some (la_ G 4 (nl_ Y)))  (hX : X < 4294967296 ^ 4) (hY : Y < 4294967296 ^ 4) : dt_ l my_R_same cd_R_same 3 (some .boolean) { frames := 0, cells := 0, slots := 0, locals := 0 } G [.ref x, .ref y] M (some (.int (nI (if X = Y then 1 else 0)))) (M) 0 0 := by
  refine ct_.intro2 (by decide) (Nat.le_of_ble_eq_true rfl) ?_
  intro p e s m args below meth c ls R Q hR hQ C0 hl hM hS
  have hx := C0.1
  have hb := C0.2.1
  have hl : lv_has ls 3 [(0, .ref x), (1, .ref y)] := hl
  refine lv_iconst (v := nI 0) hx hb dd_R_same_0 (by decide) ?_
  refine lv_istore_n (lv' := [(2, .int (nI 0)), (0, .ref x), (1, .ref y)]) hx hb dd_R_same_1 rfl hl (by decide) rfl (fun ls hl => ?_)
  have loop_2 : ∀ (k : Nat) (i : Nat) (H : Heap) (locs : List Loc) (ls : Array Slot), i + k = 4 → (∀ j, j < i → dg_ X j = dg_ Y j) → mm_ G (M) H → va_S (fz_ G) s.heap H locs → lv_has ls 3 [(0, .ref x), (1, .ref y), (2, .int (nI i))] → W p l e R s m args below meth c H locs 0 0 Q (F0 m 2 ls []) := by
    intro k
    induction k with
    | zero =>
      intro i H locs ls hi he hM hS hl
      refine lv_iload_n hx hb dd_R_same_2 rfl (lv_at hl 2 rfl) ?_
      refine lv_iconst (v := nI 4) hx hb dd_R_same_3 (by decide) ?_
      refine lv_icmp_ge (tgt := 25) hx hb dd_R_same_4 rfl (fun _ => ?_) (fun hc => absurd (le_nI (a := 4) (b := i) (by omega) (by omega) (by omega)) hc)
      refine lv_iconst (v := nI 1) hx hb dd_R_same_25 (by decide) ?_
      exact mr_ret hQ (mr_iret C0 hM hS (rfl) (⟨by rw [if_pos (eq4_ hX hY (fun j hj => he j (by omega)))], rfl⟩) dd_R_same_26)
    | succ k ih =>
      intro i H locs ls hi he hM hS hl
      refine lv_iload_n hx hb dd_R_same_2 rfl (lv_at hl 2 rfl) ?_
      refine lv_iconst (v := nI 4) hx hb dd_R_same_3 (by decide) ?_
      refine lv_icmp_ge (tgt := 25) hx hb dd_R_same_4 rfl (fun hc => absurd hc (nle_nI (a := 4) (b := i) (by omega) (by omega) (by omega))) (fun _ => ?_)
      refine lv_aload_n hx hb dd_R_same_7 rfl (lv_at hl 0 rfl) ?_
      refine lv_iload_n hx hb dd_R_same_8 rfl (lv_at hl 2 rfl) ?_
      refine mr_lald C0 hM h_x (i) (rfl) (by omega) (by decide) dd_R_same_9 ?_
      refine lv_aload_n hx hb dd_R_same_10 rfl (lv_at hl 1 rfl) ?_
      refine lv_iload_n hx hb dd_R_same_11 rfl (lv_at hl 2 rfl) ?_
      refine mr_lald C0 hM h_y (i) (rfl) (by omega) (by decide) dd_R_same_12 ?_
      refine mr_lif_eq (tgt := 19) hx hb dd_R_same_13 dd_R_same_14 rfl (fun h13 => ?_) (fun h13 => ?_)
      · skip
        refine lv_iinc (k := 2) (v := nI (i + 1)) (lv' := [(2, .int (nI (i + 1))), (0, .ref x), (1, .ref y)]) hx hb dd_R_same_19 hl rfl (inc_ i) (by decide) rfl (fun ls hl => ?_)
        refine lv_goto (tgt := 2) hx hb dd_R_same_22 rfl ?_
        exact ih (i + 1) _ _ _ (by omega) (fun j hj => by rcases (show j < i ∨ j = i by omega) with h | h; exact he j h; subst h; exact (lE_ dgl dgl).mp h13) hM hS (lv_sub hl [1, 2, 0] rfl)
      · skip
        refine lv_iconst (v := nI 0) hx hb dd_R_same_17 (by decide) ?_
        exact mr_ret hQ (mr_iret C0 hM hS (rfl) (⟨by rw [if_neg (fun q => h13 (by show lN (dg_ X i) = lN (dg_ Y i); rw [q]))], rfl⟩) dd_R_same_18)
  exact loop_2 4 0 _ _ _ (rfl) (fun j h => absurd h (Nat.not_lt_zero j)) hM hS (lv_sub hl [1, 2, 0] rfl)

set_option maxHeartbeats 4000000 in
set_option maxRecDepth 100000 in
theorem c_R_isBelowModulus (l : Launch) {G : mg_} {M : mw_} {r th td un mn mo mq tt dd bb rr : Nat} {ni : Int64} {U L N : Nat} (h_r : M r = some (ob_ 2 [.ref th, .ref td, .ref un, .ref mn, .ref mo, .ref mq, .ref tt, .ref dd, .ref bb, .ref rr, .long ni])) (h_mn : M mn = some (la_ G 4 (nl_ N)))  (hN : N < 4294967296 ^ 4) (hU : U < 18446744073709551616) (hL : L < 18446744073709551616) : dt_ l my_R_isBelowModulus cd_R_isBelowModulus 9 (some .boolean) { frames := 1, cells := 0, slots := 0, locals := 23 } G [.ref r, .long (lN U), .long (lN L)] M (some (.int (nI (if U * 18446744073709551616 + L < N then 1 else 0)))) (M) 0 0 := by
  refine ct_.intro2 (by decide) (Nat.le_of_ble_eq_true rfl) ?_
  intro p e s m args below meth c ls R Q hR hQ C0 hl hM hS
  have hx := C0.1
  have hb := C0.2.1
  have hl : lv_has ls 9 [(0, .ref r), (1, .long (lN U)), (3, .long (lN L))] := hl
  have hN1 : N / 18446744073709551616 < 18446744073709551616 := by rw [Nat.div_lt_iff_lt_mul (by decide)]; exact hN
  have hN0 : N % 18446744073709551616 < 18446744073709551616 := Nat.mod_lt _ (by decide)
  refine lv_aload_n hx hb dd_R_isBelowModulus_0 rfl (lv_at hl 0 rfl) ?_
  refine mr_get C0 hM fk_R_21 h_r (v := .ref mn) rfl dd_R_isBelowModulus_1 ?_
  refine lv_iconst (v := nI 1) hx hb dd_R_isBelowModulus_4 (by decide) ?_
  refine mr_callS (As := [.ref mn, .int (nI 1)]) (rest := []) C0 hM hS sk_R_64 (c_R_word l h_mn  hN (b := nI 1)) rfl rfl hl.1 (by decide) rfl rfl (by subst hR; exact ⟨Nat.le_of_ble_eq_true rfl, Nat.le_of_ble_eq_true rfl⟩) (by subst hR; exact ⟨Nat.le_of_ble_eq_true rfl, Nat.le_of_ble_eq_true rfl⟩) dd_R_isBelowModulus_5 (fun v1 M1 H locs hp hM hS => ?_)
  obtain ⟨ev1, eM1⟩ := hp
  subst ev1
  rw [eM1] at hM
  refine W.eq (g2 := F0 m 8 ls [.long (rw_ N (nI 1))]) rfl ?_
  refine mr_vl (x' := lN (N / 18446744073709551616)) (rfl) ?_
  refine lv_lstore (lv' := [(5, .long (lN (N / 18446744073709551616))), (0, .ref r), (1, .long (lN U)), (3, .long (lN L))]) hx hb dd_R_isBelowModulus_8 hl (by decide) rfl (fun ls hl => ?_)
  refine lv_aload_n hx hb dd_R_isBelowModulus_10 rfl (lv_at hl 1 rfl) ?_
  refine mr_get C0 hM fk_R_21 h_r (v := .ref mn) rfl dd_R_isBelowModulus_11 ?_
  refine lv_iconst (v := nI 0) hx hb dd_R_isBelowModulus_14 (by decide) ?_
  refine mr_callS (As := [.ref mn, .int (nI 0)]) (rest := []) C0 hM hS sk_R_64 (c_R_word l h_mn  hN (b := nI 0)) rfl rfl hl.1 (by decide) rfl rfl (by subst hR; exact ⟨Nat.le_of_ble_eq_true rfl, Nat.le_of_ble_eq_true rfl⟩) (by subst hR; exact ⟨Nat.le_of_ble_eq_true rfl, Nat.le_of_ble_eq_true rfl⟩) dd_R_isBelowModulus_15 (fun v1 M1 H locs hp hM hS => ?_)
  obtain ⟨ev1, eM1⟩ := hp
  subst ev1
  rw [eM1] at hM
  refine W.eq (g2 := F0 m 18 ls [.long (rw_ N (nI 0))]) rfl ?_
  refine mr_vl (x' := lN (N % 18446744073709551616)) (rfl) ?_
  refine lv_lstore (lv' := [(7, .long (lN (N % 18446744073709551616))), (5, .long (lN (N / 18446744073709551616))), (0, .ref r), (1, .long (lN U)), (3, .long (lN L))]) hx hb dd_R_isBelowModulus_18 hl (by decide) rfl (fun ls hl => ?_)
  refine lv_lload_n hx hb dd_R_isBelowModulus_20 rfl (lv_at hl 3 rfl) ?_
  refine lv_lload hx hb dd_R_isBelowModulus_21 (lv_at hl 1 rfl) ?_
  refine mr_lif_ne (tgt := 36) hx hb dd_R_isBelowModulus_23 dd_R_isBelowModulus_24 rfl (fun h23 => ?_) (fun h23 => ?_)
  · skip
    have hv : U ≠ N / 18446744073709551616 := fun q => h23 (congrArg lN q)
    refine lv_lload_n hx hb dd_R_isBelowModulus_36 rfl (lv_at hl 3 rfl) ?_
    refine lv_lload hx hb dd_R_isBelowModulus_37 (lv_at hl 1 rfl) ?_
    refine mr_callS (As := [.long (lN U), .long (lN (N / 18446744073709551616))]) (rest := []) C0 hM hS sk_R_68 (c_R_isBelow l hU hN1) rfl rfl hl.1 (by decide) rfl rfl (by subst hR; exact ⟨Nat.le_of_ble_eq_true rfl, Nat.le_of_ble_eq_true rfl⟩) (by subst hR; exact ⟨Nat.le_of_ble_eq_true rfl, Nat.le_of_ble_eq_true rfl⟩) dd_R_isBelowModulus_39 (fun v1 M1 H locs hp hM hS => ?_)
    obtain ⟨ev1, eM1⟩ := hp
    subst ev1
    rw [eM1] at hM
    refine W.eq (g2 := F0 m 42 ls [.int (nI (if U < N / 18446744073709551616 then 1 else 0))]) rfl ?_
    exact mr_ret hQ (mr_iret C0 hM hS (by split <;> rfl) (⟨by congr 3; exact ite_congr (propext (by omega)) (fun _ => rfl) (fun _ => rfl), rfl⟩) dd_R_isBelowModulus_42)
  · skip
    have hv : U = N / 18446744073709551616 := (lE_ hU hN1).mp h23
    refine lv_lload_n hx hb dd_R_isBelowModulus_27 rfl (lv_at hl 4 rfl) ?_
    refine lv_lload hx hb dd_R_isBelowModulus_28 (lv_at hl 0 rfl) ?_
    refine mr_callS (As := [.long (lN L), .long (lN (N % 18446744073709551616))]) (rest := []) C0 hM hS sk_R_68 (c_R_isBelow l hL hN0) rfl rfl hl.1 (by decide) rfl rfl (by subst hR; exact ⟨Nat.le_of_ble_eq_true rfl, Nat.le_of_ble_eq_true rfl⟩) (by subst hR; exact ⟨Nat.le_of_ble_eq_true rfl, Nat.le_of_ble_eq_true rfl⟩) dd_R_isBelowModulus_30 (fun v1 M1 H locs hp hM hS => ?_)
    obtain ⟨ev1, eM1⟩ := hp
    subst ev1
    rw [eM1] at hM
    refine W.eq (g2 := F0 m 33 ls [.int (nI (if L < N % 18446744073709551616 then 1 else 0))]) rfl ?_
    refine lv_goto (tgt := 42) hx hb dd_R_isBelowModulus_33 rfl ?_
    exact mr_ret hQ (mr_iret C0 hM hS (by split <;> rfl) (⟨by congr 3; exact ite_congr (propext (by omega)) (fun _ => rfl) (fun _ => rfl), rfl⟩) dd_R_isBelowModulus_42)

set_option maxHeartbeats 4000000 in
set_option maxRecDepth 100000 in
theorem c_R_accepts (l : Launch) {G : mg_} {M : mw_} {U L : Nat}   (hU : U < 18446744073709551616) (hL : L < 18446744073709551616) : dt_ l my_R_accepts cd_R_accepts 8 (some .boolean) { frames := 0, cells := 0, slots := 0, locals := 0 } G [.long (lN U), .long (lN L)] M (some (.int (acn_ (U * 18446744073709551616 + L)))) (M) 0 0 := by
  refine ct_.intro2 (by decide) (Nat.le_of_ble_eq_true rfl) ?_
  intro p e s m args below meth c ls R Q hR hQ C0 hl hM hS
  have hx := C0.1
  have hb := C0.2.1
  have hl : lv_has ls 8 [(0, .long (lN U)), (2, .long (lN L))] := hl
  refine lv_lload_n hx hb dd_R_accepts_0 rfl (lv_at hl 1 rfl) ?_
  refine lv_lconst (v := lN 1) hx hb dd_R_accepts_1 rfl ?_
  refine lv_land hx hb dd_R_accepts_2 ?_
  refine mr_vl (x' := lN (L % 2)) (wb_a1 hL) ?_
  refine lv_lconst (v := lN 0) hx hb dd_R_accepts_3 rfl ?_
  refine mr_lif_eq (tgt := 12) hx hb dd_R_accepts_4 dd_R_accepts_5 rfl (fun h4 => ?_) (fun h4 => ?_)
  · skip
    have ho : L % 2 = 0 := (lE_ (by omega) (by decide)).mp h4
    refine lv_iconst (v := nI 0) hx hb dd_R_accepts_12 (by decide) ?_
    refine lv_istore (lv' := [(4, .int (nI 0)), (0, .long (lN U)), (2, .long (lN L))]) hx hb dd_R_accepts_13 hl (by decide) rfl (fun ls hl => ?_)
    refine lv_lload_n hx hb dd_R_accepts_15 rfl (lv_at hl 1 rfl) ?_
    refine lv_bipush (v := nI 36) hx hb dd_R_accepts_16 (by decide) ?_
    refine lv_lushr (v := lN (U / 68719476736)) hx hb dd_R_accepts_18 (wb_shr (k := 36) hU (by decide)) ?_
    refine lv_lconst (v := lN 0) hx hb dd_R_accepts_19 rfl ?_
    refine mr_lif_eq (tgt := 28) hx hb dd_R_accepts_20 dd_R_accepts_21 rfl (fun h20 => ?_) (fun h20 => ?_)
    · skip
      have hg : U / 68719476736 = 0 := (lE_ (by omega) (by decide)).mp h20
      refine lv_iconst (v := nI 0) hx hb dd_R_accepts_28 (by decide) ?_
      refine lv_istore (lv' := [(5, .int (nI 0)), (4, .int (nI 0)), (0, .long (lN U)), (2, .long (lN L))]) hx hb dd_R_accepts_29 hl (by decide) rfl (fun ls hl => ?_)
      refine lv_lload_n hx hb dd_R_accepts_31 rfl (lv_at hl 2 rfl) ?_
      refine lv_bipush (v := nI 32) hx hb dd_R_accepts_32 (by decide) ?_
      refine lv_lushr (v := lN (U / 4294967296)) hx hb dd_R_accepts_34 (lh_ hU) ?_
      refine lv_lload_n hx hb dd_R_accepts_35 rfl (lv_at hl 2 rfl) ?_
      refine mr_ldc2 (v := lN 4294967295) C0 tw_163 dd_R_accepts_36 ?_
      refine lv_land hx hb dd_R_accepts_39 ?_
      refine mr_vl (x' := lN (U % 4294967296)) (lm_ hU) ?_
      refine lv_ladd hx hb dd_R_accepts_40 ?_
      refine mr_vl (x' := lN (U / 4294967296 + U % 4294967296)) (lN_add _ _) ?_
      refine lv_lload_n hx hb dd_R_accepts_41 rfl (lv_at hl 3 rfl) ?_
      refine lv_bipush (v := nI 32) hx hb dd_R_accepts_42 (by decide) ?_
      refine lv_lushr (v := lN (L / 4294967296)) hx hb dd_R_accepts_44 (lh_ hL) ?_
      refine lv_ladd hx hb dd_R_accepts_45 ?_
      refine mr_vl (x' := lN (U / 4294967296 + U % 4294967296 + L / 4294967296)) (lN_add _ _) ?_
      refine lv_lload_n hx hb dd_R_accepts_46 rfl (lv_at hl 3 rfl) ?_
      refine mr_ldc2 (v := lN 4294967295) C0 tw_163 dd_R_accepts_47 ?_
      refine lv_land hx hb dd_R_accepts_50 ?_
      refine mr_vl (x' := lN (L % 4294967296)) (lm_ hL) ?_
      refine lv_ladd hx hb dd_R_accepts_51 ?_
      refine mr_vl (x' := lN (U / 4294967296 + U % 4294967296 + L / 4294967296 + L % 4294967296)) (lN_add _ _) ?_
      refine lv_lstore (lv' := [(6, .long (lN (U / 4294967296 + U % 4294967296 + L / 4294967296 + L % 4294967296))), (5, .int (nI 0)), (4, .int (nI 0)), (0, .long (lN U)), (2, .long (lN L))]) hx hb dd_R_accepts_52 hl (by decide) rfl (fun ls hl => ?_)
      refine lv_iload hx hb dd_R_accepts_54 (lv_at hl 2 rfl) ?_
      refine lv_if_eq (tgt := 79) hx hb dd_R_accepts_56 rfl (fun _ => ?_) (fun hc => absurd (by decide) hc)
      refine lv_iconst (v := nI 0) hx hb dd_R_accepts_79 (by decide) ?_
      exact mr_ret hQ (mr_iret C0 hM hS (rfl) (⟨by rw [acn_n (by unfold acc_; omega)], rfl⟩) dd_R_accepts_80)
    · skip
      have hg : U / 68719476736 ≠ 0 := fun q => h20 (congrArg lN q)
      refine lv_iconst (v := nI 1) hx hb dd_R_accepts_24 (by decide) ?_
      refine lv_goto (tgt := 29) hx hb dd_R_accepts_25 rfl ?_
      refine lv_istore (lv' := [(5, .int (nI 1)), (4, .int (nI 0)), (0, .long (lN U)), (2, .long (lN L))]) hx hb dd_R_accepts_29 hl (by decide) rfl (fun ls hl => ?_)
      refine lv_lload_n hx hb dd_R_accepts_31 rfl (lv_at hl 2 rfl) ?_
      refine lv_bipush (v := nI 32) hx hb dd_R_accepts_32 (by decide) ?_
      refine lv_lushr (v := lN (U / 4294967296)) hx hb dd_R_accepts_34 (lh_ hU) ?_
      refine lv_lload_n hx hb dd_R_accepts_35 rfl (lv_at hl 2 rfl) ?_
      refine mr_ldc2 (v := lN 4294967295) C0 tw_163 dd_R_accepts_36 ?_
      refine lv_land hx hb dd_R_accepts_39 ?_
      refine mr_vl (x' := lN (U % 4294967296)) (lm_ hU) ?_
      refine lv_ladd hx hb dd_R_accepts_40 ?_
      refine mr_vl (x' := lN (U / 4294967296 + U % 4294967296)) (lN_add _ _) ?_
      refine lv_lload_n hx hb dd_R_accepts_41 rfl (lv_at hl 3 rfl) ?_
      refine lv_bipush (v := nI 32) hx hb dd_R_accepts_42 (by decide) ?_
      refine lv_lushr (v := lN (L / 4294967296)) hx hb dd_R_accepts_44 (lh_ hL) ?_
      refine lv_ladd hx hb dd_R_accepts_45 ?_
      refine mr_vl (x' := lN (U / 4294967296 + U % 4294967296 + L / 4294967296)) (lN_add _ _) ?_
      refine lv_lload_n hx hb dd_R_accepts_46 rfl (lv_at hl 3 rfl) ?_
      refine mr_ldc2 (v := lN 4294967295) C0 tw_163 dd_R_accepts_47 ?_
      refine lv_land hx hb dd_R_accepts_50 ?_
      refine mr_vl (x' := lN (L % 4294967296)) (lm_ hL) ?_
      refine lv_ladd hx hb dd_R_accepts_51 ?_
      refine mr_vl (x' := lN (U / 4294967296 + U % 4294967296 + L / 4294967296 + L % 4294967296)) (lN_add _ _) ?_
      refine lv_lstore (lv' := [(6, .long (lN (U / 4294967296 + U % 4294967296 + L / 4294967296 + L % 4294967296))), (5, .int (nI 1)), (4, .int (nI 0)), (0, .long (lN U)), (2, .long (lN L))]) hx hb dd_R_accepts_52 hl (by decide) rfl (fun ls hl => ?_)
      refine lv_iload hx hb dd_R_accepts_54 (lv_at hl 2 rfl) ?_
      refine lv_if_eq (tgt := 79) hx hb dd_R_accepts_56 rfl (fun _ => ?_) (fun hc => absurd (by decide) hc)
      refine lv_iconst (v := nI 0) hx hb dd_R_accepts_79 (by decide) ?_
      exact mr_ret hQ (mr_iret C0 hM hS (rfl) (⟨by rw [acn_n (by unfold acc_; omega)], rfl⟩) dd_R_accepts_80)
  · skip
    have ho : L % 2 ≠ 0 := fun q => h4 (congrArg lN q)
    refine lv_iconst (v := nI 1) hx hb dd_R_accepts_8 (by decide) ?_
    refine lv_goto (tgt := 13) hx hb dd_R_accepts_9 rfl ?_
    refine lv_istore (lv' := [(4, .int (nI 1)), (0, .long (lN U)), (2, .long (lN L))]) hx hb dd_R_accepts_13 hl (by decide) rfl (fun ls hl => ?_)
    refine lv_lload_n hx hb dd_R_accepts_15 rfl (lv_at hl 1 rfl) ?_
    refine lv_bipush (v := nI 36) hx hb dd_R_accepts_16 (by decide) ?_
    refine lv_lushr (v := lN (U / 68719476736)) hx hb dd_R_accepts_18 (wb_shr (k := 36) hU (by decide)) ?_
    refine lv_lconst (v := lN 0) hx hb dd_R_accepts_19 rfl ?_
    refine mr_lif_eq (tgt := 28) hx hb dd_R_accepts_20 dd_R_accepts_21 rfl (fun h20 => ?_) (fun h20 => ?_)
    · skip
      have hg : U / 68719476736 = 0 := (lE_ (by omega) (by decide)).mp h20
      refine lv_iconst (v := nI 0) hx hb dd_R_accepts_28 (by decide) ?_
      refine lv_istore (lv' := [(5, .int (nI 0)), (4, .int (nI 1)), (0, .long (lN U)), (2, .long (lN L))]) hx hb dd_R_accepts_29 hl (by decide) rfl (fun ls hl => ?_)
      refine lv_lload_n hx hb dd_R_accepts_31 rfl (lv_at hl 2 rfl) ?_
      refine lv_bipush (v := nI 32) hx hb dd_R_accepts_32 (by decide) ?_
      refine lv_lushr (v := lN (U / 4294967296)) hx hb dd_R_accepts_34 (lh_ hU) ?_
      refine lv_lload_n hx hb dd_R_accepts_35 rfl (lv_at hl 2 rfl) ?_
      refine mr_ldc2 (v := lN 4294967295) C0 tw_163 dd_R_accepts_36 ?_
      refine lv_land hx hb dd_R_accepts_39 ?_
      refine mr_vl (x' := lN (U % 4294967296)) (lm_ hU) ?_
      refine lv_ladd hx hb dd_R_accepts_40 ?_
      refine mr_vl (x' := lN (U / 4294967296 + U % 4294967296)) (lN_add _ _) ?_
      refine lv_lload_n hx hb dd_R_accepts_41 rfl (lv_at hl 3 rfl) ?_
      refine lv_bipush (v := nI 32) hx hb dd_R_accepts_42 (by decide) ?_
      refine lv_lushr (v := lN (L / 4294967296)) hx hb dd_R_accepts_44 (lh_ hL) ?_
      refine lv_ladd hx hb dd_R_accepts_45 ?_
      refine mr_vl (x' := lN (U / 4294967296 + U % 4294967296 + L / 4294967296)) (lN_add _ _) ?_
      refine lv_lload_n hx hb dd_R_accepts_46 rfl (lv_at hl 3 rfl) ?_
      refine mr_ldc2 (v := lN 4294967295) C0 tw_163 dd_R_accepts_47 ?_
      refine lv_land hx hb dd_R_accepts_50 ?_
      refine mr_vl (x' := lN (L % 4294967296)) (lm_ hL) ?_
      refine lv_ladd hx hb dd_R_accepts_51 ?_
      refine mr_vl (x' := lN (U / 4294967296 + U % 4294967296 + L / 4294967296 + L % 4294967296)) (lN_add _ _) ?_
      refine lv_lstore (lv' := [(6, .long (lN (U / 4294967296 + U % 4294967296 + L / 4294967296 + L % 4294967296))), (5, .int (nI 0)), (4, .int (nI 1)), (0, .long (lN U)), (2, .long (lN L))]) hx hb dd_R_accepts_52 hl (by decide) rfl (fun ls hl => ?_)
      refine lv_iload hx hb dd_R_accepts_54 (lv_at hl 2 rfl) ?_
      refine lv_if_eq (tgt := 79) hx hb dd_R_accepts_56 rfl (fun hc => absurd hc (by decide)) (fun _ => ?_)
      refine lv_iload hx hb dd_R_accepts_59 (lv_at hl 1 rfl) ?_
      refine lv_if_eq (tgt := 79) hx hb dd_R_accepts_61 rfl (fun _ => ?_) (fun hc => absurd (by decide) hc)
      refine lv_iconst (v := nI 0) hx hb dd_R_accepts_79 (by decide) ?_
      exact mr_ret hQ (mr_iret C0 hM hS (rfl) (⟨by rw [acn_n (by unfold acc_; omega)], rfl⟩) dd_R_accepts_80)
    · skip
      have hg : U / 68719476736 ≠ 0 := fun q => h20 (congrArg lN q)
      refine lv_iconst (v := nI 1) hx hb dd_R_accepts_24 (by decide) ?_
      refine lv_goto (tgt := 29) hx hb dd_R_accepts_25 rfl ?_
      refine lv_istore (lv' := [(5, .int (nI 1)), (4, .int (nI 1)), (0, .long (lN U)), (2, .long (lN L))]) hx hb dd_R_accepts_29 hl (by decide) rfl (fun ls hl => ?_)
      refine lv_lload_n hx hb dd_R_accepts_31 rfl (lv_at hl 2 rfl) ?_
      refine lv_bipush (v := nI 32) hx hb dd_R_accepts_32 (by decide) ?_
      refine lv_lushr (v := lN (U / 4294967296)) hx hb dd_R_accepts_34 (lh_ hU) ?_
      refine lv_lload_n hx hb dd_R_accepts_35 rfl (lv_at hl 2 rfl) ?_
      refine mr_ldc2 (v := lN 4294967295) C0 tw_163 dd_R_accepts_36 ?_
      refine lv_land hx hb dd_R_accepts_39 ?_
      refine mr_vl (x' := lN (U % 4294967296)) (lm_ hU) ?_
      refine lv_ladd hx hb dd_R_accepts_40 ?_
      refine mr_vl (x' := lN (U / 4294967296 + U % 4294967296)) (lN_add _ _) ?_
      refine lv_lload_n hx hb dd_R_accepts_41 rfl (lv_at hl 3 rfl) ?_
      refine lv_bipush (v := nI 32) hx hb dd_R_accepts_42 (by decide) ?_
      refine lv_lushr (v := lN (L / 4294967296)) hx hb dd_R_accepts_44 (lh_ hL) ?_
      refine lv_ladd hx hb dd_R_accepts_45 ?_
      refine mr_vl (x' := lN (U / 4294967296 + U % 4294967296 + L / 4294967296)) (lN_add _ _) ?_
      refine lv_lload_n hx hb dd_R_accepts_46 rfl (lv_at hl 3 rfl) ?_
      refine mr_ldc2 (v := lN 4294967295) C0 tw_163 dd_R_accepts_47 ?_
      refine lv_land hx hb dd_R_accepts_50 ?_
      refine mr_vl (x' := lN (L % 4294967296)) (lm_ hL) ?_
      refine lv_ladd hx hb dd_R_accepts_51 ?_
      refine mr_vl (x' := lN (U / 4294967296 + U % 4294967296 + L / 4294967296 + L % 4294967296)) (lN_add _ _) ?_
      refine lv_lstore (lv' := [(6, .long (lN (U / 4294967296 + U % 4294967296 + L / 4294967296 + L % 4294967296))), (5, .int (nI 1)), (4, .int (nI 1)), (0, .long (lN U)), (2, .long (lN L))]) hx hb dd_R_accepts_52 hl (by decide) rfl (fun ls hl => ?_)
      refine lv_iload hx hb dd_R_accepts_54 (lv_at hl 2 rfl) ?_
      refine lv_if_eq (tgt := 79) hx hb dd_R_accepts_56 rfl (fun hc => absurd hc (by decide)) (fun _ => ?_)
      refine lv_iload hx hb dd_R_accepts_59 (lv_at hl 1 rfl) ?_
      refine lv_if_eq (tgt := 79) hx hb dd_R_accepts_61 rfl (fun hc => absurd hc (by decide)) (fun _ => ?_)
      refine lv_lload hx hb dd_R_accepts_64 (lv_at hl 0 rfl) ?_
      refine mr_ldc2 (v := lN 3) C0 tw_35 dd_R_accepts_66 ?_
      refine lv_lrem hx hb dd_R_accepts_69 (by decide) ?_
      refine mr_vl (x' := lN ((U / 4294967296 + U % 4294967296 + L / 4294967296 + L % 4294967296) % 3)) (pk_lRem (by omega) (by decide) (by decide)) ?_
      refine lv_lconst (v := lN 0) hx hb dd_R_accepts_70 rfl ?_
      refine mr_lif_eq (tgt := 79) hx hb dd_R_accepts_71 dd_R_accepts_72 rfl (fun h71 => ?_) (fun h71 => ?_)
      · skip
        have h3 : (U / 4294967296 + U % 4294967296 + L / 4294967296 + L % 4294967296) % 3 = 0 := (lE_ (by omega) (by decide)).mp h71
        refine lv_iconst (v := nI 0) hx hb dd_R_accepts_79 (by decide) ?_
        exact mr_ret hQ (mr_iret C0 hM hS (rfl) (⟨by rw [acn_n (by unfold acc_; omega)], rfl⟩) dd_R_accepts_80)
      · skip
        have h3 : (U / 4294967296 + U % 4294967296 + L / 4294967296 + L % 4294967296) % 3 ≠ 0 := fun q => h71 (congrArg lN q)
        refine lv_iconst (v := nI 1) hx hb dd_R_accepts_75 (by decide) ?_
        refine lv_goto (tgt := 80) hx hb dd_R_accepts_76 rfl ?_
        exact mr_ret hQ (mr_iret C0 hM hS (rfl) (⟨by rw [acn_y (by unfold acc_; omega)], rfl⟩) dd_R_accepts_80)
end
section

theorem mw_lt {N : Nat} (hN : N < 4294967296 ^ 4) {T m : Nat} (hT : T < 4294967296 ^ 5 + 4294967296 ^ 5) (hm : m < 4294967296) : T + N * m < 4294967296 ^ 6 := by
  have h : N * m ≤ 4294967296 ^ 4 * 4294967296 := Nat.mul_le_mul (Nat.le_of_lt hN) (Nat.le_of_lt hm)
  have h2 : (4294967296 : Nat) ^ 4 * 4294967296 = 4294967296 ^ 5 := rfl
  have h3 : (4294967296 : Nat) ^ 5 + 4294967296 ^ 5 + 4294967296 ^ 5 ≤ 4294967296 ^ 6 := by decide
  omega
theorem nz4 {N : Nat} (hN : N < 4294967296 ^ 4) : dg_ N 4 = 0 := db_big (by decide) hN (Nat.le_refl _)
theorem t5_lt {T N : Nat} (hN : N < 4294967296 ^ 4) (hT : T < 2 * N) : T < 4294967296 ^ 5 := by
  have h3 : (4294967296 : Nat) ^ 4 + 4294967296 ^ 4 ≤ 4294967296 ^ 5 := by decide
  omega
theorem dg_4 {T : Nat} (h : T < 4294967296 ^ 5) : dg_ T 4 = T / 4294967296 ^ 4 := db_last (n := 4) (by decide) h
theorem dg_5 {T : Nat} (h : T < 4294967296 ^ 6) : dg_ T 5 = T / 4294967296 ^ 5 := db_last (n := 5) (by decide) h
theorem m2_lt {a b : Nat} (ha : a < 4294967296) (hb : b < 4294967296) : a * b < 18446744073709551616 := by
  have h : a * b ≤ 4294967295 * 4294967295 := Nat.mul_le_mul (by omega) (by omega)
  omega
theorem red4 {T N : Nat} (hN : N < 4294967296 ^ 4) (hT : T < 2 * N) : (if dg_ T 4 < bo_ 4294967296 T N 4 then T else (T % 4294967296 ^ 4 + 4294967296 ^ 4 - N) % 4294967296 ^ 4) = T % N := by
  rw [dg_4 (t5_lt hN hT), bo_, Nat.mod_eq_of_lt hN]
  exact red_val hN hT

set_option maxHeartbeats 4000000 in
set_option maxRecDepth 100000 in
theorem c_R_addProduct (l : Launch) {G : mg_} {M : mw_} {r th td un mn mo mq tt dd bb rr : Nat} {ni : Int64} {x T X lb : Nat} {f : Nat → Int64} (h_r : M r = some (ob_ 2 [.ref th, .ref td, .ref un, .ref mn, .ref mo, .ref mq, .ref tt, .ref dd, .ref bb, .ref rr, .long ni])) (h_tt : M tt = some (la_ G 6 f)) (h_x : M x = some (la_ G 4 (nl_ X))) (ne_x_tt : x ≠ tt) (hf : ∀ j, j < 5 → f j = lN (dg_ T j)) (hT : T < 4294967296 ^ 5) (hX : X < 4294967296 ^ 4) (hl0 : lb < 4294967296) : dt_ l my_R_addProduct cd_R_addProduct 9 none { frames := 0, cells := 0, slots := 0, locals := 0 } G [.ref r, .ref x, .long (lN lb)] M none (mu_ M tt (la_ G 6 (nl_ (T + X * lb)))) 0 0 := by
  refine ct_.intro2 (by decide) (Nat.le_of_ble_eq_true rfl) ?_
  intro p e s m args below meth c ls R Q hR hQ C0 hl hM hS
  have hx := C0.1
  have hb := C0.2.1
  have hl : lv_has ls 9 [(0, .ref r), (1, .ref x), (2, .long (lN lb))] := hl
  have hW4 : (T + X * lb) / 4294967296 ^ 4 < 18446744073709551616 := w64 (ap_lt hT hX hl0)
  refine lv_lconst (v := lN 0) hx hb dd_R_addProduct_0 rfl ?_
  refine lv_lstore (lv' := [(4, .long (lN 0)), (0, .ref r), (1, .ref x), (2, .long (lN lb))]) hx hb dd_R_addProduct_1 hl (by decide) rfl (fun ls hl => ?_)
  refine lv_iconst (v := nI 0) hx hb dd_R_addProduct_3 (by decide) ?_
  refine lv_istore (lv' := [(6, .int (nI 0)), (4, .long (lN 0)), (0, .ref r), (1, .ref x), (2, .long (lN lb))]) hx hb dd_R_addProduct_4 hl (by decide) rfl (fun ls hl => ?_)
  have loop_6 : ∀ (k : Nat) (i : Nat) (H : Heap) (locs : List Loc) (ls : Array Slot), i + k = 4 → mm_ G (mu_ M tt (la_ G 6 (nu_ f (T + X * lb) i))) H → va_S (fz_ G) s.heap H locs → lv_has ls 9 [(0, .ref r), (1, .ref x), (2, .long (lN lb)), (4, .long (lN (ca_ 4294967296 T X lb i))), (6, .int (nI i))] → W p l e R s m args below meth c H locs 0 0 Q (F0 m 6 ls []) := by
    intro k
    induction k with
    | zero =>
      intro i H locs ls hi hM hS hl
      refine lv_iload hx hb dd_R_addProduct_6 (lv_at hl 4 rfl) ?_
      refine lv_iconst (v := nI 4) hx hb dd_R_addProduct_8 (by decide) ?_
      refine lv_icmp_ge (tgt := 57) hx hb dd_R_addProduct_9 rfl (fun _ => ?_) (fun hc => absurd (le_nI (a := 4) (b := i) (by omega) (by omega) (by omega)) hc)
      refine lv_aload_n hx hb dd_R_addProduct_57 rfl (lv_at hl 0 rfl) ?_
      refine mr_get C0 hM fk_R_30 (mu_n' (ne_k h_r h_tt (fun q => by cases q)) h_r) (v := .ref tt) rfl dd_R_addProduct_58 ?_
      refine lv_iconst (v := nI 4) hx hb dd_R_addProduct_61 (by decide) ?_
      refine mr_lald C0 hM mu_s (4) (rfl) (by omega) (by decide) dd_R_addProduct_62 ?_
      refine lv_lload hx hb dd_R_addProduct_63 (lv_at hl 3 rfl) ?_
      refine lv_ladd hx hb dd_R_addProduct_65 ?_
      refine mr_vl (x' := lN ((T + X * lb) / 4294967296 ^ 4)) (by rw [nu_a (by omega), hf 4 (by omega), show i = 4 from by omega, lN_add, ca_top (by decide) hX hT]) ?_
      refine lv_lstore (lv' := [(6, .long (lN ((T + X * lb) / 4294967296 ^ 4))), (0, .ref r), (1, .ref x), (2, .long (lN lb)), (4, .long (lN (ca_ 4294967296 T X lb i)))]) hx hb dd_R_addProduct_66 hl (by decide) rfl (fun ls hl => ?_)
      refine lv_aload_n hx hb dd_R_addProduct_68 rfl (lv_at hl 1 rfl) ?_
      refine mr_get C0 hM fk_R_30 (mu_n' (ne_k h_r h_tt (fun q => by cases q)) h_r) (v := .ref tt) rfl dd_R_addProduct_69 ?_
      refine lv_iconst (v := nI 4) hx hb dd_R_addProduct_72 (by decide) ?_
      refine lv_lload hx hb dd_R_addProduct_73 (lv_at hl 0 rfl) ?_
      refine mr_ldc2 (v := lN 4294967295) C0 tw_163 dd_R_addProduct_75 ?_
      refine lv_land hx hb dd_R_addProduct_78 ?_
      refine mr_vl (x' := lN (dg_ (T + X * lb) 4)) (lm_ hW4) ?_
      refine mr_last C0 hM hS mu_s (4) (rfl) (by omega) (by decide) dd_R_addProduct_79 (fun H locs hM hS => ?_)
      have hM := mr_M mu_mu hM
      have hM := mr_M (congrArg (fun z__ => mu_ M tt (la_ G 6 z__)) (show (vp_updL (nu_ f (T + X * lb) i) 4 (lN (dg_ (T + X * lb) 4)) : Nat → Int64) = (nu_ f (T + X * lb) 5) from by rw [show i = 4 from by omega]; exact nu_s f (T + X * lb) 4)) hM
      have hM : mm_ G (mu_ M tt (la_ G 6 (nu_ f (T + X * lb) 5))) H := hM
      refine lv_aload_n hx hb dd_R_addProduct_80 rfl (lv_at hl 1 rfl) ?_
      refine mr_get C0 hM fk_R_30 (mu_n' (ne_k h_r h_tt (fun q => by cases q)) h_r) (v := .ref tt) rfl dd_R_addProduct_81 ?_
      refine lv_iconst (v := nI 5) hx hb dd_R_addProduct_84 (by decide) ?_
      refine lv_lload hx hb dd_R_addProduct_85 (lv_at hl 0 rfl) ?_
      refine lv_bipush (v := nI 32) hx hb dd_R_addProduct_87 (by decide) ?_
      refine lv_lushr (v := lN (dg_ (T + X * lb) 5)) hx hb dd_R_addProduct_89 ((lh_ hW4).trans (congrArg lN (by rw [dg_5 (ap_lt hT hX hl0), Nat.div_div_eq_div_mul, ← Nat.pow_succ]))) ?_
      refine mr_last C0 hM hS mu_s (5) (rfl) (by omega) (by decide) dd_R_addProduct_90 (fun H locs hM hS => ?_)
      have hM := mr_M mu_mu hM
      have hM := mr_M (congrArg (fun z__ => mu_ M tt (la_ G 6 z__)) (show (vp_updL (nu_ f (T + X * lb) 5) 5 (lN (dg_ (T + X * lb) 5)) : Nat → Int64) = (nu_ f (T + X * lb) 6) from nu_s f (T + X * lb) 5)) hM
      have hM : mm_ G (mu_ M tt (la_ G 6 (nu_ f (T + X * lb) 6))) H := hM
      have hM := mr_lext (g := nl_ (T + X * lb)) (fun j hj => nu_b hj) hM
      exact mr_ret hQ (mr_vret C0 hM hS (⟨rfl, rfl⟩) dd_R_addProduct_91)
    | succ k ih =>
      intro i H locs ls hi hM hS hl
      have h64 : dg_ T i + dg_ X i * lb + ca_ 4294967296 T X lb i < 18446744073709551616 := s3_lt (db_lt (by decide)) (db_lt (by decide)) hl0 (ca_le (by decide) T X lb i)
      refine lv_iload hx hb dd_R_addProduct_6 (lv_at hl 4 rfl) ?_
      refine lv_iconst (v := nI 4) hx hb dd_R_addProduct_8 (by decide) ?_
      refine lv_icmp_ge (tgt := 57) hx hb dd_R_addProduct_9 rfl (fun hc => absurd hc (nle_nI (a := 4) (b := i) (by omega) (by omega) (by omega))) (fun _ => ?_)
      refine lv_aload_n hx hb dd_R_addProduct_12 rfl (lv_at hl 0 rfl) ?_
      refine mr_get C0 hM fk_R_30 (mu_n' (ne_k h_r h_tt (fun q => by cases q)) h_r) (v := .ref tt) rfl dd_R_addProduct_13 ?_
      refine lv_iload hx hb dd_R_addProduct_16 (lv_at hl 4 rfl) ?_
      refine mr_lald C0 hM mu_s (i) (rfl) (by omega) (by decide) dd_R_addProduct_18 ?_
      refine lv_aload_n hx hb dd_R_addProduct_19 rfl (lv_at hl 1 rfl) ?_
      refine lv_iload hx hb dd_R_addProduct_20 (lv_at hl 4 rfl) ?_
      refine mr_lald C0 hM (mu_n' ne_x_tt h_x) (i) (rfl) (by omega) (by decide) dd_R_addProduct_22 ?_
      refine lv_lload_n hx hb dd_R_addProduct_23 rfl (lv_at hl 2 rfl) ?_
      refine lv_lmul hx hb dd_R_addProduct_24 ?_
      refine mr_vl (x' := lN (dg_ X i * lb)) (lN_mul _ _) ?_
      refine lv_ladd hx hb dd_R_addProduct_25 ?_
      refine mr_vl (x' := lN (dg_ T i + dg_ X i * lb)) ((congrArg (· + lN (dg_ X i * lb)) ((nu_at f (T + X * lb) i).trans (hf i (by omega)))).trans (lN_add _ _)) ?_
      refine lv_lload hx hb dd_R_addProduct_26 (lv_at hl 3 rfl) ?_
      refine lv_ladd hx hb dd_R_addProduct_28 ?_
      refine mr_vl (x' := lN (dg_ T i + dg_ X i * lb + ca_ 4294967296 T X lb i)) (lN_add _ _) ?_
      refine lv_lstore (lv' := [(7, .long (lN (dg_ T i + dg_ X i * lb + ca_ 4294967296 T X lb i))), (0, .ref r), (1, .ref x), (2, .long (lN lb)), (4, .long (lN (ca_ 4294967296 T X lb i))), (6, .int (nI i))]) hx hb dd_R_addProduct_29 hl (by decide) rfl (fun ls hl => ?_)
      refine lv_aload_n hx hb dd_R_addProduct_31 rfl (lv_at hl 1 rfl) ?_
      refine mr_get C0 hM fk_R_30 (mu_n' (ne_k h_r h_tt (fun q => by cases q)) h_r) (v := .ref tt) rfl dd_R_addProduct_32 ?_
      refine lv_iload hx hb dd_R_addProduct_35 (lv_at hl 5 rfl) ?_
      refine lv_lload hx hb dd_R_addProduct_37 (lv_at hl 0 rfl) ?_
      refine mr_ldc2 (v := lN 4294967295) C0 tw_163 dd_R_addProduct_39 ?_
      refine lv_land hx hb dd_R_addProduct_42 ?_
      refine mr_vl (x' := lN (dg_ (T + X * lb) i)) ((lm_ h64).trans (congrArg lN (by rw [ca_step (by decide), ca_dig]))) ?_
      refine mr_last C0 hM hS mu_s (i) (rfl) (by omega) (by decide) dd_R_addProduct_43 (fun H locs hM hS => ?_)
      have hM := mr_M mu_mu hM
      have hM := mr_M (congrArg (fun z__ => mu_ M tt (la_ G 6 z__)) (show (vp_updL (nu_ f (T + X * lb) i) i (lN (dg_ (T + X * lb) i)) : Nat → Int64) = (nu_ f (T + X * lb) (i + 1)) from nu_s f (T + X * lb) i)) hM
      have hM : mm_ G (mu_ M tt (la_ G 6 (nu_ f (T + X * lb) (i + 1)))) H := hM
      refine lv_lload hx hb dd_R_addProduct_44 (lv_at hl 0 rfl) ?_
      refine lv_bipush (v := nI 32) hx hb dd_R_addProduct_46 (by decide) ?_
      refine lv_lushr (v := lN (ca_ 4294967296 T X lb (i + 1))) hx hb dd_R_addProduct_48 ((lh_ h64).trans (congrArg lN (by rw [ca_step (by decide), ca_next]))) ?_
      refine lv_lstore (lv' := [(4, .long (lN (ca_ 4294967296 T X lb (i + 1)))), (7, .long (lN (dg_ T i + dg_ X i * lb + ca_ 4294967296 T X lb i))), (0, .ref r), (1, .ref x), (2, .long (lN lb)), (6, .int (nI i))]) hx hb dd_R_addProduct_49 hl (by decide) rfl (fun ls hl => ?_)
      refine lv_iinc (k := 5) (v := nI (i + 1)) (lv' := [(6, .int (nI (i + 1))), (4, .long (lN (ca_ 4294967296 T X lb (i + 1)))), (7, .long (lN (dg_ T i + dg_ X i * lb + ca_ 4294967296 T X lb i))), (0, .ref r), (1, .ref x), (2, .long (lN lb))]) hx hb dd_R_addProduct_51 hl rfl (inc_ i) (by decide) rfl (fun ls hl => ?_)
      refine lv_goto (tgt := 6) hx hb dd_R_addProduct_54 rfl ?_
      exact ih _ _ _ _ (by omega) hM hS (lv_sub hl [3, 4, 5, 1, 0] rfl)
  have hM := mr_M (mu_id h_tt).symm hM
  have hM := mr_M (congrArg (fun z => mu_ M tt (la_ G 6 z)) (nu_0 f (T + X * lb))) hM
  exact loop_6 4 0 _ _ _ (rfl) hM hS (by rw [ca_0]; exact lv_sub hl [2, 3, 4, 1, 0] rfl)

set_option maxHeartbeats 4000000 in
set_option maxRecDepth 100000 in
theorem c_R_dropLowestLimb (l : Launch) {G : mg_} {M : mw_} {r th td un mn mo mq tt dd bb rr : Nat} {n1 T N mm : Nat} (h_r : M r = some (ob_ 2 [.ref th, .ref td, .ref un, .ref mn, .ref mo, .ref mq, .ref tt, .ref dd, .ref bb, .ref rr, .long (lN n1)])) (h_tt : M tt = some (la_ G 6 (nl_ T))) (h_mn : M mn = some (la_ G 4 (nl_ N))) (ne_mn_tt : mn ≠ tt) (hm : mm = mq_ T n1) (hT : T < 4294967296 ^ 5 + 4294967296 ^ 5) (hN : N < 4294967296 ^ 4) (hn1 : n1 < 4294967296) : dt_ l my_R_dropLowestLimb cd_R_dropLowestLimb 8 none { frames := 0, cells := 0, slots := 0, locals := 0 } G [.ref r] M none (mu_ M tt (la_ G 6 (ds_ T (T + N * mm) 6))) 0 0 := by
  refine ct_.intro2 (by decide) (Nat.le_of_ble_eq_true rfl) ?_
  intro p e s m args below meth c ls R Q hR hQ C0 hl hM hS
  have hx := C0.1
  have hb := C0.2.1
  have hl : lv_has ls 8 [(0, .ref r)] := hl
  have hmB : mm < 4294967296 := by rw [hm]; exact mq_lt
  have hT6 : T < 4294967296 ^ 6 := Nat.lt_trans hT (by decide)
  have hW6 : (T + N * mm) < 4294967296 ^ 6 := mw_lt hN hT hmB
  have h640 : dg_ T 0 + dg_ N 0 * mm < 18446744073709551616 := s3_lt (c := 0) (db_lt (by decide)) (db_lt (by decide)) hmB (Nat.zero_le _)
  have h644 : dg_ T 4 + ca_ 4294967296 T N mm 4 < 18446744073709551616 := by
    have h1 : dg_ T 4 < 4294967296 := db_lt (by decide)
    have h2 := ca_le (b := 4294967296) (by decide) T N mm 4
    omega
  have e4 : dg_ T 4 + ca_ 4294967296 T N mm 4 = (T % 4294967296 ^ 5 + N % 4294967296 ^ 5 * mm) / 4294967296 ^ 4 := by
    rw [← ca_step (b := 4294967296) (by decide) T N mm 4]
    have h1 : db_ 4294967296 N 4 = 0 := nz4 hN
    rw [h1, Nat.zero_mul, Nat.add_zero]
  refine lv_aload_n hx hb dd_R_dropLowestLimb_0 rfl (lv_at hl 0 rfl) ?_
  refine mr_get C0 hM fk_R_30 h_r (v := .ref tt) rfl dd_R_dropLowestLimb_1 ?_
  refine lv_iconst (v := nI 0) hx hb dd_R_dropLowestLimb_4 (by decide) ?_
  refine mr_lald C0 hM h_tt (0) (rfl) (by omega) (by decide) dd_R_dropLowestLimb_5 ?_
  refine lv_aload_n hx hb dd_R_dropLowestLimb_6 rfl (lv_at hl 0 rfl) ?_
  refine mr_get C0 hM fk_R_92 h_r (v := .long (lN n1)) rfl dd_R_dropLowestLimb_7 ?_
  refine lv_lmul hx hb dd_R_dropLowestLimb_10 ?_
  refine mr_vl (x' := lN (dg_ T 0 * n1)) (lN_mul _ _) ?_
  refine mr_ldc2 (v := lN 4294967295) C0 tw_163 dd_R_dropLowestLimb_11 ?_
  refine lv_land hx hb dd_R_dropLowestLimb_14 ?_
  refine mr_vl (x' := lN mm) ((lm_ (a := dg_ T 0 * n1) (m2_lt (db_lt (by decide)) hn1)).trans (congrArg lN (by rw [hm, mq_, dg_0]))) ?_
  refine lv_lstore_n (lv' := [(1, .long (lN mm)), (0, .ref r)]) hx hb dd_R_dropLowestLimb_15 rfl hl (by decide) rfl (fun ls hl => ?_)
  refine lv_aload_n hx hb dd_R_dropLowestLimb_16 rfl (lv_at hl 1 rfl) ?_
  refine mr_get C0 hM fk_R_30 h_r (v := .ref tt) rfl dd_R_dropLowestLimb_17 ?_
  refine lv_iconst (v := nI 0) hx hb dd_R_dropLowestLimb_20 (by decide) ?_
  refine mr_lald C0 hM h_tt (0) (rfl) (by omega) (by decide) dd_R_dropLowestLimb_21 ?_
  refine lv_lload_n hx hb dd_R_dropLowestLimb_22 rfl (lv_at hl 0 rfl) ?_
  refine lv_aload_n hx hb dd_R_dropLowestLimb_23 rfl (lv_at hl 1 rfl) ?_
  refine mr_get C0 hM fk_R_21 h_r (v := .ref mn) rfl dd_R_dropLowestLimb_24 ?_
  refine lv_iconst (v := nI 0) hx hb dd_R_dropLowestLimb_27 (by decide) ?_
  refine mr_lald C0 hM h_mn (0) (rfl) (by omega) (by decide) dd_R_dropLowestLimb_28 ?_
  refine lv_lmul hx hb dd_R_dropLowestLimb_29 ?_
  refine mr_vl (x' := lN (dg_ N 0 * mm)) ((lN_mul _ _).trans (congrArg lN (Nat.mul_comm _ _))) ?_
  refine lv_ladd hx hb dd_R_dropLowestLimb_30 ?_
  refine mr_vl (x' := lN (dg_ T 0 + dg_ N 0 * mm)) (lN_add _ _) ?_
  refine lv_bipush (v := nI 32) hx hb dd_R_dropLowestLimb_31 (by decide) ?_
  refine lv_lushr (v := lN (ca_ 4294967296 T N mm 1)) hx hb dd_R_dropLowestLimb_33 ((lh_ h640).trans (congrArg lN (by have h := ca_step (b := 4294967296) (by decide) T N mm 0; rw [ca_0, Nat.add_zero] at h; rw [h, ca_next]))) ?_
  refine lv_lstore_n (lv' := [(3, .long (lN (ca_ 4294967296 T N mm 1))), (1, .long (lN mm)), (0, .ref r)]) hx hb dd_R_dropLowestLimb_34 rfl hl (by decide) rfl (fun ls hl => ?_)
  refine lv_iconst (v := nI 1) hx hb dd_R_dropLowestLimb_35 (by decide) ?_
  refine lv_istore (lv' := [(5, .int (nI 1)), (3, .long (lN (ca_ 4294967296 T N mm 1))), (1, .long (lN mm)), (0, .ref r)]) hx hb dd_R_dropLowestLimb_36 hl (by decide) rfl (fun ls hl => ?_)
  have loop_38 : ∀ (k : Nat) (i : Nat) (H : Heap) (locs : List Loc) (ls : Array Slot), i + k = 4 → 0 < i → mm_ G (mu_ M tt (la_ G 6 (ds_ T (T + N * mm) i))) H → va_S (fz_ G) s.heap H locs → lv_has ls 8 [(0, .ref r), (1, .long (lN mm)), (3, .long (lN (ca_ 4294967296 T N mm i))), (5, .int (nI i))] → W p l e R s m args below meth c H locs 0 0 Q (F0 m 38 ls []) := by
    intro k
    induction k with
    | zero =>
      intro i H locs ls hi hi1 hM hS hl
      refine lv_iload hx hb dd_R_dropLowestLimb_38 (lv_at hl 3 rfl) ?_
      refine lv_iconst (v := nI 4) hx hb dd_R_dropLowestLimb_40 (by decide) ?_
      refine lv_icmp_ge (tgt := 92) hx hb dd_R_dropLowestLimb_41 rfl (fun _ => ?_) (fun hc => absurd (le_nI (a := 4) (b := i) (by omega) (by omega) (by omega)) hc)
      refine lv_aload_n hx hb dd_R_dropLowestLimb_92 rfl (lv_at hl 0 rfl) ?_
      refine mr_get C0 hM fk_R_30 (mu_n' (ne_k h_r h_tt (fun q => by cases q)) h_r) (v := .ref tt) rfl dd_R_dropLowestLimb_93 ?_
      refine lv_iconst (v := nI 4) hx hb dd_R_dropLowestLimb_96 (by decide) ?_
      refine mr_lald C0 hM mu_s (4) (rfl) (by omega) (by decide) dd_R_dropLowestLimb_97 ?_
      refine lv_lload_n hx hb dd_R_dropLowestLimb_98 rfl (lv_at hl 2 rfl) ?_
      refine lv_ladd hx hb dd_R_dropLowestLimb_99 ?_
      refine mr_vl (x' := lN (dg_ T 4 + ca_ 4294967296 T N mm 4)) (by rw [ds_a (by omega), show i = 4 from by omega, lN_add]) ?_
      refine lv_lstore (lv' := [(5, .long (lN (dg_ T 4 + ca_ 4294967296 T N mm 4))), (0, .ref r), (1, .long (lN mm)), (3, .long (lN (ca_ 4294967296 T N mm i)))]) hx hb dd_R_dropLowestLimb_100 hl (by decide) rfl (fun ls hl => ?_)
      refine lv_aload_n hx hb dd_R_dropLowestLimb_102 rfl (lv_at hl 1 rfl) ?_
      refine mr_get C0 hM fk_R_30 (mu_n' (ne_k h_r h_tt (fun q => by cases q)) h_r) (v := .ref tt) rfl dd_R_dropLowestLimb_103 ?_
      refine lv_iconst (v := nI 3) hx hb dd_R_dropLowestLimb_106 (by decide) ?_
      refine lv_lload hx hb dd_R_dropLowestLimb_107 (lv_at hl 0 rfl) ?_
      refine mr_ldc2 (v := lN 4294967295) C0 tw_163 dd_R_dropLowestLimb_109 ?_
      refine lv_land hx hb dd_R_dropLowestLimb_112 ?_
      refine mr_vl (x' := lN (dg_ (T + N * mm) 4)) ((lm_ h644).trans (congrArg lN (by rw [e4, ca_dig]))) ?_
      refine mr_last C0 hM hS mu_s (3) (rfl) (by omega) (by decide) dd_R_dropLowestLimb_113 (fun H locs hM hS => ?_)
      have hM := mr_M mu_mu hM
      have hM := mr_M (congrArg (fun z__ => mu_ M tt (la_ G 6 z__)) (show (vp_updL (ds_ T (T + N * mm) i) 3 (lN (dg_ (T + N * mm) 4)) : Nat → Int64) = (ds_ T (T + N * mm) 5) from by rw [show i = 4 from by omega]; exact ds_s (j := 4) (by decide))) hM
      have hM : mm_ G (mu_ M tt (la_ G 6 (ds_ T (T + N * mm) 5))) H := hM
      refine lv_aload_n hx hb dd_R_dropLowestLimb_114 rfl (lv_at hl 1 rfl) ?_
      refine mr_get C0 hM fk_R_30 (mu_n' (ne_k h_r h_tt (fun q => by cases q)) h_r) (v := .ref tt) rfl dd_R_dropLowestLimb_115 ?_
      refine lv_iconst (v := nI 4) hx hb dd_R_dropLowestLimb_118 (by decide) ?_
      refine lv_aload_n hx hb dd_R_dropLowestLimb_119 rfl (lv_at hl 1 rfl) ?_
      refine mr_get C0 hM fk_R_30 (mu_n' (ne_k h_r h_tt (fun q => by cases q)) h_r) (v := .ref tt) rfl dd_R_dropLowestLimb_120 ?_
      refine lv_iconst (v := nI 5) hx hb dd_R_dropLowestLimb_123 (by decide) ?_
      refine mr_lald C0 hM mu_s (5) (rfl) (by omega) (by decide) dd_R_dropLowestLimb_124 ?_
      refine lv_lload hx hb dd_R_dropLowestLimb_125 (lv_at hl 0 rfl) ?_
      refine lv_bipush (v := nI 32) hx hb dd_R_dropLowestLimb_127 (by decide) ?_
      refine lv_lushr (v := lN (ca_ 4294967296 T N mm 5)) hx hb dd_R_dropLowestLimb_129 ((lh_ h644).trans (congrArg lN (by rw [e4, ca_next]))) ?_
      refine lv_ladd hx hb dd_R_dropLowestLimb_130 ?_
      refine mr_vl (x' := lN (dg_ (T + N * mm) 5)) (by rw [ds_a (by omega), lN_add, ca_top (by decide) (Nat.lt_trans hN (by decide)) hT6, dg_5 hW6]) ?_
      refine mr_last C0 hM hS mu_s (4) (rfl) (by omega) (by decide) dd_R_dropLowestLimb_131 (fun H locs hM hS => ?_)
      have hM := mr_M mu_mu hM
      have hM := mr_M (congrArg (fun z__ => mu_ M tt (la_ G 6 z__)) (show (vp_updL (ds_ T (T + N * mm) 5) 4 (lN (dg_ (T + N * mm) 5)) : Nat → Int64) = (ds_ T (T + N * mm) 6) from ds_s (j := 5) (by decide))) hM
      have hM : mm_ G (mu_ M tt (la_ G 6 (ds_ T (T + N * mm) 6))) H := hM
      exact mr_ret hQ (mr_vret C0 hM hS (⟨rfl, rfl⟩) dd_R_dropLowestLimb_132)
    | succ k ih =>
      intro i H locs ls hi hi1 hM hS hl
      have h64 : dg_ T i + dg_ N i * mm + ca_ 4294967296 T N mm i < 18446744073709551616 := s3_lt (db_lt (by decide)) (db_lt (by decide)) hmB (ca_le (by decide) T N mm i)
      refine lv_iload hx hb dd_R_dropLowestLimb_38 (lv_at hl 3 rfl) ?_
      refine lv_iconst (v := nI 4) hx hb dd_R_dropLowestLimb_40 (by decide) ?_
      refine lv_icmp_ge (tgt := 92) hx hb dd_R_dropLowestLimb_41 rfl (fun hc => absurd hc (nle_nI (a := 4) (b := i) (by omega) (by omega) (by omega))) (fun _ => ?_)
      refine lv_aload_n hx hb dd_R_dropLowestLimb_44 rfl (lv_at hl 0 rfl) ?_
      refine mr_get C0 hM fk_R_30 (mu_n' (ne_k h_r h_tt (fun q => by cases q)) h_r) (v := .ref tt) rfl dd_R_dropLowestLimb_45 ?_
      refine lv_iload hx hb dd_R_dropLowestLimb_48 (lv_at hl 3 rfl) ?_
      refine mr_lald C0 hM mu_s (i) (rfl) (by omega) (by decide) dd_R_dropLowestLimb_50 ?_
      refine lv_lload_n hx hb dd_R_dropLowestLimb_51 rfl (lv_at hl 1 rfl) ?_
      refine lv_aload_n hx hb dd_R_dropLowestLimb_52 rfl (lv_at hl 0 rfl) ?_
      refine mr_get C0 hM fk_R_21 (mu_n' (ne_k h_r h_tt (fun q => by cases q)) h_r) (v := .ref mn) rfl dd_R_dropLowestLimb_53 ?_
      refine lv_iload hx hb dd_R_dropLowestLimb_56 (lv_at hl 3 rfl) ?_
      refine mr_lald C0 hM (mu_n' ne_mn_tt h_mn) (i) (rfl) (by omega) (by decide) dd_R_dropLowestLimb_58 ?_
      refine lv_lmul hx hb dd_R_dropLowestLimb_59 ?_
      refine mr_vl (x' := lN (dg_ N i * mm)) ((lN_mul _ _).trans (congrArg lN (Nat.mul_comm _ _))) ?_
      refine lv_ladd hx hb dd_R_dropLowestLimb_60 ?_
      refine mr_vl (x' := lN (dg_ T i + dg_ N i * mm)) ((congrArg (· + lN (dg_ N i * mm)) ds_at).trans (lN_add _ _)) ?_
      refine lv_lload_n hx hb dd_R_dropLowestLimb_61 rfl (lv_at hl 2 rfl) ?_
      refine lv_ladd hx hb dd_R_dropLowestLimb_62 ?_
      refine mr_vl (x' := lN (dg_ T i + dg_ N i * mm + ca_ 4294967296 T N mm i)) (lN_add _ _) ?_
      refine lv_lstore (lv' := [(6, .long (lN (dg_ T i + dg_ N i * mm + ca_ 4294967296 T N mm i))), (0, .ref r), (1, .long (lN mm)), (3, .long (lN (ca_ 4294967296 T N mm i))), (5, .int (nI i))]) hx hb dd_R_dropLowestLimb_63 hl (by decide) rfl (fun ls hl => ?_)
      refine lv_aload_n hx hb dd_R_dropLowestLimb_65 rfl (lv_at hl 1 rfl) ?_
      refine mr_get C0 hM fk_R_30 (mu_n' (ne_k h_r h_tt (fun q => by cases q)) h_r) (v := .ref tt) rfl dd_R_dropLowestLimb_66 ?_
      refine lv_iload hx hb dd_R_dropLowestLimb_69 (lv_at hl 4 rfl) ?_
      refine lv_iconst (v := nI 1) hx hb dd_R_dropLowestLimb_71 (by decide) ?_
      refine lv_isub hx hb dd_R_dropLowestLimb_72 ?_
      refine mr_vi (pk_sub (a := i) (b := 1) (by omega)) ?_
      refine lv_lload hx hb dd_R_dropLowestLimb_73 (lv_at hl 0 rfl) ?_
      refine mr_ldc2 (v := lN 4294967295) C0 tw_163 dd_R_dropLowestLimb_75 ?_
      refine lv_land hx hb dd_R_dropLowestLimb_78 ?_
      refine mr_vl (x' := lN (dg_ (T + N * mm) i)) ((lm_ h64).trans (congrArg lN (by rw [ca_step (by decide), ca_dig]))) ?_
      refine mr_last C0 hM hS mu_s ((i - 1)) (rfl) (by omega) (by decide) dd_R_dropLowestLimb_79 (fun H locs hM hS => ?_)
      have hM := mr_M mu_mu hM
      have hM := mr_M (congrArg (fun z__ => mu_ M tt (la_ G 6 z__)) (show (vp_updL (ds_ T (T + N * mm) i) (i - 1) (lN (dg_ (T + N * mm) i)) : Nat → Int64) = (ds_ T (T + N * mm) (i + 1)) from ds_s hi1)) hM
      have hM : mm_ G (mu_ M tt (la_ G 6 (ds_ T (T + N * mm) (i + 1)))) H := hM
      refine lv_lload hx hb dd_R_dropLowestLimb_80 (lv_at hl 0 rfl) ?_
      refine lv_bipush (v := nI 32) hx hb dd_R_dropLowestLimb_82 (by decide) ?_
      refine lv_lushr (v := lN (ca_ 4294967296 T N mm (i + 1))) hx hb dd_R_dropLowestLimb_84 ((lh_ h64).trans (congrArg lN (by rw [ca_step (by decide), ca_next]))) ?_
      refine lv_lstore_n (lv' := [(3, .long (lN (ca_ 4294967296 T N mm (i + 1)))), (6, .long (lN (dg_ T i + dg_ N i * mm + ca_ 4294967296 T N mm i))), (0, .ref r), (1, .long (lN mm)), (5, .int (nI i))]) hx hb dd_R_dropLowestLimb_85 rfl hl (by decide) rfl (fun ls hl => ?_)
      refine lv_iinc (k := 4) (v := nI (i + 1)) (lv' := [(5, .int (nI (i + 1))), (3, .long (lN (ca_ 4294967296 T N mm (i + 1)))), (6, .long (lN (dg_ T i + dg_ N i * mm + ca_ 4294967296 T N mm i))), (0, .ref r), (1, .long (lN mm))]) hx hb dd_R_dropLowestLimb_86 hl rfl (inc_ i) (by decide) rfl (fun ls hl => ?_)
      refine lv_goto (tgt := 38) hx hb dd_R_dropLowestLimb_89 rfl ?_
      exact ih _ _ _ _ (by omega) (by omega) hM hS (lv_sub hl [3, 4, 1, 0] rfl)
  have hM := mr_M (mu_id h_tt).symm hM
  have hM := mr_M (congrArg (fun z => mu_ M tt (la_ G 6 z)) (ds_1 T (T + N * mm))) hM
  exact loop_38 3 1 _ _ _ (rfl) (Nat.one_pos) hM hS (lv_sub hl [3, 2, 1, 0] rfl)

set_option maxHeartbeats 4000000 in
set_option maxRecDepth 100000 in
theorem c_R_reduceTotal (l : Launch) {G : mg_} {M : mw_} {r th td un mn mo mq tt dd bb rr : Nat} {ni : Int64} {out T N : Nat} {f d0 o0 : Nat → Int64} (h_r : M r = some (ob_ 2 [.ref th, .ref td, .ref un, .ref mn, .ref mo, .ref mq, .ref tt, .ref dd, .ref bb, .ref rr, .long ni])) (h_tt : M tt = some (la_ G 6 f)) (h_mn : M mn = some (la_ G 4 (nl_ N))) (h_dd : M dd = some (la_ G 4 d0)) (h_out : M out = some (la_ G 4 o0)) (ne_mn_dd : mn ≠ dd) (ne_out_dd : out ≠ dd) (ne_tt_dd : tt ≠ dd) (hf : ∀ j, j < 5 → f j = lN (dg_ T j)) (hT : T < 2 * N) (hN : N < 4294967296 ^ 4) : ct_ l my_R_reduceTotal cd_R_reduceTotal 7 none { frames := 1, cells := 0, slots := 0, locals := 35 } G [.ref r, .ref out] M (fun v0 M' => v0 = none ∧ ∃ (d : Nat → Int64), M' = mu_ (mu_ M dd (la_ G 4 d)) out (la_ G 4 (nl_ (T % N)))) 0 0 := by
  refine ct_.intro2 (by decide) (Nat.le_of_ble_eq_true rfl) ?_
  intro p e s m args below meth c ls R Q hR hQ C0 hl hM hS
  have hx := C0.1
  have hb := C0.2.1
  have hl : lv_has ls 7 [(0, .ref r), (1, .ref out)] := hl
  refine lv_lconst (v := lN 0) hx hb dd_R_reduceTotal_0 rfl ?_
  refine lv_lstore_n (lv' := [(2, .long (lN 0)), (0, .ref r), (1, .ref out)]) hx hb dd_R_reduceTotal_1 rfl hl (by decide) rfl (fun ls hl => ?_)
  refine lv_iconst (v := nI 0) hx hb dd_R_reduceTotal_2 (by decide) ?_
  refine lv_istore (lv' := [(4, .int (nI 0)), (2, .long (lN 0)), (0, .ref r), (1, .ref out)]) hx hb dd_R_reduceTotal_3 hl (by decide) rfl (fun ls hl => ?_)
  have loop_5 : ∀ (k : Nat) (i : Nat) (H : Heap) (locs : List Loc) (ls : Array Slot), i + k = 4 → mm_ G (mu_ M dd (la_ G 4 (nu_ d0 (T % 4294967296 ^ 4 + 4294967296 ^ 4 - N) i))) H → va_S (fz_ G) s.heap H locs → lv_has ls 7 [(0, .ref r), (1, .ref out), (2, .long (lN (bo_ 4294967296 T N i))), (4, .int (nI i))] → W p l e R s m args below meth c H locs 0 0 Q (F0 m 5 ls []) := by
    intro k
    induction k with
    | zero =>
      intro i H locs ls hi hM hS hl
      refine lv_iload hx hb dd_R_reduceTotal_5 (lv_at hl 3 rfl) ?_
      refine lv_iconst (v := nI 4) hx hb dd_R_reduceTotal_7 (by decide) ?_
      refine lv_icmp_ge (tgt := 55) hx hb dd_R_reduceTotal_8 rfl (fun _ => ?_) (fun hc => absurd (le_nI (a := 4) (b := i) (by omega) (by omega) (by omega)) hc)
      refine lv_lload_n hx hb dd_R_reduceTotal_55 rfl (lv_at hl 2 rfl) ?_
      refine lv_aload_n hx hb dd_R_reduceTotal_56 rfl (lv_at hl 0 rfl) ?_
      refine mr_get C0 hM fk_R_30 (mu_n' (ne_k h_r h_dd (fun q => by cases q)) h_r) (v := .ref tt) rfl dd_R_reduceTotal_57 ?_
      refine lv_iconst (v := nI 4) hx hb dd_R_reduceTotal_60 (by decide) ?_
      refine mr_lald C0 hM (mu_n' ne_tt_dd h_tt) (4) (rfl) (by omega) (by decide) dd_R_reduceTotal_61 ?_
      refine mr_vl (x' := lN (dg_ T 4)) (hf 4 (by decide)) ?_
      have hi4 : i = 4 := by omega
      have hb4 : bo_ 4294967296 T N i ≤ 1 := bo_le _ _ _ _
      have hg4 : dg_ T 4 < 4294967296 := db_lt (by decide)
      refine mr_lif_le (tgt := 73) hx hb dd_R_reduceTotal_62 dd_R_reduceTotal_63 rfl (fun h62 => ?_) (fun h62 => ?_)
      · skip
        have hv : T % N = (T % 4294967296 ^ 4 + 4294967296 ^ 4 - N) % 4294967296 ^ 4 := by rw [← red4 hN hT, if_neg (Nat.not_lt.mpr (by rw [hi4] at h62; exact (pk_lLE (by rw [← hi4]; omega) (by omega)).mp h62))]
        refine lv_aload_n hx hb dd_R_reduceTotal_73 rfl (lv_at hl 0 rfl) ?_
        refine mr_get C0 hM fk_R_33 (mu_n' (ne_k h_r h_dd (fun q => by cases q)) h_r) (v := .ref dd) rfl dd_R_reduceTotal_74 ?_
        refine lv_iconst (v := nI 0) hx hb dd_R_reduceTotal_77 (by decide) ?_
        refine lv_aload_n hx hb dd_R_reduceTotal_78 rfl (lv_at hl 1 rfl) ?_
        refine lv_iconst (v := nI 0) hx hb dd_R_reduceTotal_79 (by decide) ?_
        refine lv_iconst (v := nI 4) hx hb dd_R_reduceTotal_80 (by decide) ?_
        refine mr_copyl C0 hl.1 tw_180 hM hS mu_s (mu_n' ne_out_dd h_out) (0) (0) (4) rfl rfl rfl (by decide) (by decide) (by decide) (by decide) (by subst hR; decide) (by subst hR; decide) dd_R_reduceTotal_81 (fun H locs hM hS => ?_)
        have hM := mr_lext (g := nl_ (T % N)) (fun j hj => by rw [pk_cpy_in (by omega) (by omega), Nat.zero_add, Nat.sub_zero, nu_b (by omega), hv]; exact congrArg lN (dg_mod hj).symm) hM
        exact mr_ret hQ (mr_vret C0 hM hS (⟨rfl, _, rfl⟩) dd_R_reduceTotal_84)
      · skip
        have hv : T % N = T := by rw [← red4 hN hT, if_pos (Nat.lt_of_not_le (fun q => h62 (by rw [hi4]; exact (pk_lLE (by rw [← hi4]; omega) (by omega)).mpr q)))]
        refine lv_aload_n hx hb dd_R_reduceTotal_66 rfl (lv_at hl 0 rfl) ?_
        refine mr_get C0 hM fk_R_30 (mu_n' (ne_k h_r h_dd (fun q => by cases q)) h_r) (v := .ref tt) rfl dd_R_reduceTotal_67 ?_
        refine lv_goto (tgt := 77) hx hb dd_R_reduceTotal_70 rfl ?_
        refine lv_iconst (v := nI 0) hx hb dd_R_reduceTotal_77 (by decide) ?_
        refine lv_aload_n hx hb dd_R_reduceTotal_78 rfl (lv_at hl 1 rfl) ?_
        refine lv_iconst (v := nI 0) hx hb dd_R_reduceTotal_79 (by decide) ?_
        refine lv_iconst (v := nI 4) hx hb dd_R_reduceTotal_80 (by decide) ?_
        refine mr_copyl C0 hl.1 tw_180 hM hS (mu_n' ne_tt_dd h_tt) (mu_n' ne_out_dd h_out) (0) (0) (4) rfl rfl rfl (by decide) (by decide) (by decide) (by decide) (by subst hR; decide) (by subst hR; decide) dd_R_reduceTotal_81 (fun H locs hM hS => ?_)
        have hM := mr_lext (g := nl_ (T % N)) (fun j hj => by rw [pk_cpy_in (by omega) (by omega), Nat.zero_add, Nat.sub_zero, hv]; exact hf j (by omega)) hM
        exact mr_ret hQ (mr_vret C0 hM hS (⟨rfl, _, rfl⟩) dd_R_reduceTotal_84)
    | succ k ih =>
      intro i H locs ls hi hM hS hl
      refine lv_iload hx hb dd_R_reduceTotal_5 (lv_at hl 3 rfl) ?_
      refine lv_iconst (v := nI 4) hx hb dd_R_reduceTotal_7 (by decide) ?_
      refine lv_icmp_ge (tgt := 55) hx hb dd_R_reduceTotal_8 rfl (fun hc => absurd hc (nle_nI (a := 4) (b := i) (by omega) (by omega) (by omega))) (fun _ => ?_)
      refine lv_aload_n hx hb dd_R_reduceTotal_11 rfl (lv_at hl 0 rfl) ?_
      refine mr_get C0 hM fk_R_30 (mu_n' (ne_k h_r h_dd (fun q => by cases q)) h_r) (v := .ref tt) rfl dd_R_reduceTotal_12 ?_
      refine lv_iload hx hb dd_R_reduceTotal_15 (lv_at hl 3 rfl) ?_
      refine mr_lald C0 hM (mu_n' ne_tt_dd h_tt) (i) (rfl) (by omega) (by decide) dd_R_reduceTotal_17 ?_
      refine lv_aload_n hx hb dd_R_reduceTotal_18 rfl (lv_at hl 0 rfl) ?_
      refine mr_get C0 hM fk_R_21 (mu_n' (ne_k h_r h_dd (fun q => by cases q)) h_r) (v := .ref mn) rfl dd_R_reduceTotal_19 ?_
      refine lv_iload hx hb dd_R_reduceTotal_22 (lv_at hl 3 rfl) ?_
      refine mr_lald C0 hM (mu_n' ne_mn_dd h_mn) (i) (rfl) (by omega) (by decide) dd_R_reduceTotal_24 ?_
      refine lv_lsub hx hb dd_R_reduceTotal_25 ?_
      refine lv_lload_n hx hb dd_R_reduceTotal_26 rfl (lv_at hl 2 rfl) ?_
      refine lv_lsub hx hb dd_R_reduceTotal_27 ?_
      refine mr_vl (x' := lN (dg_ T i) - lN (dg_ N i) - lN (bo_ 4294967296 T N i)) (by rw [hf i (by omega)]; rfl) ?_
      refine lv_lstore (lv' := [(5, .long (lN (dg_ T i) - lN (dg_ N i) - lN (bo_ 4294967296 T N i))), (0, .ref r), (1, .ref out), (2, .long (lN (bo_ 4294967296 T N i))), (4, .int (nI i))]) hx hb dd_R_reduceTotal_28 hl (by decide) rfl (fun ls hl => ?_)
      refine lv_aload_n hx hb dd_R_reduceTotal_30 rfl (lv_at hl 1 rfl) ?_
      refine mr_get C0 hM fk_R_33 (mu_n' (ne_k h_r h_dd (fun q => by cases q)) h_r) (v := .ref dd) rfl dd_R_reduceTotal_31 ?_
      refine lv_iload hx hb dd_R_reduceTotal_34 (lv_at hl 4 rfl) ?_
      refine lv_lload hx hb dd_R_reduceTotal_36 (lv_at hl 0 rfl) ?_
      refine mr_ldc2 (v := lN 4294967295) C0 tw_163 dd_R_reduceTotal_38 ?_
      refine lv_land hx hb dd_R_reduceTotal_41 ?_
      refine mr_vl (x' := lN (dg_ (T % 4294967296 ^ 4 + 4294967296 ^ 4 - N) i)) ((lsb_m (db_lt (by decide)) (db_lt (by decide)) (bo_le _ _ _ _)).trans (congrArg lN (bo_dig (by decide) hN (by omega)))) ?_
      refine mr_last C0 hM hS mu_s (i) (rfl) (by omega) (by decide) dd_R_reduceTotal_42 (fun H locs hM hS => ?_)
      have hM := mr_M mu_mu hM
      have hM := mr_M (congrArg (fun z__ => mu_ M dd (la_ G 4 z__)) (show (vp_updL (nu_ d0 (T % 4294967296 ^ 4 + 4294967296 ^ 4 - N) i) i (lN (dg_ (T % 4294967296 ^ 4 + 4294967296 ^ 4 - N) i)) : Nat → Int64) = (nu_ d0 (T % 4294967296 ^ 4 + 4294967296 ^ 4 - N) (i + 1)) from nu_s d0 (T % 4294967296 ^ 4 + 4294967296 ^ 4 - N) i)) hM
      have hM : mm_ G (mu_ M dd (la_ G 4 (nu_ d0 (T % 4294967296 ^ 4 + 4294967296 ^ 4 - N) (i + 1)))) H := hM
      refine lv_lload hx hb dd_R_reduceTotal_43 (lv_at hl 0 rfl) ?_
      refine lv_bipush (v := nI 63) hx hb dd_R_reduceTotal_45 (by decide) ?_
      refine lv_lushr (v := lN (bo_ 4294967296 T N (i + 1))) hx hb dd_R_reduceTotal_47 ((lsb_s (db_lt (by decide)) (db_lt (by decide)) (bo_le _ _ _ _)).trans (congrArg lN (bo_s (by decide) T N i).symm)) ?_
      refine lv_lstore_n (lv' := [(2, .long (lN (bo_ 4294967296 T N (i + 1)))), (5, .long (lN (dg_ T i) - lN (dg_ N i) - lN (bo_ 4294967296 T N i))), (0, .ref r), (1, .ref out), (4, .int (nI i))]) hx hb dd_R_reduceTotal_48 rfl hl (by decide) rfl (fun ls hl => ?_)
      refine lv_iinc (k := 4) (v := nI (i + 1)) (lv' := [(4, .int (nI (i + 1))), (2, .long (lN (bo_ 4294967296 T N (i + 1)))), (5, .long (lN (dg_ T i) - lN (dg_ N i) - lN (bo_ 4294967296 T N i))), (0, .ref r), (1, .ref out)]) hx hb dd_R_reduceTotal_49 hl rfl (inc_ i) (by decide) rfl (fun ls hl => ?_)
      refine lv_goto (tgt := 5) hx hb dd_R_reduceTotal_52 rfl ?_
      exact ih _ _ _ _ (by omega) hM hS (lv_sub hl [3, 4, 1, 0] rfl)
  have hM := mr_M (mu_id h_dd).symm hM
  have hM := mr_M (congrArg (fun z => mu_ M dd (la_ G 4 z)) (nu_0 d0 (T % 4294967296 ^ 4 + 4294967296 ^ 4 - N))) hM
  exact loop_5 4 0 _ _ _ (rfl) hM hS (by rw [bo_0]; exact lv_sub hl [2, 3, 1, 0] rfl)

set_option maxHeartbeats 4000000 in
set_option maxRecDepth 100000 in
theorem c_R_montgomery (l : Launch) {G : mg_} {M : mw_} {r th td un mn mo mq tt dd bb rr : Nat} {n1 N Bi X Y x y out : Nat} {t0 d0 o0 : Nat → Int64} (h_r : M r = some (ob_ 2 [.ref th, .ref td, .ref un, .ref mn, .ref mo, .ref mq, .ref tt, .ref dd, .ref bb, .ref rr, .long (lN n1)])) (h_tt : M tt = some (la_ G 6 t0)) (h_dd : M dd = some (la_ G 4 d0)) (h_mn : M mn = some (la_ G 4 (nl_ N))) (h_x : M x = some (la_ G 4 (nl_ X))) (h_y : M y = some (la_ G 4 (nl_ Y))) (h_out : M out = some (la_ G 4 o0)) (ne_mn_dd : mn ≠ dd) (ne_mn_tt : mn ≠ tt) (ne_out_dd : out ≠ dd) (ne_out_tt : out ≠ tt) (ne_tt_dd : tt ≠ dd) (ne_x_tt : x ≠ tt) (ne_y_tt : y ≠ tt) (hX : X < N) (hY : Y < N) (hN : N < 4294967296 ^ 4) (hn1 : n1 < 4294967296) (hinv : (n1 * N + 1) % 4294967296 = 0) (hBi : 4294967296 ^ 4 * Bi % N = 1 % N) : ct_ l my_R_montgomery cd_R_montgomery 5 none { frames := 2, cells := 0, slots := 0, locals := 61 } G [.ref r, .ref x, .ref y, .ref out] M (fun v0 M' => v0 = none ∧ ∃ (t : Nat → Int64) (d : Nat → Int64), M' = mu_ (mu_ (mu_ M tt (la_ G 6 t)) dd (la_ G 4 d)) out (la_ G 4 (nl_ (X * Y * Bi % N)))) 0 0 := by
  refine ct_.intro2 (by decide) (Nat.le_of_ble_eq_true rfl) ?_
  intro p e s m args below meth c ls R Q hR hQ C0 hl hM hS
  have hx := C0.1
  have hb := C0.2.1
  have hl : lv_has ls 5 [(0, .ref r), (1, .ref x), (2, .ref y), (3, .ref out)] := hl
  refine lv_aload_n hx hb dd_R_montgomery_0 rfl (lv_at hl 0 rfl) ?_
  refine mr_get C0 hM fk_R_30 h_r (v := .ref tt) rfl dd_R_montgomery_1 ?_
  refine lv_lconst (v := lN 0) hx hb dd_R_montgomery_4 rfl ?_
  refine mr_callS (As := [.ref tt, .long (lN 0)]) (rest := []) C0 hM hS sk_R_99 (c_A_fill_aJJ l h_tt (by decide)) rfl rfl hl.1 (by decide) rfl rfl (by subst hR; exact ⟨Nat.le_of_ble_eq_true rfl, Nat.le_of_ble_eq_true rfl⟩) (by subst hR; exact ⟨Nat.le_of_ble_eq_true rfl, Nat.le_of_ble_eq_true rfl⟩) dd_R_montgomery_5 (fun v1 M1 H locs hp hM hS => ?_)
  obtain ⟨ev1, eM1⟩ := hp
  subst ev1
  rw [eM1] at hM
  have hM : mm_ G (mu_ M tt (la_ G 6 (fun _ => lN 0))) H := hM
  refine W.eq (g2 := F0 m 8 ls []) rfl ?_
  refine lv_iconst (v := nI 0) hx hb dd_R_montgomery_8 (by decide) ?_
  refine lv_istore (lv' := [(4, .int (nI 0)), (0, .ref r), (1, .ref x), (2, .ref y), (3, .ref out)]) hx hb dd_R_montgomery_9 hl (by decide) rfl (fun ls hl => ?_)
  have loop_11 : ∀ (k : Nat) (i : Nat) (T : Nat) (f : Nat → Int64) (H : Heap) (locs : List Loc) (ls : Array Slot), i + k = 4 → (∀ j, j < 5 → f j = lN (dg_ T j)) → T < 2 * N → T * 4294967296 ^ i % N = X * (Y % 4294967296 ^ i) % N → mm_ G (mu_ M tt (la_ G 6 f)) H → va_S (fz_ G) s.heap H locs → lv_has ls 5 [(0, .ref r), (1, .ref x), (2, .ref y), (3, .ref out), (4, .int (nI i))] → W p l e R s m args below meth c H locs 0 0 Q (F0 m 11 ls []) := by
    intro k
    induction k with
    | zero =>
      intro i T f H locs ls hi hf hT hm hM hS hl
      have hTN : T % N = X * Y * Bi % N := mg_end hBi (by rw [show i = 4 from by omega, Nat.mod_eq_of_lt (Nat.lt_trans hY hN)] at hm; exact hm)
      refine lv_iload hx hb dd_R_montgomery_11 (lv_at hl 4 rfl) ?_
      refine lv_iconst (v := nI 4) hx hb dd_R_montgomery_13 (by decide) ?_
      refine lv_icmp_ge (tgt := 36) hx hb dd_R_montgomery_14 rfl (fun _ => ?_) (fun hc => absurd (le_nI (a := 4) (b := i) (by omega) (by omega) (by omega)) hc)
      refine lv_aload_n hx hb dd_R_montgomery_36 rfl (lv_at hl 0 rfl) ?_
      refine lv_aload_n hx hb dd_R_montgomery_37 rfl (lv_at hl 3 rfl) ?_
      refine mr_callV (As := [.ref out]) (rest := []) C0 hM hS vk_R_96 (mu_n' (ne_k h_r h_tt (fun q => by cases q)) h_r) rfl (c_R_reduceTotal l (mu_n' (ne_k h_r h_tt (fun q => by cases q)) h_r) mu_s (mu_n' ne_mn_tt h_mn) (mu_n' (Ne.symm ne_tt_dd) h_dd) (mu_n' ne_out_tt h_out) ne_mn_dd ne_out_dd ne_tt_dd hf hT hN) rfl rfl hl.1 (by decide) rfl rfl (by subst hR; exact ⟨Nat.le_of_ble_eq_true rfl, Nat.le_of_ble_eq_true rfl⟩) (by subst hR; exact ⟨Nat.le_of_ble_eq_true rfl, Nat.le_of_ble_eq_true rfl⟩) dd_R_montgomery_38 (fun v1 M1 H locs hp hM hS => ?_)
      obtain ⟨ev1, d1, eM1⟩ := hp
      subst ev1
      rw [eM1] at hM
      have hM : mm_ G (mu_ (mu_ (mu_ M tt (la_ G 6 f)) dd (la_ G 4 d1)) out (la_ G 4 (nl_ (T % N)))) H := hM
      refine W.eq (g2 := F0 m 41 ls []) rfl ?_
      rw [hTN] at hM
      exact mr_ret hQ (mr_vret C0 hM hS (⟨rfl, _, _, rfl⟩) dd_R_montgomery_41)
    | succ k ih =>
      intro i T f H locs ls hi hf hT hm hM hS hl
      have hTT : (T + X * dg_ Y i) < 4294967296 ^ 5 + 4294967296 ^ 5 := by
        have h1 := t5_lt hN hT
        have h2 : X * dg_ Y i ≤ 4294967296 ^ 4 * 4294967296 := Nat.mul_le_mul (Nat.le_of_lt (Nat.lt_trans hX hN)) (Nat.le_of_lt (db_lt (by decide)))
        have h3 : (4294967296 : Nat) ^ 4 * 4294967296 = 4294967296 ^ 5 := rfl
        omega
      refine lv_iload hx hb dd_R_montgomery_11 (lv_at hl 4 rfl) ?_
      refine lv_iconst (v := nI 4) hx hb dd_R_montgomery_13 (by decide) ?_
      refine lv_icmp_ge (tgt := 36) hx hb dd_R_montgomery_14 rfl (fun hc => absurd hc (nle_nI (a := 4) (b := i) (by omega) (by omega) (by omega))) (fun _ => ?_)
      refine lv_aload_n hx hb dd_R_montgomery_17 rfl (lv_at hl 0 rfl) ?_
      refine lv_aload_n hx hb dd_R_montgomery_18 rfl (lv_at hl 1 rfl) ?_
      refine lv_aload_n hx hb dd_R_montgomery_19 rfl (lv_at hl 2 rfl) ?_
      refine lv_iload hx hb dd_R_montgomery_20 (lv_at hl 4 rfl) ?_
      refine mr_lald C0 hM (mu_n' ne_y_tt h_y) (i) (rfl) (by omega) (by decide) dd_R_montgomery_22 ?_
      refine mr_vl (x' := lN (dg_ Y i)) (rfl) ?_
      refine mr_callV (As := [.ref x, .long (lN (dg_ Y i))]) (rest := []) C0 hM hS vk_R_105 (mu_n' (ne_k h_r h_tt (fun q => by cases q)) h_r) rfl (c_R_addProduct l (mu_n' (ne_k h_r h_tt (fun q => by cases q)) h_r) mu_s (mu_n' ne_x_tt h_x) ne_x_tt hf (t5_lt hN hT) (Nat.lt_trans hX hN) (db_lt (by decide))) rfl rfl hl.1 (by decide) rfl rfl (by subst hR; exact ⟨Nat.le_of_ble_eq_true rfl, Nat.le_of_ble_eq_true rfl⟩) (by subst hR; exact ⟨Nat.le_of_ble_eq_true rfl, Nat.le_of_ble_eq_true rfl⟩) dd_R_montgomery_23 (fun v1 M1 H locs hp hM hS => ?_)
      obtain ⟨ev1, eM1⟩ := hp
      subst ev1
      rw [eM1] at hM
      have hM := mr_M mu_mu hM
      have hM : mm_ G (mu_ M tt (la_ G 6 (nl_ (T + X * dg_ Y i)))) H := hM
      refine W.eq (g2 := F0 m 26 ls []) rfl ?_
      refine lv_aload_n hx hb dd_R_montgomery_26 rfl (lv_at hl 0 rfl) ?_
      refine mr_callV (As := []) (rest := []) C0 hM hS vk_R_108 (mu_n' (ne_k h_r h_tt (fun q => by cases q)) h_r) rfl (c_R_dropLowestLimb l (mu_n' (ne_k h_r h_tt (fun q => by cases q)) h_r) mu_s (mu_n' ne_mn_tt h_mn) ne_mn_tt (mm := mq_ (T + X * dg_ Y i) n1) rfl hTT hN hn1) rfl rfl hl.1 (by decide) rfl rfl (by subst hR; exact ⟨Nat.le_of_ble_eq_true rfl, Nat.le_of_ble_eq_true rfl⟩) (by subst hR; exact ⟨Nat.le_of_ble_eq_true rfl, Nat.le_of_ble_eq_true rfl⟩) dd_R_montgomery_27 (fun v1 M1 H locs hp hM hS => ?_)
      obtain ⟨ev1, eM1⟩ := hp
      subst ev1
      rw [eM1] at hM
      have hM := mr_M mu_mu hM
      have hM : mm_ G (mu_ M tt (la_ G 6 (ds_ (T + X * dg_ Y i) ((T + X * dg_ Y i) + N * mq_ (T + X * dg_ Y i) n1) 6))) H := hM
      refine W.eq (g2 := F0 m 30 ls []) rfl ?_
      refine lv_iinc (k := 4) (v := nI (i + 1)) (lv' := [(4, .int (nI (i + 1))), (0, .ref r), (1, .ref x), (2, .ref y), (3, .ref out)]) hx hb dd_R_montgomery_30 hl rfl (inc_ i) (by decide) rfl (fun ls hl => ?_)
      refine lv_goto (tgt := 11) hx hb dd_R_montgomery_33 rfl ?_
      exact ih (i + 1) (((T + X * dg_ Y i) + N * mq_ (T + X * dg_ Y i) n1) / 4294967296) _ _ _ _ (by omega) (fun j hj => (ds_b (by omega)).trans (congrArg lN (db_div 4294967296 _ j).symm)) (mg_lt (by decide) hT hX (db_lt (by decide)) mq_lt) (mg_step (by decide) (mg_zero hinv) rfl hm) hM hS (lv_sub hl [1, 2, 3, 4, 0] rfl)
  exact loop_11 4 0 0 (fun _ => lN 0) _ _ _ (rfl) (fun j _ => congrArg lN (show 0 = dg_ 0 j by simp [db_])) (by omega) (by simp [Nat.mod_one]) hM hS (lv_sub hl [1, 2, 3, 4, 0] rfl)

set_option maxHeartbeats 4000000 in
set_option maxRecDepth 100000 in
theorem c_R_shiftBy128 (l : Launch) {G : mg_} {M : mw_} {r th td un mn mo mq tt dd bb rr : Nat} {ni : Int64} {N X x : Nat} {t0 d0 : Nat → Int64} (h_r : M r = some (ob_ 2 [.ref th, .ref td, .ref un, .ref mn, .ref mo, .ref mq, .ref tt, .ref dd, .ref bb, .ref rr, .long ni])) (h_tt : M tt = some (la_ G 6 t0)) (h_dd : M dd = some (la_ G 4 d0)) (h_mn : M mn = some (la_ G 4 (nl_ N))) (h_x : M x = some (la_ G 4 (nl_ X))) (ne_mn_dd : mn ≠ dd) (ne_mn_tt : mn ≠ tt) (ne_mn_x : mn ≠ x) (ne_tt_dd : tt ≠ dd) (ne_x_dd : x ≠ dd) (ne_x_tt : x ≠ tt) (hX : X < N) (hN : N < 4294967296 ^ 4) : ct_ l my_R_shiftBy128 cd_R_shiftBy128 8 none { frames := 2, cells := 0, slots := 0, locals := 61 } G [.ref r, .ref x] M (fun v0 M' => v0 = none ∧ ∃ (t : Nat → Int64) (d : Nat → Int64), M' = mu_ (mu_ (mu_ M tt (la_ G 6 t)) dd (la_ G 4 d)) x (la_ G 4 (nl_ (X * 2 ^ 128 % N)))) 0 0 := by
  refine ct_.intro2 (by decide) (Nat.le_of_ble_eq_true rfl) ?_
  intro p e s m args below meth c ls R Q hR hQ C0 hl hM hS
  have hx := C0.1
  have hb := C0.2.1
  have hl : lv_has ls 8 [(0, .ref r), (1, .ref x)] := hl
  refine lv_iconst (v := nI 0) hx hb dd_R_shiftBy128_0 (by decide) ?_
  refine lv_istore_n (lv' := [(2, .int (nI 0)), (0, .ref r), (1, .ref x)]) hx hb dd_R_shiftBy128_1 rfl hl (by decide) rfl (fun ls hl => ?_)
  have loop_2 : ∀ (k : Nat) (s0 : Nat) (t : Nat → Int64) (d : Nat → Int64) (H : Heap) (locs : List Loc) (ls : Array Slot), s0 + k = 128 → mm_ G (mu_ (mu_ (mu_ M tt (la_ G 6 t)) dd (la_ G 4 d)) x (la_ G 4 (nl_ (X * 2 ^ s0 % N)))) H → va_S (fz_ G) s.heap H locs → lv_has ls 8 [(0, .ref r), (1, .ref x), (2, .int (nI s0))] → W p l e R s m args below meth c H locs 0 0 Q (F0 m 2 ls []) := by
    intro k
    induction k with
    | zero =>
      intro s0 t d H locs ls hs hM hS hl
      refine lv_iload_n hx hb dd_R_shiftBy128_2 rfl (lv_at hl 2 rfl) ?_
      refine lv_sipush (v := nI 128) hx hb dd_R_shiftBy128_3 (by decide) ?_
      refine lv_icmp_ge (tgt := 73) hx hb dd_R_shiftBy128_6 rfl (fun _ => ?_) (fun hc => absurd (le_nI (a := 128) (b := s0) (by omega) (by omega) (by omega)) hc)
      rw [show s0 = 128 by omega] at hM
      exact mr_ret hQ (mr_vret C0 hM hS (⟨rfl, _, _, rfl⟩) dd_R_shiftBy128_73)
    | succ k ih =>
      intro s0 t d H locs ls hs hM hS hl
      have hZ : (X * 2 ^ s0 % N) < N := Nat.mod_lt _ (by omega)
      refine lv_iload_n hx hb dd_R_shiftBy128_2 rfl (lv_at hl 2 rfl) ?_
      refine lv_sipush (v := nI 128) hx hb dd_R_shiftBy128_3 (by decide) ?_
      refine lv_icmp_ge (tgt := 73) hx hb dd_R_shiftBy128_6 rfl (fun hc => absurd hc (nle_nI (a := 128) (b := s0) (by omega) (by omega) (by omega))) (fun _ => ?_)
      refine lv_lconst (v := lN 0) hx hb dd_R_shiftBy128_9 rfl ?_
      refine lv_lstore_n (lv' := [(3, .long (lN 0)), (0, .ref r), (1, .ref x), (2, .int (nI s0))]) hx hb dd_R_shiftBy128_10 rfl hl (by decide) rfl (fun ls hl => ?_)
      refine lv_iconst (v := nI 0) hx hb dd_R_shiftBy128_11 (by decide) ?_
      refine lv_istore (lv' := [(5, .int (nI 0)), (3, .long (lN 0)), (0, .ref r), (1, .ref x), (2, .int (nI s0))]) hx hb dd_R_shiftBy128_12 hl (by decide) rfl (fun ls hl => ?_)
      have loop_14 : ∀ (q : Nat) (i : Nat) (H : Heap) (locs : List Loc) (ls : Array Slot), i + q = 4 → mm_ G (mu_ (mu_ (mu_ M tt (la_ G 6 (nu_ t ((X * 2 ^ s0 % N) * 2) i))) dd (la_ G 4 d)) x (la_ G 4 (nl_ (X * 2 ^ s0 % N)))) H → va_S (fz_ G) s.heap H locs → lv_has ls 8 [(0, .ref r), (1, .ref x), (2, .int (nI s0)), (3, .long (lN (cm_ 4294967296 (X * 2 ^ s0 % N) 2 i))), (5, .int (nI i))] → W p l e R s m args below meth c H locs 0 0 Q (F0 m 14 ls []) := by
        intro q
        induction q with
        | zero =>
          intro i H locs ls hi hM hS hl
          refine lv_iload hx hb dd_R_shiftBy128_14 (lv_at hl 4 rfl) ?_
          refine lv_iconst (v := nI 4) hx hb dd_R_shiftBy128_16 (by decide) ?_
          refine lv_icmp_ge (tgt := 55) hx hb dd_R_shiftBy128_17 rfl (fun _ => ?_) (fun hc => absurd (le_nI (a := 4) (b := i) (by omega) (by omega) (by omega)) hc)
          refine lv_aload_n hx hb dd_R_shiftBy128_55 rfl (lv_at hl 0 rfl) ?_
          refine mr_get C0 hM fk_R_30 (mu_n' (ne_k h_r h_x (fun q => by cases q)) (mu_n' (ne_k h_r h_dd (fun q => by cases q)) (mu_n' (ne_k h_r h_tt (fun q => by cases q)) h_r))) (v := .ref tt) rfl dd_R_shiftBy128_56 ?_
          refine lv_iconst (v := nI 4) hx hb dd_R_shiftBy128_59 (by decide) ?_
          refine lv_lload_n hx hb dd_R_shiftBy128_60 rfl (lv_at hl 3 rfl) ?_
          refine mr_vl (x' := lN (dg_ ((X * 2 ^ s0 % N) * 2) 4)) (congrArg lN (by rw [show i = 4 from by omega, cm_, Nat.mod_eq_of_lt (Nat.lt_trans hZ hN), dg_4 (t5_lt (T := (X * 2 ^ s0 % N) * 2) hN (by omega))])) ?_
          refine mr_last C0 hM hS (mu_n' (Ne.symm ne_x_tt) (mu_n' ne_tt_dd mu_s)) (4) (rfl) (by omega) (by decide) dd_R_shiftBy128_61 (fun H locs hM hS => ?_)
          have hM := mr_M (mu_c3 ne_tt_dd (Ne.symm ne_x_tt)) hM
          have hM := mr_M (congrArg (fun z__ => mu_ (mu_ (mu_ M tt (la_ G 6 z__)) dd (la_ G 4 d)) x (la_ G 4 (nl_ (X * 2 ^ s0 % N)))) (show (vp_updL (nu_ t ((X * 2 ^ s0 % N) * 2) i) 4 (lN (dg_ ((X * 2 ^ s0 % N) * 2) 4)) : Nat → Int64) = (nu_ t ((X * 2 ^ s0 % N) * 2) 5) from by rw [show i = 4 from by omega]; exact nu_s t ((X * 2 ^ s0 % N) * 2) 4)) hM
          have hM : mm_ G (mu_ (mu_ (mu_ M tt (la_ G 6 (nu_ t ((X * 2 ^ s0 % N) * 2) 5))) dd (la_ G 4 d)) x (la_ G 4 (nl_ (X * 2 ^ s0 % N)))) H := hM
          refine lv_aload_n hx hb dd_R_shiftBy128_62 rfl (lv_at hl 0 rfl) ?_
          refine lv_aload_n hx hb dd_R_shiftBy128_63 rfl (lv_at hl 1 rfl) ?_
          refine mr_callV (As := [.ref x]) (rest := []) C0 hM hS vk_R_96 (mu_n' (ne_k h_r h_x (fun q => by cases q)) (mu_n' (ne_k h_r h_dd (fun q => by cases q)) (mu_n' (ne_k h_r h_tt (fun q => by cases q)) h_r))) rfl (c_R_reduceTotal l (mu_n' (ne_k h_r h_x (fun q => by cases q)) (mu_n' (ne_k h_r h_dd (fun q => by cases q)) (mu_n' (ne_k h_r h_tt (fun q => by cases q)) h_r))) (mu_n' (Ne.symm ne_x_tt) (mu_n' ne_tt_dd mu_s)) (mu_n' ne_mn_x (mu_n' ne_mn_dd (mu_n' ne_mn_tt h_mn))) (mu_n' (Ne.symm ne_x_dd) mu_s) mu_s ne_mn_dd ne_x_dd ne_tt_dd (T := (X * 2 ^ s0 % N) * 2) (fun j hj => nu_b hj) (by omega) hN) rfl rfl hl.1 (by decide) rfl rfl (by subst hR; exact ⟨Nat.le_of_ble_eq_true rfl, Nat.le_of_ble_eq_true rfl⟩) (by subst hR; exact ⟨Nat.le_of_ble_eq_true rfl, Nat.le_of_ble_eq_true rfl⟩) dd_R_shiftBy128_64 (fun v1 M1 H locs hp hM hS => ?_)
          obtain ⟨ev1, d1, eM1⟩ := hp
          subst ev1
          rw [eM1] at hM
          have hM := mr_M ((congrArg (fun X__ => mu_ X__ x (la_ G 4 (nl_ ((X * 2 ^ s0 % N) * 2 % N)))) (mu_c2 (Ne.symm ne_x_dd))).trans mu_mu) hM
          have hM : mm_ G (mu_ (mu_ (mu_ M tt (la_ G 6 (nu_ t ((X * 2 ^ s0 % N) * 2) 5))) dd (la_ G 4 d1)) x (la_ G 4 (nl_ ((X * 2 ^ s0 % N) * 2 % N)))) H := hM
          refine W.eq (g2 := F0 m 67 ls []) rfl ?_
          refine lv_iinc (k := 2) (v := nI (s0 + 1)) (lv' := [(2, .int (nI (s0 + 1))), (0, .ref r), (1, .ref x), (3, .long (lN (cm_ 4294967296 (X * 2 ^ s0 % N) 2 i))), (5, .int (nI i))]) hx hb dd_R_shiftBy128_67 hl rfl (inc_ s0) (by decide) rfl (fun ls hl => ?_)
          refine lv_goto (tgt := 2) hx hb dd_R_shiftBy128_70 rfl ?_
          rw [show (X * 2 ^ s0 % N) * 2 % N = X * 2 ^ (s0 + 1) % N by rw [Nat.pow_succ, ← Nat.mul_assoc, Nat.mod_mul_mod]] at hM
          exact ih (s0 + 1) _ _ _ _ _ (by omega) hM hS (lv_sub hl [1, 2, 0] rfl)
        | succ q ih2 =>
          intro i H locs ls hi hM hS hl
          have hc : cm_ 4294967296 (X * 2 ^ s0 % N) 2 i < 2 := cm_lt (by decide) _ (by decide) i
          have hg : dg_ (X * 2 ^ s0 % N) i < 4294967296 := db_lt (by decide)
          have h64 : dg_ (X * 2 ^ s0 % N) i * 2 + cm_ 4294967296 (X * 2 ^ s0 % N) 2 i < 18446744073709551616 := by omega
          refine lv_iload hx hb dd_R_shiftBy128_14 (lv_at hl 4 rfl) ?_
          refine lv_iconst (v := nI 4) hx hb dd_R_shiftBy128_16 (by decide) ?_
          refine lv_icmp_ge (tgt := 55) hx hb dd_R_shiftBy128_17 rfl (fun hc => absurd hc (nle_nI (a := 4) (b := i) (by omega) (by omega) (by omega))) (fun _ => ?_)
          refine lv_aload_n hx hb dd_R_shiftBy128_20 rfl (lv_at hl 1 rfl) ?_
          refine lv_iload hx hb dd_R_shiftBy128_21 (lv_at hl 4 rfl) ?_
          refine mr_lald C0 hM mu_s (i) (rfl) (by omega) (by decide) dd_R_shiftBy128_23 ?_
          refine lv_iconst (v := nI 1) hx hb dd_R_shiftBy128_24 (by decide) ?_
          refine lv_lshl (v := lN (dg_ (X * 2 ^ s0 % N) i * 2)) hx hb dd_R_shiftBy128_25 (wb_shl _ (by decide)) ?_
          refine lv_lload_n hx hb dd_R_shiftBy128_26 rfl (lv_at hl 3 rfl) ?_
          refine lv_lor hx hb dd_R_shiftBy128_27 ?_
          refine mr_vl (x' := lN (dg_ (X * 2 ^ s0 % N) i * 2 + cm_ 4294967296 (X * 2 ^ s0 % N) 2 i)) (g_or (k := 1) rfl hc h64) ?_
          refine lv_lstore (lv' := [(6, .long (lN (dg_ (X * 2 ^ s0 % N) i * 2 + cm_ 4294967296 (X * 2 ^ s0 % N) 2 i))), (0, .ref r), (1, .ref x), (2, .int (nI s0)), (3, .long (lN (cm_ 4294967296 (X * 2 ^ s0 % N) 2 i))), (5, .int (nI i))]) hx hb dd_R_shiftBy128_28 hl (by decide) rfl (fun ls hl => ?_)
          refine lv_aload_n hx hb dd_R_shiftBy128_30 rfl (lv_at hl 1 rfl) ?_
          refine mr_get C0 hM fk_R_30 (mu_n' (ne_k h_r h_x (fun q => by cases q)) (mu_n' (ne_k h_r h_dd (fun q => by cases q)) (mu_n' (ne_k h_r h_tt (fun q => by cases q)) h_r))) (v := .ref tt) rfl dd_R_shiftBy128_31 ?_
          refine lv_iload hx hb dd_R_shiftBy128_34 (lv_at hl 5 rfl) ?_
          refine lv_lload hx hb dd_R_shiftBy128_36 (lv_at hl 0 rfl) ?_
          refine mr_ldc2 (v := lN 4294967295) C0 tw_163 dd_R_shiftBy128_38 ?_
          refine lv_land hx hb dd_R_shiftBy128_41 ?_
          refine mr_vl (x' := lN (dg_ ((X * 2 ^ s0 % N) * 2) i)) ((lm_ h64).trans (congrArg lN (by rw [cm_step (by decide), cm_dig]))) ?_
          refine mr_last C0 hM hS (mu_n' (Ne.symm ne_x_tt) (mu_n' ne_tt_dd mu_s)) (i) (rfl) (by omega) (by decide) dd_R_shiftBy128_42 (fun H locs hM hS => ?_)
          have hM := mr_M (mu_c3 ne_tt_dd (Ne.symm ne_x_tt)) hM
          have hM := mr_M (congrArg (fun z__ => mu_ (mu_ (mu_ M tt (la_ G 6 z__)) dd (la_ G 4 d)) x (la_ G 4 (nl_ (X * 2 ^ s0 % N)))) (show (vp_updL (nu_ t ((X * 2 ^ s0 % N) * 2) i) i (lN (dg_ ((X * 2 ^ s0 % N) * 2) i)) : Nat → Int64) = (nu_ t ((X * 2 ^ s0 % N) * 2) (i + 1)) from nu_s t ((X * 2 ^ s0 % N) * 2) i)) hM
          have hM : mm_ G (mu_ (mu_ (mu_ M tt (la_ G 6 (nu_ t ((X * 2 ^ s0 % N) * 2) (i + 1)))) dd (la_ G 4 d)) x (la_ G 4 (nl_ (X * 2 ^ s0 % N)))) H := hM
          refine lv_lload hx hb dd_R_shiftBy128_43 (lv_at hl 0 rfl) ?_
          refine lv_bipush (v := nI 32) hx hb dd_R_shiftBy128_45 (by decide) ?_
          refine lv_lushr (v := lN (cm_ 4294967296 (X * 2 ^ s0 % N) 2 (i + 1))) hx hb dd_R_shiftBy128_47 ((lh_ h64).trans (congrArg lN (by rw [cm_step (by decide), cm_next]))) ?_
          refine lv_lstore_n (lv' := [(3, .long (lN (cm_ 4294967296 (X * 2 ^ s0 % N) 2 (i + 1)))), (6, .long (lN (dg_ (X * 2 ^ s0 % N) i * 2 + cm_ 4294967296 (X * 2 ^ s0 % N) 2 i))), (0, .ref r), (1, .ref x), (2, .int (nI s0)), (5, .int (nI i))]) hx hb dd_R_shiftBy128_48 rfl hl (by decide) rfl (fun ls hl => ?_)
          refine lv_iinc (k := 5) (v := nI (i + 1)) (lv' := [(5, .int (nI (i + 1))), (3, .long (lN (cm_ 4294967296 (X * 2 ^ s0 % N) 2 (i + 1)))), (6, .long (lN (dg_ (X * 2 ^ s0 % N) i * 2 + cm_ 4294967296 (X * 2 ^ s0 % N) 2 i))), (0, .ref r), (1, .ref x), (2, .int (nI s0))]) hx hb dd_R_shiftBy128_49 hl rfl (inc_ i) (by decide) rfl (fun ls hl => ?_)
          refine lv_goto (tgt := 14) hx hb dd_R_shiftBy128_52 rfl ?_
          exact ih2 _ _ _ _ (by omega) hM hS (lv_sub hl [3, 4, 5, 1, 0] rfl)
      have hM := mr_M (congrArg (fun z => mu_ (mu_ (mu_ M tt (la_ G 6 z)) dd (la_ G 4 d)) x (la_ G 4 (nl_ (X * 2 ^ s0 % N)))) (nu_0 t ((X * 2 ^ s0 % N) * 2))) hM
      exact loop_14 4 0 _ _ _ (rfl) hM hS (by rw [cm_0]; exact lv_sub hl [2, 3, 4, 1, 0] rfl)
  have hM := mr_M (mu_id h_tt).symm hM
  have hM := mr_M (mu_id (mu_n' (Ne.symm ne_tt_dd) h_dd)).symm hM
  have hM := mr_M (mu_id (mu_n' ne_x_dd (mu_n' ne_x_tt h_x))).symm hM
  have hM := mr_M (congrArg (fun z => mu_ (mu_ (mu_ M tt (la_ G 6 t0)) dd (la_ G 4 d0)) x (la_ G 4 (nl_ z))) (show X = X * 2 ^ 0 % N by rw [Nat.pow_zero, Nat.mul_one, Nat.mod_eq_of_lt hX])) hM
  exact loop_2 128 0 _ _ _ _ _ (rfl) hM hS (lv_sub hl [1, 2, 0] rfl)
end
section

theorem mu_c4 {M : mw_} {a b c d : Nat} {e e' f g h : va_E} (h1 : a ≠ b) (h2 : a ≠ c) (h3 : a ≠ d) : mu_ (mu_ (mu_ (mu_ (mu_ M a e) b f) c g) d h) a e' = mu_ (mu_ (mu_ (mu_ M a e') b f) c g) d h := by
  rw [← mu_sw h3, mu_c3 h1 h2]
theorem mu_c5 {M : mw_} {a b c d i : Nat} {e e' f g h j : va_E} (h1 : a ≠ b) (h2 : a ≠ c) (h3 : a ≠ d) (h4 : a ≠ i) : mu_ (mu_ (mu_ (mu_ (mu_ (mu_ M a e) b f) c g) d h) i j) a e' = mu_ (mu_ (mu_ (mu_ (mu_ M a e') b f) c g) d h) i j := by
  rw [← mu_sw h4, mu_c4 h1 h2 h3]
theorem mu_c6 {M : mw_} {a b c d i k : Nat} {e e' f g h j o : va_E} (h1 : a ≠ b) (h2 : a ≠ c) (h3 : a ≠ d) (h4 : a ≠ i) (h5 : a ≠ k) : mu_ (mu_ (mu_ (mu_ (mu_ (mu_ (mu_ M a e) b f) c g) d h) i j) k o) a e' = mu_ (mu_ (mu_ (mu_ (mu_ (mu_ M a e') b f) c g) d h) i j) k o := by
  rw [← mu_sw h5, mu_c5 h1 h2 h3 h4]
/-! Newton's steps to the inverse modulo 2^32 -/
def nx_ (n x : Nat) : Nat := x * (2 + 18446744073709551616 - n * x) % 4294967296
theorem nx_lt (n x : Nat) : nx_ n x < 4294967296 := Nat.mod_lt _ (by decide)
theorem nx_64 {n x : Nat} (hn : n < 4294967296) (hx : x < 4294967296) : lN x * (lN 2 - lN n * lN x) &&& lN 4294967295 = lN (nx_ n x) := by
  have h := m2_lt hn hx
  have e : lN 2 = lN (2 + 18446744073709551616) := by decide
  rw [lN_mul, e, lN_sub (by omega), lN_mul, wb_mod, lm_ (Nat.mod_lt _ (by decide)), nx_]
  congr 1
  exact Nat.mod_mod_of_dvd _ (by decide)
theorem nx_ok {n x k : Nat} (hn : n < 4294967296) (hx : x < 4294967296) (hk : 0 < k) (h : n * x % 2 ^ k = 1) : n * nx_ n x % 2 ^ (min (2 * k) 32) = 1 := by
  have hB := m2_lt hn hx
  have hm : (2 : Nat) ^ min (2 * k) 32 ∣ 4294967296 := by
    have : (4294967296 : Nat) = 2 ^ 32 := by decide
    rw [this]
    exact Nat.pow_dvd_pow 2 (Nat.min_le_right _ _)
  have hm2 : (2 : Nat) ^ min (2 * k) 32 ∣ 2 ^ (2 * k) := Nat.pow_dvd_pow 2 (Nat.min_le_left _ _)
  have hm1 : 1 < (2 : Nat) ^ min (2 * k) 32 := Nat.one_lt_two_pow (by omega)
  generalize (2 : Nat) ^ min (2 * k) 32 = m at *
  have e1 : n * nx_ n x % m = n * x * (2 + 18446744073709551616 - n * x) % m := by
    rw [nx_, Nat.mul_mod, Nat.mod_mod_of_dvd _ hm, ← Nat.mul_mod, Nat.mul_assoc]
  rw [e1]
  obtain ⟨q, hq⟩ : ∃ q, n * x = 1 + q * 2 ^ k := by
    refine ⟨n * x / 2 ^ k, ?_⟩
    have := Nat.mod_add_div (n * x) (2 ^ k)
    rw [h, Nat.mul_comm] at this
    exact this.symm
  rw [hq] at hB ⊢
  have hQ : m ∣ (q * 2 ^ k) * (q * 2 ^ k) := by
    have e2 : (q * 2 ^ k) * (q * 2 ^ k) = 2 ^ (2 * k) * (q * q) := by
      rw [Nat.two_mul, Nat.pow_add, Nat.mul_mul_mul_comm, Nat.mul_comm]
    rw [e2]
    exact Nat.dvd_trans hm2 (Nat.dvd_mul_right _ _)
  generalize q * 2 ^ k = Q at *
  have e3 : (1 + Q) * (2 + 18446744073709551616 - (1 + Q)) + Q * Q = 1 + 18446744073709551616 * (1 + Q) := by
    obtain ⟨w, hw⟩ : ∃ w, 18446744073709551616 = Q + w := ⟨18446744073709551616 - Q, by omega⟩
    have e4 : 2 + 18446744073709551616 - (1 + Q) = 1 + w := by omega
    rw [e4, hw]
    simp only [Nat.add_mul, Nat.mul_add, Nat.one_mul, Nat.mul_one]
    have : Q * w = w * Q := Nat.mul_comm _ _
    omega
  have h64 : m ∣ 18446744073709551616 := Nat.dvd_trans hm (by decide)
  have e5 : ((1 + Q) * (2 + 18446744073709551616 - (1 + Q)) + Q * Q) % m = 1 % m := by
    rw [e3]
    obtain ⟨z, hz⟩ := h64
    rw [hz, Nat.mul_assoc, Nat.add_mul_mod_self_left]
  rw [Nat.add_mod, Nat.mod_eq_zero_of_dvd hQ, Nat.add_zero, Nat.mod_mod] at e5
  rw [e5, Nat.mod_eq_of_lt hm1]
def ke_ (i : Nat) : Nat := min (3 * 2 ^ i) 32
theorem ke_s (i : Nat) : min (2 * ke_ i) 32 = ke_ (i + 1) := by
  unfold ke_
  rw [Nat.pow_succ]
  generalize 2 ^ i = z
  omega
theorem ke_pos (i : Nat) : 0 < ke_ i := by
  unfold ke_
  have := Nat.pow_pos (n := i) (show 0 < 2 by decide)
  omega
theorem nx_0 {n : Nat} (h : n % 2 = 1) : n * n % 2 ^ ke_ 0 = 1 := by
  have e : (2 : Nat) ^ ke_ 0 = 8 := by decide
  rw [e, Nat.mul_mod]
  rcases (show n % 8 = 1 ∨ n % 8 = 3 ∨ n % 8 = 5 ∨ n % 8 = 7 by omega) with h | h | h | h <;> rw [h]
theorem nx_end {N x : Nat} (hx : x < 4294967296) (h : N % 4294967296 * x % 2 ^ ke_ 4 = 1) : ((4294967296 - x) % 4294967296 * N + 1) % 4294967296 = 0 := by
  have e : (2 : Nat) ^ ke_ 4 = 4294967296 := by decide
  rw [e, Nat.mod_mul_mod] at h
  have hx0 : x ≠ 0 := by intro q; rw [q, Nat.mul_zero] at h; omega
  rw [Nat.mod_eq_of_lt (show 4294967296 - x < 4294967296 by omega)]
  have e2 : (4294967296 - x) * N + 1 + N * x = 4294967296 * N + 1 := by
    have : (4294967296 - x) * N + x * N = 4294967296 * N := by rw [← Nat.add_mul]; congr 1; omega
    rw [Nat.mul_comm N x]; omega
  have e3 : ((4294967296 - x) * N + 1 + N * x) % 4294967296 = 1 := by rw [e2, Nat.mul_add_mod]
  rw [Nat.add_mod, h] at e3
  omega
theorem ng_64 {x : Nat} (hx : x < 4294967296) : - lN x &&& lN 4294967295 = lN ((4294967296 - x) % 4294967296) := by
  have e : - lN x = lN (18446744073709551616 - x) := by
    have h1 : lN 18446744073709551616 - lN x = lN (18446744073709551616 - x) := lN_sub (by omega)
    have h2 : lN 18446744073709551616 = 0 := by decide
    rw [h2, Int64.zero_sub] at h1
    exact h1
  rw [e, wb_mod, lm_ (Nat.mod_lt _ (by decide)), Nat.mod_mod_of_dvd _ (by decide)]
  congr 1
  omega
/-! the inverse of 3 -/
def tm_ (N : Nat) : Nat := if N % 3 = 1 then 2 else 1
def th_ (N : Nat) : Nat := 1 + N / 3 * tm_ N
def nv_ (f : Nat → Int64) (W k : Nat) : Nat → Int64 := fun j => if j < k then f j else lN (dg_ W j)
theorem nv_d (f : Nat → Int64) (W i : Nat) : vp_updL (nv_ f W (i + 1)) i (lN (dg_ W i)) = nv_ f W i := by
  funext j
  by_cases h : j = i
  · subst h; simp [vp_updL, nv_]
  · by_cases h2 : j < i
    · simp [vp_updL, nv_, h, h2, Nat.lt_succ_of_lt h2]
    · simp [vp_updL, nv_, h, h2, show ¬ j < i + 1 by omega]
/-! powers under Montgomery -/
theorem mo_r {P Bi N : Nat} (hBi : P * Bi % N = 1 % N) (u : Nat) : u * P * Bi % N = u % N := by
  rw [Nat.mul_assoc, Nat.mul_mod, hBi, ← Nat.mul_mod, Nat.mul_one]
theorem mo_2 {Bi N : Nat} (u v : Nat) : u % N * (v % N) * Bi % N = u * v * Bi % N := by
  rw [Nat.mul_mod, ← Nat.mul_mod u v N, ← Nat.mul_mod]
theorem mm1 {P Bi N : Nat} (hBi : P * Bi % N = 1 % N) (X : Nat) : X * (P * P % N) * Bi % N = X * P % N := by
  have h : X * (P * P % N) * Bi % N = X * (P * P) * Bi % N := by rw [Nat.mul_mod (X * (P * P % N)) Bi N, Nat.mul_mod_mod X (P * P) N, ← Nat.mul_mod]
  rw [h, ← Nat.mul_assoc, mo_r hBi]
theorem mm4 {P Bi N : Nat} (hBi : P * Bi % N = 1 % N) (A X : Nat) : A * P % N * (X * P % N) * Bi % N = A * X * P % N := by
  rw [mo_2, show A * P * (X * P) = A * X * P * P by rw [Nat.mul_assoc, Nat.mul_assoc, Nat.mul_assoc, Nat.mul_left_comm P X P], mo_r hBi]
theorem mm2 {P Bi N : Nat} (hBi : P * Bi % N = 1 % N) (X Y : Nat) : X * P % N * Y * Bi % N = X * Y % N := by
  have h : X * P % N * Y * Bi % N = X * P * Y * Bi % N := by rw [Nat.mul_mod (X * P % N * Y) Bi N, Nat.mod_mul_mod (X * P) Y N, ← Nat.mul_mod]
  rw [h, Nat.mul_right_comm X P Y, mo_r hBi]
def nb_ (V : Nat) : Nat := if V = 0 then 0 else Nat.log2 V + 1
theorem hb_nb (V : Nat) : hb_ V = nI (nb_ V) + (-1 : Int32) := by
  unfold hb_ nb_
  split
  · rfl
  · rw [pk_m1]
theorem nb_0 (V : Nat) : V / 2 ^ nb_ V = 0 := by
  unfold nb_
  split
  · subst V; simp
  · exact Nat.div_eq_of_lt Nat.lt_log2_self
theorem nb_le {V n : Nat} (h : V < 2 ^ n) : nb_ V ≤ n := by
  unfold nb_
  split
  · omega
  · rename_i h0
    exact (Nat.log2_lt h0).mpr h
theorem bit_s (V k : Nat) : V / 2 ^ k = V / 2 ^ (k + 1) * 2 + V / 2 ^ k % 2 := by
  have h : V / 2 ^ (k + 1) = V / 2 ^ k / 2 := by rw [Nat.pow_succ, Nat.div_div_eq_div_mul]
  rw [h]
  omega
theorem pw_0 {V k : Nat} (X : Nat) (h : V / 2 ^ k % 2 = 0) : X ^ (V / 2 ^ (k + 1)) * X ^ (V / 2 ^ (k + 1)) = X ^ (V / 2 ^ k) := by
  rw [← Nat.pow_add]
  congr 1
  have := bit_s V k
  omega
theorem pw_1 {V k : Nat} (X : Nat) (h : V / 2 ^ k % 2 = 1) : X ^ (V / 2 ^ (k + 1)) * X ^ (V / 2 ^ (k + 1)) * X = X ^ (V / 2 ^ k) := by
  rw [← Nat.pow_add, ← Nat.pow_succ]
  congr 1
  have := bit_s V k
  omega

set_option maxHeartbeats 4000000 in
set_option maxRecDepth 100000 in
theorem c_R_findNegatedInverse (l : Launch) {G : mg_} {M : mw_} {r th td un mn mo mq tt dd bb rr : Nat} {ni : Int64} {N : Nat} (h_r : M r = some (ob_ 2 [.ref th, .ref td, .ref un, .ref mn, .ref mo, .ref mq, .ref tt, .ref dd, .ref bb, .ref rr, .long ni])) (h_mn : M mn = some (la_ G 4 (nl_ N)))  (hodd : N % 2 = 1) : ct_ l my_R_findNegatedInverse cd_R_findNegatedInverse 6 none { frames := 0, cells := 0, slots := 0, locals := 0 } G [.ref r] M (fun v0 M' => v0 = none ∧ ∃ (n1 : Nat), (n1 < 4294967296 ∧ (n1 * N + 1) % 4294967296 = 0) ∧ M' = mu_ M r (ob_ 2 [.ref th, .ref td, .ref un, .ref mn, .ref mo, .ref mq, .ref tt, .ref dd, .ref bb, .ref rr, .long (lN n1)])) 0 0 := by
  refine ct_.intro2 (by decide) (Nat.le_of_ble_eq_true rfl) ?_
  intro p e s m args below meth c ls R Q hR hQ C0 hl hM hS
  have hx := C0.1
  have hb := C0.2.1
  have hl : lv_has ls 6 [(0, .ref r)] := hl
  have hn : N % 4294967296 < 4294967296 := Nat.mod_lt _ (by decide)
  refine lv_aload_n hx hb dd_R_findNegatedInverse_0 rfl (lv_at hl 0 rfl) ?_
  refine mr_get C0 hM fk_R_21 h_r (v := .ref mn) rfl dd_R_findNegatedInverse_1 ?_
  refine lv_iconst (v := nI 0) hx hb dd_R_findNegatedInverse_4 (by decide) ?_
  refine mr_lald C0 hM h_mn (0) (rfl) (by omega) (by decide) dd_R_findNegatedInverse_5 ?_
  refine mr_vl (x' := lN (N % 4294967296)) (congrArg lN (dg_0 N)) ?_
  refine lv_lstore_n (lv' := [(1, .long (lN (N % 4294967296))), (0, .ref r)]) hx hb dd_R_findNegatedInverse_6 rfl hl (by decide) rfl (fun ls hl => ?_)
  refine lv_lload_n hx hb dd_R_findNegatedInverse_7 rfl (lv_at hl 0 rfl) ?_
  refine lv_lstore_n (lv' := [(3, .long (lN (N % 4294967296))), (1, .long (lN (N % 4294967296))), (0, .ref r)]) hx hb dd_R_findNegatedInverse_8 rfl hl (by decide) rfl (fun ls hl => ?_)
  refine lv_iconst (v := nI 0) hx hb dd_R_findNegatedInverse_9 (by decide) ?_
  refine lv_istore (lv' := [(5, .int (nI 0)), (3, .long (lN (N % 4294967296))), (1, .long (lN (N % 4294967296))), (0, .ref r)]) hx hb dd_R_findNegatedInverse_10 hl (by decide) rfl (fun ls hl => ?_)
  have loop_12 : ∀ (k : Nat) (i : Nat) (x : Nat) (H : Heap) (locs : List Loc) (ls : Array Slot), i + k = 4 → x < 4294967296 → N % 4294967296 * x % 2 ^ ke_ i = 1 → mm_ G (M) H → va_S (fz_ G) s.heap H locs → lv_has ls 6 [(0, .ref r), (1, .long (lN (N % 4294967296))), (3, .long (lN x)), (5, .int (nI i))] → W p l e R s m args below meth c H locs 0 0 Q (F0 m 12 ls []) := by
    intro k
    induction k with
    | zero =>
      intro i x H locs ls hi hx4 hk hM hS hl
      refine lv_iload hx hb dd_R_findNegatedInverse_12 (lv_at hl 3 rfl) ?_
      refine lv_iconst (v := nI 4) hx hb dd_R_findNegatedInverse_14 (by decide) ?_
      refine lv_icmp_ge (tgt := 38) hx hb dd_R_findNegatedInverse_15 rfl (fun _ => ?_) (fun hc => absurd (le_nI (a := 4) (b := i) (by omega) (by omega) (by omega)) hc)
      refine lv_aload_n hx hb dd_R_findNegatedInverse_38 rfl (lv_at hl 0 rfl) ?_
      refine lv_lload_n hx hb dd_R_findNegatedInverse_39 rfl (lv_at hl 2 rfl) ?_
      refine lv_lneg hx hb dd_R_findNegatedInverse_40 ?_
      refine mr_ldc2 (v := lN 4294967295) C0 tw_163 dd_R_findNegatedInverse_41 ?_
      refine lv_land hx hb dd_R_findNegatedInverse_44 ?_
      refine mr_vl (x' := lN ((4294967296 - x) % 4294967296)) (ng_64 hx4) ?_
      refine mr_put C0 hM hS fk_R_92 fp_R_92 h_r rfl (rfl) (rfl) (Nat.le_of_ble_eq_true rfl) dd_R_findNegatedInverse_45 (fun H locs hM hS => ?_)
      have hM : mm_ G (mu_ M r (ob_ 2 [.ref th, .ref td, .ref un, .ref mn, .ref mo, .ref mq, .ref tt, .ref dd, .ref bb, .ref rr, .long (lN ((4294967296 - x) % 4294967296))])) H := hM
      exact mr_ret hQ (mr_vret C0 hM hS (⟨rfl, _, ⟨Nat.mod_lt _ (by decide), nx_end hx4 (by rw [show i = 4 from by omega] at hk; exact hk)⟩, rfl⟩) dd_R_findNegatedInverse_48)
    | succ k ih =>
      intro i x H locs ls hi hx4 hk hM hS hl
      refine lv_iload hx hb dd_R_findNegatedInverse_12 (lv_at hl 3 rfl) ?_
      refine lv_iconst (v := nI 4) hx hb dd_R_findNegatedInverse_14 (by decide) ?_
      refine lv_icmp_ge (tgt := 38) hx hb dd_R_findNegatedInverse_15 rfl (fun hc => absurd hc (nle_nI (a := 4) (b := i) (by omega) (by omega) (by omega))) (fun _ => ?_)
      refine lv_lload_n hx hb dd_R_findNegatedInverse_18 rfl (lv_at hl 2 rfl) ?_
      refine mr_ldc2 (v := lN 2) C0 tw_175 dd_R_findNegatedInverse_19 ?_
      refine lv_lload_n hx hb dd_R_findNegatedInverse_22 rfl (lv_at hl 1 rfl) ?_
      refine lv_lload_n hx hb dd_R_findNegatedInverse_23 rfl (lv_at hl 2 rfl) ?_
      refine lv_lmul hx hb dd_R_findNegatedInverse_24 ?_
      refine lv_lsub hx hb dd_R_findNegatedInverse_25 ?_
      refine lv_lmul hx hb dd_R_findNegatedInverse_26 ?_
      refine mr_ldc2 (v := lN 4294967295) C0 tw_163 dd_R_findNegatedInverse_27 ?_
      refine lv_land hx hb dd_R_findNegatedInverse_30 ?_
      refine mr_vl (x' := lN (nx_ (N % 4294967296) x)) (nx_64 hn hx4) ?_
      refine lv_lstore_n (lv' := [(3, .long (lN (nx_ (N % 4294967296) x))), (0, .ref r), (1, .long (lN (N % 4294967296))), (5, .int (nI i))]) hx hb dd_R_findNegatedInverse_31 rfl hl (by decide) rfl (fun ls hl => ?_)
      refine lv_iinc (k := 3) (v := nI (i + 1)) (lv' := [(5, .int (nI (i + 1))), (3, .long (lN (nx_ (N % 4294967296) x))), (0, .ref r), (1, .long (lN (N % 4294967296)))]) hx hb dd_R_findNegatedInverse_32 hl rfl (inc_ i) (by decide) rfl (fun ls hl => ?_)
      refine lv_goto (tgt := 12) hx hb dd_R_findNegatedInverse_35 rfl ?_
      exact ih (i + 1) (nx_ (N % 4294967296) x) _ _ _ (by omega) (nx_lt _ _) (by rw [← ke_s]; exact nx_ok hn hx4 (ke_pos i) hk) hM hS (lv_sub hl [2, 3, 1, 0] rfl)
  exact loop_12 4 0 (N % 4294967296) _ _ _ (rfl) (hn) (nx_0 (by omega)) hM hS (lv_sub hl [3, 2, 1, 0] rfl)

set_option maxHeartbeats 4000000 in
set_option maxRecDepth 100000 in
theorem c_R_findThird (l : Launch) {G : mg_} {M : mw_} {r th td un mn mo mq tt dd bb rr : Nat} {ni : Int64} {N : Nat} {f0 : Nat → Int64} (h_r : M r = some (ob_ 2 [.ref th, .ref td, .ref un, .ref mn, .ref mo, .ref mq, .ref tt, .ref dd, .ref bb, .ref rr, .long ni])) (h_mn : M mn = some (la_ G 4 (nl_ N))) (h_td : M td = some (la_ G 4 f0)) (ne_mn_td : mn ≠ td) (hN : N < 4294967296 ^ 4) : dt_ l my_R_findThird cd_R_findThird 10 none { frames := 0, cells := 0, slots := 0, locals := 0 } G [.ref r] M none (mu_ M td (la_ G 4 (nl_ (th_ N)))) 0 0 := by
  refine ct_.intro2 (by decide) (Nat.le_of_ble_eq_true rfl) ?_
  intro p e s m args below meth c ls R Q hR hQ C0 hl hM hS
  have hx := C0.1
  have hb := C0.2.1
  have hl : lv_has ls 10 [(0, .ref r)] := hl
  refine lv_lconst (v := lN 0) hx hb dd_R_findThird_0 rfl ?_
  refine lv_lstore_n (lv' := [(1, .long (lN 0)), (0, .ref r)]) hx hb dd_R_findThird_1 rfl hl (by decide) rfl (fun ls hl => ?_)
  refine lv_iconst (v := nI 3) hx hb dd_R_findThird_2 (by decide) ?_
  refine lv_istore_n (lv' := [(3, .int (nI 3)), (1, .long (lN 0)), (0, .ref r)]) hx hb dd_R_findThird_3 rfl hl (by decide) rfl (fun ls hl => ?_)
  have loop_4 : ∀ (k : Nat)  (H : Heap) (locs : List Loc) (ls : Array Slot), k ≤ 4 → mm_ G (mu_ M td (la_ G 4 (nv_ f0 (N / 3) k))) H → va_S (fz_ G) s.heap H locs → lv_has ls 10 [(0, .ref r), (1, .long (lN (N / 4294967296 ^ k % 3))), (3, .int (nI k + (-1 : Int32)))] → W p l e R s m args below meth c H locs 0 0 Q (F0 m 4 ls []) := by
    intro k
    induction k with
    | zero =>
      intro  H locs ls hk hM hS hl
      have hl : lv_has ls 10 [(0, .ref r), (1, .long (lN (N / 4294967296 ^ 0 % 3))), (3, .int (nI 0 + (-1 : Int32)))] := by exact hl
      have hM : mm_ G (mu_ M td (la_ G 4 (nv_ f0 (N / 3) 0))) H := hM
      refine lv_iload_n hx hb dd_R_findThird_4 rfl (lv_at hl 2 rfl) ?_
      refine lv_if_lt (tgt := 46) hx hb dd_R_findThird_5 rfl (fun _ => ?_) (fun hc => absurd (by decide) hc)
      have hM := mr_lext (g := nl_ (N / 3)) (fun j _ => if_neg (Nat.not_lt_zero j)) hM
      have hM : mm_ G (mu_ M td (la_ G 4 (nl_ (N / 3)))) H := hM
      refine lv_lload_n hx hb dd_R_findThird_46 rfl (lv_at hl 1 rfl) ?_
      refine mr_vl (x' := lN (N % 3)) (congrArg lN (by rw [Nat.pow_zero, Nat.div_one])) ?_
      have join_59 : ∀ (tm : Nat) (H : Heap) (locs : List Loc) (ls : Array Slot), tm = tm_ N → mm_ G (mu_ M td (la_ G 4 (nl_ (N / 3)))) H → va_S (fz_ G) s.heap H locs → lv_has ls 10 [(0, .ref r)] → W p l e R s m args below meth c H locs 0 0 Q (F0 m 59 ls [.long (lN tm)]) := by
        intro tm H locs ls htm hM hS hl
        refine lv_lstore_n (lv' := [(3, .long (lN tm)), (0, .ref r)]) hx hb dd_R_findThird_59 rfl hl (by decide) rfl (fun ls hl => ?_)
        refine lv_lconst (v := lN 1) hx hb dd_R_findThird_60 rfl ?_
        refine lv_lstore (lv' := [(5, .long (lN 1)), (3, .long (lN tm)), (0, .ref r)]) hx hb dd_R_findThird_61 hl (by decide) rfl (fun ls hl => ?_)
        refine lv_iconst (v := nI 0) hx hb dd_R_findThird_63 (by decide) ?_
        refine lv_istore (lv' := [(7, .int (nI 0)), (5, .long (lN 1)), (3, .long (lN tm)), (0, .ref r)]) hx hb dd_R_findThird_64 hl (by decide) rfl (fun ls hl => ?_)
        have loop_66 : ∀ (q : Nat) (i : Nat) (H : Heap) (locs : List Loc) (ls : Array Slot), i + q = 4 → mm_ G (mu_ M td (la_ G 4 (nf_ (N / 3) (1 + N / 3 * tm) i))) H → va_S (fz_ G) s.heap H locs → lv_has ls 10 [(0, .ref r), (3, .long (lN tm)), (5, .long (lN (ce_ 4294967296 1 (N / 3) tm i))), (7, .int (nI i))] → W p l e R s m args below meth c H locs 0 0 Q (F0 m 66 ls []) := by
          intro q
          induction q with
          | zero =>
            intro i H locs ls hi hM hS hl
            refine lv_iload hx hb dd_R_findThird_66 (lv_at hl 3 rfl) ?_
            refine lv_iconst (v := nI 4) hx hb dd_R_findThird_68 (by decide) ?_
            refine lv_icmp_ge (tgt := 112) hx hb dd_R_findThird_69 rfl (fun _ => ?_) (fun hc => absurd (le_nI (a := 4) (b := i) (by omega) (by omega) (by omega)) hc)
            have hM := mr_lext (g := nl_ (th_ N)) (fun j hj => by rw [nf_b (by omega), th_, ← htm]; rfl) hM
            exact mr_ret hQ (mr_vret C0 hM hS (⟨rfl, rfl⟩) dd_R_findThird_112)
          | succ q ih2 =>
            intro i H locs ls hi hM hS hl
            have hg : dg_ (N / 3) i < 4294967296 := db_lt (by decide)
            have hc : ce_ 4294967296 1 (N / 3) tm i ≤ 1 + tm := ce_le (by decide) _ _ _
            have htm2 : tm ≤ 2 := by rw [htm, tm_]; split <;> omega
            have h64 : dg_ (N / 3) i * tm + ce_ 4294967296 1 (N / 3) tm i < 18446744073709551616 := pr_lt64 hg (by omega) (by omega)
            refine lv_iload hx hb dd_R_findThird_66 (lv_at hl 3 rfl) ?_
            refine lv_iconst (v := nI 4) hx hb dd_R_findThird_68 (by decide) ?_
            refine lv_icmp_ge (tgt := 112) hx hb dd_R_findThird_69 rfl (fun hc => absurd hc (nle_nI (a := 4) (b := i) (by omega) (by omega) (by omega))) (fun _ => ?_)
            refine lv_aload_n hx hb dd_R_findThird_72 rfl (lv_at hl 0 rfl) ?_
            refine mr_get C0 hM fk_R_15 (mu_n' (ne_k h_r h_td (fun q => by cases q)) h_r) (v := .ref td) rfl dd_R_findThird_73 ?_
            refine lv_iload hx hb dd_R_findThird_76 (lv_at hl 3 rfl) ?_
            refine mr_lald C0 hM mu_s (i) (rfl) (by omega) (by decide) dd_R_findThird_78 ?_
            refine lv_lload_n hx hb dd_R_findThird_79 rfl (lv_at hl 1 rfl) ?_
            refine lv_lmul hx hb dd_R_findThird_80 ?_
            refine mr_vl (x' := lN (dg_ (N / 3) i * tm)) ((congrArg (· * lN tm) (nf_at (N / 3) (1 + N / 3 * tm) i)).trans (lN_mul _ _)) ?_
            refine lv_lload hx hb dd_R_findThird_81 (lv_at hl 2 rfl) ?_
            refine lv_ladd hx hb dd_R_findThird_83 ?_
            refine mr_vl (x' := lN (dg_ (N / 3) i * tm + ce_ 4294967296 1 (N / 3) tm i)) (lN_add _ _) ?_
            refine lv_lstore (lv' := [(8, .long (lN (dg_ (N / 3) i * tm + ce_ 4294967296 1 (N / 3) tm i))), (0, .ref r), (3, .long (lN tm)), (5, .long (lN (ce_ 4294967296 1 (N / 3) tm i))), (7, .int (nI i))]) hx hb dd_R_findThird_84 hl (by decide) rfl (fun ls hl => ?_)
            refine lv_aload_n hx hb dd_R_findThird_86 rfl (lv_at hl 1 rfl) ?_
            refine mr_get C0 hM fk_R_15 (mu_n' (ne_k h_r h_td (fun q => by cases q)) h_r) (v := .ref td) rfl dd_R_findThird_87 ?_
            refine lv_iload hx hb dd_R_findThird_90 (lv_at hl 4 rfl) ?_
            refine lv_lload hx hb dd_R_findThird_92 (lv_at hl 0 rfl) ?_
            refine mr_ldc2 (v := lN 4294967295) C0 tw_163 dd_R_findThird_94 ?_
            refine lv_land hx hb dd_R_findThird_97 ?_
            refine mr_vl (x' := lN (dg_ (1 + N / 3 * tm) i)) ((lm_ h64).trans (congrArg lN (by rw [ce_step (by decide), ce_dig]))) ?_
            refine mr_last C0 hM hS mu_s (i) (rfl) (by omega) (by decide) dd_R_findThird_98 (fun H locs hM hS => ?_)
            have hM := mr_M mu_mu hM
            have hM := mr_M (congrArg (fun z__ => mu_ M td (la_ G 4 z__)) (show (vp_updL (nf_ (N / 3) (1 + N / 3 * tm) i) i (lN (dg_ (1 + N / 3 * tm) i)) : Nat → Int64) = (nf_ (N / 3) (1 + N / 3 * tm) (i + 1)) from nf_s (N / 3) (1 + N / 3 * tm) i)) hM
            have hM : mm_ G (mu_ M td (la_ G 4 (nf_ (N / 3) (1 + N / 3 * tm) (i + 1)))) H := hM
            refine lv_lload hx hb dd_R_findThird_99 (lv_at hl 0 rfl) ?_
            refine lv_bipush (v := nI 32) hx hb dd_R_findThird_101 (by decide) ?_
            refine lv_lushr (v := lN (ce_ 4294967296 1 (N / 3) tm (i + 1))) hx hb dd_R_findThird_103 ((lh_ h64).trans (congrArg lN (by rw [ce_step (by decide), ce_next]))) ?_
            refine lv_lstore (lv' := [(5, .long (lN (ce_ 4294967296 1 (N / 3) tm (i + 1)))), (8, .long (lN (dg_ (N / 3) i * tm + ce_ 4294967296 1 (N / 3) tm i))), (0, .ref r), (3, .long (lN tm)), (7, .int (nI i))]) hx hb dd_R_findThird_104 hl (by decide) rfl (fun ls hl => ?_)
            refine lv_iinc (k := 4) (v := nI (i + 1)) (lv' := [(7, .int (nI (i + 1))), (5, .long (lN (ce_ 4294967296 1 (N / 3) tm (i + 1)))), (8, .long (lN (dg_ (N / 3) i * tm + ce_ 4294967296 1 (N / 3) tm i))), (0, .ref r), (3, .long (lN tm))]) hx hb dd_R_findThird_106 hl rfl (inc_ i) (by decide) rfl (fun ls hl => ?_)
            refine lv_goto (tgt := 66) hx hb dd_R_findThird_109 rfl ?_
            exact ih2 _ _ _ _ (by omega) hM hS (lv_sub hl [3, 4, 1, 0] rfl)
        have hM := mr_lext (g := nf_ (N / 3) (1 + N / 3 * tm) 0) (fun j _ => by rw [← nf_0]) hM
        exact loop_66 4 0 _ _ _ (rfl) hM hS (by rw [ce_0]; exact lv_sub hl [3, 2, 1, 0] rfl)
      refine lv_lconst (v := lN 1) hx hb dd_R_findThird_47 rfl ?_
      refine mr_lif_ne (tgt := 58) hx hb dd_R_findThird_48 dd_R_findThird_49 rfl (fun h48 => ?_) (fun h48 => ?_)
      · skip
        refine lv_lconst (v := lN 1) hx hb dd_R_findThird_58 rfl ?_
        exact join_59 _ _ _ _ (by rw [tm_, if_neg (fun q => h48 (congrArg lN q))]) hM hS (lv_sub hl [0] rfl)
      · skip
        refine mr_ldc2 (v := lN 2) C0 tw_175 dd_R_findThird_52 ?_
        refine lv_goto (tgt := 59) hx hb dd_R_findThird_55 rfl ?_
        exact join_59 _ _ _ _ (by rw [tm_, if_pos ((lE_ (by omega) (by decide)).mp h48)]) hM hS (lv_sub hl [0] rfl)
    | succ k ih =>
      intro  H locs ls hk hM hS hl
      have hr : N / 4294967296 ^ (k + 1) % 3 < 3 := Nat.mod_lt _ (by decide)
      have hg : dg_ N k < 4294967296 := db_lt (by decide)
      have hl : lv_has ls 10 [(0, .ref r), (1, .long (lN (N / 4294967296 ^ (k + 1) % 3))), (3, .int (nI k))] := by rw [pk_m1] at hl; exact hl
      have hM : mm_ G (mu_ M td (la_ G 4 (nv_ f0 (N / 3) (k + 1)))) H := hM
      refine lv_iload_n hx hb dd_R_findThird_4 rfl (lv_at hl 2 rfl) ?_
      refine lv_if_lt (tgt := 46) hx hb dd_R_findThird_5 rfl (fun hc => absurd hc (z_nlt (by omega))) (fun _ => ?_)
      refine lv_lload_n hx hb dd_R_findThird_8 rfl (lv_at hl 1 rfl) ?_
      refine lv_bipush (v := nI 32) hx hb dd_R_findThird_9 (by decide) ?_
      refine lv_lshl (v := lN (N / 4294967296 ^ (k + 1) % 3 * 4294967296)) hx hb dd_R_findThird_11 (wb_shl _ (by decide)) ?_
      refine lv_aload_n hx hb dd_R_findThird_12 rfl (lv_at hl 0 rfl) ?_
      refine mr_get C0 hM fk_R_21 (mu_n' (ne_k h_r h_td (fun q => by cases q)) h_r) (v := .ref mn) rfl dd_R_findThird_13 ?_
      refine lv_iload_n hx hb dd_R_findThird_16 rfl (lv_at hl 2 rfl) ?_
      refine mr_lald C0 hM (mu_n' ne_mn_td h_mn) (k) (rfl) (by omega) (by decide) dd_R_findThird_17 ?_
      refine lv_lor hx hb dd_R_findThird_18 ?_
      refine mr_vl (x' := lN (N / 4294967296 ^ (k + 1) % 3 * 4294967296 + dg_ N k)) (g_or (k := 32) rfl hg (by omega)) ?_
      refine lv_lstore (lv' := [(4, .long (lN (N / 4294967296 ^ (k + 1) % 3 * 4294967296 + dg_ N k))), (0, .ref r), (1, .long (lN (N / 4294967296 ^ (k + 1) % 3))), (3, .int (nI k))]) hx hb dd_R_findThird_19 hl (by decide) rfl (fun ls hl => ?_)
      refine lv_aload_n hx hb dd_R_findThird_21 rfl (lv_at hl 1 rfl) ?_
      refine mr_get C0 hM fk_R_15 (mu_n' (ne_k h_r h_td (fun q => by cases q)) h_r) (v := .ref td) rfl dd_R_findThird_22 ?_
      refine lv_iload_n hx hb dd_R_findThird_25 rfl (lv_at hl 3 rfl) ?_
      refine lv_lload hx hb dd_R_findThird_26 (lv_at hl 0 rfl) ?_
      refine mr_ldc2 (v := lN 3) C0 tw_35 dd_R_findThird_28 ?_
      refine lv_ldiv hx hb dd_R_findThird_31 (by decide) ?_
      refine mr_vl (x' := lN (dg_ (N / 3) k)) ((pk_lDiv (by omega) (by decide) (by decide)).trans (congrArg lN (dq_step (by decide) (by decide) N k).symm)) ?_
      refine mr_last C0 hM hS mu_s (k) (rfl) (by omega) (by decide) dd_R_findThird_32 (fun H locs hM hS => ?_)
      have hM := mr_M mu_mu hM
      have hM := mr_M (congrArg (fun z__ => mu_ M td (la_ G 4 z__)) (show (vp_updL (nv_ f0 (N / 3) (k + 1)) k (lN (dg_ (N / 3) k)) : Nat → Int64) = (nv_ f0 (N / 3) k) from nv_d f0 (N / 3) k)) hM
      have hM : mm_ G (mu_ M td (la_ G 4 (nv_ f0 (N / 3) k))) H := hM
      refine lv_lload hx hb dd_R_findThird_33 (lv_at hl 0 rfl) ?_
      refine mr_ldc2 (v := lN 3) C0 tw_35 dd_R_findThird_35 ?_
      refine lv_lrem hx hb dd_R_findThird_38 (by decide) ?_
      refine mr_vl (x' := lN (N / 4294967296 ^ k % 3)) ((pk_lRem (by omega) (by decide) (by decide)).trans (congrArg lN (dr_step N k))) ?_
      refine lv_lstore_n (lv' := [(1, .long (lN (N / 4294967296 ^ k % 3))), (4, .long (lN (N / 4294967296 ^ (k + 1) % 3 * 4294967296 + dg_ N k))), (0, .ref r), (3, .int (nI k))]) hx hb dd_R_findThird_39 rfl hl (by decide) rfl (fun ls hl => ?_)
      refine lv_iinc (k := 3) (v := nI k + (-1 : Int32)) (lv' := [(3, .int (nI k + (-1 : Int32))), (1, .long (lN (N / 4294967296 ^ k % 3))), (4, .long (lN (N / 4294967296 ^ (k + 1) % 3 * 4294967296 + dg_ N k))), (0, .ref r)]) hx hb dd_R_findThird_40 hl rfl (rfl) (by decide) rfl (fun ls hl => ?_)
      refine lv_goto (tgt := 4) hx hb dd_R_findThird_43 rfl ?_
      exact ih  _ _ _ (by omega) hM hS (lv_sub hl [3, 1, 0] rfl)
  have hM := mr_M (mu_id h_td).symm hM
  have hM := mr_lext (g := nv_ f0 (N / 3) 4) (fun j hj => (if_pos hj).symm) hM
  exact loop_4 4  _ _ _ (Nat.le_refl _) hM hS (by rw [show nI 4 + (-1 : Int32) = nI 3 from by decide, show N / 4294967296 ^ 4 % 3 = 0 by rw [Nat.div_eq_of_lt hN]]; exact lv_sub hl [2, 1, 0] rfl)

set_option maxHeartbeats 4000000 in
set_option maxRecDepth 100000 in
theorem c_R_begin (l : Launch) {G : mg_} {M : mw_} {r th td un mn mo mq tt dd bb rr : Nat} {ni : Int64} {U L N : Nat} {f1 f2 f3 f4 t0 d0 : Nat → Int64} (h_r : M r = some (ob_ 2 [.ref th, .ref td, .ref un, .ref mn, .ref mo, .ref mq, .ref tt, .ref dd, .ref bb, .ref rr, .long ni])) (h_mn : M mn = some (la_ G 4 f1)) (h_td : M td = some (la_ G 4 f2)) (h_un : M un = some (la_ G 4 (nl_ 1))) (h_mo : M mo = some (la_ G 4 f3)) (h_mq : M mq = some (la_ G 4 f4)) (h_tt : M tt = some (la_ G 6 t0)) (h_dd : M dd = some (la_ G 4 d0)) (ne_mn_dd : mn ≠ dd) (ne_mn_mo : mn ≠ mo) (ne_mn_mq : mn ≠ mq) (ne_mn_td : mn ≠ td) (ne_mn_tt : mn ≠ tt) (ne_mn_un : mn ≠ un) (ne_mo_dd : mo ≠ dd) (ne_mo_mq : mo ≠ mq) (ne_mo_tt : mo ≠ tt) (ne_mq_dd : mq ≠ dd) (ne_mq_tt : mq ≠ tt) (ne_td_dd : td ≠ dd) (ne_td_mo : td ≠ mo) (ne_td_mq : td ≠ mq) (ne_td_tt : td ≠ tt) (ne_td_un : td ≠ un) (ne_tt_dd : tt ≠ dd) (ne_un_dd : un ≠ dd) (ne_un_mo : un ≠ mo) (ne_un_mq : un ≠ mq) (ne_un_tt : un ≠ tt) (hU : U < 18446744073709551616) (hL : L < 18446744073709551616) (hN0 : N = U * 18446744073709551616 + L) (hN : N < 4294967296 ^ 4) (hodd : N % 2 = 1) (hN1 : 1 < N) : ct_ l my_R_begin cd_R_begin 5 none { frames := 3, cells := 0, slots := 0, locals := 88 } G [.ref r, .long (lN U), .long (lN L)] M (fun v0 M' => v0 = none ∧ ∃ (n1 : Nat) (t : Nat → Int64) (d : Nat → Int64), (n1 < 4294967296 ∧ (n1 * N + 1) % 4294967296 = 0) ∧ M' = mu_ (mu_ (mu_ (mu_ (mu_ (mu_ (mu_ M mn (la_ G 4 (nl_ N))) r (ob_ 2 [.ref th, .ref td, .ref un, .ref mn, .ref mo, .ref mq, .ref tt, .ref dd, .ref bb, .ref rr, .long (lN n1)])) td (la_ G 4 (nl_ (th_ N)))) mo (la_ G 4 (nl_ (4294967296 ^ 4 % N)))) tt (la_ G 6 t)) dd (la_ G 4 d)) mq (la_ G 4 (nl_ (4294967296 ^ 8 % N)))) 0 0 := by
  refine ct_.intro2 (by decide) (Nat.le_of_ble_eq_true rfl) ?_
  intro p e s m args below meth c ls R Q hR hQ C0 hl hM hS
  have hx := C0.1
  have hb := C0.2.1
  have hl : lv_has ls 5 [(0, .ref r), (1, .long (lN U)), (3, .long (lN L))] := hl
  refine lv_lload_n hx hb dd_R_begin_0 rfl (lv_at hl 1 rfl) ?_
  refine lv_lload_n hx hb dd_R_begin_1 rfl (lv_at hl 2 rfl) ?_
  refine lv_aload_n hx hb dd_R_begin_2 rfl (lv_at hl 0 rfl) ?_
  refine mr_get C0 hM fk_R_21 h_r (v := .ref mn) rfl dd_R_begin_3 ?_
  refine mr_callS (As := [.long (lN U), .long (lN L), .ref mn]) (rest := []) C0 hM hS sk_R_44 (c_R_split l h_mn  hU hL) rfl rfl hl.1 (by decide) rfl rfl (by subst hR; exact ⟨Nat.le_of_ble_eq_true rfl, Nat.le_of_ble_eq_true rfl⟩) (by subst hR; exact ⟨Nat.le_of_ble_eq_true rfl, Nat.le_of_ble_eq_true rfl⟩) dd_R_begin_6 (fun v1 M1 H locs hp hM hS => ?_)
  obtain ⟨ev1, eM1⟩ := hp
  subst ev1
  rw [eM1] at hM
  have hM : mm_ G (mu_ M mn (la_ G 4 (nl_ (U * 18446744073709551616 + L)))) H := hM
  refine W.eq (g2 := F0 m 9 ls []) rfl ?_
  rw [← hN0] at hM
  have hM : mm_ G (mu_ M mn (la_ G 4 (nl_ N))) H := hM
  refine lv_aload_n hx hb dd_R_begin_9 rfl (lv_at hl 0 rfl) ?_
  refine mr_callV (As := []) (rest := []) C0 hM hS vk_R_48 (mu_n' (ne_k h_r h_mn (fun q => by cases q)) h_r) rfl (c_R_findNegatedInverse l (mu_n' (ne_k h_r h_mn (fun q => by cases q)) h_r) mu_s  hodd) rfl rfl hl.1 (by decide) rfl rfl (by subst hR; exact ⟨Nat.le_of_ble_eq_true rfl, Nat.le_of_ble_eq_true rfl⟩) (by subst hR; exact ⟨Nat.le_of_ble_eq_true rfl, Nat.le_of_ble_eq_true rfl⟩) dd_R_begin_10 (fun v1 M1 H locs hp hM hS => ?_)
  obtain ⟨ev1, n1, hn1, eM1⟩ := hp
  subst ev1
  rw [eM1] at hM
  have hM : mm_ G (mu_ (mu_ M mn (la_ G 4 (nl_ N))) r (ob_ 2 [.ref th, .ref td, .ref un, .ref mn, .ref mo, .ref mq, .ref tt, .ref dd, .ref bb, .ref rr, .long (lN n1)])) H := hM
  refine W.eq (g2 := F0 m 13 ls []) rfl ?_
  refine lv_aload_n hx hb dd_R_begin_13 rfl (lv_at hl 0 rfl) ?_
  refine mr_callV (As := []) (rest := []) C0 hM hS vk_R_51 mu_s rfl (c_R_findThird l mu_s (mu_n' (ne_k h_mn h_r (fun q => by cases q)) mu_s) (mu_n' (ne_k h_td h_r (fun q => by cases q)) (mu_n' (Ne.symm ne_mn_td) h_td)) ne_mn_td hN) rfl rfl hl.1 (by decide) rfl rfl (by subst hR; exact ⟨Nat.le_of_ble_eq_true rfl, Nat.le_of_ble_eq_true rfl⟩) (by subst hR; exact ⟨Nat.le_of_ble_eq_true rfl, Nat.le_of_ble_eq_true rfl⟩) dd_R_begin_14 (fun v1 M1 H locs hp hM hS => ?_)
  obtain ⟨ev1, eM1⟩ := hp
  subst ev1
  rw [eM1] at hM
  have hM : mm_ G (mu_ (mu_ (mu_ M mn (la_ G 4 (nl_ N))) r (ob_ 2 [.ref th, .ref td, .ref un, .ref mn, .ref mo, .ref mq, .ref tt, .ref dd, .ref bb, .ref rr, .long (lN n1)])) td (la_ G 4 (nl_ (th_ N)))) H := hM
  refine W.eq (g2 := F0 m 17 ls []) rfl ?_
  refine lv_aload_n hx hb dd_R_begin_17 rfl (lv_at hl 0 rfl) ?_
  refine mr_get C0 hM fk_R_18 (mu_n' (ne_k h_r h_td (fun q => by cases q)) mu_s) (v := .ref un) rfl dd_R_begin_18 ?_
  refine lv_iconst (v := nI 0) hx hb dd_R_begin_21 (by decide) ?_
  refine lv_aload_n hx hb dd_R_begin_22 rfl (lv_at hl 0 rfl) ?_
  refine mr_get C0 hM fk_R_24 (mu_n' (ne_k h_r h_td (fun q => by cases q)) mu_s) (v := .ref mo) rfl dd_R_begin_23 ?_
  refine lv_iconst (v := nI 0) hx hb dd_R_begin_26 (by decide) ?_
  refine lv_iconst (v := nI 4) hx hb dd_R_begin_27 (by decide) ?_
  refine mr_copyl C0 hl.1 tw_180 hM hS (mu_n' (Ne.symm ne_td_un) (mu_n' (ne_k h_un h_r (fun q => by cases q)) (mu_n' (Ne.symm ne_mn_un) h_un))) (mu_n' (Ne.symm ne_td_mo) (mu_n' (ne_k h_mo h_r (fun q => by cases q)) (mu_n' (Ne.symm ne_mn_mo) h_mo))) (0) (0) (4) rfl rfl rfl (by decide) (by decide) (by decide) (by decide) (by subst hR; decide) (by subst hR; decide) dd_R_begin_28 (fun H locs hM hS => ?_)
  have hM := mr_lext (g := nl_ 1) (fun j hj => by rw [pk_cpy_in (by omega) (by omega), Nat.zero_add, Nat.sub_zero]) hM
  have hM : mm_ G (mu_ (mu_ (mu_ (mu_ M mn (la_ G 4 (nl_ N))) r (ob_ 2 [.ref th, .ref td, .ref un, .ref mn, .ref mo, .ref mq, .ref tt, .ref dd, .ref bb, .ref rr, .long (lN n1)])) td (la_ G 4 (nl_ (th_ N)))) mo (la_ G 4 (nl_ 1))) H := hM
  refine lv_aload_n hx hb dd_R_begin_31 rfl (lv_at hl 0 rfl) ?_
  refine lv_aload_n hx hb dd_R_begin_32 rfl (lv_at hl 0 rfl) ?_
  refine mr_get C0 hM fk_R_24 (mu_n' (ne_k h_r h_mo (fun q => by cases q)) (mu_n' (ne_k h_r h_td (fun q => by cases q)) mu_s)) (v := .ref mo) rfl dd_R_begin_33 ?_
  refine mr_callV (As := [.ref mo]) (rest := []) C0 hM hS vk_R_60 (mu_n' (ne_k h_r h_mo (fun q => by cases q)) (mu_n' (ne_k h_r h_td (fun q => by cases q)) mu_s)) rfl (c_R_shiftBy128 l (mu_n' (ne_k h_r h_mo (fun q => by cases q)) (mu_n' (ne_k h_r h_td (fun q => by cases q)) mu_s)) (mu_n' (Ne.symm ne_mo_tt) (mu_n' (Ne.symm ne_td_tt) (mu_n' (ne_k h_tt h_r (fun q => by cases q)) (mu_n' (Ne.symm ne_mn_tt) h_tt)))) (mu_n' (Ne.symm ne_mo_dd) (mu_n' (Ne.symm ne_td_dd) (mu_n' (ne_k h_dd h_r (fun q => by cases q)) (mu_n' (Ne.symm ne_mn_dd) h_dd)))) (mu_n' ne_mn_mo (mu_n' ne_mn_td (mu_n' (ne_k h_mn h_r (fun q => by cases q)) mu_s))) mu_s ne_mn_dd ne_mn_tt ne_mn_mo ne_tt_dd ne_mo_dd ne_mo_tt hN1 hN) rfl rfl hl.1 (by decide) rfl rfl (by subst hR; exact ⟨Nat.le_of_ble_eq_true rfl, Nat.le_of_ble_eq_true rfl⟩) (by subst hR; exact ⟨Nat.le_of_ble_eq_true rfl, Nat.le_of_ble_eq_true rfl⟩) dd_R_begin_36 (fun v1 M1 H locs hp hM hS => ?_)
  obtain ⟨ev1, t1, d1, eM1⟩ := hp
  subst ev1
  rw [eM1] at hM
  have hM := mr_M (mu_c3 ne_mo_tt ne_mo_dd) hM
  have hM : mm_ G (mu_ (mu_ (mu_ (mu_ (mu_ (mu_ M mn (la_ G 4 (nl_ N))) r (ob_ 2 [.ref th, .ref td, .ref un, .ref mn, .ref mo, .ref mq, .ref tt, .ref dd, .ref bb, .ref rr, .long (lN n1)])) td (la_ G 4 (nl_ (th_ N)))) mo (la_ G 4 (nl_ (1 * 2 ^ 128 % N)))) tt (la_ G 6 t1)) dd (la_ G 4 d1)) H := hM
  refine W.eq (g2 := F0 m 39 ls []) rfl ?_
  rw [show 1 * 2 ^ 128 % N = 4294967296 ^ 4 % N by rw [Nat.one_mul]] at hM
  have hM : mm_ G (mu_ (mu_ (mu_ (mu_ (mu_ (mu_ M mn (la_ G 4 (nl_ N))) r (ob_ 2 [.ref th, .ref td, .ref un, .ref mn, .ref mo, .ref mq, .ref tt, .ref dd, .ref bb, .ref rr, .long (lN n1)])) td (la_ G 4 (nl_ (th_ N)))) mo (la_ G 4 (nl_ (4294967296 ^ 4 % N)))) tt (la_ G 6 t1)) dd (la_ G 4 d1)) H := hM
  refine lv_aload_n hx hb dd_R_begin_39 rfl (lv_at hl 0 rfl) ?_
  refine mr_get C0 hM fk_R_24 (mu_n' (ne_k h_r h_dd (fun q => by cases q)) (mu_n' (ne_k h_r h_tt (fun q => by cases q)) (mu_n' (ne_k h_r h_mo (fun q => by cases q)) (mu_n' (ne_k h_r h_td (fun q => by cases q)) mu_s)))) (v := .ref mo) rfl dd_R_begin_40 ?_
  refine lv_iconst (v := nI 0) hx hb dd_R_begin_43 (by decide) ?_
  refine lv_aload_n hx hb dd_R_begin_44 rfl (lv_at hl 0 rfl) ?_
  refine mr_get C0 hM fk_R_27 (mu_n' (ne_k h_r h_dd (fun q => by cases q)) (mu_n' (ne_k h_r h_tt (fun q => by cases q)) (mu_n' (ne_k h_r h_mo (fun q => by cases q)) (mu_n' (ne_k h_r h_td (fun q => by cases q)) mu_s)))) (v := .ref mq) rfl dd_R_begin_45 ?_
  refine lv_iconst (v := nI 0) hx hb dd_R_begin_48 (by decide) ?_
  refine lv_iconst (v := nI 4) hx hb dd_R_begin_49 (by decide) ?_
  refine mr_copyl C0 hl.1 tw_180 hM hS (mu_n' ne_mo_dd (mu_n' ne_mo_tt mu_s)) (mu_n' ne_mq_dd (mu_n' ne_mq_tt (mu_n' (Ne.symm ne_mo_mq) (mu_n' (Ne.symm ne_td_mq) (mu_n' (ne_k h_mq h_r (fun q => by cases q)) (mu_n' (Ne.symm ne_mn_mq) h_mq)))))) (0) (0) (4) rfl rfl rfl (by decide) (by decide) (by decide) (by decide) (by subst hR; decide) (by subst hR; decide) dd_R_begin_50 (fun H locs hM hS => ?_)
  have hM := mr_lext (g := nl_ (4294967296 ^ 4 % N)) (fun j hj => by rw [pk_cpy_in (by omega) (by omega), Nat.zero_add, Nat.sub_zero]) hM
  have hM : mm_ G (mu_ (mu_ (mu_ (mu_ (mu_ (mu_ (mu_ M mn (la_ G 4 (nl_ N))) r (ob_ 2 [.ref th, .ref td, .ref un, .ref mn, .ref mo, .ref mq, .ref tt, .ref dd, .ref bb, .ref rr, .long (lN n1)])) td (la_ G 4 (nl_ (th_ N)))) mo (la_ G 4 (nl_ (4294967296 ^ 4 % N)))) tt (la_ G 6 t1)) dd (la_ G 4 d1)) mq (la_ G 4 (nl_ (4294967296 ^ 4 % N)))) H := hM
  refine lv_aload_n hx hb dd_R_begin_53 rfl (lv_at hl 0 rfl) ?_
  refine lv_aload_n hx hb dd_R_begin_54 rfl (lv_at hl 0 rfl) ?_
  refine mr_get C0 hM fk_R_27 (mu_n' (ne_k h_r h_mq (fun q => by cases q)) (mu_n' (ne_k h_r h_dd (fun q => by cases q)) (mu_n' (ne_k h_r h_tt (fun q => by cases q)) (mu_n' (ne_k h_r h_mo (fun q => by cases q)) (mu_n' (ne_k h_r h_td (fun q => by cases q)) mu_s))))) (v := .ref mq) rfl dd_R_begin_55 ?_
  refine mr_callV (As := [.ref mq]) (rest := []) C0 hM hS vk_R_60 (mu_n' (ne_k h_r h_mq (fun q => by cases q)) (mu_n' (ne_k h_r h_dd (fun q => by cases q)) (mu_n' (ne_k h_r h_tt (fun q => by cases q)) (mu_n' (ne_k h_r h_mo (fun q => by cases q)) (mu_n' (ne_k h_r h_td (fun q => by cases q)) mu_s))))) rfl (c_R_shiftBy128 l (mu_n' (ne_k h_r h_mq (fun q => by cases q)) (mu_n' (ne_k h_r h_dd (fun q => by cases q)) (mu_n' (ne_k h_r h_tt (fun q => by cases q)) (mu_n' (ne_k h_r h_mo (fun q => by cases q)) (mu_n' (ne_k h_r h_td (fun q => by cases q)) mu_s))))) (mu_n' (Ne.symm ne_mq_tt) (mu_n' ne_tt_dd mu_s)) (mu_n' (Ne.symm ne_mq_dd) mu_s) (mu_n' ne_mn_mq (mu_n' ne_mn_dd (mu_n' ne_mn_tt (mu_n' ne_mn_mo (mu_n' ne_mn_td (mu_n' (ne_k h_mn h_r (fun q => by cases q)) mu_s)))))) mu_s ne_mn_dd ne_mn_tt ne_mn_mq ne_tt_dd ne_mq_dd ne_mq_tt (Nat.mod_lt _ (by omega)) hN) rfl rfl hl.1 (by decide) rfl rfl (by subst hR; exact ⟨Nat.le_of_ble_eq_true rfl, Nat.le_of_ble_eq_true rfl⟩) (by subst hR; exact ⟨Nat.le_of_ble_eq_true rfl, Nat.le_of_ble_eq_true rfl⟩) dd_R_begin_58 (fun v1 M1 H locs hp hM hS => ?_)
  obtain ⟨ev1, t2, d2, eM1⟩ := hp
  subst ev1
  rw [eM1] at hM
  have hM := mr_M ((congrArg (fun X__ => mu_ X__ mq (la_ G 4 (nl_ (4294967296 ^ 4 % N * 2 ^ 128 % N)))) ((congrArg (fun X__ => mu_ X__ dd (la_ G 4 d2)) (mu_c3 ne_tt_dd (Ne.symm ne_mq_tt))).trans (mu_c2 (Ne.symm ne_mq_dd)))).trans mu_mu) hM
  have hM : mm_ G (mu_ (mu_ (mu_ (mu_ (mu_ (mu_ (mu_ M mn (la_ G 4 (nl_ N))) r (ob_ 2 [.ref th, .ref td, .ref un, .ref mn, .ref mo, .ref mq, .ref tt, .ref dd, .ref bb, .ref rr, .long (lN n1)])) td (la_ G 4 (nl_ (th_ N)))) mo (la_ G 4 (nl_ (4294967296 ^ 4 % N)))) tt (la_ G 6 t2)) dd (la_ G 4 d2)) mq (la_ G 4 (nl_ (4294967296 ^ 4 % N * 2 ^ 128 % N)))) H := hM
  refine W.eq (g2 := F0 m 61 ls []) rfl ?_
  rw [show 4294967296 ^ 4 % N * 2 ^ 128 % N = 4294967296 ^ 8 % N by rw [Nat.mod_mul_mod]] at hM
  exact mr_ret hQ (mr_vret C0 hM hS (⟨rfl, _, _, _, hn1, rfl⟩) dd_R_begin_61)

set_option maxHeartbeats 4000000 in
set_option maxRecDepth 100000 in
theorem c_R_multiply (l : Launch) {G : mg_} {M : mw_} {r th td un mn mo mq tt dd bb rr : Nat} {n1 N Bi X Y x y out : Nat} {t0 d0 b0 o0 : Nat → Int64} (h_r : M r = some (ob_ 2 [.ref th, .ref td, .ref un, .ref mn, .ref mo, .ref mq, .ref tt, .ref dd, .ref bb, .ref rr, .long (lN n1)])) (h_mn : M mn = some (la_ G 4 (nl_ N))) (h_mq : M mq = some (la_ G 4 (nl_ (4294967296 ^ 8 % N)))) (h_tt : M tt = some (la_ G 6 t0)) (h_dd : M dd = some (la_ G 4 d0)) (h_bb : M bb = some (la_ G 4 b0)) (h_x : M x = some (la_ G 4 (nl_ X))) (h_y : M y = some (la_ G 4 (nl_ Y))) (h_out : M out = some (la_ G 4 o0)) (ne_dd_bb : dd ≠ bb) (ne_mn_bb : mn ≠ bb) (ne_mn_dd : mn ≠ dd) (ne_mn_tt : mn ≠ tt) (ne_mq_dd : mq ≠ dd) (ne_mq_tt : mq ≠ tt) (ne_out_bb : out ≠ bb) (ne_out_dd : out ≠ dd) (ne_out_tt : out ≠ tt) (ne_tt_bb : tt ≠ bb) (ne_tt_dd : tt ≠ dd) (ne_x_dd : x ≠ dd) (ne_x_tt : x ≠ tt) (ne_y_bb : y ≠ bb) (ne_y_dd : y ≠ dd) (ne_y_tt : y ≠ tt) (hX : X < N) (hY : Y < N) (hN : N < 4294967296 ^ 4) (hn1 : n1 < 4294967296) (hinv : (n1 * N + 1) % 4294967296 = 0) (hBi : 4294967296 ^ 4 * Bi % N = 1 % N) : ct_ l my_R_multiply cd_R_multiply 4 none { frames := 3, cells := 0, slots := 0, locals := 85 } G [.ref r, .ref x, .ref y, .ref out] M (fun v0 M' => v0 = none ∧ ∃ (t : Nat → Int64) (d : Nat → Int64) (b : Nat → Int64), M' = mu_ (mu_ (mu_ (mu_ M tt (la_ G 6 t)) dd (la_ G 4 d)) bb (la_ G 4 b)) out (la_ G 4 (nl_ (X * Y % N)))) 0 0 := by
  refine ct_.intro2 (by decide) (Nat.le_of_ble_eq_true rfl) ?_
  intro p e s m args below meth c ls R Q hR hQ C0 hl hM hS
  have hx := C0.1
  have hb := C0.2.1
  have hl : lv_has ls 4 [(0, .ref r), (1, .ref x), (2, .ref y), (3, .ref out)] := hl
  have hN0 : 0 < N := by omega
  refine lv_aload_n hx hb dd_R_multiply_0 rfl (lv_at hl 0 rfl) ?_
  refine lv_aload_n hx hb dd_R_multiply_1 rfl (lv_at hl 1 rfl) ?_
  refine lv_aload_n hx hb dd_R_multiply_2 rfl (lv_at hl 0 rfl) ?_
  refine mr_get C0 hM fk_R_27 h_r (v := .ref mq) rfl dd_R_multiply_3 ?_
  refine lv_aload_n hx hb dd_R_multiply_6 rfl (lv_at hl 0 rfl) ?_
  refine mr_get C0 hM fk_R_36 h_r (v := .ref bb) rfl dd_R_multiply_7 ?_
  refine mr_callV (As := [.ref x, .ref mq, .ref bb]) (rest := []) C0 hM hS vk_R_72 h_r rfl (c_R_montgomery l h_r h_tt h_dd h_mn h_x h_mq h_bb ne_mn_dd ne_mn_tt (Ne.symm ne_dd_bb) (Ne.symm ne_tt_bb) ne_tt_dd ne_x_tt ne_mq_tt hX (Nat.mod_lt _ hN0) hN hn1 hinv hBi) rfl rfl hl.1 (by decide) rfl rfl (by subst hR; exact ⟨Nat.le_of_ble_eq_true rfl, Nat.le_of_ble_eq_true rfl⟩) (by subst hR; exact ⟨Nat.le_of_ble_eq_true rfl, Nat.le_of_ble_eq_true rfl⟩) dd_R_multiply_10 (fun v1 M1 H locs hp hM hS => ?_)
  obtain ⟨ev1, t1, d1, eM1⟩ := hp
  subst ev1
  rw [eM1] at hM
  have hM : mm_ G (mu_ (mu_ (mu_ M tt (la_ G 6 t1)) dd (la_ G 4 d1)) bb (la_ G 4 (nl_ (X * (4294967296 ^ 8 % N) * Bi % N)))) H := hM
  refine W.eq (g2 := F0 m 13 ls []) rfl ?_
  rw [show X * (4294967296 ^ 8 % N) * Bi % N = X * 4294967296 ^ 4 % N from mm1 hBi X] at hM
  have hM : mm_ G (mu_ (mu_ (mu_ M tt (la_ G 6 t1)) dd (la_ G 4 d1)) bb (la_ G 4 (nl_ (X * 4294967296 ^ 4 % N)))) H := hM
  refine lv_aload_n hx hb dd_R_multiply_13 rfl (lv_at hl 0 rfl) ?_
  refine lv_aload_n hx hb dd_R_multiply_14 rfl (lv_at hl 0 rfl) ?_
  refine mr_get C0 hM fk_R_36 (mu_n' (ne_k h_r h_bb (fun q => by cases q)) (mu_n' (ne_k h_r h_dd (fun q => by cases q)) (mu_n' (ne_k h_r h_tt (fun q => by cases q)) h_r))) (v := .ref bb) rfl dd_R_multiply_15 ?_
  refine lv_aload_n hx hb dd_R_multiply_18 rfl (lv_at hl 2 rfl) ?_
  refine lv_aload_n hx hb dd_R_multiply_19 rfl (lv_at hl 3 rfl) ?_
  refine mr_callV (As := [.ref bb, .ref y, .ref out]) (rest := []) C0 hM hS vk_R_72 (mu_n' (ne_k h_r h_bb (fun q => by cases q)) (mu_n' (ne_k h_r h_dd (fun q => by cases q)) (mu_n' (ne_k h_r h_tt (fun q => by cases q)) h_r))) rfl (c_R_montgomery l (mu_n' (ne_k h_r h_bb (fun q => by cases q)) (mu_n' (ne_k h_r h_dd (fun q => by cases q)) (mu_n' (ne_k h_r h_tt (fun q => by cases q)) h_r))) (mu_n' ne_tt_bb (mu_n' ne_tt_dd mu_s)) (mu_n' ne_dd_bb mu_s) (mu_n' ne_mn_bb (mu_n' ne_mn_dd (mu_n' ne_mn_tt h_mn))) mu_s (mu_n' ne_y_bb (mu_n' ne_y_dd (mu_n' ne_y_tt h_y))) (mu_n' ne_out_bb (mu_n' ne_out_dd (mu_n' ne_out_tt h_out))) ne_mn_dd ne_mn_tt ne_out_dd ne_out_tt ne_tt_dd (Ne.symm ne_tt_bb) ne_y_tt (Nat.mod_lt _ hN0) hY hN hn1 hinv hBi) rfl rfl hl.1 (by decide) rfl rfl (by subst hR; exact ⟨Nat.le_of_ble_eq_true rfl, Nat.le_of_ble_eq_true rfl⟩) (by subst hR; exact ⟨Nat.le_of_ble_eq_true rfl, Nat.le_of_ble_eq_true rfl⟩) dd_R_multiply_20 (fun v1 M1 H locs hp hM hS => ?_)
  obtain ⟨ev1, t2, d2, eM1⟩ := hp
  subst ev1
  rw [eM1] at hM
  have hM := mr_M (congrArg (fun X__ => mu_ X__ out (la_ G 4 (nl_ (X * 4294967296 ^ 4 % N * Y * Bi % N)))) ((congrArg (fun X__ => mu_ X__ dd (la_ G 4 d2)) (mu_c3 ne_tt_dd ne_tt_bb)).trans (mu_c2 ne_dd_bb))) hM
  have hM : mm_ G (mu_ (mu_ (mu_ (mu_ M tt (la_ G 6 t2)) dd (la_ G 4 d2)) bb (la_ G 4 (nl_ (X * 4294967296 ^ 4 % N)))) out (la_ G 4 (nl_ (X * 4294967296 ^ 4 % N * Y * Bi % N)))) H := hM
  refine W.eq (g2 := F0 m 23 ls []) rfl ?_
  rw [mm2 hBi X Y] at hM
  exact mr_ret hQ (mr_vret C0 hM hS (⟨rfl, _, _, _, rfl⟩) dd_R_multiply_23)

set_option maxHeartbeats 4000000 in
set_option maxRecDepth 100000 in
theorem c_R_power (l : Launch) {G : mg_} {M : mw_} {r th td un mn mo mq tt dd bb rr : Nat} {n1 N Bi X V x out eo eA : Nat} {t0 d0 b0 r0 o0 : Nat → Int64} (h_r : M r = some (ob_ 2 [.ref th, .ref td, .ref un, .ref mn, .ref mo, .ref mq, .ref tt, .ref dd, .ref bb, .ref rr, .long (lN n1)])) (h_mn : M mn = some (la_ G 4 (nl_ N))) (h_mo : M mo = some (la_ G 4 (nl_ (4294967296 ^ 4 % N)))) (h_mq : M mq = some (la_ G 4 (nl_ (4294967296 ^ 8 % N)))) (h_un : M un = some (la_ G 4 (nl_ 1))) (h_tt : M tt = some (la_ G 6 t0)) (h_dd : M dd = some (la_ G 4 d0)) (h_bb : M bb = some (la_ G 4 b0)) (h_rr : M rr = some (la_ G 4 r0)) (h_x : M x = some (la_ G 4 (nl_ X))) (h_out : M out = some (la_ G 4 o0)) (h_eo : M eo = some (ob_ 1 [.ref eA])) (h_eA : M eA = some (la_ G 11 (nl_ V))) (ne_bb_rr : bb ≠ rr) (ne_dd_bb : dd ≠ bb) (ne_dd_rr : dd ≠ rr) (ne_eA_bb : eA ≠ bb) (ne_eA_dd : eA ≠ dd) (ne_eA_rr : eA ≠ rr) (ne_eA_tt : eA ≠ tt) (ne_mn_bb : mn ≠ bb) (ne_mn_dd : mn ≠ dd) (ne_mn_rr : mn ≠ rr) (ne_mn_tt : mn ≠ tt) (ne_mo_bb : mo ≠ bb) (ne_mo_dd : mo ≠ dd) (ne_mo_rr : mo ≠ rr) (ne_mo_tt : mo ≠ tt) (ne_mq_bb : mq ≠ bb) (ne_mq_dd : mq ≠ dd) (ne_mq_rr : mq ≠ rr) (ne_mq_tt : mq ≠ tt) (ne_out_bb : out ≠ bb) (ne_out_dd : out ≠ dd) (ne_out_rr : out ≠ rr) (ne_out_tt : out ≠ tt) (ne_tt_bb : tt ≠ bb) (ne_tt_dd : tt ≠ dd) (ne_tt_rr : tt ≠ rr) (ne_un_bb : un ≠ bb) (ne_un_dd : un ≠ dd) (ne_un_rr : un ≠ rr) (ne_un_tt : un ≠ tt) (ne_x_bb : x ≠ bb) (ne_x_dd : x ≠ dd) (ne_x_rr : x ≠ rr) (ne_x_tt : x ≠ tt) (hX : X < N) (hN1 : 1 < N) (hV : V < 2 ^ 352) (hN : N < 4294967296 ^ 4) (hn1 : n1 < 4294967296) (hinv : (n1 * N + 1) % 4294967296 = 0) (hBi : 4294967296 ^ 4 * Bi % N = 1 % N) : ct_ l my_R_power cd_R_power 5 none { frames := 3, cells := 0, slots := 0, locals := 85 } G [.ref r, .ref x, .ref eo, .ref out] M (fun v0 M' => v0 = none ∧ ∃ (t : Nat → Int64) (d : Nat → Int64) (w : Nat → Int64), M' = mu_ (mu_ (mu_ (mu_ (mu_ M tt (la_ G 6 t)) dd (la_ G 4 d)) bb (la_ G 4 (nl_ (X * 4294967296 ^ 4 % N)))) rr (la_ G 4 w)) out (la_ G 4 (nl_ (X ^ V % N)))) 0 0 := by
  refine ct_.intro2 (by decide) (Nat.le_of_ble_eq_true rfl) ?_
  intro p e s m args below meth c ls R Q hR hQ C0 hl hM hS
  have hx := C0.1
  have hb := C0.2.1
  have hl : lv_has ls 5 [(0, .ref r), (1, .ref x), (2, .ref eo), (3, .ref out)] := hl
  have hN0 : 0 < N := by omega
  refine lv_aload_n hx hb dd_R_power_0 rfl (lv_at hl 0 rfl) ?_
  refine lv_aload_n hx hb dd_R_power_1 rfl (lv_at hl 1 rfl) ?_
  refine lv_aload_n hx hb dd_R_power_2 rfl (lv_at hl 0 rfl) ?_
  refine mr_get C0 hM fk_R_27 h_r (v := .ref mq) rfl dd_R_power_3 ?_
  refine lv_aload_n hx hb dd_R_power_6 rfl (lv_at hl 0 rfl) ?_
  refine mr_get C0 hM fk_R_36 h_r (v := .ref bb) rfl dd_R_power_7 ?_
  refine mr_callV (As := [.ref x, .ref mq, .ref bb]) (rest := []) C0 hM hS vk_R_72 h_r rfl (c_R_montgomery l h_r h_tt h_dd h_mn h_x h_mq h_bb ne_mn_dd ne_mn_tt (Ne.symm ne_dd_bb) (Ne.symm ne_tt_bb) ne_tt_dd ne_x_tt ne_mq_tt hX (Nat.mod_lt _ hN0) hN hn1 hinv hBi) rfl rfl hl.1 (by decide) rfl rfl (by subst hR; exact ⟨Nat.le_of_ble_eq_true rfl, Nat.le_of_ble_eq_true rfl⟩) (by subst hR; exact ⟨Nat.le_of_ble_eq_true rfl, Nat.le_of_ble_eq_true rfl⟩) dd_R_power_10 (fun v1 M1 H locs hp hM hS => ?_)
  obtain ⟨ev1, t1, d1, eM1⟩ := hp
  subst ev1
  rw [eM1] at hM
  have hM : mm_ G (mu_ (mu_ (mu_ M tt (la_ G 6 t1)) dd (la_ G 4 d1)) bb (la_ G 4 (nl_ (X * (4294967296 ^ 8 % N) * Bi % N)))) H := hM
  refine W.eq (g2 := F0 m 13 ls []) rfl ?_
  rw [show X * (4294967296 ^ 8 % N) * Bi % N = X * 4294967296 ^ 4 % N from mm1 hBi X] at hM
  have hM : mm_ G (mu_ (mu_ (mu_ M tt (la_ G 6 t1)) dd (la_ G 4 d1)) bb (la_ G 4 (nl_ (X * 4294967296 ^ 4 % N)))) H := hM
  refine lv_aload_n hx hb dd_R_power_13 rfl (lv_at hl 0 rfl) ?_
  refine mr_get C0 hM fk_R_24 (mu_n' (ne_k h_r h_bb (fun q => by cases q)) (mu_n' (ne_k h_r h_dd (fun q => by cases q)) (mu_n' (ne_k h_r h_tt (fun q => by cases q)) h_r))) (v := .ref mo) rfl dd_R_power_14 ?_
  refine lv_iconst (v := nI 0) hx hb dd_R_power_17 (by decide) ?_
  refine lv_aload_n hx hb dd_R_power_18 rfl (lv_at hl 0 rfl) ?_
  refine mr_get C0 hM fk_R_39 (mu_n' (ne_k h_r h_bb (fun q => by cases q)) (mu_n' (ne_k h_r h_dd (fun q => by cases q)) (mu_n' (ne_k h_r h_tt (fun q => by cases q)) h_r))) (v := .ref rr) rfl dd_R_power_19 ?_
  refine lv_iconst (v := nI 0) hx hb dd_R_power_22 (by decide) ?_
  refine lv_iconst (v := nI 4) hx hb dd_R_power_23 (by decide) ?_
  refine mr_copyl C0 hl.1 tw_180 hM hS (mu_n' ne_mo_bb (mu_n' ne_mo_dd (mu_n' ne_mo_tt h_mo))) (mu_n' (Ne.symm ne_bb_rr) (mu_n' (Ne.symm ne_dd_rr) (mu_n' (Ne.symm ne_tt_rr) h_rr))) (0) (0) (4) rfl rfl rfl (by decide) (by decide) (by decide) (by decide) (by subst hR; decide) (by subst hR; decide) dd_R_power_24 (fun H locs hM hS => ?_)
  have hM := mr_lext (g := nl_ (4294967296 ^ 4 % N)) (fun j hj => by rw [pk_cpy_in (by omega) (by omega), Nat.zero_add, Nat.sub_zero]) hM
  have hM : mm_ G (mu_ (mu_ (mu_ (mu_ M tt (la_ G 6 t1)) dd (la_ G 4 d1)) bb (la_ G 4 (nl_ (X * 4294967296 ^ 4 % N)))) rr (la_ G 4 (nl_ (4294967296 ^ 4 % N)))) H := hM
  refine lv_aload_n hx hb dd_R_power_27 rfl (lv_at hl 2 rfl) ?_
  refine mr_callV (As := []) (rest := []) C0 hM hS vk_R_76 (mu_n' (ne_k h_eo h_rr (fun q => by cases q)) (mu_n' (ne_k h_eo h_bb (fun q => by cases q)) (mu_n' (ne_k h_eo h_dd (fun q => by cases q)) (mu_n' (ne_k h_eo h_tt (fun q => by cases q)) h_eo)))) rfl (c_N_highestBit l (mu_n' (ne_k h_eo h_rr (fun q => by cases q)) (mu_n' (ne_k h_eo h_bb (fun q => by cases q)) (mu_n' (ne_k h_eo h_dd (fun q => by cases q)) (mu_n' (ne_k h_eo h_tt (fun q => by cases q)) h_eo)))) (mu_n' ne_eA_rr (mu_n' ne_eA_bb (mu_n' ne_eA_dd (mu_n' ne_eA_tt h_eA))))  hV) rfl rfl hl.1 (by decide) rfl rfl (by subst hR; exact ⟨Nat.le_of_ble_eq_true rfl, Nat.le_of_ble_eq_true rfl⟩) (by subst hR; exact ⟨Nat.le_of_ble_eq_true rfl, Nat.le_of_ble_eq_true rfl⟩) dd_R_power_28 (fun v1 M1 H locs hp hM hS => ?_)
  obtain ⟨ev1, eM1⟩ := hp
  subst ev1
  rw [eM1] at hM
  refine W.eq (g2 := F0 m 31 ls [.int (hb_ V)]) rfl ?_
  refine mr_vi (x' := nI (nb_ V) + (-1 : Int32)) (hb_nb V) ?_
  refine lv_istore (lv' := [(4, .int (nI (nb_ V) + (-1 : Int32))), (0, .ref r), (1, .ref x), (2, .ref eo), (3, .ref out)]) hx hb dd_R_power_31 hl (by decide) rfl (fun ls hl => ?_)
  have loop_33 : ∀ (k : Nat) (t : Nat → Int64) (d : Nat → Int64) (H : Heap) (locs : List Loc) (ls : Array Slot), k ≤ 352 → mm_ G (mu_ (mu_ (mu_ (mu_ M tt (la_ G 6 t)) dd (la_ G 4 d)) bb (la_ G 4 (nl_ (X * 4294967296 ^ 4 % N)))) rr (la_ G 4 (nl_ (X ^ (V / 2 ^ k) * 4294967296 ^ 4 % N)))) H → va_S (fz_ G) s.heap H locs → lv_has ls 5 [(0, .ref r), (1, .ref x), (2, .ref eo), (3, .ref out), (4, .int (nI k + (-1 : Int32)))] → W p l e R s m args below meth c H locs 0 0 Q (F0 m 33 ls []) := by
    intro k
    induction k with
    | zero =>
      intro t d H locs ls hk hM hS hl
      have hl : lv_has ls 5 [(0, .ref r), (1, .ref x), (2, .ref eo), (3, .ref out), (4, .int (nI 0 + (-1 : Int32)))] := by exact hl
      have hM : mm_ G (mu_ (mu_ (mu_ (mu_ M tt (la_ G 6 t)) dd (la_ G 4 d)) bb (la_ G 4 (nl_ (X * 4294967296 ^ 4 % N)))) rr (la_ G 4 (nl_ (X ^ (V / 2 ^ 0) * 4294967296 ^ 4 % N)))) H := hM
      refine lv_iload hx hb dd_R_power_33 (lv_at hl 4 rfl) ?_
      refine lv_if_lt (tgt := 85) hx hb dd_R_power_35 rfl (fun _ => ?_) (fun hc => absurd (by decide) hc)
      refine lv_aload_n hx hb dd_R_power_85 rfl (lv_at hl 0 rfl) ?_
      refine lv_aload_n hx hb dd_R_power_86 rfl (lv_at hl 0 rfl) ?_
      refine mr_get C0 hM fk_R_39 (mu_n' (ne_k h_r h_rr (fun q => by cases q)) (mu_n' (ne_k h_r h_bb (fun q => by cases q)) (mu_n' (ne_k h_r h_dd (fun q => by cases q)) (mu_n' (ne_k h_r h_tt (fun q => by cases q)) h_r)))) (v := .ref rr) rfl dd_R_power_87 ?_
      refine lv_aload_n hx hb dd_R_power_90 rfl (lv_at hl 0 rfl) ?_
      refine mr_get C0 hM fk_R_18 (mu_n' (ne_k h_r h_rr (fun q => by cases q)) (mu_n' (ne_k h_r h_bb (fun q => by cases q)) (mu_n' (ne_k h_r h_dd (fun q => by cases q)) (mu_n' (ne_k h_r h_tt (fun q => by cases q)) h_r)))) (v := .ref un) rfl dd_R_power_91 ?_
      refine lv_aload_n hx hb dd_R_power_94 rfl (lv_at hl 3 rfl) ?_
      refine mr_callV (As := [.ref rr, .ref un, .ref out]) (rest := []) C0 hM hS vk_R_72 (mu_n' (ne_k h_r h_rr (fun q => by cases q)) (mu_n' (ne_k h_r h_bb (fun q => by cases q)) (mu_n' (ne_k h_r h_dd (fun q => by cases q)) (mu_n' (ne_k h_r h_tt (fun q => by cases q)) h_r)))) rfl (c_R_montgomery l (mu_n' (ne_k h_r h_rr (fun q => by cases q)) (mu_n' (ne_k h_r h_bb (fun q => by cases q)) (mu_n' (ne_k h_r h_dd (fun q => by cases q)) (mu_n' (ne_k h_r h_tt (fun q => by cases q)) h_r)))) (mu_n' ne_tt_rr (mu_n' ne_tt_bb (mu_n' ne_tt_dd mu_s))) (mu_n' ne_dd_rr (mu_n' ne_dd_bb mu_s)) (mu_n' ne_mn_rr (mu_n' ne_mn_bb (mu_n' ne_mn_dd (mu_n' ne_mn_tt h_mn)))) mu_s (mu_n' ne_un_rr (mu_n' ne_un_bb (mu_n' ne_un_dd (mu_n' ne_un_tt h_un)))) (mu_n' ne_out_rr (mu_n' ne_out_bb (mu_n' ne_out_dd (mu_n' ne_out_tt h_out)))) ne_mn_dd ne_mn_tt ne_out_dd ne_out_tt ne_tt_dd (Ne.symm ne_tt_rr) ne_un_tt (Nat.mod_lt _ hN0) hN1 hN hn1 hinv hBi) rfl rfl hl.1 (by decide) rfl rfl (by subst hR; exact ⟨Nat.le_of_ble_eq_true rfl, Nat.le_of_ble_eq_true rfl⟩) (by subst hR; exact ⟨Nat.le_of_ble_eq_true rfl, Nat.le_of_ble_eq_true rfl⟩) dd_R_power_95 (fun v1 M1 H locs hp hM hS => ?_)
      obtain ⟨ev1, t4, d4, eM1⟩ := hp
      subst ev1
      rw [eM1] at hM
      have hM := mr_M (congrArg (fun X__ => mu_ X__ out (la_ G 4 (nl_ (X ^ (V / 2 ^ 0) * 4294967296 ^ 4 % N * 1 * Bi % N)))) ((congrArg (fun X__ => mu_ X__ dd (la_ G 4 d4)) (mu_c4 ne_tt_dd ne_tt_bb ne_tt_rr)).trans (mu_c3 ne_dd_bb ne_dd_rr))) hM
      have hM : mm_ G (mu_ (mu_ (mu_ (mu_ (mu_ M tt (la_ G 6 t4)) dd (la_ G 4 d4)) bb (la_ G 4 (nl_ (X * 4294967296 ^ 4 % N)))) rr (la_ G 4 (nl_ (X ^ (V / 2 ^ 0) * 4294967296 ^ 4 % N)))) out (la_ G 4 (nl_ (X ^ (V / 2 ^ 0) * 4294967296 ^ 4 % N * 1 * Bi % N)))) H := hM
      refine W.eq (g2 := F0 m 98 ls []) rfl ?_
      rw [mm2 hBi, Nat.mul_one, Nat.pow_zero, Nat.div_one] at hM
      exact mr_ret hQ (mr_vret C0 hM hS (⟨rfl, _, _, _, rfl⟩) dd_R_power_98)
    | succ k ih =>
      intro t d H locs ls hk hM hS hl
      have hk10 : k < 352 := by omega
      have hl : lv_has ls 5 [(0, .ref r), (1, .ref x), (2, .ref eo), (3, .ref out), (4, .int (nI k))] := by rw [pk_m1] at hl; exact hl
      have hM : mm_ G (mu_ (mu_ (mu_ (mu_ M tt (la_ G 6 t)) dd (la_ G 4 d)) bb (la_ G 4 (nl_ (X * 4294967296 ^ 4 % N)))) rr (la_ G 4 (nl_ (X ^ (V / 2 ^ (k + 1)) * 4294967296 ^ 4 % N)))) H := hM
      refine lv_iload hx hb dd_R_power_33 (lv_at hl 4 rfl) ?_
      refine lv_if_lt (tgt := 85) hx hb dd_R_power_35 rfl (fun hc => absurd hc (z_nlt (by omega))) (fun _ => ?_)
      refine lv_aload_n hx hb dd_R_power_38 rfl (lv_at hl 0 rfl) ?_
      refine lv_aload_n hx hb dd_R_power_39 rfl (lv_at hl 0 rfl) ?_
      refine mr_get C0 hM fk_R_39 (mu_n' (ne_k h_r h_rr (fun q => by cases q)) (mu_n' (ne_k h_r h_bb (fun q => by cases q)) (mu_n' (ne_k h_r h_dd (fun q => by cases q)) (mu_n' (ne_k h_r h_tt (fun q => by cases q)) h_r)))) (v := .ref rr) rfl dd_R_power_40 ?_
      refine lv_aload_n hx hb dd_R_power_43 rfl (lv_at hl 0 rfl) ?_
      refine mr_get C0 hM fk_R_39 (mu_n' (ne_k h_r h_rr (fun q => by cases q)) (mu_n' (ne_k h_r h_bb (fun q => by cases q)) (mu_n' (ne_k h_r h_dd (fun q => by cases q)) (mu_n' (ne_k h_r h_tt (fun q => by cases q)) h_r)))) (v := .ref rr) rfl dd_R_power_44 ?_
      refine lv_aload_n hx hb dd_R_power_47 rfl (lv_at hl 0 rfl) ?_
      refine mr_get C0 hM fk_R_39 (mu_n' (ne_k h_r h_rr (fun q => by cases q)) (mu_n' (ne_k h_r h_bb (fun q => by cases q)) (mu_n' (ne_k h_r h_dd (fun q => by cases q)) (mu_n' (ne_k h_r h_tt (fun q => by cases q)) h_r)))) (v := .ref rr) rfl dd_R_power_48 ?_
      refine mr_callV (As := [.ref rr, .ref rr, .ref rr]) (rest := []) C0 hM hS vk_R_72 (mu_n' (ne_k h_r h_rr (fun q => by cases q)) (mu_n' (ne_k h_r h_bb (fun q => by cases q)) (mu_n' (ne_k h_r h_dd (fun q => by cases q)) (mu_n' (ne_k h_r h_tt (fun q => by cases q)) h_r)))) rfl (c_R_montgomery l (mu_n' (ne_k h_r h_rr (fun q => by cases q)) (mu_n' (ne_k h_r h_bb (fun q => by cases q)) (mu_n' (ne_k h_r h_dd (fun q => by cases q)) (mu_n' (ne_k h_r h_tt (fun q => by cases q)) h_r)))) (mu_n' ne_tt_rr (mu_n' ne_tt_bb (mu_n' ne_tt_dd mu_s))) (mu_n' ne_dd_rr (mu_n' ne_dd_bb mu_s)) (mu_n' ne_mn_rr (mu_n' ne_mn_bb (mu_n' ne_mn_dd (mu_n' ne_mn_tt h_mn)))) mu_s mu_s mu_s ne_mn_dd ne_mn_tt (Ne.symm ne_dd_rr) (Ne.symm ne_tt_rr) ne_tt_dd (Ne.symm ne_tt_rr) (Ne.symm ne_tt_rr) (Nat.mod_lt _ hN0) (Nat.mod_lt _ hN0) hN hn1 hinv hBi) rfl rfl hl.1 (by decide) rfl rfl (by subst hR; exact ⟨Nat.le_of_ble_eq_true rfl, Nat.le_of_ble_eq_true rfl⟩) (by subst hR; exact ⟨Nat.le_of_ble_eq_true rfl, Nat.le_of_ble_eq_true rfl⟩) dd_R_power_51 (fun v1 M1 H locs hp hM hS => ?_)
      obtain ⟨ev1, t2, d2, eM1⟩ := hp
      subst ev1
      rw [eM1] at hM
      have hM := mr_M ((congrArg (fun X__ => mu_ X__ rr (la_ G 4 (nl_ ((X ^ (V / 2 ^ (k + 1)) * 4294967296 ^ 4 % N) * (X ^ (V / 2 ^ (k + 1)) * 4294967296 ^ 4 % N) * Bi % N)))) ((congrArg (fun X__ => mu_ X__ dd (la_ G 4 d2)) (mu_c4 ne_tt_dd ne_tt_bb ne_tt_rr)).trans (mu_c3 ne_dd_bb ne_dd_rr))).trans mu_mu) hM
      have hM : mm_ G (mu_ (mu_ (mu_ (mu_ M tt (la_ G 6 t2)) dd (la_ G 4 d2)) bb (la_ G 4 (nl_ (X * 4294967296 ^ 4 % N)))) rr (la_ G 4 (nl_ ((X ^ (V / 2 ^ (k + 1)) * 4294967296 ^ 4 % N) * (X ^ (V / 2 ^ (k + 1)) * 4294967296 ^ 4 % N) * Bi % N)))) H := hM
      refine W.eq (g2 := F0 m 54 ls []) rfl ?_
      rw [mm4 hBi] at hM
      have hM : mm_ G (mu_ (mu_ (mu_ (mu_ M tt (la_ G 6 t2)) dd (la_ G 4 d2)) bb (la_ G 4 (nl_ (X * 4294967296 ^ 4 % N)))) rr (la_ G 4 (nl_ (X ^ (V / 2 ^ (k + 1)) * X ^ (V / 2 ^ (k + 1)) * 4294967296 ^ 4 % N)))) H := hM
      refine lv_aload_n hx hb dd_R_power_54 rfl (lv_at hl 2 rfl) ?_
      refine lv_iload hx hb dd_R_power_55 (lv_at hl 4 rfl) ?_
      refine mr_callV (As := [.int (nI k)]) (rest := []) C0 hM hS vk_R_82 (mu_n' (ne_k h_eo h_rr (fun q => by cases q)) (mu_n' (ne_k h_eo h_bb (fun q => by cases q)) (mu_n' (ne_k h_eo h_dd (fun q => by cases q)) (mu_n' (ne_k h_eo h_tt (fun q => by cases q)) h_eo)))) rfl (c_N_bit l (mu_n' (ne_k h_eo h_rr (fun q => by cases q)) (mu_n' (ne_k h_eo h_bb (fun q => by cases q)) (mu_n' (ne_k h_eo h_dd (fun q => by cases q)) (mu_n' (ne_k h_eo h_tt (fun q => by cases q)) h_eo)))) (mu_n' ne_eA_rr (mu_n' ne_eA_bb (mu_n' ne_eA_dd (mu_n' ne_eA_tt h_eA))))  hk10) rfl rfl hl.1 (by decide) rfl rfl (by subst hR; exact ⟨Nat.le_of_ble_eq_true rfl, Nat.le_of_ble_eq_true rfl⟩) (by subst hR; exact ⟨Nat.le_of_ble_eq_true rfl, Nat.le_of_ble_eq_true rfl⟩) dd_R_power_57 (fun v1 M1 H locs hp hM hS => ?_)
      obtain ⟨ev1, eM1⟩ := hp
      subst ev1
      rw [eM1] at hM
      refine W.eq (g2 := F0 m 60 ls [.int (nI (V / 2 ^ k % 2))]) rfl ?_
      refine lv_if_eq (tgt := 79) hx hb dd_R_power_60 rfl (fun h60 => ?_) (fun h60 => ?_)
      · skip
        have hv : V / 2 ^ k % 2 = 0 := (nI_eq (by omega) (by decide)).mp h60
        rw [pw_0 X hv] at hM
        have hM : mm_ G (mu_ (mu_ (mu_ (mu_ M tt (la_ G 6 t2)) dd (la_ G 4 d2)) bb (la_ G 4 (nl_ (X * 4294967296 ^ 4 % N)))) rr (la_ G 4 (nl_ (X ^ (V / 2 ^ k) * 4294967296 ^ 4 % N)))) H := hM
        refine lv_iinc (k := 4) (v := nI k + (-1 : Int32)) (lv' := [(4, .int (nI k + (-1 : Int32))), (0, .ref r), (1, .ref x), (2, .ref eo), (3, .ref out)]) hx hb dd_R_power_79 hl rfl (rfl) (by decide) rfl (fun ls hl => ?_)
        refine lv_goto (tgt := 33) hx hb dd_R_power_82 rfl ?_
        exact ih _ _ _ _ _ (by omega) hM hS (lv_sub hl [1, 2, 3, 4, 0] rfl)
      · skip
        have hv : V / 2 ^ k % 2 = 1 := by
          have h2 : V / 2 ^ k % 2 ≠ 0 := fun q => h60 (by rw [q]; rfl)
          omega
        refine lv_aload_n hx hb dd_R_power_63 rfl (lv_at hl 0 rfl) ?_
        refine lv_aload_n hx hb dd_R_power_64 rfl (lv_at hl 0 rfl) ?_
        refine mr_get C0 hM fk_R_39 (mu_n' (ne_k h_r h_rr (fun q => by cases q)) (mu_n' (ne_k h_r h_bb (fun q => by cases q)) (mu_n' (ne_k h_r h_dd (fun q => by cases q)) (mu_n' (ne_k h_r h_tt (fun q => by cases q)) h_r)))) (v := .ref rr) rfl dd_R_power_65 ?_
        refine lv_aload_n hx hb dd_R_power_68 rfl (lv_at hl 0 rfl) ?_
        refine mr_get C0 hM fk_R_36 (mu_n' (ne_k h_r h_rr (fun q => by cases q)) (mu_n' (ne_k h_r h_bb (fun q => by cases q)) (mu_n' (ne_k h_r h_dd (fun q => by cases q)) (mu_n' (ne_k h_r h_tt (fun q => by cases q)) h_r)))) (v := .ref bb) rfl dd_R_power_69 ?_
        refine lv_aload_n hx hb dd_R_power_72 rfl (lv_at hl 0 rfl) ?_
        refine mr_get C0 hM fk_R_39 (mu_n' (ne_k h_r h_rr (fun q => by cases q)) (mu_n' (ne_k h_r h_bb (fun q => by cases q)) (mu_n' (ne_k h_r h_dd (fun q => by cases q)) (mu_n' (ne_k h_r h_tt (fun q => by cases q)) h_r)))) (v := .ref rr) rfl dd_R_power_73 ?_
        refine mr_callV (As := [.ref rr, .ref bb, .ref rr]) (rest := []) C0 hM hS vk_R_72 (mu_n' (ne_k h_r h_rr (fun q => by cases q)) (mu_n' (ne_k h_r h_bb (fun q => by cases q)) (mu_n' (ne_k h_r h_dd (fun q => by cases q)) (mu_n' (ne_k h_r h_tt (fun q => by cases q)) h_r)))) rfl (c_R_montgomery l (mu_n' (ne_k h_r h_rr (fun q => by cases q)) (mu_n' (ne_k h_r h_bb (fun q => by cases q)) (mu_n' (ne_k h_r h_dd (fun q => by cases q)) (mu_n' (ne_k h_r h_tt (fun q => by cases q)) h_r)))) (mu_n' ne_tt_rr (mu_n' ne_tt_bb (mu_n' ne_tt_dd mu_s))) (mu_n' ne_dd_rr (mu_n' ne_dd_bb mu_s)) (mu_n' ne_mn_rr (mu_n' ne_mn_bb (mu_n' ne_mn_dd (mu_n' ne_mn_tt h_mn)))) mu_s (mu_n' ne_bb_rr mu_s) mu_s ne_mn_dd ne_mn_tt (Ne.symm ne_dd_rr) (Ne.symm ne_tt_rr) ne_tt_dd (Ne.symm ne_tt_rr) (Ne.symm ne_tt_bb) (Nat.mod_lt _ hN0) (Nat.mod_lt _ hN0) hN hn1 hinv hBi) rfl rfl hl.1 (by decide) rfl rfl (by subst hR; exact ⟨Nat.le_of_ble_eq_true rfl, Nat.le_of_ble_eq_true rfl⟩) (by subst hR; exact ⟨Nat.le_of_ble_eq_true rfl, Nat.le_of_ble_eq_true rfl⟩) dd_R_power_76 (fun v1 M1 H locs hp hM hS => ?_)
        obtain ⟨ev1, t3, d3, eM1⟩ := hp
        subst ev1
        rw [eM1] at hM
        have hM := mr_M ((congrArg (fun X__ => mu_ X__ rr (la_ G 4 (nl_ ((X ^ (V / 2 ^ (k + 1)) * X ^ (V / 2 ^ (k + 1)) * 4294967296 ^ 4 % N) * (X * 4294967296 ^ 4 % N) * Bi % N)))) ((congrArg (fun X__ => mu_ X__ dd (la_ G 4 d3)) (mu_c4 ne_tt_dd ne_tt_bb ne_tt_rr)).trans (mu_c3 ne_dd_bb ne_dd_rr))).trans mu_mu) hM
        have hM : mm_ G (mu_ (mu_ (mu_ (mu_ M tt (la_ G 6 t3)) dd (la_ G 4 d3)) bb (la_ G 4 (nl_ (X * 4294967296 ^ 4 % N)))) rr (la_ G 4 (nl_ ((X ^ (V / 2 ^ (k + 1)) * X ^ (V / 2 ^ (k + 1)) * 4294967296 ^ 4 % N) * (X * 4294967296 ^ 4 % N) * Bi % N)))) H := hM
        refine W.eq (g2 := F0 m 79 ls []) rfl ?_
        rw [mm4 hBi, pw_1 X hv] at hM
        have hM : mm_ G (mu_ (mu_ (mu_ (mu_ M tt (la_ G 6 t3)) dd (la_ G 4 d3)) bb (la_ G 4 (nl_ (X * 4294967296 ^ 4 % N)))) rr (la_ G 4 (nl_ (X ^ (V / 2 ^ k) * 4294967296 ^ 4 % N)))) H := hM
        refine lv_iinc (k := 4) (v := nI k + (-1 : Int32)) (lv' := [(4, .int (nI k + (-1 : Int32))), (0, .ref r), (1, .ref x), (2, .ref eo), (3, .ref out)]) hx hb dd_R_power_79 hl rfl (rfl) (by decide) rfl (fun ls hl => ?_)
        refine lv_goto (tgt := 33) hx hb dd_R_power_82 rfl ?_
        exact ih _ _ _ _ _ (by omega) hM hS (lv_sub hl [1, 2, 3, 4, 0] rfl)
  rw [show 4294967296 ^ 4 % N = X ^ (V / 2 ^ nb_ V) * 4294967296 ^ 4 % N by rw [nb_0, Nat.pow_zero, Nat.one_mul]] at hM
  exact loop_33 (nb_ V) _ _ _ _ _ (nb_le hV) hM hS (lv_sub hl [1, 2, 3, 4, 0] rfl)
end
section

theorem ne_il {G : mg_} {M : mw_} {a b n n' : Nat} {f : Nat → Int32} {g : Nat → Int64} (h : M a = some (ia_ G n f)) (k : M b = some (la_ G n' g)) : a ≠ b := by
  intro q
  subst q
  rw [h] at k
  have h1 := Option.some.inj k
  simp at h1
/-! rosters: a list of serials with their primes -/
abbrev rl_ : Type := List (Int64 × Nat)
def sr_ (L : rl_) (j : Nat) : Int64 := (L.getD j (0, 0)).1
def pr_ (L : rl_) (j : Nat) : Nat := (L.getD j (0, 0)).2
def px_ (L : rl_) (s : Int64) : Option Nat := L.findIdx? (fun x => x.1 == s)
def hs_ (L : rl_) (s : Int64) : Bool := L.any (fun x => x.1 == s)
def pz_ (L : rl_) (s : Int64) : Int32 := match px_ L s with
  | some i => nI i
  | none => (-1)
theorem sr_at {L : rl_} {j : Nat} (h : j < L.length) : sr_ L j = (L[j]).1 := by simp [sr_, List.getD_eq_getElem?_getD, h]
theorem pr_at {L : rl_} {j : Nat} (h : j < L.length) : pr_ L j = (L[j]).2 := by simp [pr_, List.getD_eq_getElem?_getD, h]
theorem px_some {L : rl_} {s : Int64} {i : Nat} (hi : i < L.length) (h : sr_ L i = s) (hb : ∀ j, j < i → sr_ L j ≠ s) : px_ L s = some i := by
  unfold px_
  rw [List.findIdx?_eq_some_iff_getElem]
  refine ⟨hi, ?_, fun j hj => ?_⟩
  · rw [sr_at hi] at h; simp [h]
  · have := hb j hj
    rw [sr_at (by omega)] at this
    simpa using this
theorem px_none {L : rl_} {s : Int64} (hb : ∀ j, j < L.length → sr_ L j ≠ s) : px_ L s = none := by
  unfold px_
  rw [List.findIdx?_eq_none_iff]
  intro x hx
  obtain ⟨j, hj, rfl⟩ := List.getElem_of_mem hx
  have := hb j hj
  rw [sr_at hj] at this
  simpa using this
theorem px_lt {L : rl_} {s : Int64} {i : Nat} (h : px_ L s = some i) : i < L.length ∧ sr_ L i = s := by
  unfold px_ at h
  rw [List.findIdx?_eq_some_iff_getElem] at h
  obtain ⟨h1, h2, -⟩ := h
  exact ⟨h1, by rw [sr_at h1]; simpa using h2⟩
theorem hs_px (L : rl_) (s : Int64) : hs_ L s = (px_ L s).isSome := by
  unfold hs_ px_
  rw [List.findIdx?_isSome]
theorem pz_neg {L : rl_} {s : Int64} (hn : L.length ≤ 10) : pz_ L s < 0 ↔ hs_ L s = false := by
  rw [hs_px]
  unfold pz_
  cases h : px_ L s with
  | none => simp
  | some i =>
    have := (px_lt h).1
    simp
    exact nI_pos' (by omega)
def fo_ (L O : rl_) : rl_ := L.filter (fun x => !(hs_ O x.1))
theorem take_s {L : rl_} {i : Nat} (h : i < L.length) : L.take (i + 1) = L.take i ++ [(sr_ L i, pr_ L i)] := by
  rw [List.take_succ_eq_append_getElem h, sr_at h, pr_at h]
def pd_ (L : rl_) : Nat := (L.map (·.2)).foldl (· * ·) 1
theorem pd_nil : pd_ [] = 1 := rfl
theorem pd_snoc (L : rl_) (x : Int64 × Nat) : pd_ (L ++ [x]) = pd_ L * x.2 := by simp [pd_]
def fs_ (L : rl_) (s : Int64) : rl_ := L.filter (fun x => !(x.1 == s))
theorem fo_s {L O : rl_} {i : Nat} (h : i < L.length) : fo_ (L.take (i + 1)) O = fo_ (L.take i) O ++ (if hs_ O (sr_ L i) then [] else [(sr_ L i, pr_ L i)]) := by
  rw [take_s h, fo_, List.filter_append, fo_]
  congr 1
  cases h2 : hs_ O (sr_ L i) <;> simp [h2]
theorem fs_s {L : rl_} {s : Int64} {i : Nat} (h : i < L.length) : fs_ (L.take (i + 1)) s = fs_ (L.take i) s ++ (if sr_ L i = s then [] else [(sr_ L i, pr_ L i)]) := by
  rw [take_s h, fs_, List.filter_append, fs_]
  congr 1
  by_cases h2 : sr_ L i = s <;> simp [h2]
theorem take_all {L : rl_} {i : Nat} (h : L.length ≤ i) : L.take i = L := List.take_of_length_le h
theorem fo_len {L O : rl_} (i : Nat) : (fo_ (L.take i) O).length ≤ i := by
  refine Nat.le_trans (List.length_filter_le _ _) ?_
  rw [List.length_take]; omega
def cf_ (L O : rl_) : Nat := (fo_ L O).length
theorem cf_t {L O : rl_} {i : Nat} (h : i < L.length) (hv : hs_ O (sr_ L i) = true) : cf_ (L.take (i + 1)) O = cf_ (L.take i) O := by unfold cf_; rw [fo_s h, hv]; simp
theorem cf_f {L O : rl_} {i : Nat} (h : i < L.length) (hv : hs_ O (sr_ L i) = false) : cf_ (L.take (i + 1)) O = cf_ (L.take i) O + 1 := by unfold cf_; rw [fo_s h, hv]; simp
theorem cf_le {L O : rl_} (i : Nat) : cf_ (L.take i) O ≤ i := fo_len i
noncomputable def po_ (L O : rl_) (w : Int32) : Int32 := if h : ∃ i, i < (fo_ L O).length ∧ nI i = w then nI (pr_ (fo_ L O) h.choose) else (-2)
theorem po_y {L O : rl_} {w : Int32} {i : Nat} (hl : L.length ≤ 10) (h : i < (fo_ L O).length) (hw : nI i = w) : po_ L O w = nI (pr_ (fo_ L O) i) := by
  have hx : ∃ i, i < (fo_ L O).length ∧ nI i = w := ⟨i, h, hw⟩
  have hlen : (fo_ L O).length ≤ L.length := List.length_filter_le _ _
  unfold po_
  rw [dif_pos hx]
  have hc := hx.choose_spec
  have : hx.choose = i := (nI_eq (by omega) (by omega)).mp (hc.2.trans hw.symm)
  rw [this]
theorem po_n {L O : rl_} {w : Int32} (h : ∀ i, i < (fo_ L O).length → nI i ≠ w) : po_ L O w = (-2) := by
  unfold po_
  rw [dif_neg]
  rintro ⟨i, hi, hw⟩
  exact h i hi hw
theorem fo_split (L O : rl_) (i : Nat) : fo_ L O = fo_ (L.take i) O ++ fo_ (L.drop i) O := by
  unfold fo_
  rw [← List.filter_append, List.take_append_drop]
theorem fo_pick {L O : rl_} {i : Nat} (h : i < L.length) (h2 : hs_ O (sr_ L i) = false) : cf_ (L.take i) O < (fo_ L O).length ∧ pr_ (fo_ L O) (cf_ (L.take i) O) = pr_ L i := by
  unfold cf_
  have e := fo_split L O (i + 1)
  rw [fo_s h, h2] at e
  simp only [Bool.false_eq_true, if_false] at e
  rw [e]
  constructor
  · simp
  · unfold pr_
    simp [List.getD_eq_getElem?_getD, List.getElem?_append]
/-! taking one in, taking one out -/
def mi_ (L : rl_) (s : Int64) : Nat → Nat
  | 0 => 0
  | k + 1 => if s < sr_ L k then mi_ L s k else k + 1
theorem mi_le (L : rl_) (s : Int64) : ∀ k, mi_ L s k ≤ k
  | 0 => Nat.le_refl _
  | k + 1 => by
    unfold mi_
    split
    · exact Nat.le_succ_of_le (mi_le L s k)
    · exact Nat.le_refl _
def ins_ (L : rl_) (s : Int64) (p : Nat) : rl_ := L.take (mi_ L s L.length) ++ (s, p) :: L.drop (mi_ L s L.length)
def sh_ {α : Type} (f : Nat → α) (k n : Nat) : Nat → α := fun j => if k < j ∧ j ≤ n then f (j - 1) else f j
theorem sh_n {α : Type} (f : Nat → α) (n : Nat) : f = sh_ f n n := by
  funext j
  simp only [sh_]
  rw [if_neg (by omega)]
theorem sh_sL {f : Nat → Int64} {k n : Nat} (h : k < n) : vp_updL (sh_ f (k + 1) n) (k + 1) (sh_ f (k + 1) n k) = sh_ f k n := by
  funext j
  simp only [vp_updL, sh_]
  by_cases h1 : j = k + 1
  · subst h1
    rw [if_pos rfl, if_neg (by omega), if_pos (by omega)]
    rfl
  · rw [if_neg h1]
    by_cases h2 : k + 1 < j ∧ j ≤ n
    · rw [if_pos h2, if_pos (by omega)]
    · rw [if_neg h2, if_neg (by omega)]
theorem sh_sI {f : Nat → Int32} {k n : Nat} (h : k < n) : upd (sh_ f (k + 1) n) (k + 1) (sh_ f (k + 1) n k) = sh_ f k n := by
  funext j
  simp only [upd, sh_]
  by_cases h1 : j = k + 1
  · subst h1
    rw [if_pos rfl, if_neg (by omega), if_pos (by omega)]
    rfl
  · rw [if_neg h1]
    by_cases h2 : k + 1 < j ∧ j ≤ n
    · rw [if_pos h2, if_pos (by omega)]
    · rw [if_neg h2, if_neg (by omega)]
def ro_ (f : Nat → Int64) (g : Nat → Int32) (L : rl_) : Prop := ∀ j, j < L.length → f j = sr_ L j ∧ g j = nI (pr_ L j)
theorem ins_len (L : rl_) (s : Int64) (p : Nat) : (ins_ L s p).length = L.length + 1 := by
  have := mi_le L s L.length
  simp [ins_, List.length_take]
  omega
theorem ins_at (L : rl_) (s : Int64) (p j : Nat) : (ins_ L s p).getD j (0, 0) = if j < mi_ L s L.length then L.getD j (0, 0) else if j = mi_ L s L.length then (s, p) else L.getD (j - 1) (0, 0) := by
  have hm := mi_le L s L.length
  unfold ins_
  generalize mi_ L s L.length = m at *
  simp only [List.getD_eq_getElem?_getD]
  by_cases h1 : j < m
  · rw [if_pos h1, List.getElem?_append_left (by rw [List.length_take]; omega), List.getElem?_take_of_lt h1]
  · rw [if_neg h1, List.getElem?_append_right (by rw [List.length_take]; omega), List.length_take, Nat.min_eq_left hm]
    by_cases h2 : j = m
    · subst h2; simp
    · rw [if_neg h2]
      obtain ⟨i, rfl⟩ : ∃ i, j = m + 1 + i := ⟨j - m - 1, by omega⟩
      rw [show m + 1 + i - m = i + 1 by omega, List.getElem?_cons_succ, List.getElem?_drop, show m + 1 + i - 1 = m + i by omega]
theorem ro_ins {f : Nat → Int64} {g : Nat → Int32} {L : rl_} (h : ro_ f g L) (s : Int64) (p : Nat) : ro_ (vp_updL (sh_ f (mi_ L s L.length) L.length) (mi_ L s L.length) s) (upd (sh_ g (mi_ L s L.length) L.length) (mi_ L s L.length) (nI p)) (ins_ L s p) := by
  intro j hj
  rw [ins_len] at hj
  have hm := mi_le L s L.length
  unfold sr_ pr_
  rw [ins_at]
  generalize mi_ L s L.length = m at *
  simp only [vp_updL, upd, sh_]
  by_cases h1 : j = m
  · subst h1; simp
  · simp only [h1, if_false]
    by_cases h2 : j < m
    · simp only [h2, if_true, show ¬ (m < j ∧ j ≤ L.length) by omega, if_false]
      exact h j (by omega)
    · simp only [h2, if_false, show m < j ∧ j ≤ L.length by omega, and_self, if_true]
      exact h (j - 1) (by omega)
def de_ {α : Type} (f : Nat → α) (q i : Nat) : Nat → α := fun j => if q ≤ j ∧ j + 1 < i then f (j + 1) else f j
theorem de_0 {α : Type} (f : Nat → α) (q : Nat) : f = de_ f q (q + 1) := by
  funext j
  simp only [de_]
  rw [if_neg (by omega)]
theorem de_sL {f : Nat → Int64} {q i : Nat} (h : q < i) : vp_updL (de_ f q i) (i - 1) (de_ f q i i) = de_ f q (i + 1) := by
  funext j
  simp only [vp_updL, de_]
  by_cases h1 : j = i - 1
  · subst h1
    rw [if_pos rfl, if_neg (by omega), if_pos (by omega), show i - 1 + 1 = i by omega]
  · rw [if_neg h1]
    by_cases h2 : q ≤ j ∧ j + 1 < i
    · rw [if_pos h2, if_pos (by omega)]
    · rw [if_neg h2, if_neg (by omega)]
theorem de_sI {f : Nat → Int32} {q i : Nat} (h : q < i) : upd (de_ f q i) (i - 1) (de_ f q i i) = de_ f q (i + 1) := by
  funext j
  simp only [upd, de_]
  by_cases h1 : j = i - 1
  · subst h1
    rw [if_pos rfl, if_neg (by omega), if_pos (by omega), show i - 1 + 1 = i by omega]
  · rw [if_neg h1]
    by_cases h2 : q ≤ j ∧ j + 1 < i
    · rw [if_pos h2, if_pos (by omega)]
    · rw [if_neg h2, if_neg (by omega)]
theorem ro_del {f : Nat → Int64} {g : Nat → Int32} {L : rl_} (h : ro_ f g L) {q : Nat} (hq : q < L.length) : ro_ (de_ f q L.length) (de_ g q L.length) (L.eraseIdx q) := by
  intro j hj
  rw [List.length_eraseIdx, if_pos hq] at hj
  unfold sr_ pr_
  simp only [List.getD_eq_getElem?_getD, List.getElem?_eraseIdx, de_]
  by_cases h1 : j < q
  · have := h j (by omega)
    simp only [sr_, pr_, List.getD_eq_getElem?_getD] at this
    simp only [h1, if_true, show ¬ (q ≤ j ∧ j + 1 < L.length) by omega, if_false]
    exact this
  · have := h (j + 1) (by omega)
    simp only [sr_, pr_, List.getD_eq_getElem?_getD] at this
    simp only [h1, if_false, show q ≤ j ∧ j + 1 < L.length by omega, and_self, if_true]
    exact this

def hp_ (L : rl_) (p : Int32) : Bool := L.any (fun x => nI x.2 == p)
theorem hp_y {L : rl_} {p : Int32} {i : Nat} (hi : i < L.length) (h : nI (pr_ L i) = p) : hp_ L p = true := by
  unfold hp_
  rw [List.any_eq_true]
  exact ⟨L[i], List.getElem_mem hi, by rw [pr_at hi] at h; simp [h]⟩
theorem hp_no {L : rl_} {p : Int32} (hb : ∀ j, j < L.length → nI (pr_ L j) ≠ p) : hp_ L p = false := by
  unfold hp_
  rw [List.any_eq_false]
  intro x hx
  obtain ⟨j, hj, rfl⟩ := List.getElem_of_mem hx
  have := hb j hj
  rw [pr_at hj] at this
  simpa using this

theorem pd_take {L : rl_} {i : Nat} (h : i < L.length) : pd_ (L.take (i + 1)) = pd_ (L.take i) * pr_ L i := by rw [take_s h, pd_snoc]
theorem pd_0 (L : rl_) : pd_ (L.take 0) = 1 := rfl

set_option maxHeartbeats 4000000 in
set_option maxRecDepth 100000 in
theorem c_T_placeOf (l : Launch) {G : mg_} {M : mw_} {o sA pA : Nat} {L : rl_} {f : Nat → Int64} {sx : Int64} (h_o : M o = some (ob_ 3 [.ref sA, .ref pA, .int (nI L.length)])) (h_sA : M sA = some (la_ G 10 f))  (hf : ∀ j, j < L.length → f j = sr_ L j) (hn : L.length ≤ 10) : dt_ l my_T_placeOf cd_T_placeOf 4 (some .int) { frames := 0, cells := 0, slots := 0, locals := 0 } G [.ref o, .long sx] M (some (.int (pz_ L sx))) (M) 0 0 := by
  refine ct_.intro2 (by decide) (Nat.le_of_ble_eq_true rfl) ?_
  intro p e s m args below meth c ls R Q hR hQ C0 hl hM hS
  have hx := C0.1
  have hb := C0.2.1
  have hl : lv_has ls 4 [(0, .ref o), (1, .long sx)] := hl
  refine lv_iconst (v := nI 0) hx hb dd_T_placeOf_0 (by decide) ?_
  refine lv_istore_n (lv' := [(3, .int (nI 0)), (0, .ref o), (1, .long sx)]) hx hb dd_T_placeOf_1 rfl hl (by decide) rfl (fun ls hl => ?_)
  have loop_2 : ∀ (k : Nat) (i : Nat) (H : Heap) (locs : List Loc) (ls : Array Slot), i + k = L.length → (∀ j, j < i → sr_ L j ≠ sx) → mm_ G (M) H → va_S (fz_ G) s.heap H locs → lv_has ls 4 [(0, .ref o), (1, .long sx), (3, .int (nI i))] → W p l e R s m args below meth c H locs 0 0 Q (F0 m 2 ls []) := by
    intro k
    induction k with
    | zero =>
      intro i H locs ls hi hb0 hM hS hl
      refine lv_iload_n hx hb dd_T_placeOf_2 rfl (lv_at hl 2 rfl) ?_
      refine lv_aload_n hx hb dd_T_placeOf_3 rfl (lv_at hl 0 rfl) ?_
      refine mr_get C0 hM fk_T_19 h_o (v := .int (nI L.length)) rfl dd_T_placeOf_4 ?_
      refine lv_icmp_ge (tgt := 29) hx hb dd_T_placeOf_7 rfl (fun _ => ?_) (fun hc => absurd (le_nI (a := L.length) (b := i) (by omega) (by omega) (by omega)) hc)
      refine lv_iconst (v := (-1 : Int32)) hx hb dd_T_placeOf_29 (by decide) ?_
      exact mr_ret hQ (mr_iret C0 hM hS (rfl) (⟨by rw [pz_, px_none (fun j hj => hb0 j (by omega))], rfl⟩) dd_T_placeOf_30)
    | succ k ih =>
      intro i H locs ls hi hb0 hM hS hl
      refine lv_iload_n hx hb dd_T_placeOf_2 rfl (lv_at hl 2 rfl) ?_
      refine lv_aload_n hx hb dd_T_placeOf_3 rfl (lv_at hl 0 rfl) ?_
      refine mr_get C0 hM fk_T_19 h_o (v := .int (nI L.length)) rfl dd_T_placeOf_4 ?_
      refine lv_icmp_ge (tgt := 29) hx hb dd_T_placeOf_7 rfl (fun hc => absurd hc (nle_nI (a := L.length) (b := i) (by omega) (by omega) (by omega))) (fun _ => ?_)
      refine lv_aload_n hx hb dd_T_placeOf_10 rfl (lv_at hl 0 rfl) ?_
      refine mr_get C0 hM fk_T_11 h_o (v := .ref sA) rfl dd_T_placeOf_11 ?_
      refine lv_iload_n hx hb dd_T_placeOf_14 rfl (lv_at hl 2 rfl) ?_
      refine mr_lald C0 hM h_sA (i) (rfl) (by omega) (by decide) dd_T_placeOf_15 ?_
      refine lv_lload_n hx hb dd_T_placeOf_16 rfl (lv_at hl 1 rfl) ?_
      refine mr_lif_ne (tgt := 23) hx hb dd_T_placeOf_17 dd_T_placeOf_18 rfl (fun h17 => ?_) (fun h17 => ?_)
      · skip
        refine lv_iinc (k := 2) (v := nI (i + 1)) (lv' := [(3, .int (nI (i + 1))), (0, .ref o), (1, .long sx)]) hx hb dd_T_placeOf_23 hl rfl (inc_ i) (by decide) rfl (fun ls hl => ?_)
        refine lv_goto (tgt := 2) hx hb dd_T_placeOf_26 rfl ?_
        exact ih (i + 1) _ _ _ (by omega) (fun j hj => by rcases (show j < i ∨ j = i by omega) with h | h; exact hb0 j h; subst h; rw [← hf j (by omega)]; exact h17) hM hS (lv_sub hl [1, 2, 0] rfl)
      · skip
        refine lv_iload_n hx hb dd_T_placeOf_21 rfl (lv_at hl 2 rfl) ?_
        exact mr_ret hQ (mr_iret C0 hM hS (rfl) (⟨by rw [pz_, px_some (by omega) (by rw [← hf i (by omega)]; exact h17) hb0], rfl⟩) dd_T_placeOf_22)
  exact loop_2 L.length 0 _ _ _ (Nat.zero_add _) (fun j h => absurd h (Nat.not_lt_zero j)) hM hS (lv_sub hl [1, 2, 0] rfl)

set_option maxHeartbeats 4000000 in
set_option maxRecDepth 100000 in
theorem c_T_has (l : Launch) {G : mg_} {M : mw_} {o sA pA : Nat} {L : rl_} {f : Nat → Int64} {sx : Int64} (h_o : M o = some (ob_ 3 [.ref sA, .ref pA, .int (nI L.length)])) (h_sA : M sA = some (la_ G 10 f))  (hf : ∀ j, j < L.length → f j = sr_ L j) (hn : L.length ≤ 10) : dt_ l my_T_has cd_T_has 3 (some .boolean) { frames := 1, cells := 0, slots := 0, locals := 23 } G [.ref o, .long sx] M (some (.int (nI (if hs_ L sx then 1 else 0)))) (M) 0 0 := by
  refine ct_.intro2 (by decide) (Nat.le_of_ble_eq_true rfl) ?_
  intro p e s m args below meth c ls R Q hR hQ C0 hl hM hS
  have hx := C0.1
  have hb := C0.2.1
  have hl : lv_has ls 3 [(0, .ref o), (1, .long sx)] := hl
  refine lv_aload_n hx hb dd_T_has_0 rfl (lv_at hl 0 rfl) ?_
  refine lv_lload_n hx hb dd_T_has_1 rfl (lv_at hl 1 rfl) ?_
  refine mr_callV (As := [.long sx]) (rest := []) C0 hM hS vk_T_23 h_o rfl (c_T_placeOf l h_o h_sA  hf hn) rfl rfl hl.1 (by decide) rfl rfl (by subst hR; exact ⟨Nat.le_of_ble_eq_true rfl, Nat.le_of_ble_eq_true rfl⟩) (by subst hR; exact ⟨Nat.le_of_ble_eq_true rfl, Nat.le_of_ble_eq_true rfl⟩) dd_T_has_2 (fun v1 M1 H locs hp hM hS => ?_)
  obtain ⟨ev1, eM1⟩ := hp
  subst ev1
  rw [eM1] at hM
  refine W.eq (g2 := F0 m 5 ls [.int (pz_ L sx)]) rfl ?_
  refine lv_if_lt (tgt := 12) hx hb dd_T_has_5 rfl (fun h5 => ?_) (fun h5 => ?_)
  · skip
    have hv := (pz_neg hn).mp h5
    refine lv_iconst (v := nI 0) hx hb dd_T_has_12 (by decide) ?_
    exact mr_ret hQ (mr_iret C0 hM hS (rfl) (⟨by rw [hv]; rfl, rfl⟩) dd_T_has_13)
  · skip
    have hv : hs_ L sx = true := by
      cases h : hs_ L sx with
      | true => rfl
      | false => exact absurd ((pz_neg hn).mpr h) h5
    refine lv_iconst (v := nI 1) hx hb dd_T_has_8 (by decide) ?_
    refine lv_goto (tgt := 13) hx hb dd_T_has_9 rfl ?_
    exact mr_ret hQ (mr_iret C0 hM hS (rfl) (⟨by rw [hv]; rfl, rfl⟩) dd_T_has_13)

set_option maxHeartbeats 4000000 in
set_option maxRecDepth 100000 in
theorem c_T_hasPrime (l : Launch) {G : mg_} {M : mw_} {o sA pA : Nat} {L : rl_} {g0 : Nat → Int32} {p0 : Int32} (h_o : M o = some (ob_ 3 [.ref sA, .ref pA, .int (nI L.length)])) (h_pA : M pA = some (ia_ G 10 g0))  (hg : ∀ j, j < L.length → g0 j = nI (pr_ L j)) (hn : L.length ≤ 10) : dt_ l my_T_hasPrime cd_T_hasPrime 3 (some .boolean) { frames := 0, cells := 0, slots := 0, locals := 0 } G [.ref o, .int p0] M (some (.int (nI (if hp_ L p0 then 1 else 0)))) (M) 0 0 := by
  refine ct_.intro2 (by decide) (Nat.le_of_ble_eq_true rfl) ?_
  intro p e s m args below meth c ls R Q hR hQ C0 hl hM hS
  have hx := C0.1
  have hb := C0.2.1
  have hl : lv_has ls 3 [(0, .ref o), (1, .int p0)] := hl
  refine lv_iconst (v := nI 0) hx hb dd_T_hasPrime_0 (by decide) ?_
  refine lv_istore_n (lv' := [(2, .int (nI 0)), (0, .ref o), (1, .int p0)]) hx hb dd_T_hasPrime_1 rfl hl (by decide) rfl (fun ls hl => ?_)
  have loop_2 : ∀ (k : Nat) (i : Nat) (H : Heap) (locs : List Loc) (ls : Array Slot), i + k = L.length → (∀ j, j < i → nI (pr_ L j) ≠ p0) → mm_ G (M) H → va_S (fz_ G) s.heap H locs → lv_has ls 3 [(0, .ref o), (1, .int p0), (2, .int (nI i))] → W p l e R s m args below meth c H locs 0 0 Q (F0 m 2 ls []) := by
    intro k
    induction k with
    | zero =>
      intro i H locs ls hi hb0 hM hS hl
      refine lv_iload_n hx hb dd_T_hasPrime_2 rfl (lv_at hl 2 rfl) ?_
      refine lv_aload_n hx hb dd_T_hasPrime_3 rfl (lv_at hl 0 rfl) ?_
      refine mr_get C0 hM fk_T_19 h_o (v := .int (nI L.length)) rfl dd_T_hasPrime_4 ?_
      refine lv_icmp_ge (tgt := 28) hx hb dd_T_hasPrime_7 rfl (fun _ => ?_) (fun hc => absurd (le_nI (a := L.length) (b := i) (by omega) (by omega) (by omega)) hc)
      refine lv_iconst (v := nI 0) hx hb dd_T_hasPrime_28 (by decide) ?_
      exact mr_ret hQ (mr_iret C0 hM hS (rfl) (⟨by rw [hp_no (fun j hj => hb0 j (by omega))]; rfl, rfl⟩) dd_T_hasPrime_29)
    | succ k ih =>
      intro i H locs ls hi hb0 hM hS hl
      refine lv_iload_n hx hb dd_T_hasPrime_2 rfl (lv_at hl 2 rfl) ?_
      refine lv_aload_n hx hb dd_T_hasPrime_3 rfl (lv_at hl 0 rfl) ?_
      refine mr_get C0 hM fk_T_19 h_o (v := .int (nI L.length)) rfl dd_T_hasPrime_4 ?_
      refine lv_icmp_ge (tgt := 28) hx hb dd_T_hasPrime_7 rfl (fun hc => absurd hc (nle_nI (a := L.length) (b := i) (by omega) (by omega) (by omega))) (fun _ => ?_)
      refine lv_aload_n hx hb dd_T_hasPrime_10 rfl (lv_at hl 0 rfl) ?_
      refine mr_get C0 hM fk_T_15 h_o (v := .ref pA) rfl dd_T_hasPrime_11 ?_
      refine lv_iload_n hx hb dd_T_hasPrime_14 rfl (lv_at hl 2 rfl) ?_
      refine mr_iald C0 hM h_pA (i) (rfl) (by omega) (by decide) dd_T_hasPrime_15 ?_
      refine lv_iload_n hx hb dd_T_hasPrime_16 rfl (lv_at hl 1 rfl) ?_
      refine lv_icmp_ne (tgt := 22) hx hb dd_T_hasPrime_17 rfl (fun h17 => ?_) (fun h17 => ?_)
      · skip
        refine lv_iinc (k := 2) (v := nI (i + 1)) (lv' := [(2, .int (nI (i + 1))), (0, .ref o), (1, .int p0)]) hx hb dd_T_hasPrime_22 hl rfl (inc_ i) (by decide) rfl (fun ls hl => ?_)
        refine lv_goto (tgt := 2) hx hb dd_T_hasPrime_25 rfl ?_
        exact ih (i + 1) _ _ _ (by omega) (fun j hj => by rcases (show j < i ∨ j = i by omega) with h | h; exact hb0 j h; subst h; rw [← hg j (by omega)]; exact h17) hM hS (lv_sub hl [1, 2, 0] rfl)
      · skip
        refine lv_iconst (v := nI 1) hx hb dd_T_hasPrime_20 (by decide) ?_
        exact mr_ret hQ (mr_iret C0 hM hS (rfl) (⟨by rw [hp_y (i := i) (by omega) (by rw [← hg i (by omega)]; exact h17)]; rfl, rfl⟩) dd_T_hasPrime_21)
  exact loop_2 L.length 0 _ _ _ (Nat.zero_add _) (fun j h => absurd h (Nat.not_lt_zero j)) hM hS (lv_sub hl [1, 2, 0] rfl)

set_option maxHeartbeats 4000000 in
set_option maxRecDepth 100000 in
theorem c_T_insert (l : Launch) {G : mg_} {M : mw_} {o sA pA : Nat} {L : rl_} {f : Nat → Int64} {g0 : Nat → Int32} {sx : Int64} {p0 : Nat} (h_o : M o = some (ob_ 3 [.ref sA, .ref pA, .int (nI L.length)])) (h_sA : M sA = some (la_ G 10 f)) (h_pA : M pA = some (ia_ G 10 g0))  (hro : ro_ f g0 L) (hn : L.length < 10) : ct_ l my_T_insert cd_T_insert 5 none { frames := 0, cells := 0, slots := 0, locals := 0 } G [.ref o, .long sx, .int (nI p0)] M (fun v0 M' => v0 = none ∧ ∃ (f1 : Nat → Int64) (g1 : Nat → Int32), ro_ f1 g1 (ins_ L sx p0) ∧ M' = mu_ (mu_ (mu_ M sA (la_ G 10 f1)) pA (ia_ G 10 g1)) o (ob_ 3 [.ref sA, .ref pA, .int (nI (L.length + 1))])) 0 0 := by
  refine ct_.intro2 (by decide) (Nat.le_of_ble_eq_true rfl) ?_
  intro p e s m args below meth c ls R Q hR hQ C0 hl hM hS
  have hx := C0.1
  have hb := C0.2.1
  have hl : lv_has ls 5 [(0, .ref o), (1, .long sx), (3, .int (nI p0))] := hl
  refine lv_aload_n hx hb dd_T_insert_0 rfl (lv_at hl 0 rfl) ?_
  refine mr_get C0 hM fk_T_19 h_o (v := .int (nI L.length)) rfl dd_T_insert_1 ?_
  refine lv_bipush (v := nI 10) hx hb dd_T_insert_4 (by decide) ?_
  refine lv_icmp_lt (tgt := 10) hx hb dd_T_insert_6 rfl (fun _ => ?_) (fun hc => absurd (lt_nI (a := L.length) (b := 10) (by omega) (by omega) (by omega)) hc)
  refine lv_aload_n hx hb dd_T_insert_10 rfl (lv_at hl 0 rfl) ?_
  refine mr_get C0 hM fk_T_19 h_o (v := .int (nI L.length)) rfl dd_T_insert_11 ?_
  refine lv_istore (lv' := [(4, .int (nI L.length)), (0, .ref o), (1, .long sx), (3, .int (nI p0))]) hx hb dd_T_insert_14 hl (by decide) rfl (fun ls hl => ?_)
  have loop_16 : ∀ (k : Nat)  (H : Heap) (locs : List Loc) (ls : Array Slot), k ≤ L.length → mi_ L sx k = mi_ L sx L.length → mm_ G (mu_ (mu_ M sA (la_ G 10 (sh_ f k L.length))) pA (ia_ G 10 (sh_ g0 k L.length))) H → va_S (fz_ G) s.heap H locs → lv_has ls 5 [(0, .ref o), (1, .long sx), (3, .int (nI p0)), (4, .int (nI k))] → W p l e R s m args below meth c H locs 0 0 Q (F0 m 16 ls []) := by
    intro k
    induction k with
    | zero =>
      intro  H locs ls hk hm hM hS hl
      have hl : lv_has ls 5 [(0, .ref o), (1, .long sx), (3, .int (nI p0)), (4, .int (nI 0))] := by exact hl
      have hM : mm_ G (mu_ (mu_ M sA (la_ G 10 (sh_ f 0 L.length))) pA (ia_ G 10 (sh_ g0 0 L.length))) H := hM
      refine lv_iload hx hb dd_T_insert_16 (lv_at hl 3 rfl) ?_
      refine lv_if_le (tgt := 73) hx hb dd_T_insert_18 rfl (fun _ => ?_) (fun hc => absurd (by decide) hc)
      refine lv_aload_n hx hb dd_T_insert_73 rfl (lv_at hl 0 rfl) ?_
      refine mr_get C0 hM fk_T_11 (mu_n' (ne_k h_o h_pA (fun q => by cases q)) (mu_n' (ne_k h_o h_sA (fun q => by cases q)) h_o)) (v := .ref sA) rfl dd_T_insert_74 ?_
      refine lv_iload hx hb dd_T_insert_77 (lv_at hl 3 rfl) ?_
      refine lv_lload_n hx hb dd_T_insert_79 rfl (lv_at hl 1 rfl) ?_
      refine mr_last C0 hM hS (mu_n' (Ne.symm (ne_il h_pA h_sA)) mu_s) (0) (rfl) (by omega) (by decide) dd_T_insert_80 (fun H locs hM hS => ?_)
      have hM := mr_M (mu_c2 (Ne.symm (ne_il h_pA h_sA))) hM
      refine lv_aload_n hx hb dd_T_insert_81 rfl (lv_at hl 0 rfl) ?_
      refine mr_get C0 hM fk_T_15 (mu_n' (ne_k h_o h_pA (fun q => by cases q)) (mu_n' (ne_k h_o h_sA (fun q => by cases q)) h_o)) (v := .ref pA) rfl dd_T_insert_82 ?_
      refine lv_iload hx hb dd_T_insert_85 (lv_at hl 3 rfl) ?_
      refine lv_iload_n hx hb dd_T_insert_87 rfl (lv_at hl 2 rfl) ?_
      refine mr_iast C0 hM hS mu_s (0) (rfl) (by omega) (by decide) dd_T_insert_88 (fun H locs hM hS => ?_)
      have hM := mr_M mu_mu hM
      refine lv_aload_n hx hb dd_T_insert_89 rfl (lv_at hl 0 rfl) ?_
      refine lv_dup hx hb dd_T_insert_90 rfl ?_
      refine mr_get C0 hM fk_T_19 (mu_n' (ne_k h_o h_pA (fun q => by cases q)) (mu_n' (ne_k h_o h_sA (fun q => by cases q)) h_o)) (v := .int (nI L.length)) rfl dd_T_insert_91 ?_
      refine lv_iconst (v := nI 1) hx hb dd_T_insert_94 (by decide) ?_
      refine lv_iadd hx hb dd_T_insert_95 ?_
      refine mr_vi (nI_add L.length 1) ?_
      refine mr_put C0 hM hS fk_T_19 fp_T_19 (mu_n' (ne_k h_o h_pA (fun q => by cases q)) (mu_n' (ne_k h_o h_sA (fun q => by cases q)) h_o)) rfl (rfl) (rfl) (Nat.le_of_ble_eq_true rfl) dd_T_insert_96 (fun H locs hM hS => ?_)
      have hM : mm_ G (mu_ (mu_ (mu_ M sA (la_ G 10 (vp_updL (sh_ f 0 L.length) 0 sx))) pA (ia_ G 10 (upd (sh_ g0 0 L.length) 0 (nI p0)))) o (ob_ 3 [.ref sA, .ref pA, .int (nI (L.length + 1))])) H := hM
      exact mr_ret hQ (mr_vret C0 hM hS (⟨rfl, _, _, by have h := ro_ins hro sx p0; rw [← hm] at h; exact h, rfl⟩) dd_T_insert_99)
    | succ k ih =>
      intro  H locs ls hk hm hM hS hl
      have hkk : k < L.length := by omega
      have hsk : sh_ f (k + 1) L.length k = sr_ L k := by
        show (if k + 1 < k ∧ k ≤ L.length then f (k - 1) else f k) = _
        rw [if_neg (by omega)]
        exact (hro k hkk).1
      have hl : lv_has ls 5 [(0, .ref o), (1, .long sx), (3, .int (nI p0)), (4, .int (nI (k + 1)))] := hl
      have hM : mm_ G (mu_ (mu_ M sA (la_ G 10 (sh_ f (k + 1) L.length))) pA (ia_ G 10 (sh_ g0 (k + 1) L.length))) H := hM
      refine lv_iload hx hb dd_T_insert_16 (lv_at hl 3 rfl) ?_
      refine lv_if_le (tgt := 73) hx hb dd_T_insert_18 rfl (fun hc => absurd hc (nI_nle (by omega) (by omega))) (fun _ => ?_)
      refine lv_aload_n hx hb dd_T_insert_21 rfl (lv_at hl 0 rfl) ?_
      refine mr_get C0 hM fk_T_11 (mu_n' (ne_k h_o h_pA (fun q => by cases q)) (mu_n' (ne_k h_o h_sA (fun q => by cases q)) h_o)) (v := .ref sA) rfl dd_T_insert_22 ?_
      refine lv_iload hx hb dd_T_insert_25 (lv_at hl 3 rfl) ?_
      refine lv_iconst (v := nI 1) hx hb dd_T_insert_27 (by decide) ?_
      refine lv_isub hx hb dd_T_insert_28 ?_
      refine mr_vi (x' := nI k) (pk_sub (a := k + 1) (b := 1) (by omega)) ?_
      refine mr_lald C0 hM (mu_n' (Ne.symm (ne_il h_pA h_sA)) mu_s) (k) (rfl) (by omega) (by decide) dd_T_insert_29 ?_
      refine lv_lload_n hx hb dd_T_insert_30 rfl (lv_at hl 1 rfl) ?_
      refine mr_lif_le (tgt := 73) hx hb dd_T_insert_31 dd_T_insert_32 rfl (fun h31 => ?_) (fun h31 => ?_)
      · skip
        have hmk : mi_ L sx L.length = k + 1 := by
          rw [← hm]
          show (if sx < sr_ L k then _ else _) = _
          rw [if_neg (fun q => absurd h31 (by rw [hsk]; exact Int64.not_le.mpr q))]
        refine lv_aload_n hx hb dd_T_insert_73 rfl (lv_at hl 0 rfl) ?_
        refine mr_get C0 hM fk_T_11 (mu_n' (ne_k h_o h_pA (fun q => by cases q)) (mu_n' (ne_k h_o h_sA (fun q => by cases q)) h_o)) (v := .ref sA) rfl dd_T_insert_74 ?_
        refine lv_iload hx hb dd_T_insert_77 (lv_at hl 3 rfl) ?_
        refine lv_lload_n hx hb dd_T_insert_79 rfl (lv_at hl 1 rfl) ?_
        refine mr_last C0 hM hS (mu_n' (Ne.symm (ne_il h_pA h_sA)) mu_s) ((k + 1)) (rfl) (by omega) (by decide) dd_T_insert_80 (fun H locs hM hS => ?_)
        have hM := mr_M (mu_c2 (Ne.symm (ne_il h_pA h_sA))) hM
        refine lv_aload_n hx hb dd_T_insert_81 rfl (lv_at hl 0 rfl) ?_
        refine mr_get C0 hM fk_T_15 (mu_n' (ne_k h_o h_pA (fun q => by cases q)) (mu_n' (ne_k h_o h_sA (fun q => by cases q)) h_o)) (v := .ref pA) rfl dd_T_insert_82 ?_
        refine lv_iload hx hb dd_T_insert_85 (lv_at hl 3 rfl) ?_
        refine lv_iload_n hx hb dd_T_insert_87 rfl (lv_at hl 2 rfl) ?_
        refine mr_iast C0 hM hS mu_s ((k + 1)) (rfl) (by omega) (by decide) dd_T_insert_88 (fun H locs hM hS => ?_)
        have hM := mr_M mu_mu hM
        refine lv_aload_n hx hb dd_T_insert_89 rfl (lv_at hl 0 rfl) ?_
        refine lv_dup hx hb dd_T_insert_90 rfl ?_
        refine mr_get C0 hM fk_T_19 (mu_n' (ne_k h_o h_pA (fun q => by cases q)) (mu_n' (ne_k h_o h_sA (fun q => by cases q)) h_o)) (v := .int (nI L.length)) rfl dd_T_insert_91 ?_
        refine lv_iconst (v := nI 1) hx hb dd_T_insert_94 (by decide) ?_
        refine lv_iadd hx hb dd_T_insert_95 ?_
        refine mr_vi (nI_add L.length 1) ?_
        refine mr_put C0 hM hS fk_T_19 fp_T_19 (mu_n' (ne_k h_o h_pA (fun q => by cases q)) (mu_n' (ne_k h_o h_sA (fun q => by cases q)) h_o)) rfl (rfl) (rfl) (Nat.le_of_ble_eq_true rfl) dd_T_insert_96 (fun H locs hM hS => ?_)
        have hM : mm_ G (mu_ (mu_ (mu_ M sA (la_ G 10 (vp_updL (sh_ f (k + 1) L.length) (k + 1) sx))) pA (ia_ G 10 (upd (sh_ g0 (k + 1) L.length) (k + 1) (nI p0)))) o (ob_ 3 [.ref sA, .ref pA, .int (nI (L.length + 1))])) H := hM
        exact mr_ret hQ (mr_vret C0 hM hS (⟨rfl, _, _, by have h := ro_ins hro sx p0; rw [hmk] at h; exact h, rfl⟩) dd_T_insert_99)
      · skip
        have hlt : sx < sr_ L k := by rw [← hsk]; exact Int64.not_le.mp h31
        refine lv_aload_n hx hb dd_T_insert_35 rfl (lv_at hl 0 rfl) ?_
        refine mr_get C0 hM fk_T_11 (mu_n' (ne_k h_o h_pA (fun q => by cases q)) (mu_n' (ne_k h_o h_sA (fun q => by cases q)) h_o)) (v := .ref sA) rfl dd_T_insert_36 ?_
        refine lv_iload hx hb dd_T_insert_39 (lv_at hl 3 rfl) ?_
        refine lv_aload_n hx hb dd_T_insert_41 rfl (lv_at hl 0 rfl) ?_
        refine mr_get C0 hM fk_T_11 (mu_n' (ne_k h_o h_pA (fun q => by cases q)) (mu_n' (ne_k h_o h_sA (fun q => by cases q)) h_o)) (v := .ref sA) rfl dd_T_insert_42 ?_
        refine lv_iload hx hb dd_T_insert_45 (lv_at hl 3 rfl) ?_
        refine lv_iconst (v := nI 1) hx hb dd_T_insert_47 (by decide) ?_
        refine lv_isub hx hb dd_T_insert_48 ?_
        refine mr_vi (x' := nI k) (pk_sub (a := k + 1) (b := 1) (by omega)) ?_
        refine mr_lald C0 hM (mu_n' (Ne.symm (ne_il h_pA h_sA)) mu_s) (k) (rfl) (by omega) (by decide) dd_T_insert_49 ?_
        refine mr_last C0 hM hS (mu_n' (Ne.symm (ne_il h_pA h_sA)) mu_s) ((k + 1)) (rfl) (by omega) (by decide) dd_T_insert_50 (fun H locs hM hS => ?_)
        have hM := mr_M (mu_c2 (Ne.symm (ne_il h_pA h_sA))) hM
        have hM := mr_M (congrArg (fun z__ => mu_ (mu_ M sA (la_ G 10 z__)) pA (ia_ G 10 (sh_ g0 (k + 1) L.length))) (show (vp_updL (sh_ f (k + 1) L.length) (k + 1) ((sh_ f (k + 1) L.length) k) : Nat → Int64) = (sh_ f k L.length) from sh_sL hkk)) hM
        have hM : mm_ G (mu_ (mu_ M sA (la_ G 10 (sh_ f k L.length))) pA (ia_ G 10 (sh_ g0 (k + 1) L.length))) H := hM
        refine lv_aload_n hx hb dd_T_insert_51 rfl (lv_at hl 0 rfl) ?_
        refine mr_get C0 hM fk_T_15 (mu_n' (ne_k h_o h_pA (fun q => by cases q)) (mu_n' (ne_k h_o h_sA (fun q => by cases q)) h_o)) (v := .ref pA) rfl dd_T_insert_52 ?_
        refine lv_iload hx hb dd_T_insert_55 (lv_at hl 3 rfl) ?_
        refine lv_aload_n hx hb dd_T_insert_57 rfl (lv_at hl 0 rfl) ?_
        refine mr_get C0 hM fk_T_15 (mu_n' (ne_k h_o h_pA (fun q => by cases q)) (mu_n' (ne_k h_o h_sA (fun q => by cases q)) h_o)) (v := .ref pA) rfl dd_T_insert_58 ?_
        refine lv_iload hx hb dd_T_insert_61 (lv_at hl 3 rfl) ?_
        refine lv_iconst (v := nI 1) hx hb dd_T_insert_63 (by decide) ?_
        refine lv_isub hx hb dd_T_insert_64 ?_
        refine mr_vi (x' := nI k) (pk_sub (a := k + 1) (b := 1) (by omega)) ?_
        refine mr_iald C0 hM mu_s (k) (rfl) (by omega) (by decide) dd_T_insert_65 ?_
        refine mr_iast C0 hM hS mu_s ((k + 1)) (rfl) (by omega) (by decide) dd_T_insert_66 (fun H locs hM hS => ?_)
        have hM := mr_M mu_mu hM
        have hM := mr_M (congrArg (fun z__ => mu_ (mu_ M sA (la_ G 10 (sh_ f k L.length))) pA (ia_ G 10 z__)) (show (upd (sh_ g0 (k + 1) L.length) (k + 1) ((sh_ g0 (k + 1) L.length) k) : Nat → Int32) = (sh_ g0 k L.length) from sh_sI hkk)) hM
        have hM : mm_ G (mu_ (mu_ M sA (la_ G 10 (sh_ f k L.length))) pA (ia_ G 10 (sh_ g0 k L.length))) H := hM
        refine lv_iinc (k := 3) (v := nI k) (lv' := [(4, .int (nI k)), (0, .ref o), (1, .long sx), (3, .int (nI p0))]) hx hb dd_T_insert_67 hl rfl (pk_m1 k) (by decide) rfl (fun ls hl => ?_)
        refine lv_goto (tgt := 16) hx hb dd_T_insert_70 rfl ?_
        exact ih  _ _ _ (by omega) (by rw [← hm]; show _ = if sx < sr_ L k then _ else _; rw [if_pos hlt]) hM hS (lv_sub hl [1, 2, 3, 0] rfl)
  have hM := mr_M (mu_id h_sA).symm hM
  have hM := mr_M (mu_id (mu_n' (ne_il h_pA h_sA) h_pA)).symm hM
  have hM := mr_M (congrArg (fun z => mu_ (mu_ M sA (la_ G 10 z)) pA (ia_ G 10 g0)) (sh_n f L.length)) hM
  have hM := mr_M (congrArg (fun z => mu_ (mu_ M sA (la_ G 10 (sh_ f L.length L.length))) pA (ia_ G 10 z)) (sh_n g0 L.length)) hM
  exact loop_16 L.length  _ _ _ (Nat.le_refl _) (rfl) hM hS (lv_sub hl [1, 2, 3, 0] rfl)

set_option maxHeartbeats 4000000 in
set_option maxRecDepth 100000 in
theorem c_T_delete (l : Launch) {G : mg_} {M : mw_} {o sA pA q : Nat} {L : rl_} {f : Nat → Int64} {g0 : Nat → Int32} (h_o : M o = some (ob_ 3 [.ref sA, .ref pA, .int (nI L.length)])) (h_sA : M sA = some (la_ G 10 f)) (h_pA : M pA = some (ia_ G 10 g0))  (hro : ro_ f g0 L) (hn : L.length ≤ 10) (hq : q < L.length) : ct_ l my_T_delete cd_T_delete 3 none { frames := 0, cells := 0, slots := 0, locals := 0 } G [.ref o, .int (nI q)] M (fun v0 M' => v0 = none ∧ ∃ (f1 : Nat → Int64) (g1 : Nat → Int32), ro_ f1 g1 (L.eraseIdx q) ∧ M' = mu_ (mu_ (mu_ M sA (la_ G 10 f1)) pA (ia_ G 10 g1)) o (ob_ 3 [.ref sA, .ref pA, .int (nI (L.length - 1))])) 0 0 := by
  refine ct_.intro2 (by decide) (Nat.le_of_ble_eq_true rfl) ?_
  intro p e s m args below meth c ls R Q hR hQ C0 hl hM hS
  have hx := C0.1
  have hb := C0.2.1
  have hl : lv_has ls 3 [(0, .ref o), (1, .int (nI q))] := hl
  refine lv_iload_n hx hb dd_T_delete_0 rfl (lv_at hl 1 rfl) ?_
  refine lv_iconst (v := nI 1) hx hb dd_T_delete_1 (by decide) ?_
  refine lv_iadd hx hb dd_T_delete_2 ?_
  refine mr_vi (nI_add q 1) ?_
  refine lv_istore_n (lv' := [(2, .int (nI (q + 1))), (0, .ref o), (1, .int (nI q))]) hx hb dd_T_delete_3 rfl hl (by decide) rfl (fun ls hl => ?_)
  have loop_4 : ∀ (k : Nat) (i : Nat) (H : Heap) (locs : List Loc) (ls : Array Slot), i + k = L.length → q < i → mm_ G (mu_ (mu_ M sA (la_ G 10 (de_ f q i))) pA (ia_ G 10 (de_ g0 q i))) H → va_S (fz_ G) s.heap H locs → lv_has ls 3 [(0, .ref o), (1, .int (nI q)), (2, .int (nI i))] → W p l e R s m args below meth c H locs 0 0 Q (F0 m 4 ls []) := by
    intro k
    induction k with
    | zero =>
      intro i H locs ls hi hqi hM hS hl
      refine lv_iload_n hx hb dd_T_delete_4 rfl (lv_at hl 2 rfl) ?_
      refine lv_aload_n hx hb dd_T_delete_5 rfl (lv_at hl 0 rfl) ?_
      refine mr_get C0 hM fk_T_19 (mu_n' (ne_k h_o h_pA (fun q => by cases q)) (mu_n' (ne_k h_o h_sA (fun q => by cases q)) h_o)) (v := .int (nI L.length)) rfl dd_T_delete_6 ?_
      refine lv_icmp_ge (tgt := 46) hx hb dd_T_delete_9 rfl (fun _ => ?_) (fun hc => absurd (le_nI (a := L.length) (b := i) (by omega) (by omega) (by omega)) hc)
      refine lv_aload_n hx hb dd_T_delete_46 rfl (lv_at hl 0 rfl) ?_
      refine lv_dup hx hb dd_T_delete_47 rfl ?_
      refine mr_get C0 hM fk_T_19 (mu_n' (ne_k h_o h_pA (fun q => by cases q)) (mu_n' (ne_k h_o h_sA (fun q => by cases q)) h_o)) (v := .int (nI L.length)) rfl dd_T_delete_48 ?_
      refine lv_iconst (v := nI 1) hx hb dd_T_delete_51 (by decide) ?_
      refine lv_isub hx hb dd_T_delete_52 ?_
      refine mr_vi (pk_sub (a := L.length) (b := 1) (by omega)) ?_
      refine mr_put C0 hM hS fk_T_19 fp_T_19 (mu_n' (ne_k h_o h_pA (fun q => by cases q)) (mu_n' (ne_k h_o h_sA (fun q => by cases q)) h_o)) rfl (rfl) (rfl) (Nat.le_of_ble_eq_true rfl) dd_T_delete_53 (fun H locs hM hS => ?_)
      have hM : mm_ G (mu_ (mu_ (mu_ M sA (la_ G 10 (de_ f q i))) pA (ia_ G 10 (de_ g0 q i))) o (ob_ 3 [.ref sA, .ref pA, .int (nI (L.length - 1))])) H := hM
      rw [show i = L.length by omega] at hM
      exact mr_ret hQ (mr_vret C0 hM hS (⟨rfl, _, _, ro_del hro hq, rfl⟩) dd_T_delete_56)
    | succ k ih =>
      intro i H locs ls hi hqi hM hS hl
      refine lv_iload_n hx hb dd_T_delete_4 rfl (lv_at hl 2 rfl) ?_
      refine lv_aload_n hx hb dd_T_delete_5 rfl (lv_at hl 0 rfl) ?_
      refine mr_get C0 hM fk_T_19 (mu_n' (ne_k h_o h_pA (fun q => by cases q)) (mu_n' (ne_k h_o h_sA (fun q => by cases q)) h_o)) (v := .int (nI L.length)) rfl dd_T_delete_6 ?_
      refine lv_icmp_ge (tgt := 46) hx hb dd_T_delete_9 rfl (fun hc => absurd hc (nle_nI (a := L.length) (b := i) (by omega) (by omega) (by omega))) (fun _ => ?_)
      refine lv_aload_n hx hb dd_T_delete_12 rfl (lv_at hl 0 rfl) ?_
      refine mr_get C0 hM fk_T_11 (mu_n' (ne_k h_o h_pA (fun q => by cases q)) (mu_n' (ne_k h_o h_sA (fun q => by cases q)) h_o)) (v := .ref sA) rfl dd_T_delete_13 ?_
      refine lv_iload_n hx hb dd_T_delete_16 rfl (lv_at hl 2 rfl) ?_
      refine lv_iconst (v := nI 1) hx hb dd_T_delete_17 (by decide) ?_
      refine lv_isub hx hb dd_T_delete_18 ?_
      refine mr_vi (pk_sub (a := i) (b := 1) (by omega)) ?_
      refine lv_aload_n hx hb dd_T_delete_19 rfl (lv_at hl 0 rfl) ?_
      refine mr_get C0 hM fk_T_11 (mu_n' (ne_k h_o h_pA (fun q => by cases q)) (mu_n' (ne_k h_o h_sA (fun q => by cases q)) h_o)) (v := .ref sA) rfl dd_T_delete_20 ?_
      refine lv_iload_n hx hb dd_T_delete_23 rfl (lv_at hl 2 rfl) ?_
      refine mr_lald C0 hM (mu_n' (Ne.symm (ne_il h_pA h_sA)) mu_s) (i) (rfl) (by omega) (by decide) dd_T_delete_24 ?_
      refine mr_last C0 hM hS (mu_n' (Ne.symm (ne_il h_pA h_sA)) mu_s) ((i - 1)) (rfl) (by omega) (by decide) dd_T_delete_25 (fun H locs hM hS => ?_)
      have hM := mr_M (mu_c2 (Ne.symm (ne_il h_pA h_sA))) hM
      have hM := mr_M (congrArg (fun z__ => mu_ (mu_ M sA (la_ G 10 z__)) pA (ia_ G 10 (de_ g0 q i))) (show (vp_updL (de_ f q i) (i - 1) ((de_ f q i) i) : Nat → Int64) = (de_ f q (i + 1)) from de_sL hqi)) hM
      have hM : mm_ G (mu_ (mu_ M sA (la_ G 10 (de_ f q (i + 1)))) pA (ia_ G 10 (de_ g0 q i))) H := hM
      refine lv_aload_n hx hb dd_T_delete_26 rfl (lv_at hl 0 rfl) ?_
      refine mr_get C0 hM fk_T_15 (mu_n' (ne_k h_o h_pA (fun q => by cases q)) (mu_n' (ne_k h_o h_sA (fun q => by cases q)) h_o)) (v := .ref pA) rfl dd_T_delete_27 ?_
      refine lv_iload_n hx hb dd_T_delete_30 rfl (lv_at hl 2 rfl) ?_
      refine lv_iconst (v := nI 1) hx hb dd_T_delete_31 (by decide) ?_
      refine lv_isub hx hb dd_T_delete_32 ?_
      refine mr_vi (pk_sub (a := i) (b := 1) (by omega)) ?_
      refine lv_aload_n hx hb dd_T_delete_33 rfl (lv_at hl 0 rfl) ?_
      refine mr_get C0 hM fk_T_15 (mu_n' (ne_k h_o h_pA (fun q => by cases q)) (mu_n' (ne_k h_o h_sA (fun q => by cases q)) h_o)) (v := .ref pA) rfl dd_T_delete_34 ?_
      refine lv_iload_n hx hb dd_T_delete_37 rfl (lv_at hl 2 rfl) ?_
      refine mr_iald C0 hM mu_s (i) (rfl) (by omega) (by decide) dd_T_delete_38 ?_
      refine mr_iast C0 hM hS mu_s ((i - 1)) (rfl) (by omega) (by decide) dd_T_delete_39 (fun H locs hM hS => ?_)
      have hM := mr_M mu_mu hM
      have hM := mr_M (congrArg (fun z__ => mu_ (mu_ M sA (la_ G 10 (de_ f q (i + 1)))) pA (ia_ G 10 z__)) (show (upd (de_ g0 q i) (i - 1) ((de_ g0 q i) i) : Nat → Int32) = (de_ g0 q (i + 1)) from de_sI hqi)) hM
      have hM : mm_ G (mu_ (mu_ M sA (la_ G 10 (de_ f q (i + 1)))) pA (ia_ G 10 (de_ g0 q (i + 1)))) H := hM
      refine lv_iinc (k := 2) (v := nI (i + 1)) (lv' := [(2, .int (nI (i + 1))), (0, .ref o), (1, .int (nI q))]) hx hb dd_T_delete_40 hl rfl (inc_ i) (by decide) rfl (fun ls hl => ?_)
      refine lv_goto (tgt := 4) hx hb dd_T_delete_43 rfl ?_
      exact ih _ _ _ _ (by omega) (by omega) hM hS (lv_sub hl [1, 2, 0] rfl)
  have hM := mr_M (mu_id h_sA).symm hM
  have hM := mr_M (mu_id (mu_n' (ne_il h_pA h_sA) h_pA)).symm hM
  have hM := mr_M (congrArg (fun z => mu_ (mu_ M sA (la_ G 10 z)) pA (ia_ G 10 g0)) (de_0 f q)) hM
  have hM := mr_M (congrArg (fun z => mu_ (mu_ M sA (la_ G 10 (de_ f q (q + 1)))) pA (ia_ G 10 z)) (de_0 g0 q)) hM
  exact loop_4 (L.length - (q + 1)) (q + 1) _ _ _ (by omega) (by omega) hM hS (lv_sub hl [1, 2, 0] rfl)

set_option maxHeartbeats 4000000 in
set_option maxRecDepth 100000 in
theorem c_T_become (l : Launch) {G : mg_} {M : mw_} {o sA pA q qs qp n n1 : Nat} {f f1 : Nat → Int64} {g0 g1 : Nat → Int32} (h_o : M o = some (ob_ 3 [.ref sA, .ref pA, .int (nI n)])) (h_sA : M sA = some (la_ G 10 f)) (h_pA : M pA = some (ia_ G 10 g0)) (h_q : M q = some (ob_ 3 [.ref qs, .ref qp, .int (nI n1)])) (h_qs : M qs = some (la_ G 10 f1)) (h_qp : M qp = some (ia_ G 10 g1)) (ne_o_q : o ≠ q)  : dt_ l my_T_become cd_T_become 2 none { frames := 1, cells := 0, slots := 0, locals := 35 } G [.ref o, .ref q] M none (mu_ (mu_ (mu_ M sA (la_ G 10 f1)) pA (ia_ G 10 g1)) o (ob_ 3 [.ref sA, .ref pA, .int (nI n1)])) 0 0 := by
  refine ct_.intro2 (by decide) (Nat.le_of_ble_eq_true rfl) ?_
  intro p e s m args below meth c ls R Q hR hQ C0 hl hM hS
  have hx := C0.1
  have hb := C0.2.1
  have hl : lv_has ls 2 [(0, .ref o), (1, .ref q)] := hl
  refine lv_aload_n hx hb dd_T_become_0 rfl (lv_at hl 1 rfl) ?_
  refine mr_get C0 hM fk_T_11 h_q (v := .ref qs) rfl dd_T_become_1 ?_
  refine lv_iconst (v := nI 0) hx hb dd_T_become_4 (by decide) ?_
  refine lv_aload_n hx hb dd_T_become_5 rfl (lv_at hl 0 rfl) ?_
  refine mr_get C0 hM fk_T_11 h_o (v := .ref sA) rfl dd_T_become_6 ?_
  refine lv_iconst (v := nI 0) hx hb dd_T_become_9 (by decide) ?_
  refine lv_bipush (v := nI 10) hx hb dd_T_become_10 (by decide) ?_
  refine mr_copyl C0 hl.1 tw_323 hM hS h_qs h_sA (0) (0) (10) rfl rfl rfl (by decide) (by decide) (by decide) (by decide) (by subst hR; decide) (by subst hR; decide) dd_T_become_12 (fun H locs hM hS => ?_)
  have hM := mr_lext (g := f1) (fun j hj => by rw [pk_cpy_in (by omega) (by omega), Nat.zero_add, Nat.sub_zero]) hM
  have hM : mm_ G (mu_ M sA (la_ G 10 f1)) H := hM
  refine lv_aload_n hx hb dd_T_become_15 rfl (lv_at hl 1 rfl) ?_
  refine mr_get C0 hM fk_T_15 (mu_n' (ne_k h_q h_sA (fun q => by cases q)) h_q) (v := .ref qp) rfl dd_T_become_16 ?_
  refine lv_iconst (v := nI 0) hx hb dd_T_become_19 (by decide) ?_
  refine lv_aload_n hx hb dd_T_become_20 rfl (lv_at hl 0 rfl) ?_
  refine mr_get C0 hM fk_T_15 (mu_n' (ne_k h_o h_sA (fun q => by cases q)) h_o) (v := .ref pA) rfl dd_T_become_21 ?_
  refine lv_iconst (v := nI 0) hx hb dd_T_become_24 (by decide) ?_
  refine lv_bipush (v := nI 10) hx hb dd_T_become_25 (by decide) ?_
  refine mr_copyi C0 hl.1 tw_323 hM hS (mu_n' (ne_il h_qp h_sA) h_qp) (mu_n' (ne_il h_pA h_sA) h_pA) (0) (0) (10) rfl rfl rfl (by decide) (by decide) (by decide) (by decide) (by subst hR; decide) (by subst hR; decide) dd_T_become_27 (fun H locs hM hS => ?_)
  have hM := mr_iext (g := g1) (fun j hj => by rw [pk_cpy_in (by omega) (by omega), Nat.zero_add, Nat.sub_zero]) hM
  have hM : mm_ G (mu_ (mu_ M sA (la_ G 10 f1)) pA (ia_ G 10 g1)) H := hM
  refine lv_aload_n hx hb dd_T_become_30 rfl (lv_at hl 0 rfl) ?_
  refine lv_aload_n hx hb dd_T_become_31 rfl (lv_at hl 1 rfl) ?_
  refine mr_get C0 hM fk_T_19 (mu_n' (ne_k h_q h_pA (fun q => by cases q)) (mu_n' (ne_k h_q h_sA (fun q => by cases q)) h_q)) (v := .int (nI n1)) rfl dd_T_become_32 ?_
  refine mr_put C0 hM hS fk_T_19 fp_T_19 (mu_n' (ne_k h_o h_pA (fun q => by cases q)) (mu_n' (ne_k h_o h_sA (fun q => by cases q)) h_o)) rfl (rfl) (rfl) (Nat.le_of_ble_eq_true rfl) dd_T_become_35 (fun H locs hM hS => ?_)
  have hM : mm_ G (mu_ (mu_ (mu_ M sA (la_ G 10 f1)) pA (ia_ G 10 g1)) o (ob_ 3 [.ref sA, .ref pA, .int (nI n1)])) H := hM
  exact mr_ret hQ (mr_vret C0 hM hS (⟨rfl, rfl⟩) dd_T_become_38)

set_option maxHeartbeats 4000000 in
set_option maxRecDepth 100000 in
theorem c_T_countOutside (l : Launch) {G : mg_} {M : mw_} {o sA pA q qs qp : Nat} {L O : rl_} {f f1 : Nat → Int64} (h_o : M o = some (ob_ 3 [.ref sA, .ref pA, .int (nI L.length)])) (h_sA : M sA = some (la_ G 10 f)) (h_q : M q = some (ob_ 3 [.ref qs, .ref qp, .int (nI O.length)])) (h_qs : M qs = some (la_ G 10 f1))  (hf : ∀ j, j < L.length → f j = sr_ L j) (hn : L.length ≤ 10) (hf1 : ∀ j, j < O.length → f1 j = sr_ O j) (hn1 : O.length ≤ 10) : dt_ l my_T_countOutside cd_T_countOutside 4 (some .int) { frames := 2, cells := 0, slots := 0, locals := 45 } G [.ref o, .ref q] M (some (.int (nI (cf_ L O)))) (M) 0 0 := by
  refine ct_.intro2 (by decide) (Nat.le_of_ble_eq_true rfl) ?_
  intro p e s m args below meth c ls R Q hR hQ C0 hl hM hS
  have hx := C0.1
  have hb := C0.2.1
  have hl : lv_has ls 4 [(0, .ref o), (1, .ref q)] := hl
  refine lv_iconst (v := nI 0) hx hb dd_T_countOutside_0 (by decide) ?_
  refine lv_istore_n (lv' := [(2, .int (nI 0)), (0, .ref o), (1, .ref q)]) hx hb dd_T_countOutside_1 rfl hl (by decide) rfl (fun ls hl => ?_)
  refine lv_iconst (v := nI 0) hx hb dd_T_countOutside_2 (by decide) ?_
  refine lv_istore_n (lv' := [(3, .int (nI 0)), (2, .int (nI 0)), (0, .ref o), (1, .ref q)]) hx hb dd_T_countOutside_3 rfl hl (by decide) rfl (fun ls hl => ?_)
  have loop_4 : ∀ (k : Nat) (i : Nat) (H : Heap) (locs : List Loc) (ls : Array Slot), i + k = L.length → mm_ G (M) H → va_S (fz_ G) s.heap H locs → lv_has ls 4 [(0, .ref o), (1, .ref q), (2, .int (nI (cf_ (L.take i) O))), (3, .int (nI i))] → W p l e R s m args below meth c H locs 0 0 Q (F0 m 4 ls []) := by
    intro k
    induction k with
    | zero =>
      intro i H locs ls hi hM hS hl
      refine lv_iload_n hx hb dd_T_countOutside_4 rfl (lv_at hl 3 rfl) ?_
      refine lv_aload_n hx hb dd_T_countOutside_5 rfl (lv_at hl 0 rfl) ?_
      refine mr_get C0 hM fk_T_19 h_o (v := .int (nI L.length)) rfl dd_T_countOutside_6 ?_
      refine lv_icmp_ge (tgt := 34) hx hb dd_T_countOutside_9 rfl (fun _ => ?_) (fun hc => absurd (le_nI (a := L.length) (b := i) (by omega) (by omega) (by omega)) hc)
      refine lv_iload_n hx hb dd_T_countOutside_34 rfl (lv_at hl 2 rfl) ?_
      exact mr_ret hQ (mr_iret C0 hM hS (rfl) (⟨by rw [take_all (show L.length ≤ i by omega)], rfl⟩) dd_T_countOutside_35)
    | succ k ih =>
      intro i H locs ls hi hM hS hl
      have hil : i < L.length := by omega
      have hle := cf_le (L := L) (O := O) i
      refine lv_iload_n hx hb dd_T_countOutside_4 rfl (lv_at hl 3 rfl) ?_
      refine lv_aload_n hx hb dd_T_countOutside_5 rfl (lv_at hl 0 rfl) ?_
      refine mr_get C0 hM fk_T_19 h_o (v := .int (nI L.length)) rfl dd_T_countOutside_6 ?_
      refine lv_icmp_ge (tgt := 34) hx hb dd_T_countOutside_9 rfl (fun hc => absurd hc (nle_nI (a := L.length) (b := i) (by omega) (by omega) (by omega))) (fun _ => ?_)
      refine lv_aload_n hx hb dd_T_countOutside_12 rfl (lv_at hl 1 rfl) ?_
      refine lv_aload_n hx hb dd_T_countOutside_13 rfl (lv_at hl 0 rfl) ?_
      refine mr_get C0 hM fk_T_11 h_o (v := .ref sA) rfl dd_T_countOutside_14 ?_
      refine lv_iload_n hx hb dd_T_countOutside_17 rfl (lv_at hl 3 rfl) ?_
      refine mr_lald C0 hM h_sA (i) (rfl) (by omega) (by decide) dd_T_countOutside_18 ?_
      refine mr_vl (x' := sr_ L i) (hf i hil) ?_
      refine mr_callV (As := [.long (sr_ L i)]) (rest := []) C0 hM hS vk_T_33 h_q rfl (c_T_has l h_q h_qs  hf1 hn1) rfl rfl hl.1 (by decide) rfl rfl (by subst hR; exact ⟨Nat.le_of_ble_eq_true rfl, Nat.le_of_ble_eq_true rfl⟩) (by subst hR; exact ⟨Nat.le_of_ble_eq_true rfl, Nat.le_of_ble_eq_true rfl⟩) dd_T_countOutside_19 (fun v1 M1 H locs hp hM hS => ?_)
      obtain ⟨ev1, eM1⟩ := hp
      subst ev1
      rw [eM1] at hM
      refine W.eq (g2 := F0 m 22 ls [.int (nI (if hs_ O (sr_ L i) then 1 else 0))]) rfl ?_
      refine lv_if_ne (tgt := 28) hx hb dd_T_countOutside_22 rfl (fun h22 => ?_) (fun h22 => ?_)
      · skip
        have hv : hs_ O (sr_ L i) = true := by
          cases h : hs_ O (sr_ L i) with
          | true => rfl
          | false => exact absurd (by rw [h]; rfl) h22
        have hnx : cf_ (L.take (i + 1)) O = cf_ (L.take i) O := cf_t hil hv
        refine lv_iinc (k := 3) (v := nI (i + 1)) (lv' := [(3, .int (nI (i + 1))), (0, .ref o), (1, .ref q), (2, .int (nI (cf_ (L.take i) O)))]) hx hb dd_T_countOutside_28 hl rfl (inc_ i) (by decide) rfl (fun ls hl => ?_)
        refine lv_goto (tgt := 4) hx hb dd_T_countOutside_31 rfl ?_
        exact ih (i + 1) _ _ _ (by omega) hM hS (by rw [hnx]; exact lv_sub hl [1, 2, 3, 0] rfl)
      · skip
        have hv : hs_ O (sr_ L i) = false := by
          cases h : hs_ O (sr_ L i) with
          | false => rfl
          | true => rw [h] at h22; exact absurd h22 (by decide)
        have hnx : cf_ (L.take (i + 1)) O = cf_ (L.take i) O + 1 := cf_f hil hv
        refine lv_iinc (k := 2) (v := nI ((cf_ (L.take i) O) + 1)) (lv' := [(2, .int (nI ((cf_ (L.take i) O) + 1))), (0, .ref o), (1, .ref q), (3, .int (nI i))]) hx hb dd_T_countOutside_25 hl rfl (inc_ (cf_ (L.take i) O)) (by decide) rfl (fun ls hl => ?_)
        refine lv_iinc (k := 3) (v := nI (i + 1)) (lv' := [(3, .int (nI (i + 1))), (2, .int (nI ((cf_ (L.take i) O) + 1))), (0, .ref o), (1, .ref q)]) hx hb dd_T_countOutside_28 hl rfl (inc_ i) (by decide) rfl (fun ls hl => ?_)
        refine lv_goto (tgt := 4) hx hb dd_T_countOutside_31 rfl ?_
        exact ih (i + 1) _ _ _ (by omega) hM hS (by rw [hnx]; exact lv_sub hl [2, 3, 1, 0] rfl)
  exact loop_4 L.length 0 _ _ _ (Nat.zero_add _) hM hS (lv_sub hl [2, 3, 1, 0] rfl)

set_option maxHeartbeats 4000000 in
set_option maxRecDepth 100000 in
theorem c_T_primeOutside (l : Launch) {G : mg_} {M : mw_} {o sA pA q qs qp : Nat} {L O : rl_} {f f1 : Nat → Int64} {g0 : Nat → Int32} {w : Int32} (h_o : M o = some (ob_ 3 [.ref sA, .ref pA, .int (nI L.length)])) (h_sA : M sA = some (la_ G 10 f)) (h_q : M q = some (ob_ 3 [.ref qs, .ref qp, .int (nI O.length)])) (h_qs : M qs = some (la_ G 10 f1)) (h_pA : M pA = some (ia_ G 10 g0))  (hro : ro_ f g0 L) (hn : L.length ≤ 10) (hf1 : ∀ j, j < O.length → f1 j = sr_ O j) (hn1 : O.length ≤ 10) : dt_ l my_T_primeOutside cd_T_primeOutside 5 (some .int) { frames := 2, cells := 0, slots := 0, locals := 45 } G [.ref o, .ref q, .int w] M (some (.int (po_ L O w))) (M) 0 0 := by
  refine ct_.intro2 (by decide) (Nat.le_of_ble_eq_true rfl) ?_
  intro p e s m args below meth c ls R Q hR hQ C0 hl hM hS
  have hx := C0.1
  have hb := C0.2.1
  have hl : lv_has ls 5 [(0, .ref o), (1, .ref q), (2, .int w)] := hl
  refine lv_iconst (v := nI 0) hx hb dd_T_primeOutside_0 (by decide) ?_
  refine lv_istore_n (lv' := [(3, .int (nI 0)), (0, .ref o), (1, .ref q), (2, .int w)]) hx hb dd_T_primeOutside_1 rfl hl (by decide) rfl (fun ls hl => ?_)
  refine lv_iconst (v := nI 0) hx hb dd_T_primeOutside_2 (by decide) ?_
  refine lv_istore (lv' := [(4, .int (nI 0)), (3, .int (nI 0)), (0, .ref o), (1, .ref q), (2, .int w)]) hx hb dd_T_primeOutside_3 hl (by decide) rfl (fun ls hl => ?_)
  have loop_5 : ∀ (k : Nat) (i : Nat) (H : Heap) (locs : List Loc) (ls : Array Slot), i + k = L.length → (∀ j, j < cf_ (L.take i) O → nI j ≠ w) → mm_ G (M) H → va_S (fz_ G) s.heap H locs → lv_has ls 5 [(0, .ref o), (1, .ref q), (2, .int w), (3, .int (nI (cf_ (L.take i) O))), (4, .int (nI i))] → W p l e R s m args below meth c H locs 0 0 Q (F0 m 5 ls []) := by
    intro k
    induction k with
    | zero =>
      intro i H locs ls hi hw hM hS hl
      refine lv_iload hx hb dd_T_primeOutside_5 (lv_at hl 4 rfl) ?_
      refine lv_aload_n hx hb dd_T_primeOutside_7 rfl (lv_at hl 0 rfl) ?_
      refine mr_get C0 hM fk_T_19 h_o (v := .int (nI L.length)) rfl dd_T_primeOutside_8 ?_
      refine lv_icmp_ge (tgt := 50) hx hb dd_T_primeOutside_11 rfl (fun _ => ?_) (fun hc => absurd (le_nI (a := L.length) (b := i) (by omega) (by omega) (by omega)) hc)
      refine lv_bipush (v := (-2 : Int32)) hx hb dd_T_primeOutside_50 (by decide) ?_
      exact mr_ret hQ (mr_iret C0 hM hS (rfl) (⟨by rw [take_all (show L.length ≤ i by omega)] at hw; rw [po_n hw], rfl⟩) dd_T_primeOutside_52)
    | succ k ih =>
      intro i H locs ls hi hw hM hS hl
      have hil : i < L.length := by omega
      have hle := cf_le (L := L) (O := O) i
      refine lv_iload hx hb dd_T_primeOutside_5 (lv_at hl 4 rfl) ?_
      refine lv_aload_n hx hb dd_T_primeOutside_7 rfl (lv_at hl 0 rfl) ?_
      refine mr_get C0 hM fk_T_19 h_o (v := .int (nI L.length)) rfl dd_T_primeOutside_8 ?_
      refine lv_icmp_ge (tgt := 50) hx hb dd_T_primeOutside_11 rfl (fun hc => absurd hc (nle_nI (a := L.length) (b := i) (by omega) (by omega) (by omega))) (fun _ => ?_)
      refine lv_aload_n hx hb dd_T_primeOutside_14 rfl (lv_at hl 1 rfl) ?_
      refine lv_aload_n hx hb dd_T_primeOutside_15 rfl (lv_at hl 0 rfl) ?_
      refine mr_get C0 hM fk_T_11 h_o (v := .ref sA) rfl dd_T_primeOutside_16 ?_
      refine lv_iload hx hb dd_T_primeOutside_19 (lv_at hl 4 rfl) ?_
      refine mr_lald C0 hM h_sA (i) (rfl) (by omega) (by decide) dd_T_primeOutside_21 ?_
      refine mr_vl (x' := sr_ L i) ((hro i hil).1) ?_
      refine mr_callV (As := [.long (sr_ L i)]) (rest := []) C0 hM hS vk_T_33 h_q rfl (c_T_has l h_q h_qs  hf1 hn1) rfl rfl hl.1 (by decide) rfl rfl (by subst hR; exact ⟨Nat.le_of_ble_eq_true rfl, Nat.le_of_ble_eq_true rfl⟩) (by subst hR; exact ⟨Nat.le_of_ble_eq_true rfl, Nat.le_of_ble_eq_true rfl⟩) dd_T_primeOutside_22 (fun v1 M1 H locs hp hM hS => ?_)
      obtain ⟨ev1, eM1⟩ := hp
      subst ev1
      rw [eM1] at hM
      refine W.eq (g2 := F0 m 25 ls [.int (nI (if hs_ O (sr_ L i) then 1 else 0))]) rfl ?_
      refine lv_if_ne (tgt := 44) hx hb dd_T_primeOutside_25 rfl (fun h25 => ?_) (fun h25 => ?_)
      · skip
        have hv : hs_ O (sr_ L i) = true := by
          cases h : hs_ O (sr_ L i) with
          | true => rfl
          | false => exact absurd (by rw [h]; rfl) h25
        have hnx : cf_ (L.take (i + 1)) O = cf_ (L.take i) O := cf_t hil hv
        have hw2 : ∀ j, j < cf_ (L.take (i + 1)) O → nI j ≠ w := by rw [hnx]; exact hw
        refine lv_iinc (k := 4) (v := nI (i + 1)) (lv' := [(4, .int (nI (i + 1))), (0, .ref o), (1, .ref q), (2, .int w), (3, .int (nI (cf_ (L.take i) O)))]) hx hb dd_T_primeOutside_44 hl rfl (inc_ i) (by decide) rfl (fun ls hl => ?_)
        refine lv_goto (tgt := 5) hx hb dd_T_primeOutside_47 rfl ?_
        exact ih (i + 1) _ _ _ (by omega) (hw2) hM hS (by rw [hnx]; exact lv_sub hl [1, 2, 3, 4, 0] rfl)
      · skip
        have hv : hs_ O (sr_ L i) = false := by
          cases h : hs_ O (sr_ L i) with
          | false => rfl
          | true => rw [h] at h25; exact absurd h25 (by decide)
        have hnx : cf_ (L.take (i + 1)) O = cf_ (L.take i) O + 1 := cf_f hil hv
        refine lv_iload_n hx hb dd_T_primeOutside_28 rfl (lv_at hl 3 rfl) ?_
        refine lv_iload_n hx hb dd_T_primeOutside_29 rfl (lv_at hl 2 rfl) ?_
        refine lv_icmp_ne (tgt := 41) hx hb dd_T_primeOutside_30 rfl (fun h30 => ?_) (fun h30 => ?_)
        · skip
          have hw2 : ∀ j, j < cf_ (L.take (i + 1)) O → nI j ≠ w := fun j hj => by
            rw [hnx] at hj
            rcases (show j < cf_ (L.take i) O ∨ j = cf_ (L.take i) O by omega) with h | h
            · exact hw j h
            · rw [h]; exact h30
          refine lv_iinc (k := 3) (v := nI ((cf_ (L.take i) O) + 1)) (lv' := [(3, .int (nI ((cf_ (L.take i) O) + 1))), (0, .ref o), (1, .ref q), (2, .int w), (4, .int (nI i))]) hx hb dd_T_primeOutside_41 hl rfl (inc_ (cf_ (L.take i) O)) (by decide) rfl (fun ls hl => ?_)
          refine lv_iinc (k := 4) (v := nI (i + 1)) (lv' := [(4, .int (nI (i + 1))), (3, .int (nI ((cf_ (L.take i) O) + 1))), (0, .ref o), (1, .ref q), (2, .int w)]) hx hb dd_T_primeOutside_44 hl rfl (inc_ i) (by decide) rfl (fun ls hl => ?_)
          refine lv_goto (tgt := 5) hx hb dd_T_primeOutside_47 rfl ?_
          exact ih (i + 1) _ _ _ (by omega) (hw2) hM hS (by rw [hnx]; exact lv_sub hl [2, 3, 4, 1, 0] rfl)
        · skip
          refine lv_aload_n hx hb dd_T_primeOutside_33 rfl (lv_at hl 0 rfl) ?_
          refine mr_get C0 hM fk_T_15 h_o (v := .ref pA) rfl dd_T_primeOutside_34 ?_
          refine lv_iload hx hb dd_T_primeOutside_37 (lv_at hl 4 rfl) ?_
          refine mr_iald C0 hM h_pA (i) (rfl) (by omega) (by decide) dd_T_primeOutside_39 ?_
          refine mr_vi (x' := nI (pr_ L i)) ((hro i hil).2) ?_
          exact mr_ret hQ (mr_iret C0 hM hS (rfl) (⟨by rw [po_y hn (fo_pick hil hv).1 h30, (fo_pick hil hv).2], rfl⟩) dd_T_primeOutside_40)
  exact loop_5 L.length 0 _ _ _ (Nat.zero_add _) (fun j h => absurd h (by simp [cf_, fo_])) hM hS (lv_sub hl [2, 3, 4, 1, 0] rfl)

set_option maxHeartbeats 4000000 in
set_option maxRecDepth 100000 in
theorem c_T_multiplyInto (l : Launch) {G : mg_} {M : mw_} {o sA pA e0 eA V : Nat} {L : rl_} {g0 : Nat → Int32} (h_o : M o = some (ob_ 3 [.ref sA, .ref pA, .int (nI L.length)])) (h_pA : M pA = some (ia_ G 10 g0)) (h_e : M e0 = some (ob_ 1 [.ref eA])) (h_eA : M eA = some (la_ G 11 (nl_ V)))  (hg : ∀ j, j < L.length → g0 j = nI (pr_ L j)) (hn : L.length ≤ 10) (hp : ∀ x ∈ L, x.2 < 2147483648) : dt_ l my_T_multiplyInto cd_T_multiplyInto 3 none { frames := 1, cells := 0, slots := 0, locals := 26 } G [.ref o, .ref e0] M none (mu_ M eA (la_ G 11 (nl_ (V * pd_ L)))) 0 0 := by
  refine ct_.intro2 (by decide) (Nat.le_of_ble_eq_true rfl) ?_
  intro p e s m args below meth c ls R Q hR hQ C0 hl hM hS
  have hx := C0.1
  have hb := C0.2.1
  have hl : lv_has ls 3 [(0, .ref o), (1, .ref e0)] := hl
  refine lv_iconst (v := nI 0) hx hb dd_T_multiplyInto_0 (by decide) ?_
  refine lv_istore_n (lv' := [(2, .int (nI 0)), (0, .ref o), (1, .ref e0)]) hx hb dd_T_multiplyInto_1 rfl hl (by decide) rfl (fun ls hl => ?_)
  have loop_2 : ∀ (k : Nat) (i : Nat) (H : Heap) (locs : List Loc) (ls : Array Slot), i + k = L.length → mm_ G (mu_ M eA (la_ G 11 (nl_ (V * pd_ (L.take i))))) H → va_S (fz_ G) s.heap H locs → lv_has ls 3 [(0, .ref o), (1, .ref e0), (2, .int (nI i))] → W p l e R s m args below meth c H locs 0 0 Q (F0 m 2 ls []) := by
    intro k
    induction k with
    | zero =>
      intro i H locs ls hi hM hS hl
      refine lv_iload_n hx hb dd_T_multiplyInto_2 rfl (lv_at hl 2 rfl) ?_
      refine lv_aload_n hx hb dd_T_multiplyInto_3 rfl (lv_at hl 0 rfl) ?_
      refine mr_get C0 hM fk_T_19 (mu_n' (ne_k h_o h_eA (fun q => by cases q)) h_o) (v := .int (nI L.length)) rfl dd_T_multiplyInto_4 ?_
      refine lv_icmp_ge (tgt := 26) hx hb dd_T_multiplyInto_7 rfl (fun _ => ?_) (fun hc => absurd (le_nI (a := L.length) (b := i) (by omega) (by omega) (by omega)) hc)
      rw [take_all (show L.length ≤ i by omega)] at hM
      exact mr_ret hQ (mr_vret C0 hM hS (⟨rfl, rfl⟩) dd_T_multiplyInto_26)
    | succ k ih =>
      intro i H locs ls hi hM hS hl
      have hil : i < L.length := by omega
      have hp0 : pr_ L i < 2147483648 := by rw [pr_at hil]; exact hp _ (List.getElem_mem hil)
      refine lv_iload_n hx hb dd_T_multiplyInto_2 rfl (lv_at hl 2 rfl) ?_
      refine lv_aload_n hx hb dd_T_multiplyInto_3 rfl (lv_at hl 0 rfl) ?_
      refine mr_get C0 hM fk_T_19 (mu_n' (ne_k h_o h_eA (fun q => by cases q)) h_o) (v := .int (nI L.length)) rfl dd_T_multiplyInto_4 ?_
      refine lv_icmp_ge (tgt := 26) hx hb dd_T_multiplyInto_7 rfl (fun hc => absurd hc (nle_nI (a := L.length) (b := i) (by omega) (by omega) (by omega))) (fun _ => ?_)
      refine lv_aload_n hx hb dd_T_multiplyInto_10 rfl (lv_at hl 1 rfl) ?_
      refine lv_aload_n hx hb dd_T_multiplyInto_11 rfl (lv_at hl 0 rfl) ?_
      refine mr_get C0 hM fk_T_15 (mu_n' (ne_k h_o h_eA (fun q => by cases q)) h_o) (v := .ref pA) rfl dd_T_multiplyInto_12 ?_
      refine lv_iload_n hx hb dd_T_multiplyInto_15 rfl (lv_at hl 2 rfl) ?_
      refine mr_iald C0 hM (mu_n' (ne_il h_pA h_eA) h_pA) (i) (rfl) (by omega) (by decide) dd_T_multiplyInto_16 ?_
      refine mr_vi (x' := nI (pr_ L i)) (hg i hil) ?_
      refine mr_callV (As := [.int (nI (pr_ L i))]) (rest := []) C0 hM hS vk_T_37 (mu_n' (ne_k h_e h_eA (fun q => by cases q)) h_e) rfl (c_N_multiply l (mu_n' (ne_k h_e h_eA (fun q => by cases q)) h_e) mu_s  hp0) rfl rfl hl.1 (by decide) rfl rfl (by subst hR; exact ⟨Nat.le_of_ble_eq_true rfl, Nat.le_of_ble_eq_true rfl⟩) (by subst hR; exact ⟨Nat.le_of_ble_eq_true rfl, Nat.le_of_ble_eq_true rfl⟩) dd_T_multiplyInto_17 (fun v1 M1 H locs hp hM hS => ?_)
      obtain ⟨ev1, eM1⟩ := hp
      subst ev1
      rw [eM1] at hM
      have hM := mr_M mu_mu hM
      have hM : mm_ G (mu_ M eA (la_ G 11 (nl_ (V * pd_ (L.take i) * pr_ L i)))) H := hM
      refine W.eq (g2 := F0 m 20 ls []) rfl ?_
      refine lv_iinc (k := 2) (v := nI (i + 1)) (lv' := [(2, .int (nI (i + 1))), (0, .ref o), (1, .ref e0)]) hx hb dd_T_multiplyInto_20 hl rfl (inc_ i) (by decide) rfl (fun ls hl => ?_)
      refine lv_goto (tgt := 2) hx hb dd_T_multiplyInto_23 rfl ?_
      rw [Nat.mul_assoc, ← pd_take hil] at hM
      exact ih _ _ _ _ (by omega) hM hS (lv_sub hl [1, 2, 0] rfl)
  have hM := mr_M (mu_id h_eA).symm hM
  rw [show V = V * pd_ (L.take 0) by rw [pd_0, Nat.mul_one]] at hM
  exact loop_2 L.length 0 _ _ _ (Nat.zero_add _) hM hS (lv_sub hl [1, 2, 0] rfl)

set_option maxHeartbeats 4000000 in
set_option maxRecDepth 100000 in
theorem c_T_multiplyOthersInto (l : Launch) {G : mg_} {M : mw_} {o sA pA e0 eA V : Nat} {L : rl_} {f : Nat → Int64} {g0 : Nat → Int32} {sx : Int64} (h_o : M o = some (ob_ 3 [.ref sA, .ref pA, .int (nI L.length)])) (h_sA : M sA = some (la_ G 10 f)) (h_pA : M pA = some (ia_ G 10 g0)) (h_e : M e0 = some (ob_ 1 [.ref eA])) (h_eA : M eA = some (la_ G 11 (nl_ V))) (ne_sA_eA : sA ≠ eA) (hro : ro_ f g0 L) (hn : L.length ≤ 10) (hp : ∀ x ∈ L, x.2 < 2147483648) : dt_ l my_T_multiplyOthersInto cd_T_multiplyOthersInto 5 none { frames := 1, cells := 0, slots := 0, locals := 26 } G [.ref o, .long sx, .ref e0] M none (mu_ M eA (la_ G 11 (nl_ (V * pd_ (fs_ L sx))))) 0 0 := by
  refine ct_.intro2 (by decide) (Nat.le_of_ble_eq_true rfl) ?_
  intro p e s m args below meth c ls R Q hR hQ C0 hl hM hS
  have hx := C0.1
  have hb := C0.2.1
  have hl : lv_has ls 5 [(0, .ref o), (1, .long sx), (3, .ref e0)] := hl
  refine lv_iconst (v := nI 0) hx hb dd_T_multiplyOthersInto_0 (by decide) ?_
  refine lv_istore (lv' := [(4, .int (nI 0)), (0, .ref o), (1, .long sx), (3, .ref e0)]) hx hb dd_T_multiplyOthersInto_1 hl (by decide) rfl (fun ls hl => ?_)
  have loop_3 : ∀ (k : Nat) (i : Nat) (H : Heap) (locs : List Loc) (ls : Array Slot), i + k = L.length → mm_ G (mu_ M eA (la_ G 11 (nl_ (V * pd_ (fs_ (L.take i) sx))))) H → va_S (fz_ G) s.heap H locs → lv_has ls 5 [(0, .ref o), (1, .long sx), (3, .ref e0), (4, .int (nI i))] → W p l e R s m args below meth c H locs 0 0 Q (F0 m 3 ls []) := by
    intro k
    induction k with
    | zero =>
      intro i H locs ls hi hM hS hl
      refine lv_iload hx hb dd_T_multiplyOthersInto_3 (lv_at hl 3 rfl) ?_
      refine lv_aload_n hx hb dd_T_multiplyOthersInto_5 rfl (lv_at hl 0 rfl) ?_
      refine mr_get C0 hM fk_T_19 (mu_n' (ne_k h_o h_eA (fun q => by cases q)) h_o) (v := .int (nI L.length)) rfl dd_T_multiplyOthersInto_6 ?_
      refine lv_icmp_ge (tgt := 41) hx hb dd_T_multiplyOthersInto_9 rfl (fun _ => ?_) (fun hc => absurd (le_nI (a := L.length) (b := i) (by omega) (by omega) (by omega)) hc)
      rw [take_all (show L.length ≤ i by omega)] at hM
      exact mr_ret hQ (mr_vret C0 hM hS (⟨rfl, rfl⟩) dd_T_multiplyOthersInto_41)
    | succ k ih =>
      intro i H locs ls hi hM hS hl
      have hil : i < L.length := by omega
      have hp0 : pr_ L i < 2147483648 := by rw [pr_at hil]; exact hp _ (List.getElem_mem hil)
      refine lv_iload hx hb dd_T_multiplyOthersInto_3 (lv_at hl 3 rfl) ?_
      refine lv_aload_n hx hb dd_T_multiplyOthersInto_5 rfl (lv_at hl 0 rfl) ?_
      refine mr_get C0 hM fk_T_19 (mu_n' (ne_k h_o h_eA (fun q => by cases q)) h_o) (v := .int (nI L.length)) rfl dd_T_multiplyOthersInto_6 ?_
      refine lv_icmp_ge (tgt := 41) hx hb dd_T_multiplyOthersInto_9 rfl (fun hc => absurd hc (nle_nI (a := L.length) (b := i) (by omega) (by omega) (by omega))) (fun _ => ?_)
      refine lv_aload_n hx hb dd_T_multiplyOthersInto_12 rfl (lv_at hl 0 rfl) ?_
      refine mr_get C0 hM fk_T_11 (mu_n' (ne_k h_o h_eA (fun q => by cases q)) h_o) (v := .ref sA) rfl dd_T_multiplyOthersInto_13 ?_
      refine lv_iload hx hb dd_T_multiplyOthersInto_16 (lv_at hl 3 rfl) ?_
      refine mr_lald C0 hM (mu_n' ne_sA_eA h_sA) (i) (rfl) (by omega) (by decide) dd_T_multiplyOthersInto_18 ?_
      refine mr_vl (x' := sr_ L i) ((hro i hil).1) ?_
      refine lv_lload_n hx hb dd_T_multiplyOthersInto_19 rfl (lv_at hl 1 rfl) ?_
      refine mr_lif_eq (tgt := 35) hx hb dd_T_multiplyOthersInto_20 dd_T_multiplyOthersInto_21 rfl (fun h20 => ?_) (fun h20 => ?_)
      · skip
        rw [show fs_ (L.take i) sx = fs_ (L.take (i + 1)) sx by rw [fs_s hil, if_pos h20, List.append_nil]] at hM
        have hM : mm_ G (mu_ M eA (la_ G 11 (nl_ (V * pd_ (fs_ (L.take (i + 1)) sx))))) H := hM
        refine lv_iinc (k := 3) (v := nI (i + 1)) (lv' := [(4, .int (nI (i + 1))), (0, .ref o), (1, .long sx), (3, .ref e0)]) hx hb dd_T_multiplyOthersInto_35 hl rfl (inc_ i) (by decide) rfl (fun ls hl => ?_)
        refine lv_goto (tgt := 3) hx hb dd_T_multiplyOthersInto_38 rfl ?_
        exact ih (i + 1) _ _ _ (by omega) hM hS (lv_sub hl [1, 2, 3, 0] rfl)
      · skip
        refine lv_aload_n hx hb dd_T_multiplyOthersInto_24 rfl (lv_at hl 2 rfl) ?_
        refine lv_aload_n hx hb dd_T_multiplyOthersInto_25 rfl (lv_at hl 0 rfl) ?_
        refine mr_get C0 hM fk_T_15 (mu_n' (ne_k h_o h_eA (fun q => by cases q)) h_o) (v := .ref pA) rfl dd_T_multiplyOthersInto_26 ?_
        refine lv_iload hx hb dd_T_multiplyOthersInto_29 (lv_at hl 3 rfl) ?_
        refine mr_iald C0 hM (mu_n' (ne_il h_pA h_eA) h_pA) (i) (rfl) (by omega) (by decide) dd_T_multiplyOthersInto_31 ?_
        refine mr_vi (x' := nI (pr_ L i)) ((hro i hil).2) ?_
        refine mr_callV (As := [.int (nI (pr_ L i))]) (rest := []) C0 hM hS vk_T_37 (mu_n' (ne_k h_e h_eA (fun q => by cases q)) h_e) rfl (c_N_multiply l (mu_n' (ne_k h_e h_eA (fun q => by cases q)) h_e) mu_s  hp0) rfl rfl hl.1 (by decide) rfl rfl (by subst hR; exact ⟨Nat.le_of_ble_eq_true rfl, Nat.le_of_ble_eq_true rfl⟩) (by subst hR; exact ⟨Nat.le_of_ble_eq_true rfl, Nat.le_of_ble_eq_true rfl⟩) dd_T_multiplyOthersInto_32 (fun v1 M1 H locs hp hM hS => ?_)
        obtain ⟨ev1, eM1⟩ := hp
        subst ev1
        rw [eM1] at hM
        have hM := mr_M mu_mu hM
        have hM : mm_ G (mu_ M eA (la_ G 11 (nl_ (V * pd_ (fs_ (L.take i) sx) * pr_ L i)))) H := hM
        refine W.eq (g2 := F0 m 35 ls []) rfl ?_
        rw [Nat.mul_assoc, show pd_ (fs_ (L.take i) sx) * pr_ L i = pd_ (fs_ (L.take (i + 1)) sx) by rw [fs_s hil, if_neg h20, pd_snoc]] at hM
        have hM : mm_ G (mu_ M eA (la_ G 11 (nl_ (V * pd_ (fs_ (L.take (i + 1)) sx))))) H := hM
        refine lv_iinc (k := 3) (v := nI (i + 1)) (lv' := [(4, .int (nI (i + 1))), (0, .ref o), (1, .long sx), (3, .ref e0)]) hx hb dd_T_multiplyOthersInto_35 hl rfl (inc_ i) (by decide) rfl (fun ls hl => ?_)
        refine lv_goto (tgt := 3) hx hb dd_T_multiplyOthersInto_38 rfl ?_
        exact ih (i + 1) _ _ _ (by omega) hM hS (lv_sub hl [1, 2, 3, 0] rfl)
  have hM := mr_M (mu_id h_eA).symm hM
  rw [show V = V * pd_ (fs_ (L.take 0) sx) by simp [fs_, pd_]] at hM
  exact loop_3 L.length 0 _ _ _ (Nat.zero_add _) hM hS (lv_sub hl [1, 2, 3, 0] rfl)

set_option maxHeartbeats 4000000 in
set_option maxRecDepth 100000 in
theorem c_T_multiplyOutsideInto (l : Launch) {G : mg_} {M : mw_} {o sA pA q qs qp e0 eA V : Nat} {L O : rl_} {f f1 : Nat → Int64} {g0 : Nat → Int32} (h_o : M o = some (ob_ 3 [.ref sA, .ref pA, .int (nI L.length)])) (h_sA : M sA = some (la_ G 10 f)) (h_q : M q = some (ob_ 3 [.ref qs, .ref qp, .int (nI O.length)])) (h_qs : M qs = some (la_ G 10 f1)) (h_pA : M pA = some (ia_ G 10 g0)) (h_e : M e0 = some (ob_ 1 [.ref eA])) (h_eA : M eA = some (la_ G 11 (nl_ V))) (ne_qs_eA : qs ≠ eA) (ne_sA_eA : sA ≠ eA) (hro : ro_ f g0 L) (hn : L.length ≤ 10) (hf1 : ∀ j, j < O.length → f1 j = sr_ O j) (hn1 : O.length ≤ 10) (hp : ∀ x ∈ L, x.2 < 2147483648) : dt_ l my_T_multiplyOutsideInto cd_T_multiplyOutsideInto 4 none { frames := 2, cells := 0, slots := 0, locals := 45 } G [.ref o, .ref q, .ref e0] M none (mu_ M eA (la_ G 11 (nl_ (V * pd_ (fo_ L O))))) 0 0 := by
  refine ct_.intro2 (by decide) (Nat.le_of_ble_eq_true rfl) ?_
  intro p e s m args below meth c ls R Q hR hQ C0 hl hM hS
  have hx := C0.1
  have hb := C0.2.1
  have hl : lv_has ls 4 [(0, .ref o), (1, .ref q), (2, .ref e0)] := hl
  refine lv_iconst (v := nI 0) hx hb dd_T_multiplyOutsideInto_0 (by decide) ?_
  refine lv_istore_n (lv' := [(3, .int (nI 0)), (0, .ref o), (1, .ref q), (2, .ref e0)]) hx hb dd_T_multiplyOutsideInto_1 rfl hl (by decide) rfl (fun ls hl => ?_)
  have loop_2 : ∀ (k : Nat) (i : Nat) (H : Heap) (locs : List Loc) (ls : Array Slot), i + k = L.length → mm_ G (mu_ M eA (la_ G 11 (nl_ (V * pd_ (fo_ (L.take i) O))))) H → va_S (fz_ G) s.heap H locs → lv_has ls 4 [(0, .ref o), (1, .ref q), (2, .ref e0), (3, .int (nI i))] → W p l e R s m args below meth c H locs 0 0 Q (F0 m 2 ls []) := by
    intro k
    induction k with
    | zero =>
      intro i H locs ls hi hM hS hl
      refine lv_iload_n hx hb dd_T_multiplyOutsideInto_2 rfl (lv_at hl 3 rfl) ?_
      refine lv_aload_n hx hb dd_T_multiplyOutsideInto_3 rfl (lv_at hl 0 rfl) ?_
      refine mr_get C0 hM fk_T_19 (mu_n' (ne_k h_o h_eA (fun q => by cases q)) h_o) (v := .int (nI L.length)) rfl dd_T_multiplyOutsideInto_4 ?_
      refine lv_icmp_ge (tgt := 39) hx hb dd_T_multiplyOutsideInto_7 rfl (fun _ => ?_) (fun hc => absurd (le_nI (a := L.length) (b := i) (by omega) (by omega) (by omega)) hc)
      rw [take_all (show L.length ≤ i by omega)] at hM
      exact mr_ret hQ (mr_vret C0 hM hS (⟨rfl, rfl⟩) dd_T_multiplyOutsideInto_39)
    | succ k ih =>
      intro i H locs ls hi hM hS hl
      have hil : i < L.length := by omega
      have hp0 : pr_ L i < 2147483648 := by rw [pr_at hil]; exact hp _ (List.getElem_mem hil)
      refine lv_iload_n hx hb dd_T_multiplyOutsideInto_2 rfl (lv_at hl 3 rfl) ?_
      refine lv_aload_n hx hb dd_T_multiplyOutsideInto_3 rfl (lv_at hl 0 rfl) ?_
      refine mr_get C0 hM fk_T_19 (mu_n' (ne_k h_o h_eA (fun q => by cases q)) h_o) (v := .int (nI L.length)) rfl dd_T_multiplyOutsideInto_4 ?_
      refine lv_icmp_ge (tgt := 39) hx hb dd_T_multiplyOutsideInto_7 rfl (fun hc => absurd hc (nle_nI (a := L.length) (b := i) (by omega) (by omega) (by omega))) (fun _ => ?_)
      refine lv_aload_n hx hb dd_T_multiplyOutsideInto_10 rfl (lv_at hl 1 rfl) ?_
      refine lv_aload_n hx hb dd_T_multiplyOutsideInto_11 rfl (lv_at hl 0 rfl) ?_
      refine mr_get C0 hM fk_T_11 (mu_n' (ne_k h_o h_eA (fun q => by cases q)) h_o) (v := .ref sA) rfl dd_T_multiplyOutsideInto_12 ?_
      refine lv_iload_n hx hb dd_T_multiplyOutsideInto_15 rfl (lv_at hl 3 rfl) ?_
      refine mr_lald C0 hM (mu_n' ne_sA_eA h_sA) (i) (rfl) (by omega) (by decide) dd_T_multiplyOutsideInto_16 ?_
      refine mr_vl (x' := sr_ L i) ((hro i hil).1) ?_
      refine mr_callV (As := [.long (sr_ L i)]) (rest := []) C0 hM hS vk_T_33 (mu_n' (ne_k h_q h_eA (fun q => by cases q)) h_q) rfl (c_T_has l (mu_n' (ne_k h_q h_eA (fun q => by cases q)) h_q) (mu_n' ne_qs_eA h_qs)  hf1 hn1) rfl rfl hl.1 (by decide) rfl rfl (by subst hR; exact ⟨Nat.le_of_ble_eq_true rfl, Nat.le_of_ble_eq_true rfl⟩) (by subst hR; exact ⟨Nat.le_of_ble_eq_true rfl, Nat.le_of_ble_eq_true rfl⟩) dd_T_multiplyOutsideInto_17 (fun v1 M1 H locs hp hM hS => ?_)
      obtain ⟨ev1, eM1⟩ := hp
      subst ev1
      rw [eM1] at hM
      refine W.eq (g2 := F0 m 20 ls [.int (nI (if hs_ O (sr_ L i) then 1 else 0))]) rfl ?_
      refine lv_if_ne (tgt := 33) hx hb dd_T_multiplyOutsideInto_20 rfl (fun h20 => ?_) (fun h20 => ?_)
      · skip
        have hv : hs_ O (sr_ L i) = true := by
          cases h : hs_ O (sr_ L i) with
          | true => rfl
          | false => exact absurd (by rw [h]; rfl) h20
        rw [show fo_ (L.take i) O = fo_ (L.take (i + 1)) O by rw [fo_s hil, hv, if_pos rfl, List.append_nil]] at hM
        have hM : mm_ G (mu_ M eA (la_ G 11 (nl_ (V * pd_ (fo_ (L.take (i + 1)) O))))) H := hM
        refine lv_iinc (k := 3) (v := nI (i + 1)) (lv' := [(3, .int (nI (i + 1))), (0, .ref o), (1, .ref q), (2, .ref e0)]) hx hb dd_T_multiplyOutsideInto_33 hl rfl (inc_ i) (by decide) rfl (fun ls hl => ?_)
        refine lv_goto (tgt := 2) hx hb dd_T_multiplyOutsideInto_36 rfl ?_
        exact ih (i + 1) _ _ _ (by omega) hM hS (lv_sub hl [1, 2, 3, 0] rfl)
      · skip
        have hv : hs_ O (sr_ L i) = false := by
          cases h : hs_ O (sr_ L i) with
          | false => rfl
          | true => rw [h] at h20; exact absurd h20 (by decide)
        refine lv_aload_n hx hb dd_T_multiplyOutsideInto_23 rfl (lv_at hl 2 rfl) ?_
        refine lv_aload_n hx hb dd_T_multiplyOutsideInto_24 rfl (lv_at hl 0 rfl) ?_
        refine mr_get C0 hM fk_T_15 (mu_n' (ne_k h_o h_eA (fun q => by cases q)) h_o) (v := .ref pA) rfl dd_T_multiplyOutsideInto_25 ?_
        refine lv_iload_n hx hb dd_T_multiplyOutsideInto_28 rfl (lv_at hl 3 rfl) ?_
        refine mr_iald C0 hM (mu_n' (ne_il h_pA h_eA) h_pA) (i) (rfl) (by omega) (by decide) dd_T_multiplyOutsideInto_29 ?_
        refine mr_vi (x' := nI (pr_ L i)) ((hro i hil).2) ?_
        refine mr_callV (As := [.int (nI (pr_ L i))]) (rest := []) C0 hM hS vk_T_37 (mu_n' (ne_k h_e h_eA (fun q => by cases q)) h_e) rfl (c_N_multiply l (mu_n' (ne_k h_e h_eA (fun q => by cases q)) h_e) mu_s  hp0) rfl rfl hl.1 (by decide) rfl rfl (by subst hR; exact ⟨Nat.le_of_ble_eq_true rfl, Nat.le_of_ble_eq_true rfl⟩) (by subst hR; exact ⟨Nat.le_of_ble_eq_true rfl, Nat.le_of_ble_eq_true rfl⟩) dd_T_multiplyOutsideInto_30 (fun v1 M1 H locs hp hM hS => ?_)
        obtain ⟨ev1, eM1⟩ := hp
        subst ev1
        rw [eM1] at hM
        have hM := mr_M mu_mu hM
        have hM : mm_ G (mu_ M eA (la_ G 11 (nl_ (V * pd_ (fo_ (L.take i) O) * pr_ L i)))) H := hM
        refine W.eq (g2 := F0 m 33 ls []) rfl ?_
        rw [Nat.mul_assoc, show pd_ (fo_ (L.take i) O) * pr_ L i = pd_ (fo_ (L.take (i + 1)) O) by rw [fo_s hil, hv, if_neg (by decide), pd_snoc]] at hM
        have hM : mm_ G (mu_ M eA (la_ G 11 (nl_ (V * pd_ (fo_ (L.take (i + 1)) O))))) H := hM
        refine lv_iinc (k := 3) (v := nI (i + 1)) (lv' := [(3, .int (nI (i + 1))), (0, .ref o), (1, .ref q), (2, .ref e0)]) hx hb dd_T_multiplyOutsideInto_33 hl rfl (inc_ i) (by decide) rfl (fun ls hl => ?_)
        refine lv_goto (tgt := 2) hx hb dd_T_multiplyOutsideInto_36 rfl ?_
        exact ih (i + 1) _ _ _ (by omega) hM hS (lv_sub hl [1, 2, 3, 0] rfl)
  have hM := mr_M (mu_id h_eA).symm hM
  rw [show V = V * pd_ (fo_ (L.take 0) O) by simp [fo_, pd_]] at hM
  exact loop_2 L.length 0 _ _ _ (Nat.zero_add _) hM hS (lv_sub hl [1, 2, 3, 0] rfl)
end
