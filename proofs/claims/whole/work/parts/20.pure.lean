theorem wb_tb (n : Nat) : (lN n).toBitVec = BitVec.ofNat 64 n := rfl
theorem wb_inj {a b : Int64} (h : a.toBitVec = b.toBitVec) : a = b := Int64.toBitVec_inj.mp h
theorem wb_tn {n : Nat} (h : n < 2 ^ 64) : (lN n).toBitVec.toNat = n := by rw [wb_tb, BitVec.toNat_ofNat, Nat.mod_eq_of_lt h]
theorem wb_of (x : Int64) : ∃ n, n < 2 ^ 64 ∧ x = lN n := ⟨x.toBitVec.toNat, x.toBitVec.isLt, wb_inj (by rw [wb_tb]; simp)⟩
theorem wb_of32 (x : Int32) : ∃ n, n < 2 ^ 32 ∧ x = nI n := ⟨x.toBitVec.toNat, x.toBitVec.isLt, Int32.toBitVec_inj.mp (by show _ = BitVec.ofNat 32 _; simp)⟩
theorem wb_c : ∀ k, k < 64 → ((nI k).toInt64 &&& 63) = lN k := by decide +kernel
theorem wb_cu : ∀ k, k < 64 → ((nI k).toInt64.toUInt64 &&& Int64.toUInt64 63) = UInt64.ofNat k := by decide +kernel
theorem wb_sm : ∀ k, k < 64 → (BitVec.ofNat 64 k).smod 64 = BitVec.ofNat 64 k := by decide +kernel
theorem wb_pw {a b : Nat} (h : a ≤ b) : 2 ^ b = 2 ^ a * 2 ^ (b - a) := by rw [← Nat.pow_add]; congr 1; omega
theorem wb_lt2 {a b : Nat} (h : a < b) : 2 ^ a < 2 ^ b := Nat.pow_lt_pow_right (by decide) h
theorem wb_mod (n : Nat) : lN n = lN (n % 2 ^ 64) := wb_inj (by rw [wb_tb, wb_tb]; apply BitVec.eq_of_toNat_eq; rw [BitVec.toNat_ofNat, BitVec.toNat_ofNat, Nat.mod_mod])
theorem wb_shr {n k : Nat} (hn : n < 2 ^ 64) (hk : k < 64) : ((lN n).toUInt64 >>> ((nI k).toInt64.toUInt64 &&& Int64.toUInt64 63)).toInt64 = lN (n / 2 ^ k) := by
  rw [wb_cu k hk]
  apply wb_inj
  apply BitVec.eq_of_toNat_eq
  show ((lN n).toUInt64 >>> UInt64.ofNat k).toNat = (BitVec.ofNat 64 _).toNat
  have h1 : (UInt64.ofNat k).toNat = k := by
    show (BitVec.ofNat 64 k).toNat = k
    rw [BitVec.toNat_ofNat, Nat.mod_eq_of_lt (by omega)]
  have h2 : (lN n).toUInt64.toNat = n := wb_tn hn
  rw [UInt64.toNat_shiftRight, h1, h2, Nat.mod_eq_of_lt hk, Nat.shiftRight_eq_div_pow, BitVec.toNat_ofNat, Nat.mod_eq_of_lt (Nat.lt_of_le_of_lt (Nat.div_le_self _ _) hn)]
theorem wb_shl (n : Nat) {k : Nat} (hk : k < 64) : lN n <<< ((nI k).toInt64 &&& 63) = lN (n * 2 ^ k) := by
  rw [wb_c k hk]
  apply wb_inj
  rw [Int64.toBitVec_shiftLeft, wb_tb, wb_tb, wb_tb, wb_sm k hk]
  apply BitVec.eq_of_toNat_eq
  rw [BitVec.shiftLeft_eq', BitVec.toNat_shiftLeft, BitVec.toNat_ofNat, BitVec.toNat_ofNat, BitVec.toNat_ofNat, Nat.mod_eq_of_lt (show k < 2 ^ 64 by omega), Nat.shiftLeft_eq, Nat.mul_mod, Nat.mod_mod, ← Nat.mul_mod]
theorem wb_and {a b : Nat} (ha : a < 2 ^ 64) (hb : b < 2 ^ 64) : lN a &&& lN b = lN (a &&& b) := by
  apply wb_inj
  rw [Int64.toBitVec_and, wb_tb, wb_tb, wb_tb]
  apply BitVec.eq_of_toNat_eq
  rw [BitVec.toNat_and, BitVec.toNat_ofNat, BitVec.toNat_ofNat, BitVec.toNat_ofNat, Nat.mod_eq_of_lt ha, Nat.mod_eq_of_lt hb, Nat.mod_eq_of_lt (Nat.and_lt_two_pow _ hb)]
theorem wb_or {a b : Nat} (ha : a < 2 ^ 64) (hb : b < 2 ^ 64) : lN a ||| lN b = lN (a ||| b) := by
  apply wb_inj
  rw [Int64.toBitVec_or, wb_tb, wb_tb, wb_tb]
  apply BitVec.eq_of_toNat_eq
  rw [BitVec.toNat_or, BitVec.toNat_ofNat, BitVec.toNat_ofNat, BitVec.toNat_ofNat, Nat.mod_eq_of_lt ha, Nat.mod_eq_of_lt hb, Nat.mod_eq_of_lt (Nat.or_lt_two_pow ha hb)]
theorem wb_mask {n k : Nat} (hn : n < 2 ^ 64) (hk : k < 64) : lN n &&& lN (2 ^ k - 1) = lN (n % 2 ^ k) := by
  rw [wb_and hn (by have := wb_lt2 hk; omega), Nat.and_two_pow_sub_one_eq_mod]
theorem wb_a1 {n : Nat} (hn : n < 2 ^ 64) : lN n &&& 1 = lN (n % 2) := wb_mask (k := 1) hn (by decide)
theorem wb_bit {n k : Nat} (hn : n < 2 ^ 64) (hk : k < 64) : ((lN n).toUInt64 >>> ((nI k).toInt64.toUInt64 &&& Int64.toUInt64 63)).toInt64 &&& 1 = lN (n / 2 ^ k % 2) := by
  rw [wb_shr hn hk, wb_a1 (Nat.lt_of_le_of_lt (Nat.div_le_self _ _) hn)]
theorem u_tn {n : Nat} (h : n < 2 ^ 64) : (UInt64.ofNat n).toNat = n := Nat.mod_eq_of_lt h
theorem g_and {a b c : Nat} (ha : a < 2 ^ 64) (hb : b < 2 ^ 64) (hc : a &&& b = c) : lN a &&& lN b = lN c := by
  subst hc
  have h : UInt64.ofNat a &&& UInt64.ofNat b = UInt64.ofNat (a &&& b) := UInt64.toNat_inj.mp (by rw [UInt64.toNat_and, u_tn ha, u_tn hb, u_tn (Nat.and_lt_two_pow a hb)])
  have h2 := congrArg UInt64.toInt64 h
  exact h2
theorem g_and1 {a : Nat} (ha : a < 2 ^ 64) : lN a &&& 1 = lN (a % 2) := g_and (b := 1) ha (by decide) (Nat.and_two_pow_sub_one_eq_mod a 1)
theorem g_mask {a s p : Nat} (hp : 2 ^ s = p) (hs : s < 64) (ha : a < 2 ^ 64) : lN a &&& lN (p - 1) = lN (a % p) := by
  subst hp
  have := Nat.pow_lt_pow_right (show 1 < 2 by decide) hs
  exact g_and ha (by omega) (Nat.and_two_pow_sub_one_eq_mod a s)
theorem g_or {k p a b : Nat} (hp : 2 ^ k = p) (ha : a < p) (h : b * p + a < 2 ^ 64) : lN (b * p) ||| lN a = lN (b * p + a) := by
  subst hp
  have h1 : b * 2 ^ k ||| a = b * 2 ^ k + a := by rw [← Nat.shiftLeft_eq, Nat.shiftLeft_add_eq_or_of_lt ha]
  have h3 : UInt64.ofNat (b * 2 ^ k) ||| UInt64.ofNat a = UInt64.ofNat (b * 2 ^ k + a) := UInt64.toNat_inj.mp (by rw [UInt64.toNat_or, u_tn (by omega), u_tn (by omega), u_tn h, h1])
  have h2 := congrArg UInt64.toInt64 h3
  exact h2
theorem g_or' {k p a b : Nat} (hp : 2 ^ k = p) (ha : a < p) (h : a + b * p < 2 ^ 64) : lN a ||| lN (b * p) = lN (a + b * p) := by
  rw [Int64.or_comm, g_or hp ha (by omega), Nat.add_comm]
theorem lx_arr {cA : ClassId} {n : Nat} {f g : Nat → Value} (h : ∀ j, j < n → f j = g j) : arrV cA n f = arrV cA n g := by
  unfold arrV
  congr 2
  funext j
  exact h j.val j.isLt

theorem lm_ {a : Nat} (h : a < 18446744073709551616) : lN a &&& lN 4294967295 = lN (a % 4294967296) := wb_mask (k := 32) h (by decide)
theorem lh_ {a : Nat} (h : a < 18446744073709551616) : lus_ (lN a) (nI 32) = lN (a / 4294967296) := wb_shr (k := 32) h (by decide)
theorem mr_lext {G : mg_} {M : mw_} {H : Heap} {a n : Nat} {f g : Nat → Int64} (h : ∀ j, j < n → f j = g j) (hM : mm_ G (mu_ M a (la_ G n f)) H) : mm_ G (mu_ M a (la_ G n g)) H := by
  refine ⟨hM.1, fun b e hb => ?_⟩
  by_cases hq : b = a
  · subst hq
    rw [mu_s] at hb
    cases hb
    have h1 := hM.2 b (la_ G n f) mu_s
    refine ⟨?_, h1.2⟩
    have h2 : H[b]? = some (vp_cell (gL G) (n, .inr (.inl f))) := h1.1
    show H[b]? = some (vp_cell (gL G) (n, .inr (.inl g)))
    rw [h2, vp_cell_l, vp_cell_l, lx_arr (fun j hj => by rw [h j hj])]
  · rw [mu_n hq] at hb
    exact hM.2 b e (by rw [mu_n hq]; exact hb)
theorem mr_iext {G : mg_} {M : mw_} {H : Heap} {a n : Nat} {f g : Nat → Int32} (h : ∀ j, j < n → f j = g j) (hM : mm_ G (mu_ M a (ia_ G n f)) H) : mm_ G (mu_ M a (ia_ G n g)) H := by
  refine ⟨hM.1, fun b e hb => ?_⟩
  by_cases hq : b = a
  · subst hq
    rw [mu_s] at hb
    cases hb
    have h1 := hM.2 b (ia_ G n f) mu_s
    refine ⟨?_, h1.2⟩
    have h2 : H[b]? = some (vp_cell (gI G) (n, .inl f)) := h1.1
    show H[b]? = some (vp_cell (gI G) (n, .inl g))
    rw [h2, vp_cell_i, vp_cell_i, lx_arr (fun j hj => by rw [h j hj])]
  · rw [mu_n hq] at hb
    exact hM.2 b e (by rw [mu_n hq]; exact hb)
/-! digits to a base -/
def db_ (b V i : Nat) : Nat := V / b ^ i % b
abbrev dg_ (V i : Nat) : Nat := db_ 4294967296 V i
theorem db_lt {b V i : Nat} (hb : 0 < b) : db_ b V i < b := Nat.mod_lt _ hb
theorem db_split (b V i : Nat) : V % b ^ (i + 1) = V % b ^ i + b ^ i * db_ b V i := Nat.mod_pow_succ
theorem db_top (b V i : Nat) : V / b ^ i = V / b ^ (i + 1) * b + db_ b V i := by
  have h : V / b ^ (i + 1) = V / b ^ i / b := by rw [Nat.pow_succ, Nat.div_div_eq_div_mul]
  rw [h, Nat.mul_comm]
  exact (Nat.div_add_mod _ _).symm
def cm_ (b V x i : Nat) : Nat := V % b ^ i * x / b ^ i
theorem cm_0 (b V x : Nat) : cm_ b V x 0 = 0 := by simp [cm_, Nat.mod_one]
theorem cm_step {b : Nat} (hb : 0 < b) (V x i : Nat) : db_ b V i * x + cm_ b V x i = V % b ^ (i + 1) * x / b ^ i := by
  rw [db_split, Nat.add_mul, Nat.mul_assoc, Nat.add_mul_div_left _ _ (Nat.pow_pos hb), Nat.add_comm]
  rfl
theorem db_mod (b V i : Nat) : db_ b V i = V % b ^ (i + 1) / b ^ i := by
  rw [db_, Nat.pow_succ, Nat.mod_mul_right_div_self]
theorem cm_dig (b V x i : Nat) : V % b ^ (i + 1) * x / b ^ i % b = db_ b (V * x) i := by
  have h : V % b ^ (i + 1) * x / b ^ i % b = db_ b (V % b ^ (i + 1) * x) i := rfl
  rw [h, db_mod, db_mod, Nat.mod_mul_mod]
theorem cm_next (b V x i : Nat) : V % b ^ (i + 1) * x / b ^ i / b = cm_ b V x (i + 1) := by
  rw [cm_, Nat.div_div_eq_div_mul, ← Nat.pow_succ]
theorem cm_lt {b : Nat} (hb : 0 < b) (V : Nat) {x : Nat} (hx : 0 < x) (i : Nat) : cm_ b V x i < x := by
  rw [cm_, Nat.div_lt_iff_lt_mul (Nat.pow_pos hb), Nat.mul_comm x]
  exact Nat.mul_lt_mul_of_pos_right (Nat.mod_lt _ (Nat.pow_pos hb)) hx
theorem dq_step {b d : Nat} (hb : 0 < b) (hd : 0 < d) (V i : Nat) : db_ b (V / d) i = (V / b ^ (i + 1) % d * b + db_ b V i) / d := by
  have h1 : V / d / b ^ i = V / b ^ i / d := by rw [Nat.div_div_eq_div_mul, Nat.div_div_eq_div_mul, Nat.mul_comm]
  rw [db_, h1, db_top]
  generalize V / b ^ (i + 1) = Y
  have h2 : db_ b V i < b := db_lt hb
  generalize db_ b V i = g at h2 ⊢
  have h3 : Y * b + g = d * (Y / d * b) + (Y % d * b + g) := by
    have h4 := Nat.div_add_mod Y d
    have h5 : Y * b = (d * (Y / d) + Y % d) * b := by rw [h4]
    rw [h5, Nat.add_mul, Nat.mul_assoc, Nat.add_assoc]
  rw [h3, Nat.mul_add_div hd, Nat.add_comm, Nat.add_mul_mod_self_right]
  apply Nat.mod_eq_of_lt
  rw [Nat.div_lt_iff_lt_mul hd]
  have h6 : Y % d < d := Nat.mod_lt _ hd
  have h7 : (Y % d + 1) * b ≤ d * b := Nat.mul_le_mul_right b h6
  rw [Nat.add_mul, Nat.one_mul] at h7
  rw [Nat.mul_comm b d]
  omega
theorem dr_step {b d : Nat} (V i : Nat) : (V / b ^ (i + 1) % d * b + db_ b V i) % d = V / b ^ i % d := by
  rw [db_top b V i, Nat.add_mod, Nat.mul_mod, Nat.mod_mod, ← Nat.mul_mod, ← Nat.add_mod]
theorem db_big {b V i n : Nat} (hb : 0 < b) (h : V < b ^ n) (hi : n ≤ i) : db_ b V i = 0 := by
  rw [db_, Nat.div_eq_of_lt (Nat.lt_of_lt_of_le h (Nat.pow_le_pow_right hb hi)), Nat.zero_mod]
/-- a number's limbs as a long array holds them -/
def nl_ (V : Nat) : Nat → Int64 := fun j => lN (dg_ V j)
theorem pr_lt64 {a x c : Nat} (ha : a < 4294967296) (hx : x < 4294967296) (hc : c < 4294967296) : a * x + c < 18446744073709551616 := by
  have h : a * x ≤ 4294967295 * 4294967295 := Nat.mul_le_mul (by omega) (by omega)
  omega
theorem ne_k {M : mw_} {a b : Nat} {e f : va_E} (h : M a = some e) (k : M b = some f) (hn : e ≠ f) : a ≠ b := by
  intro q
  subst q
  rw [h] at k
  exact hn (Option.some.inj k)
