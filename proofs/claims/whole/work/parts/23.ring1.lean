
theorem lN_bv (n : Nat) : (lN n).toBitVec = BitVec.ofNat 64 n := rfl
theorem lN_nat {n : Nat} (h : n < 2 ^ 64) : (lN n).toBitVec.toNat = n := by rw [lN_bv, BitVec.toNat_ofNat]; exact Nat.mod_eq_of_lt h
theorem lN_ti {m : Nat} (h : m < 2 ^ 64) : (lN m).toInt = if m < 2 ^ 63 then (m : Int) else (m : Int) - 2 ^ 64 := by
  have c := BitVec.toInt_eq_toNat_cond (lN m).toBitVec
  rw [lN_nat h] at c
  show (lN m).toBitVec.toInt = _
  rw [c]
  split <;> split <;> omega
theorem ub_t {a : Nat} (ha : a < 18446744073709551616) : (lN a + (-9223372036854775808 : Int64)).toInt = (a : Int) - 9223372036854775808 := by
  have e : lN a + (-9223372036854775808 : Int64) = lN ((a + 9223372036854775808) % 18446744073709551616) := by
    rw [show (-9223372036854775808 : Int64) = lN 9223372036854775808 from by decide, lN_add, wb_mod]
  rw [e, lN_ti (by omega)]
  split <;> omega
theorem ub_ {a b : Nat} (ha : a < 18446744073709551616) (hb : b < 18446744073709551616) : (lN b + (-9223372036854775808 : Int64) ≤ lN a + (-9223372036854775808 : Int64)) ↔ b ≤ a := by
  rw [Int64.le_iff_toInt_le, ub_t ha, ub_t hb]
  omega
theorem ubl_ {a b : Nat} (ha : a < 18446744073709551616) (hb : b < 18446744073709551616) : (lN b + (-9223372036854775808 : Int64) < lN a + (-9223372036854775808 : Int64)) ↔ b < a := by
  rw [Int64.lt_iff_toInt_lt, ub_t ha, ub_t hb]
  omega
theorem lE_ {a b : Nat} (ha : a < 18446744073709551616) (hb : b < 18446744073709551616) : lN a = lN b ↔ a = b := by
  constructor
  · intro h
    have h2 := congrArg (fun z => z.toBitVec.toNat) h
    simp only [lN_nat ha, lN_nat hb] at h2
    exact h2
  · intro h; rw [h]
theorem up4_ {f g : Nat → Int64} {a0 a1 a2 a3 : Int64} (h0 : a0 = g 0) (h1 : a1 = g 1) (h2 : a2 = g 2) (h3 : a3 = g 3) : ∀ j, j < 4 → vp_updL (vp_updL (vp_updL (vp_updL f 0 a0) 1 a1) 2 a2) 3 a3 j = g j := by
  intro j hj
  rcases (show j = 0 ∨ j = 1 ∨ j = 2 ∨ j = 3 by omega) with rfl | rfl | rfl | rfl <;> simp [vp_updL, h0, h1, h2, h3]
theorem dg_0 (V : Nat) : dg_ V 0 = V % 4294967296 := by show V / 4294967296 ^ 0 % 4294967296 = _; rw [Nat.pow_zero, Nat.div_one]
theorem dg_1 (V : Nat) : dg_ V 1 = V / 4294967296 % 4294967296 := by show V / 4294967296 ^ 1 % 4294967296 = _; rw [Nat.pow_one]
theorem dg_2 (V : Nat) : dg_ V 2 = V / 18446744073709551616 % 4294967296 := rfl
theorem dg_3 (V : Nat) : dg_ V 3 = V / 79228162514264337593543950336 % 4294967296 := rfl
theorem hl_lt {a c : Nat} (ha : a < 4294967296) (hc : c < 4294967296) : a * 4294967296 + c < 18446744073709551616 := by omega
theorem w_hi {X : Nat} (h : X < 340282366920938463463374607431768211456) : dg_ X 3 * 4294967296 + dg_ X 2 = X / 18446744073709551616 := by rw [dg_3, dg_2]; omega
theorem w_lo (X : Nat) : dg_ X 1 * 4294967296 + dg_ X 0 = X % 18446744073709551616 := by rw [dg_1, dg_0]; omega
def rw_ (X : Nat) (b : Int32) : Int64 := if b = 0 then lN (X % 18446744073709551616) else lN (X / 18446744073709551616)
theorem eq_mod {X Y : Nat} : ∀ n, (∀ j, j < n → dg_ X j = dg_ Y j) → X % 4294967296 ^ n = Y % 4294967296 ^ n
  | 0, _ => by simp [Nat.mod_one]
  | n + 1, h => by
    have h1 : db_ 4294967296 X n = db_ 4294967296 Y n := h n (by omega)
    rw [db_split, db_split, eq_mod n (fun j hj => h j (by omega)), h1]
theorem eq4_ {X Y : Nat} (hX : X < 4294967296 ^ 4) (hY : Y < 4294967296 ^ 4) (h : ∀ j, j < 4 → dg_ X j = dg_ Y j) : X = Y := by
  have := eq_mod 4 h
  rwa [Nat.mod_eq_of_lt hX, Nat.mod_eq_of_lt hY] at this
theorem dgl {V j : Nat} : dg_ V j < 18446744073709551616 := Nat.lt_trans (db_lt (by decide)) (by decide)
def acc_ (V : Nat) : Prop := V % 2 = 1 ∧ 1267650600228229401496703205376 ≤ V ∧ V % 3 ≠ 0
theorem ap_lt {T X l : Nat} (hT : T < 4294967296 ^ 5) (hX : X < 4294967296 ^ 4) (hl : l < 4294967296) : T + X * l < 4294967296 ^ 6 := by
  have h : X * l ≤ 4294967296 ^ 4 * 4294967296 := Nat.mul_le_mul (Nat.le_of_lt hX) (Nat.le_of_lt hl)
  have h2 : (4294967296 : Nat) ^ 4 * 4294967296 = 4294967296 ^ 5 := rfl
  have h3 : (4294967296 : Nat) ^ 5 + 4294967296 ^ 5 ≤ 4294967296 ^ 6 := by decide
  omega
def mq_ (T n1 : Nat) : Nat := T % 4294967296 * n1 % 4294967296
theorem mq_lt {T n1 : Nat} : mq_ T n1 < 4294967296 := Nat.mod_lt _ (by decide)
theorem w64 {W : Nat} (h : W < 4294967296 ^ 6) : W / 4294967296 ^ 4 < 18446744073709551616 := by
  rw [Nat.div_lt_iff_lt_mul (Nat.pow_pos (by decide))]
  exact h
theorem s3_lt {a b l c : Nat} (ha : a < 4294967296) (hb : b < 4294967296) (hl : l < 4294967296) (hc : c ≤ l) : a + b * l + c < 18446744073709551616 := by
  have h : b * l ≤ 4294967295 * 4294967295 := Nat.mul_le_mul (by omega) (by omega)
  omega
theorem dg_mod {V j n : Nat} (h : j < n) : dg_ (V % 4294967296 ^ n) j = dg_ V j := by
  show V % 4294967296 ^ n / 4294967296 ^ j % 4294967296 = V / 4294967296 ^ j % 4294967296
  obtain ⟨c, hc⟩ : ∃ c, 4294967296 ^ n = 4294967296 ^ j * (4294967296 * c) := ⟨4294967296 ^ (n - (j + 1)), by rw [← Nat.mul_assoc, ← Nat.pow_succ, ← Nat.pow_add]; congr 1; omega⟩
  rw [hc, Nat.mod_mul_right_div_self, Nat.mod_mul_right_mod]

def acn_ (V : Nat) : Int32 := if V % 2 = 1 ∧ 1267650600228229401496703205376 ≤ V ∧ V % 3 ≠ 0 then nI 1 else nI 0
theorem acn_y {V : Nat} (h : acc_ V) : acn_ V = nI 1 := if_pos h
theorem acn_n {V : Nat} (h : ¬ acc_ V) : acn_ V = nI 0 := if_neg h

set_option maxHeartbeats 4000000 in
set_option maxRecDepth 100000 in
theorem c_R_isBelow (l : Launch) {G : mg_} {M : mw_} {a b : Nat}   (ha : a < 18446744073709551616) (hb0 : b < 18446744073709551616) : dt_ l my_R_isBelow cd_R_isBelow 4 (some .boolean) { frames := 0, cells := 0, slots := 0, locals := 0 } G [.long (lN a), .long (lN b)] M (some (.int (nI (if a < b then 1 else 0)))) (M) 0 0 := by
  refine ct_.intro2 (by decide) (Nat.le_of_ble_eq_true rfl) ?_
  intro p e s m args below meth c ls R Q hR hQ C0 hl hM hS
  have hx := C0.1
  have hb := C0.2.1
  have hl : lv_has ls 4 [(0, .long (lN a)), (2, .long (lN b))] := hl
  refine lv_lload_n hx hb dd_R_isBelow_0 rfl (lv_at hl 0 rfl) ?_
  refine mr_ldc2 (v := (-9223372036854775808 : Int64)) C0 tw_384 dd_R_isBelow_1 ?_
  refine lv_ladd hx hb dd_R_isBelow_4 ?_
  refine lv_lload_n hx hb dd_R_isBelow_5 rfl (lv_at hl 1 rfl) ?_
  refine mr_ldc2 (v := (-9223372036854775808 : Int64)) C0 tw_384 dd_R_isBelow_6 ?_
  refine lv_ladd hx hb dd_R_isBelow_9 ?_
  refine mr_lif_ge (tgt := 18) hx hb dd_R_isBelow_10 dd_R_isBelow_11 rfl (fun h10 => ?_) (fun h10 => ?_)
  · skip
    have hv : ¬ a < b := Nat.not_lt.mpr ((ub_ ha hb0).mp h10)
    refine lv_iconst (v := nI 0) hx hb dd_R_isBelow_18 (by decide) ?_
    exact mr_ret hQ (mr_iret C0 hM hS (rfl) (⟨by simp [hv], rfl⟩) dd_R_isBelow_19)
  · skip
    have hv : a < b := Nat.lt_of_not_le (fun q => h10 ((ub_ ha hb0).mpr q))
    refine lv_iconst (v := nI 1) hx hb dd_R_isBelow_14 (by decide) ?_
    refine lv_goto (tgt := 19) hx hb dd_R_isBelow_15 rfl ?_
    exact mr_ret hQ (mr_iret C0 hM hS (rfl) (⟨by simp [hv], rfl⟩) dd_R_isBelow_19)

set_option maxHeartbeats 4000000 in
set_option maxRecDepth 100000 in
theorem c_R_split (l : Launch) {G : mg_} {M : mw_} {U L out : Nat} {f : Nat → Int64} (h_out : M out = some (la_ G 4 f))  (hU : U < 18446744073709551616) (hL : L < 18446744073709551616) : dt_ l my_R_split cd_R_split 5 none { frames := 0, cells := 0, slots := 0, locals := 0 } G [.long (lN U), .long (lN L), .ref out] M none (mu_ M out (la_ G 4 (nl_ (U * 18446744073709551616 + L)))) 0 0 := by
  refine ct_.intro2 (by decide) (Nat.le_of_ble_eq_true rfl) ?_
  intro p e s m args below meth c ls R Q hR hQ C0 hl hM hS
  have hx := C0.1
  have hb := C0.2.1
  have hl : lv_has ls 5 [(0, .long (lN U)), (2, .long (lN L)), (4, .ref out)] := hl
  refine lv_aload hx hb dd_R_split_0 (lv_at hl 2 rfl) ?_
  refine lv_iconst (v := nI 0) hx hb dd_R_split_2 (by decide) ?_
  refine lv_lload_n hx hb dd_R_split_3 rfl (lv_at hl 1 rfl) ?_
  refine mr_ldc2 (v := lN 4294967295) C0 tw_163 dd_R_split_4 ?_
  refine lv_land hx hb dd_R_split_7 ?_
  refine mr_vl (x' := lN (L % 4294967296)) (lm_ hL) ?_
  refine mr_last C0 hM hS h_out (0) (rfl) (by omega) (by decide) dd_R_split_8 (fun H locs hM hS => ?_)
  refine lv_aload hx hb dd_R_split_9 (lv_at hl 2 rfl) ?_
  refine lv_iconst (v := nI 1) hx hb dd_R_split_11 (by decide) ?_
  refine lv_lload_n hx hb dd_R_split_12 rfl (lv_at hl 1 rfl) ?_
  refine lv_bipush (v := nI 32) hx hb dd_R_split_13 (by decide) ?_
  refine lv_lushr (v := lN (L / 4294967296)) hx hb dd_R_split_15 (lh_ hL) ?_
  refine mr_last C0 hM hS mu_s (1) (rfl) (by omega) (by decide) dd_R_split_16 (fun H locs hM hS => ?_)
  have hM := mr_M mu_mu hM
  refine lv_aload hx hb dd_R_split_17 (lv_at hl 2 rfl) ?_
  refine lv_iconst (v := nI 2) hx hb dd_R_split_19 (by decide) ?_
  refine lv_lload_n hx hb dd_R_split_20 rfl (lv_at hl 0 rfl) ?_
  refine mr_ldc2 (v := lN 4294967295) C0 tw_163 dd_R_split_21 ?_
  refine lv_land hx hb dd_R_split_24 ?_
  refine mr_vl (x' := lN (U % 4294967296)) (lm_ hU) ?_
  refine mr_last C0 hM hS mu_s (2) (rfl) (by omega) (by decide) dd_R_split_25 (fun H locs hM hS => ?_)
  have hM := mr_M mu_mu hM
  refine lv_aload hx hb dd_R_split_26 (lv_at hl 2 rfl) ?_
  refine lv_iconst (v := nI 3) hx hb dd_R_split_28 (by decide) ?_
  refine lv_lload_n hx hb dd_R_split_29 rfl (lv_at hl 0 rfl) ?_
  refine lv_bipush (v := nI 32) hx hb dd_R_split_30 (by decide) ?_
  refine lv_lushr (v := lN (U / 4294967296)) hx hb dd_R_split_32 (lh_ hU) ?_
  refine mr_last C0 hM hS mu_s (3) (rfl) (by omega) (by decide) dd_R_split_33 (fun H locs hM hS => ?_)
  have hM := mr_M mu_mu hM
  have hM := mr_lext (g := nl_ (U * 18446744073709551616 + L)) (up4_ (congrArg lN (by rw [dg_0]; omega)) (congrArg lN (by rw [dg_1]; omega)) (congrArg lN (by rw [dg_2]; omega)) (congrArg lN (by rw [dg_3]; omega))) hM
  exact mr_ret hQ (mr_vret C0 hM hS (⟨rfl, rfl⟩) dd_R_split_34)

set_option maxHeartbeats 4000000 in
set_option maxRecDepth 100000 in
theorem c_R_word (l : Launch) {G : mg_} {M : mw_} {x X : Nat} {b : Int32} (h_x : M x = some (la_ G 4 (nl_ X)))  (hX : X < 4294967296 ^ 4) : dt_ l my_R_word cd_R_word 2 (some .long) { frames := 0, cells := 0, slots := 0, locals := 0 } G [.ref x, .int b] M (some (.long (rw_ X b))) (M) 0 0 := by
  refine ct_.intro2 (by decide) (Nat.le_of_ble_eq_true rfl) ?_
  intro p e s m args below meth c ls R Q hR hQ C0 hl hM hS
  have hx := C0.1
  have hb := C0.2.1
  have hl : lv_has ls 2 [(0, .ref x), (1, .int b)] := hl
  refine lv_iload_n hx hb dd_R_word_0 rfl (lv_at hl 1 rfl) ?_
  refine lv_if_eq (tgt := 17) hx hb dd_R_word_1 rfl (fun h1 => ?_) (fun h1 => ?_)
  · skip
    refine lv_aload_n hx hb dd_R_word_17 rfl (lv_at hl 0 rfl) ?_
    refine lv_iconst (v := nI 1) hx hb dd_R_word_18 (by decide) ?_
    refine mr_lald C0 hM h_x (1) (rfl) (by omega) (by decide) dd_R_word_19 ?_
    refine lv_bipush (v := nI 32) hx hb dd_R_word_20 (by decide) ?_
    refine lv_lshl (v := lN (dg_ X 1 * 4294967296)) hx hb dd_R_word_22 (wb_shl _ (by decide)) ?_
    refine lv_aload_n hx hb dd_R_word_23 rfl (lv_at hl 0 rfl) ?_
    refine lv_iconst (v := nI 0) hx hb dd_R_word_24 (by decide) ?_
    refine mr_lald C0 hM h_x (0) (rfl) (by omega) (by decide) dd_R_word_25 ?_
    refine lv_lor hx hb dd_R_word_26 ?_
    refine mr_vl (x' := lN (X % 18446744073709551616)) ((g_or (k := 32) rfl (db_lt (by decide)) (hl_lt (db_lt (by decide)) (db_lt (by decide)))).trans (congrArg lN (w_lo X))) ?_
    exact mr_ret hQ (mr_lret C0 hM hS (⟨by simp [rw_, h1], rfl⟩) dd_R_word_27)
  · skip
    refine lv_aload_n hx hb dd_R_word_4 rfl (lv_at hl 0 rfl) ?_
    refine lv_iconst (v := nI 3) hx hb dd_R_word_5 (by decide) ?_
    refine mr_lald C0 hM h_x (3) (rfl) (by omega) (by decide) dd_R_word_6 ?_
    refine lv_bipush (v := nI 32) hx hb dd_R_word_7 (by decide) ?_
    refine lv_lshl (v := lN (dg_ X 3 * 4294967296)) hx hb dd_R_word_9 (wb_shl _ (by decide)) ?_
    refine lv_aload_n hx hb dd_R_word_10 rfl (lv_at hl 0 rfl) ?_
    refine lv_iconst (v := nI 2) hx hb dd_R_word_11 (by decide) ?_
    refine mr_lald C0 hM h_x (2) (rfl) (by omega) (by decide) dd_R_word_12 ?_
    refine lv_lor hx hb dd_R_word_13 ?_
    refine mr_vl (x' := lN (X / 18446744073709551616)) ((g_or (k := 32) rfl (db_lt (by decide)) (hl_lt (db_lt (by decide)) (db_lt (by decide)))).trans (congrArg lN (w_hi hX))) ?_
    refine lv_goto (tgt := 27) hx hb dd_R_word_14 rfl ?_
    exact mr_ret hQ (mr_lret C0 hM hS (⟨by simp [rw_, h1], rfl⟩) dd_R_word_27)

set_option maxHeartbeats 4000000 in
set_option maxRecDepth 100000 in
theorem c_R_same (l : Launch) {G : mg_} {M : mw_} {x y X Y : Nat} (h_x : M x = some (la_ G 4 (nl_ X))) (h_y : M y = some (la_ G 4 (nl_ Y)))  (hX : X < 4294967296 ^ 4) (hY : Y < 4294967296 ^ 4) : dt_ l my_R_same cd_R_same 3 (some .boolean) { frames := 0, cells := 0, slots := 0, locals := 0 } G [.ref x, .ref y] M (some (.int (nI (if X = Y then 1 else 0)))) (M) 0 0 := by
  refine ct_.intro2 (by decide) (Nat.le_of_ble_eq_true rfl) ?_
  intro p e s m args below meth c ls R Q hR hQ C0 hl hM hS
  have hx := C0.1
  have hb := C0.2.1
  have hl : lv_has ls 3 [(0, .ref x), (1, .ref y)] := hl
  refine lv_iconst (v := nI 0) hx hb dd_R_same_0 (by decide) ?_
  refine lv_istore_n (lv' := [(2, .int (nI 0)), (0, .ref x), (1, .ref y)]) hx hb dd_R_same_1 rfl hl (by decide) rfl (fun ls hl => ?_)
  have loop_2 : ∀ (k : Nat) (i : Nat) (H : Heap) (locs : List Loc) (ls : Array Slot), i + k = 4 → (∀ j, j < i → dg_ X j = dg_ Y j) → mm_ G (M) H → va_S (fz_ G) s.heap H locs → lv_has ls 3 [(0, .ref x), (1, .ref y), (2, .int (nI i))] → W p l e R s m args below meth c H locs 0 0 Q (F0 m 2 ls []) := by
    intro k
    induction k with
    | zero =>
      intro i H locs ls hi he hM hS hl
      refine lv_iload_n hx hb dd_R_same_2 rfl (lv_at hl 2 rfl) ?_
      refine lv_iconst (v := nI 4) hx hb dd_R_same_3 (by decide) ?_
      refine lv_icmp_ge (tgt := 25) hx hb dd_R_same_4 rfl (fun _ => ?_) (fun hc => absurd (le_nI (a := 4) (b := i) (by omega) (by omega) (by omega)) hc)
      refine lv_iconst (v := nI 1) hx hb dd_R_same_25 (by decide) ?_
      exact mr_ret hQ (mr_iret C0 hM hS (rfl) (⟨by rw [if_pos (eq4_ hX hY (fun j hj => he j (by omega)))], rfl⟩) dd_R_same_26)
    | succ k ih =>
      intro i H locs ls hi he hM hS hl
      refine lv_iload_n hx hb dd_R_same_2 rfl (lv_at hl 2 rfl) ?_
      refine lv_iconst (v := nI 4) hx hb dd_R_same_3 (by decide) ?_
      refine lv_icmp_ge (tgt := 25) hx hb dd_R_same_4 rfl (fun hc => absurd hc (nle_nI (a := 4) (b := i) (by omega) (by omega) (by omega))) (fun _ => ?_)
      refine lv_aload_n hx hb dd_R_same_7 rfl (lv_at hl 0 rfl) ?_
      refine lv_iload_n hx hb dd_R_same_8 rfl (lv_at hl 2 rfl) ?_
      refine mr_lald C0 hM h_x (i) (rfl) (by omega) (by decide) dd_R_same_9 ?_
      refine lv_aload_n hx hb dd_R_same_10 rfl (lv_at hl 1 rfl) ?_
      refine lv_iload_n hx hb dd_R_same_11 rfl (lv_at hl 2 rfl) ?_
      refine mr_lald C0 hM h_y (i) (rfl) (by omega) (by decide) dd_R_same_12 ?_
      refine mr_lif_eq (tgt := 19) hx hb dd_R_same_13 dd_R_same_14 rfl (fun h13 => ?_) (fun h13 => ?_)
      · skip
        refine lv_iinc (k := 2) (v := nI (i + 1)) (lv' := [(2, .int (nI (i + 1))), (0, .ref x), (1, .ref y)]) hx hb dd_R_same_19 hl rfl (inc_ i) (by decide) rfl (fun ls hl => ?_)
        refine lv_goto (tgt := 2) hx hb dd_R_same_22 rfl ?_
        exact ih (i + 1) _ _ _ (by omega) (fun j hj => by rcases (show j < i ∨ j = i by omega) with h | h; exact he j h; subst h; exact (lE_ dgl dgl).mp h13) hM hS (lv_sub hl [1, 2, 0] rfl)
      · skip
        refine lv_iconst (v := nI 0) hx hb dd_R_same_17 (by decide) ?_
        exact mr_ret hQ (mr_iret C0 hM hS (rfl) (⟨by rw [if_neg (fun q => h13 (by show lN (dg_ X i) = lN (dg_ Y i); rw [q]))], rfl⟩) dd_R_same_18)
  exact loop_2 4 0 _ _ _ (rfl) (fun j h => absurd h (Nat.not_lt_zero j)) hM hS (lv_sub hl [1, 2, 0] rfl)

set_option maxHeartbeats 4000000 in
set_option maxRecDepth 100000 in
theorem c_R_isBelowModulus (l : Launch) {G : mg_} {M : mw_} {r th td un mn mo mq tt dd bb rr : Nat} {ni : Int64} {U L N : Nat} (h_r : M r = some (ob_ 2 [.ref th, .ref td, .ref un, .ref mn, .ref mo, .ref mq, .ref tt, .ref dd, .ref bb, .ref rr, .long ni])) (h_mn : M mn = some (la_ G 4 (nl_ N)))  (hN : N < 4294967296 ^ 4) (hU : U < 18446744073709551616) (hL : L < 18446744073709551616) : dt_ l my_R_isBelowModulus cd_R_isBelowModulus 9 (some .boolean) { frames := 1, cells := 0, slots := 0, locals := 23 } G [.ref r, .long (lN U), .long (lN L)] M (some (.int (nI (if U * 18446744073709551616 + L < N then 1 else 0)))) (M) 0 0 := by
  refine ct_.intro2 (by decide) (Nat.le_of_ble_eq_true rfl) ?_
  intro p e s m args below meth c ls R Q hR hQ C0 hl hM hS
  have hx := C0.1
  have hb := C0.2.1
  have hl : lv_has ls 9 [(0, .ref r), (1, .long (lN U)), (3, .long (lN L))] := hl
  have hN1 : N / 18446744073709551616 < 18446744073709551616 := by rw [Nat.div_lt_iff_lt_mul (by decide)]; exact hN
  have hN0 : N % 18446744073709551616 < 18446744073709551616 := Nat.mod_lt _ (by decide)
  refine lv_aload_n hx hb dd_R_isBelowModulus_0 rfl (lv_at hl 0 rfl) ?_
  refine mr_get C0 hM fk_R_21 h_r (v := .ref mn) rfl dd_R_isBelowModulus_1 ?_
  refine lv_iconst (v := nI 1) hx hb dd_R_isBelowModulus_4 (by decide) ?_
  refine mr_callS (As := [.ref mn, .int (nI 1)]) (rest := []) C0 hM hS sk_R_64 (c_R_word l h_mn  hN (b := nI 1)) rfl rfl hl.1 (by decide) rfl rfl (by subst hR; exact ⟨Nat.le_of_ble_eq_true rfl, Nat.le_of_ble_eq_true rfl⟩) (by subst hR; exact ⟨Nat.le_of_ble_eq_true rfl, Nat.le_of_ble_eq_true rfl⟩) dd_R_isBelowModulus_5 (fun v1 M1 H locs hp hM hS => ?_)
  obtain ⟨ev1, eM1⟩ := hp
  subst ev1
  rw [eM1] at hM
  refine W.eq (g2 := F0 m 8 ls [.long (rw_ N (nI 1))]) rfl ?_
  refine mr_vl (x' := lN (N / 18446744073709551616)) (rfl) ?_
  refine lv_lstore (lv' := [(5, .long (lN (N / 18446744073709551616))), (0, .ref r), (1, .long (lN U)), (3, .long (lN L))]) hx hb dd_R_isBelowModulus_8 hl (by decide) rfl (fun ls hl => ?_)
  refine lv_aload_n hx hb dd_R_isBelowModulus_10 rfl (lv_at hl 1 rfl) ?_
  refine mr_get C0 hM fk_R_21 h_r (v := .ref mn) rfl dd_R_isBelowModulus_11 ?_
  refine lv_iconst (v := nI 0) hx hb dd_R_isBelowModulus_14 (by decide) ?_
  refine mr_callS (As := [.ref mn, .int (nI 0)]) (rest := []) C0 hM hS sk_R_64 (c_R_word l h_mn  hN (b := nI 0)) rfl rfl hl.1 (by decide) rfl rfl (by subst hR; exact ⟨Nat.le_of_ble_eq_true rfl, Nat.le_of_ble_eq_true rfl⟩) (by subst hR; exact ⟨Nat.le_of_ble_eq_true rfl, Nat.le_of_ble_eq_true rfl⟩) dd_R_isBelowModulus_15 (fun v1 M1 H locs hp hM hS => ?_)
  obtain ⟨ev1, eM1⟩ := hp
  subst ev1
  rw [eM1] at hM
  refine W.eq (g2 := F0 m 18 ls [.long (rw_ N (nI 0))]) rfl ?_
  refine mr_vl (x' := lN (N % 18446744073709551616)) (rfl) ?_
  refine lv_lstore (lv' := [(7, .long (lN (N % 18446744073709551616))), (5, .long (lN (N / 18446744073709551616))), (0, .ref r), (1, .long (lN U)), (3, .long (lN L))]) hx hb dd_R_isBelowModulus_18 hl (by decide) rfl (fun ls hl => ?_)
  refine lv_lload_n hx hb dd_R_isBelowModulus_20 rfl (lv_at hl 3 rfl) ?_
  refine lv_lload hx hb dd_R_isBelowModulus_21 (lv_at hl 1 rfl) ?_
  refine mr_lif_ne (tgt := 36) hx hb dd_R_isBelowModulus_23 dd_R_isBelowModulus_24 rfl (fun h23 => ?_) (fun h23 => ?_)
  · skip
    have hv : U ≠ N / 18446744073709551616 := fun q => h23 (congrArg lN q)
    refine lv_lload_n hx hb dd_R_isBelowModulus_36 rfl (lv_at hl 3 rfl) ?_
    refine lv_lload hx hb dd_R_isBelowModulus_37 (lv_at hl 1 rfl) ?_
    refine mr_callS (As := [.long (lN U), .long (lN (N / 18446744073709551616))]) (rest := []) C0 hM hS sk_R_68 (c_R_isBelow l hU hN1) rfl rfl hl.1 (by decide) rfl rfl (by subst hR; exact ⟨Nat.le_of_ble_eq_true rfl, Nat.le_of_ble_eq_true rfl⟩) (by subst hR; exact ⟨Nat.le_of_ble_eq_true rfl, Nat.le_of_ble_eq_true rfl⟩) dd_R_isBelowModulus_39 (fun v1 M1 H locs hp hM hS => ?_)
    obtain ⟨ev1, eM1⟩ := hp
    subst ev1
    rw [eM1] at hM
    refine W.eq (g2 := F0 m 42 ls [.int (nI (if U < N / 18446744073709551616 then 1 else 0))]) rfl ?_
    exact mr_ret hQ (mr_iret C0 hM hS (by split <;> rfl) (⟨by congr 3; exact ite_congr (propext (by omega)) (fun _ => rfl) (fun _ => rfl), rfl⟩) dd_R_isBelowModulus_42)
  · skip
    have hv : U = N / 18446744073709551616 := (lE_ hU hN1).mp h23
    refine lv_lload_n hx hb dd_R_isBelowModulus_27 rfl (lv_at hl 4 rfl) ?_
    refine lv_lload hx hb dd_R_isBelowModulus_28 (lv_at hl 0 rfl) ?_
    refine mr_callS (As := [.long (lN L), .long (lN (N % 18446744073709551616))]) (rest := []) C0 hM hS sk_R_68 (c_R_isBelow l hL hN0) rfl rfl hl.1 (by decide) rfl rfl (by subst hR; exact ⟨Nat.le_of_ble_eq_true rfl, Nat.le_of_ble_eq_true rfl⟩) (by subst hR; exact ⟨Nat.le_of_ble_eq_true rfl, Nat.le_of_ble_eq_true rfl⟩) dd_R_isBelowModulus_30 (fun v1 M1 H locs hp hM hS => ?_)
    obtain ⟨ev1, eM1⟩ := hp
    subst ev1
    rw [eM1] at hM
    refine W.eq (g2 := F0 m 33 ls [.int (nI (if L < N % 18446744073709551616 then 1 else 0))]) rfl ?_
    refine lv_goto (tgt := 42) hx hb dd_R_isBelowModulus_33 rfl ?_
    exact mr_ret hQ (mr_iret C0 hM hS (by split <;> rfl) (⟨by congr 3; exact ite_congr (propext (by omega)) (fun _ => rfl) (fun _ => rfl), rfl⟩) dd_R_isBelowModulus_42)

set_option maxHeartbeats 4000000 in
set_option maxRecDepth 100000 in
theorem c_R_accepts (l : Launch) {G : mg_} {M : mw_} {U L : Nat}   (hU : U < 18446744073709551616) (hL : L < 18446744073709551616) : dt_ l my_R_accepts cd_R_accepts 8 (some .boolean) { frames := 0, cells := 0, slots := 0, locals := 0 } G [.long (lN U), .long (lN L)] M (some (.int (acn_ (U * 18446744073709551616 + L)))) (M) 0 0 := by
  refine ct_.intro2 (by decide) (Nat.le_of_ble_eq_true rfl) ?_
  intro p e s m args below meth c ls R Q hR hQ C0 hl hM hS
  have hx := C0.1
  have hb := C0.2.1
  have hl : lv_has ls 8 [(0, .long (lN U)), (2, .long (lN L))] := hl
  refine lv_lload_n hx hb dd_R_accepts_0 rfl (lv_at hl 1 rfl) ?_
  refine lv_lconst (v := lN 1) hx hb dd_R_accepts_1 rfl ?_
  refine lv_land hx hb dd_R_accepts_2 ?_
  refine mr_vl (x' := lN (L % 2)) (wb_a1 hL) ?_
  refine lv_lconst (v := lN 0) hx hb dd_R_accepts_3 rfl ?_
  refine mr_lif_eq (tgt := 12) hx hb dd_R_accepts_4 dd_R_accepts_5 rfl (fun h4 => ?_) (fun h4 => ?_)
  · skip
    have ho : L % 2 = 0 := (lE_ (by omega) (by decide)).mp h4
    refine lv_iconst (v := nI 0) hx hb dd_R_accepts_12 (by decide) ?_
    refine lv_istore (lv' := [(4, .int (nI 0)), (0, .long (lN U)), (2, .long (lN L))]) hx hb dd_R_accepts_13 hl (by decide) rfl (fun ls hl => ?_)
    refine lv_lload_n hx hb dd_R_accepts_15 rfl (lv_at hl 1 rfl) ?_
    refine lv_bipush (v := nI 36) hx hb dd_R_accepts_16 (by decide) ?_
    refine lv_lushr (v := lN (U / 68719476736)) hx hb dd_R_accepts_18 (wb_shr (k := 36) hU (by decide)) ?_
    refine lv_lconst (v := lN 0) hx hb dd_R_accepts_19 rfl ?_
    refine mr_lif_eq (tgt := 28) hx hb dd_R_accepts_20 dd_R_accepts_21 rfl (fun h20 => ?_) (fun h20 => ?_)
    · skip
      have hg : U / 68719476736 = 0 := (lE_ (by omega) (by decide)).mp h20
      refine lv_iconst (v := nI 0) hx hb dd_R_accepts_28 (by decide) ?_
      refine lv_istore (lv' := [(5, .int (nI 0)), (4, .int (nI 0)), (0, .long (lN U)), (2, .long (lN L))]) hx hb dd_R_accepts_29 hl (by decide) rfl (fun ls hl => ?_)
      refine lv_lload_n hx hb dd_R_accepts_31 rfl (lv_at hl 2 rfl) ?_
      refine lv_bipush (v := nI 32) hx hb dd_R_accepts_32 (by decide) ?_
      refine lv_lushr (v := lN (U / 4294967296)) hx hb dd_R_accepts_34 (lh_ hU) ?_
      refine lv_lload_n hx hb dd_R_accepts_35 rfl (lv_at hl 2 rfl) ?_
      refine mr_ldc2 (v := lN 4294967295) C0 tw_163 dd_R_accepts_36 ?_
      refine lv_land hx hb dd_R_accepts_39 ?_
      refine mr_vl (x' := lN (U % 4294967296)) (lm_ hU) ?_
      refine lv_ladd hx hb dd_R_accepts_40 ?_
      refine mr_vl (x' := lN (U / 4294967296 + U % 4294967296)) (lN_add _ _) ?_
      refine lv_lload_n hx hb dd_R_accepts_41 rfl (lv_at hl 3 rfl) ?_
      refine lv_bipush (v := nI 32) hx hb dd_R_accepts_42 (by decide) ?_
      refine lv_lushr (v := lN (L / 4294967296)) hx hb dd_R_accepts_44 (lh_ hL) ?_
      refine lv_ladd hx hb dd_R_accepts_45 ?_
      refine mr_vl (x' := lN (U / 4294967296 + U % 4294967296 + L / 4294967296)) (lN_add _ _) ?_
      refine lv_lload_n hx hb dd_R_accepts_46 rfl (lv_at hl 3 rfl) ?_
      refine mr_ldc2 (v := lN 4294967295) C0 tw_163 dd_R_accepts_47 ?_
      refine lv_land hx hb dd_R_accepts_50 ?_
      refine mr_vl (x' := lN (L % 4294967296)) (lm_ hL) ?_
      refine lv_ladd hx hb dd_R_accepts_51 ?_
      refine mr_vl (x' := lN (U / 4294967296 + U % 4294967296 + L / 4294967296 + L % 4294967296)) (lN_add _ _) ?_
      refine lv_lstore (lv' := [(6, .long (lN (U / 4294967296 + U % 4294967296 + L / 4294967296 + L % 4294967296))), (5, .int (nI 0)), (4, .int (nI 0)), (0, .long (lN U)), (2, .long (lN L))]) hx hb dd_R_accepts_52 hl (by decide) rfl (fun ls hl => ?_)
      refine lv_iload hx hb dd_R_accepts_54 (lv_at hl 2 rfl) ?_
      refine lv_if_eq (tgt := 79) hx hb dd_R_accepts_56 rfl (fun _ => ?_) (fun hc => absurd (by decide) hc)
      refine lv_iconst (v := nI 0) hx hb dd_R_accepts_79 (by decide) ?_
      exact mr_ret hQ (mr_iret C0 hM hS (rfl) (⟨by rw [acn_n (by unfold acc_; omega)], rfl⟩) dd_R_accepts_80)
    · skip
      have hg : U / 68719476736 ≠ 0 := fun q => h20 (congrArg lN q)
      refine lv_iconst (v := nI 1) hx hb dd_R_accepts_24 (by decide) ?_
      refine lv_goto (tgt := 29) hx hb dd_R_accepts_25 rfl ?_
      refine lv_istore (lv' := [(5, .int (nI 1)), (4, .int (nI 0)), (0, .long (lN U)), (2, .long (lN L))]) hx hb dd_R_accepts_29 hl (by decide) rfl (fun ls hl => ?_)
      refine lv_lload_n hx hb dd_R_accepts_31 rfl (lv_at hl 2 rfl) ?_
      refine lv_bipush (v := nI 32) hx hb dd_R_accepts_32 (by decide) ?_
      refine lv_lushr (v := lN (U / 4294967296)) hx hb dd_R_accepts_34 (lh_ hU) ?_
      refine lv_lload_n hx hb dd_R_accepts_35 rfl (lv_at hl 2 rfl) ?_
      refine mr_ldc2 (v := lN 4294967295) C0 tw_163 dd_R_accepts_36 ?_
      refine lv_land hx hb dd_R_accepts_39 ?_
      refine mr_vl (x' := lN (U % 4294967296)) (lm_ hU) ?_
      refine lv_ladd hx hb dd_R_accepts_40 ?_
      refine mr_vl (x' := lN (U / 4294967296 + U % 4294967296)) (lN_add _ _) ?_
      refine lv_lload_n hx hb dd_R_accepts_41 rfl (lv_at hl 3 rfl) ?_
      refine lv_bipush (v := nI 32) hx hb dd_R_accepts_42 (by decide) ?_
      refine lv_lushr (v := lN (L / 4294967296)) hx hb dd_R_accepts_44 (lh_ hL) ?_
      refine lv_ladd hx hb dd_R_accepts_45 ?_
      refine mr_vl (x' := lN (U / 4294967296 + U % 4294967296 + L / 4294967296)) (lN_add _ _) ?_
      refine lv_lload_n hx hb dd_R_accepts_46 rfl (lv_at hl 3 rfl) ?_
      refine mr_ldc2 (v := lN 4294967295) C0 tw_163 dd_R_accepts_47 ?_
      refine lv_land hx hb dd_R_accepts_50 ?_
      refine mr_vl (x' := lN (L % 4294967296)) (lm_ hL) ?_
      refine lv_ladd hx hb dd_R_accepts_51 ?_
      refine mr_vl (x' := lN (U / 4294967296 + U % 4294967296 + L / 4294967296 + L % 4294967296)) (lN_add _ _) ?_
      refine lv_lstore (lv' := [(6, .long (lN (U / 4294967296 + U % 4294967296 + L / 4294967296 + L % 4294967296))), (5, .int (nI 1)), (4, .int (nI 0)), (0, .long (lN U)), (2, .long (lN L))]) hx hb dd_R_accepts_52 hl (by decide) rfl (fun ls hl => ?_)
      refine lv_iload hx hb dd_R_accepts_54 (lv_at hl 2 rfl) ?_
      refine lv_if_eq (tgt := 79) hx hb dd_R_accepts_56 rfl (fun _ => ?_) (fun hc => absurd (by decide) hc)
      refine lv_iconst (v := nI 0) hx hb dd_R_accepts_79 (by decide) ?_
      exact mr_ret hQ (mr_iret C0 hM hS (rfl) (⟨by rw [acn_n (by unfold acc_; omega)], rfl⟩) dd_R_accepts_80)
  · skip
    have ho : L % 2 ≠ 0 := fun q => h4 (congrArg lN q)
    refine lv_iconst (v := nI 1) hx hb dd_R_accepts_8 (by decide) ?_
    refine lv_goto (tgt := 13) hx hb dd_R_accepts_9 rfl ?_
    refine lv_istore (lv' := [(4, .int (nI 1)), (0, .long (lN U)), (2, .long (lN L))]) hx hb dd_R_accepts_13 hl (by decide) rfl (fun ls hl => ?_)
    refine lv_lload_n hx hb dd_R_accepts_15 rfl (lv_at hl 1 rfl) ?_
    refine lv_bipush (v := nI 36) hx hb dd_R_accepts_16 (by decide) ?_
    refine lv_lushr (v := lN (U / 68719476736)) hx hb dd_R_accepts_18 (wb_shr (k := 36) hU (by decide)) ?_
    refine lv_lconst (v := lN 0) hx hb dd_R_accepts_19 rfl ?_
    refine mr_lif_eq (tgt := 28) hx hb dd_R_accepts_20 dd_R_accepts_21 rfl (fun h20 => ?_) (fun h20 => ?_)
    · skip
      have hg : U / 68719476736 = 0 := (lE_ (by omega) (by decide)).mp h20
      refine lv_iconst (v := nI 0) hx hb dd_R_accepts_28 (by decide) ?_
      refine lv_istore (lv' := [(5, .int (nI 0)), (4, .int (nI 1)), (0, .long (lN U)), (2, .long (lN L))]) hx hb dd_R_accepts_29 hl (by decide) rfl (fun ls hl => ?_)
      refine lv_lload_n hx hb dd_R_accepts_31 rfl (lv_at hl 2 rfl) ?_
      refine lv_bipush (v := nI 32) hx hb dd_R_accepts_32 (by decide) ?_
      refine lv_lushr (v := lN (U / 4294967296)) hx hb dd_R_accepts_34 (lh_ hU) ?_
      refine lv_lload_n hx hb dd_R_accepts_35 rfl (lv_at hl 2 rfl) ?_
      refine mr_ldc2 (v := lN 4294967295) C0 tw_163 dd_R_accepts_36 ?_
      refine lv_land hx hb dd_R_accepts_39 ?_
      refine mr_vl (x' := lN (U % 4294967296)) (lm_ hU) ?_
      refine lv_ladd hx hb dd_R_accepts_40 ?_
      refine mr_vl (x' := lN (U / 4294967296 + U % 4294967296)) (lN_add _ _) ?_
      refine lv_lload_n hx hb dd_R_accepts_41 rfl (lv_at hl 3 rfl) ?_
      refine lv_bipush (v := nI 32) hx hb dd_R_accepts_42 (by decide) ?_
      refine lv_lushr (v := lN (L / 4294967296)) hx hb dd_R_accepts_44 (lh_ hL) ?_
      refine lv_ladd hx hb dd_R_accepts_45 ?_
      refine mr_vl (x' := lN (U / 4294967296 + U % 4294967296 + L / 4294967296)) (lN_add _ _) ?_
      refine lv_lload_n hx hb dd_R_accepts_46 rfl (lv_at hl 3 rfl) ?_
      refine mr_ldc2 (v := lN 4294967295) C0 tw_163 dd_R_accepts_47 ?_
      refine lv_land hx hb dd_R_accepts_50 ?_
      refine mr_vl (x' := lN (L % 4294967296)) (lm_ hL) ?_
      refine lv_ladd hx hb dd_R_accepts_51 ?_
      refine mr_vl (x' := lN (U / 4294967296 + U % 4294967296 + L / 4294967296 + L % 4294967296)) (lN_add _ _) ?_
      refine lv_lstore (lv' := [(6, .long (lN (U / 4294967296 + U % 4294967296 + L / 4294967296 + L % 4294967296))), (5, .int (nI 0)), (4, .int (nI 1)), (0, .long (lN U)), (2, .long (lN L))]) hx hb dd_R_accepts_52 hl (by decide) rfl (fun ls hl => ?_)
      refine lv_iload hx hb dd_R_accepts_54 (lv_at hl 2 rfl) ?_
      refine lv_if_eq (tgt := 79) hx hb dd_R_accepts_56 rfl (fun hc => absurd hc (by decide)) (fun _ => ?_)
      refine lv_iload hx hb dd_R_accepts_59 (lv_at hl 1 rfl) ?_
      refine lv_if_eq (tgt := 79) hx hb dd_R_accepts_61 rfl (fun _ => ?_) (fun hc => absurd (by decide) hc)
      refine lv_iconst (v := nI 0) hx hb dd_R_accepts_79 (by decide) ?_
      exact mr_ret hQ (mr_iret C0 hM hS (rfl) (⟨by rw [acn_n (by unfold acc_; omega)], rfl⟩) dd_R_accepts_80)
    · skip
      have hg : U / 68719476736 ≠ 0 := fun q => h20 (congrArg lN q)
      refine lv_iconst (v := nI 1) hx hb dd_R_accepts_24 (by decide) ?_
      refine lv_goto (tgt := 29) hx hb dd_R_accepts_25 rfl ?_
      refine lv_istore (lv' := [(5, .int (nI 1)), (4, .int (nI 1)), (0, .long (lN U)), (2, .long (lN L))]) hx hb dd_R_accepts_29 hl (by decide) rfl (fun ls hl => ?_)
      refine lv_lload_n hx hb dd_R_accepts_31 rfl (lv_at hl 2 rfl) ?_
      refine lv_bipush (v := nI 32) hx hb dd_R_accepts_32 (by decide) ?_
      refine lv_lushr (v := lN (U / 4294967296)) hx hb dd_R_accepts_34 (lh_ hU) ?_
      refine lv_lload_n hx hb dd_R_accepts_35 rfl (lv_at hl 2 rfl) ?_
      refine mr_ldc2 (v := lN 4294967295) C0 tw_163 dd_R_accepts_36 ?_
      refine lv_land hx hb dd_R_accepts_39 ?_
      refine mr_vl (x' := lN (U % 4294967296)) (lm_ hU) ?_
      refine lv_ladd hx hb dd_R_accepts_40 ?_
      refine mr_vl (x' := lN (U / 4294967296 + U % 4294967296)) (lN_add _ _) ?_
      refine lv_lload_n hx hb dd_R_accepts_41 rfl (lv_at hl 3 rfl) ?_
      refine lv_bipush (v := nI 32) hx hb dd_R_accepts_42 (by decide) ?_
      refine lv_lushr (v := lN (L / 4294967296)) hx hb dd_R_accepts_44 (lh_ hL) ?_
      refine lv_ladd hx hb dd_R_accepts_45 ?_
      refine mr_vl (x' := lN (U / 4294967296 + U % 4294967296 + L / 4294967296)) (lN_add _ _) ?_
      refine lv_lload_n hx hb dd_R_accepts_46 rfl (lv_at hl 3 rfl) ?_
      refine mr_ldc2 (v := lN 4294967295) C0 tw_163 dd_R_accepts_47 ?_
      refine lv_land hx hb dd_R_accepts_50 ?_
      refine mr_vl (x' := lN (L % 4294967296)) (lm_ hL) ?_
      refine lv_ladd hx hb dd_R_accepts_51 ?_
      refine mr_vl (x' := lN (U / 4294967296 + U % 4294967296 + L / 4294967296 + L % 4294967296)) (lN_add _ _) ?_
      refine lv_lstore (lv' := [(6, .long (lN (U / 4294967296 + U % 4294967296 + L / 4294967296 + L % 4294967296))), (5, .int (nI 1)), (4, .int (nI 1)), (0, .long (lN U)), (2, .long (lN L))]) hx hb dd_R_accepts_52 hl (by decide) rfl (fun ls hl => ?_)
      refine lv_iload hx hb dd_R_accepts_54 (lv_at hl 2 rfl) ?_
      refine lv_if_eq (tgt := 79) hx hb dd_R_accepts_56 rfl (fun hc => absurd hc (by decide)) (fun _ => ?_)
      refine lv_iload hx hb dd_R_accepts_59 (lv_at hl 1 rfl) ?_
      refine lv_if_eq (tgt := 79) hx hb dd_R_accepts_61 rfl (fun hc => absurd hc (by decide)) (fun _ => ?_)
      refine lv_lload hx hb dd_R_accepts_64 (lv_at hl 0 rfl) ?_
      refine mr_ldc2 (v := lN 3) C0 tw_35 dd_R_accepts_66 ?_
      refine lv_lrem hx hb dd_R_accepts_69 (by decide) ?_
      refine mr_vl (x' := lN ((U / 4294967296 + U % 4294967296 + L / 4294967296 + L % 4294967296) % 3)) (pk_lRem (by omega) (by decide) (by decide)) ?_
      refine lv_lconst (v := lN 0) hx hb dd_R_accepts_70 rfl ?_
      refine mr_lif_eq (tgt := 79) hx hb dd_R_accepts_71 dd_R_accepts_72 rfl (fun h71 => ?_) (fun h71 => ?_)
      · skip
        have h3 : (U / 4294967296 + U % 4294967296 + L / 4294967296 + L % 4294967296) % 3 = 0 := (lE_ (by omega) (by decide)).mp h71
        refine lv_iconst (v := nI 0) hx hb dd_R_accepts_79 (by decide) ?_
        exact mr_ret hQ (mr_iret C0 hM hS (rfl) (⟨by rw [acn_n (by unfold acc_; omega)], rfl⟩) dd_R_accepts_80)
      · skip
        have h3 : (U / 4294967296 + U % 4294967296 + L / 4294967296 + L % 4294967296) % 3 ≠ 0 := fun q => h71 (congrArg lN q)
        refine lv_iconst (v := nI 1) hx hb dd_R_accepts_75 (by decide) ?_
        refine lv_goto (tgt := 80) hx hb dd_R_accepts_76 rfl ?_
        exact mr_ret hQ (mr_iret C0 hM hS (rfl) (⟨by rw [acn_y (by unfold acc_; omega)], rfl⟩) dd_R_accepts_80)
