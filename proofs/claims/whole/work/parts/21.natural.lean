
theorem ln0_ {d : Nat} (h0 : 0 < d) (h : d < 2147483648) : ¬ lN d = 0 := fun q => absurd ((pk_lEQ (a := d) (b := 0) (by omega) (by omega)).mp q) (by omega)
theorem cm_le {b : Nat} (hb : 0 < b) (V x i : Nat) : cm_ b V x i ≤ x := by
  rw [cm_]
  apply Nat.div_le_of_le_mul
  exact Nat.mul_le_mul_right x (Nat.le_of_lt (Nat.mod_lt _ (Nat.pow_pos hb)))
/-- limbs of W below i, of V from i on -/
def nf_ (V W i : Nat) : Nat → Int64 := fun j => if j < i then lN (dg_ W j) else lN (dg_ V j)
theorem nf_0 (V W : Nat) : nl_ V = nf_ V W 0 := by funext j; simp [nl_, nf_]
theorem nf_s (V W i : Nat) : vp_updL (nf_ V W i) i (lN (dg_ W i)) = nf_ V W (i + 1) := by
  funext j
  by_cases h : j = i
  · subst h; simp [vp_updL, nf_]
  · by_cases h2 : j < i
    · simp [vp_updL, nf_, h, h2, Nat.lt_succ_of_lt h2]
    · simp [vp_updL, nf_, h, h2, show ¬ j < i + 1 by omega]
theorem nf_d (V W i : Nat) : vp_updL (nf_ V W (i + 1)) i (lN (dg_ V i)) = nf_ V W i := by
  funext j
  by_cases h : j = i
  · subst h; simp [vp_updL, nf_]
  · by_cases h2 : j < i
    · simp [vp_updL, nf_, h, h2, Nat.lt_succ_of_lt h2]
    · simp [vp_updL, nf_, h, h2, show ¬ j < i + 1 by omega]
theorem nf_at (V W i : Nat) : nf_ V W i i = lN (dg_ V i) := by simp [nf_]
theorem nf_b {V W i j : Nat} (h : j < i) : nf_ V W i j = lN (dg_ W j) := by simp [nf_, h]
theorem nf_a {V W i j : Nat} (h : ¬ j < i) : nf_ V W i j = lN (dg_ V j) := by simp [nf_, h]
theorem bit_dg (V pl : Nat) : dg_ V (pl / 32) / 2 ^ (pl % 32) % 2 = V / 2 ^ pl % 2 := by
  have e1 : (4294967296 : Nat) ^ (pl / 32) = 2 ^ (32 * (pl / 32)) := by rw [Nat.pow_mul]
  have h := Nat.testBit_mod_two_pow (V / 2 ^ (32 * (pl / 32))) 32 (pl % 32)
  rw [show decide (pl % 32 < 32) = true from decide_eq_true (Nat.mod_lt _ (by decide)), Bool.true_and] at h
  have h2 := congrArg Bool.toNat h
  rw [Nat.toNat_testBit, Nat.toNat_testBit, Nat.div_div_eq_div_mul, ← Nat.pow_add, Nat.div_add_mod] at h2
  show V / 4294967296 ^ (pl / 32) % 4294967296 / 2 ^ (pl % 32) % 2 = _
  rw [e1]
  exact h2
def hb_ (V : Nat) : Int32 := if V = 0 then (-1) else nI (Nat.log2 V)
theorem hb_0 : hb_ 0 = (-1) := rfl
theorem hb_n {V k : Nat} (h1 : V < 2 ^ (k + 1)) (h2 : V / 2 ^ k % 2 ≠ 0) : nI k = hb_ V := by
  have h3 : 2 ^ k ≤ V := by
    apply Nat.le_of_not_lt
    intro h
    rw [Nat.div_eq_of_lt h] at h2
    exact h2 rfl
  have h0 : V ≠ 0 := by
    have := Nat.pow_pos (n := k) (show 0 < 2 by decide)
    omega
  rw [hb_, if_neg h0, (Nat.log2_eq_iff h0).mpr ⟨h3, h1⟩]
theorem hb_s {V k : Nat} (h1 : V < 2 ^ (k + 1)) (h2 : V / 2 ^ k % 2 = 0) : V < 2 ^ k := by
  apply Nat.lt_of_not_le
  intro h
  have h3 : V / 2 ^ k < 2 := by rw [Nat.div_lt_iff_lt_mul (Nat.pow_pos (by decide)), Nat.mul_comm, ← Nat.pow_succ]; exact h1
  have h4 : 1 ≤ V / 2 ^ k := (Nat.le_div_iff_mul_le (Nat.pow_pos (by decide))).mpr (by rw [Nat.one_mul]; exact h)
  omega
theorem dg_small {v j : Nat} (h : v < 4294967296) : dg_ v j = if j = 0 then v else 0 := by
  by_cases hj : j = 0
  · subst hj; simp [db_, Nat.mod_eq_of_lt h]
  · rw [if_neg hj]
    exact db_big (n := 1) (by decide) (by omega) (by omega)

set_option maxHeartbeats 4000000 in
set_option maxRecDepth 100000 in
theorem c_A_fill_aJJ (l : Launch) {G : mg_} {M : mw_} {A n : Nat} {f : Nat → Int64} {x : Int64} (h_A : M A = some (la_ G n f))  (hn : n < 2147483648) : dt_ l my_A_fill_aJJ cd_A_fill_aJJ 5 none { frames := 0, cells := 0, slots := 0, locals := 0 } G [.ref A, .long x] M none (mu_ M A (la_ G n (fun _ => x))) 0 0 := by
  refine ct_.intro2 (by decide) (Nat.le_of_ble_eq_true rfl) ?_
  intro p e s m args below meth c ls R Q hR hQ C0 hl hM hS
  have hx := C0.1
  have hb := C0.2.1
  have hl : lv_has ls 5 [(0, .ref A), (1, .long x)] := hl
  refine lv_iconst (v := nI 0) hx hb dd_A_fill_aJJ_0 (by decide) ?_
  refine lv_istore_n (lv' := [(3, .int (nI 0)), (0, .ref A), (1, .long x)]) hx hb dd_A_fill_aJJ_1 rfl hl (by decide) rfl (fun ls hl => ?_)
  refine lv_aload_n hx hb dd_A_fill_aJJ_2 rfl (lv_at hl 1 rfl) ?_
  refine mr_alen C0 hM 1 h_A rfl (n := n) rfl dd_A_fill_aJJ_3 ?_
  refine lv_istore (lv' := [(4, .int (nI n)), (3, .int (nI 0)), (0, .ref A), (1, .long x)]) hx hb dd_A_fill_aJJ_4 hl (by decide) rfl (fun ls hl => ?_)
  have loop_6 : ∀ (k : Nat) (i : Nat) (H : Heap) (locs : List Loc) (ls : Array Slot), i + k = n → mm_ G (mu_ M A (la_ G n (fun j => if j < i then x else f j))) H → va_S (fz_ G) s.heap H locs → lv_has ls 5 [(0, .ref A), (1, .long x), (3, .int (nI i)), (4, .int (nI n))] → W p l e R s m args below meth c H locs 0 0 Q (F0 m 6 ls []) := by
    intro k
    induction k with
    | zero =>
      intro i H locs ls hi hM hS hl
      refine lv_iload_n hx hb dd_A_fill_aJJ_6 rfl (lv_at hl 2 rfl) ?_
      refine lv_iload hx hb dd_A_fill_aJJ_7 (lv_at hl 3 rfl) ?_
      refine lv_icmp_ge (tgt := 22) hx hb dd_A_fill_aJJ_9 rfl (fun _ => ?_) (fun hc => absurd (le_nI (a := n) (b := i) (by omega) (by omega) (by omega)) hc)
      have hM := mr_lext (g := fun _ => x) (fun j hj => if_pos (show j < i by omega)) hM
      exact mr_ret hQ (mr_vret C0 hM hS (⟨rfl, rfl⟩) dd_A_fill_aJJ_22)
    | succ k ih =>
      intro i H locs ls hi hM hS hl
      refine lv_iload_n hx hb dd_A_fill_aJJ_6 rfl (lv_at hl 2 rfl) ?_
      refine lv_iload hx hb dd_A_fill_aJJ_7 (lv_at hl 3 rfl) ?_
      refine lv_icmp_ge (tgt := 22) hx hb dd_A_fill_aJJ_9 rfl (fun hc => absurd hc (nle_nI (a := n) (b := i) (by omega) (by omega) (by omega))) (fun _ => ?_)
      refine lv_aload_n hx hb dd_A_fill_aJJ_12 rfl (lv_at hl 0 rfl) ?_
      refine lv_iload_n hx hb dd_A_fill_aJJ_13 rfl (lv_at hl 2 rfl) ?_
      refine lv_lload_n hx hb dd_A_fill_aJJ_14 rfl (lv_at hl 1 rfl) ?_
      refine mr_last C0 hM hS mu_s (i) (rfl) (by omega) hn dd_A_fill_aJJ_15 (fun H locs hM hS => ?_)
      have hM := mr_M mu_mu hM
      have hM := mr_M (congrArg (fun z__ => mu_ M A (la_ G n z__)) (show (vp_updL (fun j => if j < i then x else f j) i x : Nat → Int64) = (fun j => if j < i + 1 then x else f j) from by funext j; simp only [vp_updL]; by_cases h1 : j = i <;> by_cases h2 : j < i <;> simp [h1, h2] <;> first | omega | (intro; omega) | (rw [if_neg (by omega)]) | skip)) hM
      have hM : mm_ G (mu_ M A (la_ G n (fun j => if j < i + 1 then x else f j))) H := hM
      refine lv_iinc (k := 2) (v := nI (i + 1)) (lv' := [(3, .int (nI (i + 1))), (0, .ref A), (1, .long x), (4, .int (nI n))]) hx hb dd_A_fill_aJJ_16 hl rfl (inc_ i) (by decide) rfl (fun ls hl => ?_)
      refine lv_goto (tgt := 6) hx hb dd_A_fill_aJJ_19 rfl ?_
      exact ih _ _ _ _ (by omega) hM hS (lv_sub hl [1, 2, 0, 3] rfl)
  have hM := mr_M (mu_id h_A).symm hM
  have hM := mr_lext (g := fun j => if j < 0 then x else f j) (fun j _ => by simp) hM
  exact loop_6 n 0 _ _ _ (by omega) hM hS (lv_sub hl [2, 3, 1, 0] rfl)

set_option maxHeartbeats 4000000 in
set_option maxRecDepth 100000 in
theorem c_A_fill_aII (l : Launch) {G : mg_} {M : mw_} {A n : Nat} {f : Nat → Int32} {x : Int32} (h_A : M A = some (ia_ G n f))  (hn : n < 2147483648) : dt_ l my_A_fill_aII cd_A_fill_aII 4 none { frames := 0, cells := 0, slots := 0, locals := 0 } G [.ref A, .int x] M none (mu_ M A (ia_ G n (fun _ => x))) 0 0 := by
  refine ct_.intro2 (by decide) (Nat.le_of_ble_eq_true rfl) ?_
  intro p e s m args below meth c ls R Q hR hQ C0 hl hM hS
  have hx := C0.1
  have hb := C0.2.1
  have hl : lv_has ls 4 [(0, .ref A), (1, .int x)] := hl
  refine lv_iconst (v := nI 0) hx hb dd_A_fill_aII_0 (by decide) ?_
  refine lv_istore_n (lv' := [(2, .int (nI 0)), (0, .ref A), (1, .int x)]) hx hb dd_A_fill_aII_1 rfl hl (by decide) rfl (fun ls hl => ?_)
  refine lv_aload_n hx hb dd_A_fill_aII_2 rfl (lv_at hl 1 rfl) ?_
  refine mr_alen C0 hM 0 h_A rfl (n := n) rfl dd_A_fill_aII_3 ?_
  refine lv_istore_n (lv' := [(3, .int (nI n)), (2, .int (nI 0)), (0, .ref A), (1, .int x)]) hx hb dd_A_fill_aII_4 rfl hl (by decide) rfl (fun ls hl => ?_)
  have loop_5 : ∀ (k : Nat) (i : Nat) (H : Heap) (locs : List Loc) (ls : Array Slot), i + k = n → mm_ G (mu_ M A (ia_ G n (fun j => if j < i then x else f j))) H → va_S (fz_ G) s.heap H locs → lv_has ls 4 [(0, .ref A), (1, .int x), (2, .int (nI i)), (3, .int (nI n))] → W p l e R s m args below meth c H locs 0 0 Q (F0 m 5 ls []) := by
    intro k
    induction k with
    | zero =>
      intro i H locs ls hi hM hS hl
      refine lv_iload_n hx hb dd_A_fill_aII_5 rfl (lv_at hl 2 rfl) ?_
      refine lv_iload_n hx hb dd_A_fill_aII_6 rfl (lv_at hl 3 rfl) ?_
      refine lv_icmp_ge (tgt := 20) hx hb dd_A_fill_aII_7 rfl (fun _ => ?_) (fun hc => absurd (le_nI (a := n) (b := i) (by omega) (by omega) (by omega)) hc)
      have hM := mr_iext (g := fun _ => x) (fun j hj => if_pos (show j < i by omega)) hM
      exact mr_ret hQ (mr_vret C0 hM hS (⟨rfl, rfl⟩) dd_A_fill_aII_20)
    | succ k ih =>
      intro i H locs ls hi hM hS hl
      refine lv_iload_n hx hb dd_A_fill_aII_5 rfl (lv_at hl 2 rfl) ?_
      refine lv_iload_n hx hb dd_A_fill_aII_6 rfl (lv_at hl 3 rfl) ?_
      refine lv_icmp_ge (tgt := 20) hx hb dd_A_fill_aII_7 rfl (fun hc => absurd hc (nle_nI (a := n) (b := i) (by omega) (by omega) (by omega))) (fun _ => ?_)
      refine lv_aload_n hx hb dd_A_fill_aII_10 rfl (lv_at hl 0 rfl) ?_
      refine lv_iload_n hx hb dd_A_fill_aII_11 rfl (lv_at hl 2 rfl) ?_
      refine lv_iload_n hx hb dd_A_fill_aII_12 rfl (lv_at hl 1 rfl) ?_
      refine mr_iast C0 hM hS mu_s (i) (rfl) (by omega) hn dd_A_fill_aII_13 (fun H locs hM hS => ?_)
      have hM := mr_M mu_mu hM
      have hM := mr_M (congrArg (fun z__ => mu_ M A (ia_ G n z__)) (show (upd (fun j => if j < i then x else f j) i x : Nat → Int32) = (fun j => if j < i + 1 then x else f j) from by funext j; simp only [upd]; by_cases h1 : j = i <;> by_cases h2 : j < i <;> simp [h1, h2] <;> first | omega | (intro; omega) | (rw [if_neg (by omega)]) | skip)) hM
      have hM : mm_ G (mu_ M A (ia_ G n (fun j => if j < i + 1 then x else f j))) H := hM
      refine lv_iinc (k := 2) (v := nI (i + 1)) (lv' := [(2, .int (nI (i + 1))), (0, .ref A), (1, .int x), (3, .int (nI n))]) hx hb dd_A_fill_aII_14 hl rfl (inc_ i) (by decide) rfl (fun ls hl => ?_)
      refine lv_goto (tgt := 5) hx hb dd_A_fill_aII_17 rfl ?_
      exact ih _ _ _ _ (by omega) hM hS (lv_sub hl [1, 2, 0, 3] rfl)
  have hM := mr_M (mu_id h_A).symm hM
  have hM := mr_iext (g := fun j => if j < 0 then x else f j) (fun j _ => by simp) hM
  exact loop_5 n 0 _ _ _ (by omega) hM hS (lv_sub hl [2, 3, 1, 0] rfl)

set_option maxHeartbeats 4000000 in
set_option maxRecDepth 100000 in
theorem c_N_become (l : Launch) {G : mg_} {M : mw_} {o A v V : Nat} (h_o : M o = some (ob_ 1 [.ref A])) (h_A : M A = some (la_ G 11 (nl_ V)))  (hv : v < 2147483648) : dt_ l my_N_become cd_N_become 2 none { frames := 1, cells := 0, slots := 0, locals := 24 } G [.ref o, .int (nI v)] M none (mu_ M A (la_ G 11 (nl_ v))) 0 0 := by
  refine ct_.intro2 (by decide) (Nat.le_of_ble_eq_true rfl) ?_
  intro p e s m args below meth c ls R Q hR hQ C0 hl hM hS
  have hx := C0.1
  have hb := C0.2.1
  have hl : lv_has ls 2 [(0, .ref o), (1, .int (nI v))] := hl
  refine lv_aload_n hx hb dd_N_become_0 rfl (lv_at hl 0 rfl) ?_
  refine mr_get C0 hM fk_N_9 h_o (v := .ref A) rfl dd_N_become_1 ?_
  refine lv_lconst (v := lN 0) hx hb dd_N_become_4 rfl ?_
  refine mr_callS (As := [.ref A, .long (lN 0)]) (rest := []) C0 hM hS sk_N_13 (c_A_fill_aJJ l h_A (by decide)) rfl rfl hl.1 (by decide) rfl rfl (by subst hR; exact ⟨Nat.le_of_ble_eq_true rfl, Nat.le_of_ble_eq_true rfl⟩) (by subst hR; exact ⟨Nat.le_of_ble_eq_true rfl, Nat.le_of_ble_eq_true rfl⟩) dd_N_become_5 (fun v1 M1 H locs hp hM hS => ?_)
  obtain ⟨ev1, eM1⟩ := hp
  subst ev1
  rw [eM1] at hM
  have hM : mm_ G (mu_ M A (la_ G 11 (fun _ => lN 0))) H := hM
  refine W.eq (g2 := F0 m 8 ls []) rfl ?_
  refine lv_aload_n hx hb dd_N_become_8 rfl (lv_at hl 0 rfl) ?_
  refine mr_get C0 hM fk_N_9 (mu_n' (ne_k h_o h_A (fun q => by cases q)) h_o) (v := .ref A) rfl dd_N_become_9 ?_
  refine lv_iconst (v := nI 0) hx hb dd_N_become_12 (by decide) ?_
  refine lv_iload_n hx hb dd_N_become_13 rfl (lv_at hl 1 rfl) ?_
  refine lv_i2l (v := lN v) hx hb dd_N_become_14 (nI_l hv) ?_
  refine lv_topl (fun v1 e2 => ?_)
  refine mr_last C0 hM hS mu_s (0) (rfl) (by omega) (by decide) dd_N_become_15 (fun H locs hM hS => ?_)
  have hM := mr_M mu_mu hM
  subst e2
  have hM := mr_lext (g := nl_ v) (fun j hj => by show vp_updL _ 0 (lN v) j = lN (dg_ v j); rw [dg_small (by omega)]; by_cases h : j = 0 <;> simp [vp_updL, h]) hM
  exact mr_ret hQ (mr_vret C0 hM hS (⟨rfl, rfl⟩) dd_N_become_16)

set_option maxHeartbeats 4000000 in
set_option maxRecDepth 100000 in
theorem c_N_multiply (l : Launch) {G : mg_} {M : mw_} {o A V x : Nat} (h_o : M o = some (ob_ 1 [.ref A])) (h_A : M A = some (la_ G 11 (nl_ V)))  (hx31 : x < 2147483648) : dt_ l my_N_multiply cd_N_multiply 7 none { frames := 0, cells := 0, slots := 0, locals := 0 } G [.ref o, .int (nI x)] M none (mu_ M A (la_ G 11 (nl_ (V * x)))) 0 0 := by
  refine ct_.intro2 (by decide) (Nat.le_of_ble_eq_true rfl) ?_
  intro p e s m args below meth c ls R Q hR hQ C0 hl hM hS
  have hx := C0.1
  have hb := C0.2.1
  have hl : lv_has ls 7 [(0, .ref o), (1, .int (nI x))] := hl
  refine lv_lconst (v := lN 0) hx hb dd_N_multiply_0 rfl ?_
  refine lv_lstore_n (lv' := [(2, .long (lN 0)), (0, .ref o), (1, .int (nI x))]) hx hb dd_N_multiply_1 rfl hl (by decide) rfl (fun ls hl => ?_)
  refine lv_iconst (v := nI 0) hx hb dd_N_multiply_2 (by decide) ?_
  refine lv_istore (lv' := [(4, .int (nI 0)), (2, .long (lN 0)), (0, .ref o), (1, .int (nI x))]) hx hb dd_N_multiply_3 hl (by decide) rfl (fun ls hl => ?_)
  have loop_5 : ∀ (k : Nat) (i : Nat) (H : Heap) (locs : List Loc) (ls : Array Slot), i + k = 11 → mm_ G (mu_ M A (la_ G 11 (nf_ V (V * x) i))) H → va_S (fz_ G) s.heap H locs → lv_has ls 7 [(0, .ref o), (1, .int (nI x)), (2, .long (lN (cm_ 4294967296 V x i))), (4, .int (nI i))] → W p l e R s m args below meth c H locs 0 0 Q (F0 m 5 ls []) := by
    intro k
    induction k with
    | zero =>
      intro i H locs ls hi hM hS hl
      refine lv_iload hx hb dd_N_multiply_5 (lv_at hl 3 rfl) ?_
      refine lv_bipush (v := nI 11) hx hb dd_N_multiply_7 (by decide) ?_
      refine lv_icmp_ge (tgt := 51) hx hb dd_N_multiply_9 rfl (fun _ => ?_) (fun hc => absurd (le_nI (a := 11) (b := i) (by omega) (by omega) (by omega)) hc)
      have hM := mr_lext (g := nl_ (V * x)) (fun j hj => nf_b (by omega)) hM
      exact mr_ret hQ (mr_vret C0 hM hS (⟨rfl, rfl⟩) dd_N_multiply_51)
    | succ k ih =>
      intro i H locs ls hi hM hS hl
      have hg : dg_ V i < 4294967296 := db_lt (by decide)
      have hc : cm_ 4294967296 V x i ≤ x := cm_le (by decide) V x i
      have h64 : dg_ V i * x + cm_ 4294967296 V x i < 18446744073709551616 := pr_lt64 hg (by omega) (by omega)
      refine lv_iload hx hb dd_N_multiply_5 (lv_at hl 3 rfl) ?_
      refine lv_bipush (v := nI 11) hx hb dd_N_multiply_7 (by decide) ?_
      refine lv_icmp_ge (tgt := 51) hx hb dd_N_multiply_9 rfl (fun hc => absurd hc (nle_nI (a := 11) (b := i) (by omega) (by omega) (by omega))) (fun _ => ?_)
      refine lv_aload_n hx hb dd_N_multiply_12 rfl (lv_at hl 0 rfl) ?_
      refine mr_get C0 hM fk_N_9 (mu_n' (ne_k h_o h_A (fun q => by cases q)) h_o) (v := .ref A) rfl dd_N_multiply_13 ?_
      refine lv_iload hx hb dd_N_multiply_16 (lv_at hl 3 rfl) ?_
      refine mr_lald C0 hM mu_s (i) (rfl) (by omega) (by decide) dd_N_multiply_18 ?_
      refine lv_iload_n hx hb dd_N_multiply_19 rfl (lv_at hl 1 rfl) ?_
      refine lv_i2l (v := lN x) hx hb dd_N_multiply_20 (nI_l hx31) ?_
      refine lv_lmul hx hb dd_N_multiply_21 ?_
      refine mr_vl (x' := lN (dg_ V i * x)) ((congrArg (· * lN x) (nf_at V (V * x) i)).trans (lN_mul _ _)) ?_
      refine lv_lload_n hx hb dd_N_multiply_22 rfl (lv_at hl 2 rfl) ?_
      refine lv_ladd hx hb dd_N_multiply_23 ?_
      refine mr_vl (x' := lN (dg_ V i * x + cm_ 4294967296 V x i)) (lN_add _ _) ?_
      refine lv_lstore (lv' := [(5, .long (lN (dg_ V i * x + cm_ 4294967296 V x i))), (0, .ref o), (1, .int (nI x)), (2, .long (lN (cm_ 4294967296 V x i))), (4, .int (nI i))]) hx hb dd_N_multiply_24 hl (by decide) rfl (fun ls hl => ?_)
      refine lv_aload_n hx hb dd_N_multiply_26 rfl (lv_at hl 1 rfl) ?_
      refine mr_get C0 hM fk_N_9 (mu_n' (ne_k h_o h_A (fun q => by cases q)) h_o) (v := .ref A) rfl dd_N_multiply_27 ?_
      refine lv_iload hx hb dd_N_multiply_30 (lv_at hl 4 rfl) ?_
      refine lv_lload hx hb dd_N_multiply_32 (lv_at hl 0 rfl) ?_
      refine mr_ldc2 (v := lN 4294967295) C0 tw_210 dd_N_multiply_34 ?_
      refine lv_land hx hb dd_N_multiply_37 ?_
      refine mr_vl (x' := lN (dg_ (V * x) i)) ((lm_ h64).trans (congrArg lN (by rw [cm_step (by decide), cm_dig]))) ?_
      refine mr_last C0 hM hS mu_s (i) (rfl) (by omega) (by decide) dd_N_multiply_38 (fun H locs hM hS => ?_)
      have hM := mr_M mu_mu hM
      have hM := mr_M (congrArg (fun z__ => mu_ M A (la_ G 11 z__)) (show (vp_updL (nf_ V (V * x) i) i (lN (dg_ (V * x) i)) : Nat → Int64) = (nf_ V (V * x) (i + 1)) from nf_s V (V * x) i)) hM
      have hM : mm_ G (mu_ M A (la_ G 11 (nf_ V (V * x) (i + 1)))) H := hM
      refine lv_lload hx hb dd_N_multiply_39 (lv_at hl 0 rfl) ?_
      refine lv_bipush (v := nI 32) hx hb dd_N_multiply_41 (by decide) ?_
      refine lv_lushr (v := lN (cm_ 4294967296 V x (i + 1))) hx hb dd_N_multiply_43 ((lh_ h64).trans (congrArg lN (by rw [cm_step (by decide), cm_next]))) ?_
      refine lv_lstore_n (lv' := [(2, .long (lN (cm_ 4294967296 V x (i + 1)))), (5, .long (lN (dg_ V i * x + cm_ 4294967296 V x i))), (0, .ref o), (1, .int (nI x)), (4, .int (nI i))]) hx hb dd_N_multiply_44 rfl hl (by decide) rfl (fun ls hl => ?_)
      refine lv_iinc (k := 4) (v := nI (i + 1)) (lv' := [(4, .int (nI (i + 1))), (2, .long (lN (cm_ 4294967296 V x (i + 1)))), (5, .long (lN (dg_ V i * x + cm_ 4294967296 V x i))), (0, .ref o), (1, .int (nI x))]) hx hb dd_N_multiply_45 hl rfl (inc_ i) (by decide) rfl (fun ls hl => ?_)
      refine lv_goto (tgt := 5) hx hb dd_N_multiply_48 rfl ?_
      exact ih _ _ _ _ (by omega) hM hS (lv_sub hl [3, 4, 1, 0] rfl)
  have hM := mr_M (mu_id h_A).symm hM
  have hM := mr_lext (g := nf_ V (V * x) 0) (fun j _ => by rw [← nf_0]) hM
  exact loop_5 11 0 _ _ _ (rfl) hM hS (by rw [cm_0]; exact lv_sub hl [2, 3, 1, 0] rfl)

set_option maxHeartbeats 4000000 in
set_option maxRecDepth 100000 in
theorem c_N_remainder (l : Launch) {G : mg_} {M : mw_} {o A V d : Nat} (h_o : M o = some (ob_ 1 [.ref A])) (h_A : M A = some (la_ G 11 (nl_ V)))  (hV : V < 4294967296 ^ 11) (hd : 0 < d) (hd31 : d < 2147483648) : dt_ l my_N_remainder cd_N_remainder 5 (some .int) { frames := 0, cells := 0, slots := 0, locals := 0 } G [.ref o, .int (nI d)] M (some (.int (nI (V % d)))) (M) 0 0 := by
  refine ct_.intro2 (by decide) (Nat.le_of_ble_eq_true rfl) ?_
  intro p e s m args below meth c ls R Q hR hQ C0 hl hM hS
  have hx := C0.1
  have hb := C0.2.1
  have hl : lv_has ls 5 [(0, .ref o), (1, .int (nI d))] := hl
  refine lv_iload_n hx hb dd_N_remainder_0 rfl (lv_at hl 1 rfl) ?_
  refine lv_if_gt (tgt := 6) hx hb dd_N_remainder_1 rfl (fun _ => ?_) (fun hc => absurd (lt_nI (a := 0) (b := d) (by omega) (by omega) (by omega)) hc)
  refine lv_lconst (v := lN 0) hx hb dd_N_remainder_6 rfl ?_
  refine lv_lstore_n (lv' := [(2, .long (lN 0)), (0, .ref o), (1, .int (nI d))]) hx hb dd_N_remainder_7 rfl hl (by decide) rfl (fun ls hl => ?_)
  refine lv_bipush (v := nI 10) hx hb dd_N_remainder_8 (by decide) ?_
  refine lv_istore (lv' := [(4, .int (nI 10)), (2, .long (lN 0)), (0, .ref o), (1, .int (nI d))]) hx hb dd_N_remainder_10 hl (by decide) rfl (fun ls hl => ?_)
  have loop_12 : ∀ (k : Nat)  (H : Heap) (locs : List Loc) (ls : Array Slot), k ≤ 11 → mm_ G (M) H → va_S (fz_ G) s.heap H locs → lv_has ls 5 [(0, .ref o), (1, .int (nI d)), (2, .long (lN (V / 4294967296 ^ k % d))), (4, .int (nI k + (-1 : Int32)))] → W p l e R s m args below meth c H locs 0 0 Q (F0 m 12 ls []) := by
    intro k
    induction k with
    | zero =>
      intro  H locs ls hk hM hS hl
      have hl : lv_has ls 5 [(0, .ref o), (1, .int (nI d)), (2, .long (lN (V / 4294967296 ^ 0 % d))), (4, .int (nI 0 + (-1 : Int32)))] := by exact hl
      refine lv_iload hx hb dd_N_remainder_12 (lv_at hl 3 rfl) ?_
      refine lv_if_lt (tgt := 39) hx hb dd_N_remainder_14 rfl (fun _ => ?_) (fun hc => absurd (by decide) hc)
      refine lv_lload_n hx hb dd_N_remainder_39 rfl (lv_at hl 2 rfl) ?_
      refine lv_l2i (v := nI (V / 4294967296 ^ 0 % d)) hx hb dd_N_remainder_40 (lN_i _) ?_
      exact mr_ret hQ (mr_iret C0 hM hS (rfl) (⟨by rw [Nat.pow_zero, Nat.div_one], rfl⟩) dd_N_remainder_41)
    | succ k ih =>
      intro  H locs ls hk hM hS hl
      have hk10 : k < 11 := by omega
      have hr : V / 4294967296 ^ (k + 1) % d < d := Nat.mod_lt _ hd
      have hg : dg_ V k < 4294967296 := db_lt (by decide)
      have hl : lv_has ls 5 [(0, .ref o), (1, .int (nI d)), (2, .long (lN (V / 4294967296 ^ (k + 1) % d))), (4, .int (nI k))] := by rw [pk_m1] at hl; exact hl
      refine lv_iload hx hb dd_N_remainder_12 (lv_at hl 3 rfl) ?_
      refine lv_if_lt (tgt := 39) hx hb dd_N_remainder_14 rfl (fun hc => absurd hc (z_nlt (by omega))) (fun _ => ?_)
      refine lv_lload_n hx hb dd_N_remainder_17 rfl (lv_at hl 2 rfl) ?_
      refine lv_bipush (v := nI 32) hx hb dd_N_remainder_18 (by decide) ?_
      refine lv_lshl (v := lN (V / 4294967296 ^ (k + 1) % d * 4294967296)) hx hb dd_N_remainder_20 (wb_shl _ (by decide)) ?_
      refine lv_aload_n hx hb dd_N_remainder_21 rfl (lv_at hl 0 rfl) ?_
      refine mr_get C0 hM fk_N_9 h_o (v := .ref A) rfl dd_N_remainder_22 ?_
      refine lv_iload hx hb dd_N_remainder_25 (lv_at hl 3 rfl) ?_
      refine mr_lald C0 hM h_A (k) (rfl) (by omega) (by decide) dd_N_remainder_27 ?_
      refine lv_lor hx hb dd_N_remainder_28 ?_
      refine mr_vl (x' := lN (V / 4294967296 ^ (k + 1) % d * 4294967296 + dg_ V k)) (g_or (k := 32) rfl hg (by omega)) ?_
      refine lv_iload_n hx hb dd_N_remainder_29 rfl (lv_at hl 1 rfl) ?_
      refine lv_i2l (v := lN d) hx hb dd_N_remainder_30 (nI_l hd31) ?_
      refine lv_lrem hx hb dd_N_remainder_31 (ln0_ hd hd31) ?_
      refine mr_vl (x' := lN (V / 4294967296 ^ k % d)) ((pk_lRem (by omega) hd (by omega)).trans (congrArg lN (dr_step V k))) ?_
      refine lv_topl (fun v1 e2 => ?_)
      refine lv_lstore_n (lv' := [(2, .long v1), (0, .ref o), (1, .int (nI d)), (4, .int (nI k))]) hx hb dd_N_remainder_32 rfl hl (by decide) rfl (fun ls hl => ?_)
      refine lv_iinc (k := 3) (v := nI k + (-1 : Int32)) (lv' := [(4, .int (nI k + (-1 : Int32))), (2, .long v1), (0, .ref o), (1, .int (nI d))]) hx hb dd_N_remainder_33 hl rfl (rfl) (by decide) rfl (fun ls hl => ?_)
      refine lv_goto (tgt := 12) hx hb dd_N_remainder_36 rfl ?_
      subst e2
      exact ih  _ _ _ (by omega) hM hS (lv_sub hl [2, 3, 1, 0] rfl)
  exact loop_12 11  _ _ _ (Nat.le_refl _) hM hS (by rw [show nI 11 + (-1 : Int32) = nI 10 from by decide, show V / 4294967296 ^ 11 % d = 0 by rw [Nat.div_eq_of_lt hV, Nat.zero_mod]]; exact lv_sub hl [2, 3, 1, 0] rfl)

set_option maxHeartbeats 4000000 in
set_option maxRecDepth 100000 in
theorem c_N_divide (l : Launch) {G : mg_} {M : mw_} {o A V d : Nat} (h_o : M o = some (ob_ 1 [.ref A])) (h_A : M A = some (la_ G 11 (nl_ V)))  (hV : V < 4294967296 ^ 11) (hd : 0 < d) (hd31 : d < 2147483648) : dt_ l my_N_divide cd_N_divide 7 none { frames := 0, cells := 0, slots := 0, locals := 0 } G [.ref o, .int (nI d)] M none (mu_ M A (la_ G 11 (nl_ (V / d)))) 0 0 := by
  refine ct_.intro2 (by decide) (Nat.le_of_ble_eq_true rfl) ?_
  intro p e s m args below meth c ls R Q hR hQ C0 hl hM hS
  have hx := C0.1
  have hb := C0.2.1
  have hl : lv_has ls 7 [(0, .ref o), (1, .int (nI d))] := hl
  refine lv_iload_n hx hb dd_N_divide_0 rfl (lv_at hl 1 rfl) ?_
  refine lv_if_gt (tgt := 5) hx hb dd_N_divide_1 rfl (fun _ => ?_) (fun hc => absurd (lt_nI (a := 0) (b := d) (by omega) (by omega) (by omega)) hc)
  refine lv_lconst (v := lN 0) hx hb dd_N_divide_5 rfl ?_
  refine lv_lstore_n (lv' := [(2, .long (lN 0)), (0, .ref o), (1, .int (nI d))]) hx hb dd_N_divide_6 rfl hl (by decide) rfl (fun ls hl => ?_)
  refine lv_bipush (v := nI 10) hx hb dd_N_divide_7 (by decide) ?_
  refine lv_istore (lv' := [(4, .int (nI 10)), (2, .long (lN 0)), (0, .ref o), (1, .int (nI d))]) hx hb dd_N_divide_9 hl (by decide) rfl (fun ls hl => ?_)
  have loop_11 : ∀ (k : Nat)  (H : Heap) (locs : List Loc) (ls : Array Slot), k ≤ 11 → mm_ G (mu_ M A (la_ G 11 (nf_ (V / d) V k))) H → va_S (fz_ G) s.heap H locs → lv_has ls 7 [(0, .ref o), (1, .int (nI d)), (2, .long (lN (V / 4294967296 ^ k % d))), (4, .int (nI k + (-1 : Int32)))] → W p l e R s m args below meth c H locs 0 0 Q (F0 m 11 ls []) := by
    intro k
    induction k with
    | zero =>
      intro  H locs ls hk hM hS hl
      have hl : lv_has ls 7 [(0, .ref o), (1, .int (nI d)), (2, .long (lN (V / 4294967296 ^ 0 % d))), (4, .int (nI 0 + (-1 : Int32)))] := by exact hl
      have hM : mm_ G (mu_ M A (la_ G 11 (nf_ (V / d) V 0))) H := hM
      refine lv_iload hx hb dd_N_divide_11 (lv_at hl 3 rfl) ?_
      refine lv_if_lt (tgt := 54) hx hb dd_N_divide_13 rfl (fun _ => ?_) (fun hc => absurd (by decide) hc)
      have hM := mr_lext (g := nl_ (V / d)) (fun j _ => nf_a (Nat.not_lt_zero j)) hM
      exact mr_ret hQ (mr_vret C0 hM hS (⟨rfl, rfl⟩) dd_N_divide_54)
    | succ k ih =>
      intro  H locs ls hk hM hS hl
      have hk10 : k < 11 := by omega
      have hr : V / 4294967296 ^ (k + 1) % d < d := Nat.mod_lt _ hd
      have hg : dg_ V k < 4294967296 := db_lt (by decide)
      have hl : lv_has ls 7 [(0, .ref o), (1, .int (nI d)), (2, .long (lN (V / 4294967296 ^ (k + 1) % d))), (4, .int (nI k))] := by rw [pk_m1] at hl; exact hl
      have hM : mm_ G (mu_ M A (la_ G 11 (nf_ (V / d) V (k + 1)))) H := hM
      refine lv_iload hx hb dd_N_divide_11 (lv_at hl 3 rfl) ?_
      refine lv_if_lt (tgt := 54) hx hb dd_N_divide_13 rfl (fun hc => absurd hc (z_nlt (by omega))) (fun _ => ?_)
      refine lv_lload_n hx hb dd_N_divide_16 rfl (lv_at hl 2 rfl) ?_
      refine lv_bipush (v := nI 32) hx hb dd_N_divide_17 (by decide) ?_
      refine lv_lshl (v := lN (V / 4294967296 ^ (k + 1) % d * 4294967296)) hx hb dd_N_divide_19 (wb_shl _ (by decide)) ?_
      refine lv_aload_n hx hb dd_N_divide_20 rfl (lv_at hl 0 rfl) ?_
      refine mr_get C0 hM fk_N_9 (mu_n' (ne_k h_o h_A (fun q => by cases q)) h_o) (v := .ref A) rfl dd_N_divide_21 ?_
      refine lv_iload hx hb dd_N_divide_24 (lv_at hl 3 rfl) ?_
      refine mr_lald C0 hM mu_s (k) (rfl) (by omega) (by decide) dd_N_divide_26 ?_
      refine lv_lor hx hb dd_N_divide_27 ?_
      refine mr_vl (x' := lN (V / 4294967296 ^ (k + 1) % d * 4294967296 + dg_ V k)) ((congrArg (_ ||| ·) (nf_b (Nat.lt_succ_self k))).trans (g_or (k := 32) rfl hg (by omega))) ?_
      refine lv_lstore (lv' := [(5, .long (lN (V / 4294967296 ^ (k + 1) % d * 4294967296 + dg_ V k))), (0, .ref o), (1, .int (nI d)), (2, .long (lN (V / 4294967296 ^ (k + 1) % d))), (4, .int (nI k))]) hx hb dd_N_divide_28 hl (by decide) rfl (fun ls hl => ?_)
      refine lv_aload_n hx hb dd_N_divide_30 rfl (lv_at hl 1 rfl) ?_
      refine mr_get C0 hM fk_N_9 (mu_n' (ne_k h_o h_A (fun q => by cases q)) h_o) (v := .ref A) rfl dd_N_divide_31 ?_
      refine lv_iload hx hb dd_N_divide_34 (lv_at hl 4 rfl) ?_
      refine lv_lload hx hb dd_N_divide_36 (lv_at hl 0 rfl) ?_
      refine lv_iload_n hx hb dd_N_divide_38 rfl (lv_at hl 2 rfl) ?_
      refine lv_i2l (v := lN d) hx hb dd_N_divide_39 (nI_l hd31) ?_
      refine lv_ldiv hx hb dd_N_divide_40 (ln0_ hd hd31) ?_
      refine mr_vl (x' := lN (dg_ (V / d) k)) ((pk_lDiv (by omega) hd (by omega)).trans (congrArg lN (dq_step (by decide) hd V k).symm)) ?_
      refine mr_last C0 hM hS mu_s (k) (rfl) (by omega) (by decide) dd_N_divide_41 (fun H locs hM hS => ?_)
      have hM := mr_M mu_mu hM
      have hM := mr_M (congrArg (fun z__ => mu_ M A (la_ G 11 z__)) (show (vp_updL (nf_ (V / d) V (k + 1)) k (lN (dg_ (V / d) k)) : Nat → Int64) = (nf_ (V / d) V k) from nf_d (V / d) V k)) hM
      have hM : mm_ G (mu_ M A (la_ G 11 (nf_ (V / d) V k))) H := hM
      refine lv_lload hx hb dd_N_divide_42 (lv_at hl 0 rfl) ?_
      refine lv_iload_n hx hb dd_N_divide_44 rfl (lv_at hl 2 rfl) ?_
      refine lv_i2l (v := lN d) hx hb dd_N_divide_45 (nI_l hd31) ?_
      refine lv_lrem hx hb dd_N_divide_46 (ln0_ hd hd31) ?_
      refine mr_vl (x' := lN (V / 4294967296 ^ k % d)) ((pk_lRem (by omega) hd (by omega)).trans (congrArg lN (dr_step V k))) ?_
      refine lv_lstore_n (lv' := [(2, .long (lN (V / 4294967296 ^ k % d))), (5, .long (lN (V / 4294967296 ^ (k + 1) % d * 4294967296 + dg_ V k))), (0, .ref o), (1, .int (nI d)), (4, .int (nI k))]) hx hb dd_N_divide_47 rfl hl (by decide) rfl (fun ls hl => ?_)
      refine lv_iinc (k := 4) (v := nI k + (-1 : Int32)) (lv' := [(4, .int (nI k + (-1 : Int32))), (2, .long (lN (V / 4294967296 ^ k % d))), (5, .long (lN (V / 4294967296 ^ (k + 1) % d * 4294967296 + dg_ V k))), (0, .ref o), (1, .int (nI d))]) hx hb dd_N_divide_48 hl rfl (rfl) (by decide) rfl (fun ls hl => ?_)
      refine lv_goto (tgt := 11) hx hb dd_N_divide_51 rfl ?_
      exact ih  _ _ _ (by omega) hM hS (lv_sub hl [3, 4, 1, 0] rfl)
  have hM := mr_M (mu_id h_A).symm hM
  have hM := mr_lext (g := nf_ (V / d) V 11) (fun j hj => (nf_b hj).symm) hM
  exact loop_11 11  _ _ _ (Nat.le_refl _) hM hS (by rw [show nI 11 + (-1 : Int32) = nI 10 from by decide, show V / 4294967296 ^ 11 % d = 0 by rw [Nat.div_eq_of_lt hV, Nat.zero_mod]]; exact lv_sub hl [2, 3, 1, 0] rfl)

set_option maxHeartbeats 4000000 in
set_option maxRecDepth 100000 in
theorem c_N_bit (l : Launch) {G : mg_} {M : mw_} {o A V pl : Nat} (h_o : M o = some (ob_ 1 [.ref A])) (h_A : M A = some (la_ G 11 (nl_ V)))  (hp : pl < 352) : dt_ l my_N_bit cd_N_bit 2 (some .boolean) { frames := 0, cells := 0, slots := 0, locals := 0 } G [.ref o, .int (nI pl)] M (some (.int (nI (V / 2 ^ pl % 2)))) (M) 0 0 := by
  refine ct_.intro2 (by decide) (Nat.le_of_ble_eq_true rfl) ?_
  intro p e s m args below meth c ls R Q hR hQ C0 hl hM hS
  have hx := C0.1
  have hb := C0.2.1
  have hl : lv_has ls 2 [(0, .ref o), (1, .int (nI pl))] := hl
  refine lv_aload_n hx hb dd_N_bit_0 rfl (lv_at hl 0 rfl) ?_
  refine mr_get C0 hM fk_N_9 h_o (v := .ref A) rfl dd_N_bit_1 ?_
  refine lv_iload_n hx hb dd_N_bit_4 rfl (lv_at hl 1 rfl) ?_
  refine lv_iconst (v := nI 5) hx hb dd_N_bit_5 (by decide) ?_
  refine lv_iushr (v := nI (pl / 32)) hx hb dd_N_bit_6 (pk_ushrN (by omega) (nI 5) 5 (by decide)) ?_
  refine mr_lald C0 hM h_A ((pl / 32)) (rfl) (by omega) (by decide) dd_N_bit_7 ?_
  refine lv_iload_n hx hb dd_N_bit_8 rfl (lv_at hl 1 rfl) ?_
  refine lv_bipush (v := nI 31) hx hb dd_N_bit_9 (by decide) ?_
  refine lv_iand hx hb dd_N_bit_11 ?_
  refine mr_vi (x' := nI (pl % 32)) (pk_andN (by omega) 5 (by decide)) ?_
  refine lv_lushr (v := lN (dg_ V (pl / 32) / 2 ^ (pl % 32))) hx hb dd_N_bit_12 (wb_shr (Nat.lt_trans (db_lt (by decide)) (by decide)) (by omega)) ?_
  refine lv_lconst (v := lN 1) hx hb dd_N_bit_13 rfl ?_
  refine lv_land hx hb dd_N_bit_14 ?_
  refine mr_vl (x' := lN (V / 2 ^ pl % 2)) ((wb_a1 (Nat.lt_of_le_of_lt (Nat.div_le_self _ _) (Nat.lt_trans (db_lt (by decide)) (by decide)))).trans (congrArg lN (bit_dg V pl))) ?_
  refine lv_lconst (v := lN 0) hx hb dd_N_bit_15 rfl ?_
  refine mr_lif_eq (tgt := 24) hx hb dd_N_bit_16 dd_N_bit_17 rfl (fun h16 => ?_) (fun h16 => ?_)
  · skip
    have hv : V / 2 ^ pl % 2 = 0 := (pk_lEQ (by omega) (by decide)).mp h16
    refine lv_iconst (v := nI 0) hx hb dd_N_bit_24 (by decide) ?_
    exact mr_ret hQ (mr_iret C0 hM hS (rfl) (⟨by rw [hv], rfl⟩) dd_N_bit_25)
  · skip
    have hv : V / 2 ^ pl % 2 = 1 := by
      have h2 : V / 2 ^ pl % 2 ≠ 0 := fun q => h16 (by rw [q])
      omega
    refine lv_iconst (v := nI 1) hx hb dd_N_bit_20 (by decide) ?_
    refine lv_goto (tgt := 25) hx hb dd_N_bit_21 rfl ?_
    exact mr_ret hQ (mr_iret C0 hM hS (rfl) (⟨by rw [hv], rfl⟩) dd_N_bit_25)

set_option maxHeartbeats 4000000 in
set_option maxRecDepth 100000 in
theorem c_N_highestBit (l : Launch) {G : mg_} {M : mw_} {o A V : Nat} (h_o : M o = some (ob_ 1 [.ref A])) (h_A : M A = some (la_ G 11 (nl_ V)))  (hV : V < 2 ^ 352) : dt_ l my_N_highestBit cd_N_highestBit 2 (some .int) { frames := 1, cells := 0, slots := 0, locals := 21 } G [.ref o] M (some (.int (hb_ V))) (M) 0 0 := by
  refine ct_.intro2 (by decide) (Nat.le_of_ble_eq_true rfl) ?_
  intro p e s m args below meth c ls R Q hR hQ C0 hl hM hS
  have hx := C0.1
  have hb := C0.2.1
  have hl : lv_has ls 2 [(0, .ref o)] := hl
  refine lv_sipush (v := nI 351) hx hb dd_N_highestBit_0 (by decide) ?_
  refine lv_istore_n (lv' := [(1, .int (nI 351)), (0, .ref o)]) hx hb dd_N_highestBit_3 rfl hl (by decide) rfl (fun ls hl => ?_)
  have loop_4 : ∀ (k : Nat)  (H : Heap) (locs : List Loc) (ls : Array Slot), k ≤ 352 → V < 2 ^ k → mm_ G (M) H → va_S (fz_ G) s.heap H locs → lv_has ls 2 [(0, .ref o), (1, .int (nI k + (-1 : Int32)))] → W p l e R s m args below meth c H locs 0 0 Q (F0 m 4 ls []) := by
    intro k
    induction k with
    | zero =>
      intro  H locs ls hk hv hM hS hl
      have hl : lv_has ls 2 [(0, .ref o), (1, .int (nI 0 + (-1 : Int32)))] := by exact hl
      refine lv_iload_n hx hb dd_N_highestBit_4 rfl (lv_at hl 1 rfl) ?_
      refine lv_if_lt (tgt := 24) hx hb dd_N_highestBit_5 rfl (fun _ => ?_) (fun hc => absurd (by decide) hc)
      refine lv_iconst (v := (-1 : Int32)) hx hb dd_N_highestBit_24 (by decide) ?_
      exact mr_ret hQ (mr_iret C0 hM hS (rfl) (⟨by rw [show V = 0 by omega]; rfl, rfl⟩) dd_N_highestBit_25)
    | succ k ih =>
      intro  H locs ls hk hv hM hS hl
      have hk10 : k < 352 := by omega
      have hl : lv_has ls 2 [(0, .ref o), (1, .int (nI k))] := by rw [pk_m1] at hl; exact hl
      refine lv_iload_n hx hb dd_N_highestBit_4 rfl (lv_at hl 1 rfl) ?_
      refine lv_if_lt (tgt := 24) hx hb dd_N_highestBit_5 rfl (fun hc => absurd hc (z_nlt (by omega))) (fun _ => ?_)
      refine lv_aload_n hx hb dd_N_highestBit_8 rfl (lv_at hl 0 rfl) ?_
      refine lv_iload_n hx hb dd_N_highestBit_9 rfl (lv_at hl 1 rfl) ?_
      refine mr_callV (As := [.int (nI k)]) (rest := []) C0 hM hS vk_N_21 h_o rfl (c_N_bit l h_o h_A hk10) rfl rfl hl.1 (by decide) rfl rfl (by subst hR; exact ⟨Nat.le_of_ble_eq_true rfl, Nat.le_of_ble_eq_true rfl⟩) (by subst hR; exact ⟨Nat.le_of_ble_eq_true rfl, Nat.le_of_ble_eq_true rfl⟩) dd_N_highestBit_10 (fun v1 M1 H locs hp hM hS => ?_)
      obtain ⟨ev1, eM1⟩ := hp
      subst ev1
      rw [eM1] at hM
      refine W.eq (g2 := F0 m 13 ls [.int (nI (V / 2 ^ k % 2))]) rfl ?_
      refine lv_if_eq (tgt := 18) hx hb dd_N_highestBit_13 rfl (fun h13 => ?_) (fun h13 => ?_)
      · skip
        refine lv_iinc (k := 1) (v := nI k + (-1 : Int32)) (lv' := [(1, .int (nI k + (-1 : Int32))), (0, .ref o)]) hx hb dd_N_highestBit_18 hl rfl (rfl) (by decide) rfl (fun ls hl => ?_)
        refine lv_goto (tgt := 4) hx hb dd_N_highestBit_21 rfl ?_
        exact ih  _ _ _ (by omega) (hb_s hv (by first | exact h13 | exact (nI_eq (by omega) (by decide)).mp h13)) hM hS (lv_sub hl [1, 0] rfl)
      · skip
        refine lv_iload_n hx hb dd_N_highestBit_16 rfl (lv_at hl 1 rfl) ?_
        exact mr_ret hQ (mr_iret C0 hM hS (rfl) (⟨by rw [hb_n hv (fun q => h13 (by rw [q]; rfl))], rfl⟩) dd_N_highestBit_17)
  exact loop_4 352  _ _ _ (Nat.le_refl _) (hV) hM hS (by rw [show nI 352 + (-1 : Int32) = nI 351 from by decide]; exact lv_sub hl [1, 0] rfl)
