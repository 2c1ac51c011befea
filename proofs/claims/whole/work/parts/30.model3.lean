
/-! the model's words -/
abbrev dw_ (V i : Nat) : Nat := db_ 65536 V i
def wl_ (V : Nat) : Nat → Int32 := fun j => nI (dw_ V j)
def wq_ (V W i : Nat) : Nat → Int32 := fun j => if j < i then nI (dw_ W j) else nI (dw_ V j)
theorem wq_0 (V W : Nat) : wl_ V = wq_ V W 0 := by funext j; simp [wl_, wq_]
theorem wq_s (V W i : Nat) : upd (wq_ V W i) i (nI (dw_ W i)) = wq_ V W (i + 1) := by
  funext j
  by_cases h : j = i
  · subst h; simp [upd, wq_]
  · by_cases h2 : j < i
    · simp [upd, wq_, h, h2, Nat.lt_succ_of_lt h2]
    · simp [upd, wq_, h, h2, show ¬ j < i + 1 by omega]
theorem wq_d (V W i : Nat) : upd (wq_ V W (i + 1)) i (nI (dw_ V i)) = wq_ V W i := by
  funext j
  by_cases h : j = i
  · subst h; simp [upd, wq_]
  · by_cases h2 : j < i
    · simp [upd, wq_, h, h2, Nat.lt_succ_of_lt h2]
    · simp [upd, wq_, h, h2, show ¬ j < i + 1 by omega]
theorem wq_at (V W i : Nat) : wq_ V W i i = nI (dw_ V i) := by simp [wq_]
theorem wq_b {V W i j : Nat} (h : j < i) : wq_ V W i j = nI (dw_ W j) := by simp [wq_, h]
theorem wq_a {V W i j : Nat} (h : ¬ j < i) : wq_ V W i j = nI (dw_ V j) := by simp [wq_, h]
def wu_ (f : Nat → Int32) (W i : Nat) : Nat → Int32 := fun j => if j < i then nI (dw_ W j) else f j
theorem wu_0 (f : Nat → Int32) (W : Nat) : f = wu_ f W 0 := by funext j; simp [wu_]
theorem wu_s (f : Nat → Int32) (W i : Nat) : upd (wu_ f W i) i (nI (dw_ W i)) = wu_ f W (i + 1) := by
  funext j
  by_cases h : j = i
  · subst h; simp [upd, wu_]
  · by_cases h2 : j < i
    · simp [upd, wu_, h, h2, Nat.lt_succ_of_lt h2]
    · simp [upd, wu_, h, h2, show ¬ j < i + 1 by omega]
theorem wu_b {f : Nat → Int32} {W i j : Nat} (h : j < i) : wu_ f W i j = nI (dw_ W j) := if_pos h
theorem dw_1 (i : Nat) : dw_ 1 i = if i = 0 then 1 else 0 := by
  by_cases h : i = 0
  · subst h; rfl
  · rw [if_neg h]
    exact db_big (n := 1) (by decide) (by decide) (by omega)
theorem dw_lt {V i : Nat} : dw_ V i < 65536 := db_lt (by decide)
theorem lm16 {a : Nat} (h : a < 18446744073709551616) : lN a &&& lN 65535 = lN (a % 65536) := wb_mask (k := 16) h (by decide)
theorem lsr_nn {a k : Nat} (h : a < 4611686018427387904) (hk : k < 64) : lsr_ (lN a) (nI k) = lN (a / 2 ^ k) := by
  have hd : a / 2 ^ k ≤ a := Nat.div_le_self _ _
  show lN a >>> ((nI k).toInt64 &&& 63) = _
  rw [wb_c k hk]
  apply Int64.toInt_inj.mp
  have e : (lN a >>> lN k).toInt = (lN a).toInt >>> k := by
    have h2 : ((lN k).toBitVec.smod 64).toNat = k := by rw [wb_tb, wb_sm k hk, BitVec.toNat_ofNat, Nat.mod_eq_of_lt (by omega)]
    conv => rhs; rw [← h2]
    exact BitVec.toInt_sshiftRight ..
  rw [e, Int.shiftRight_eq_div_pow, pk_lT (by omega), pk_lT (by omega)]
  simp
theorem bit_dw (V pl : Nat) : dw_ V (pl / 16) / 2 ^ (pl % 16) % 2 = V / 2 ^ pl % 2 := by
  have e1 : (65536 : Nat) ^ (pl / 16) = 2 ^ (16 * (pl / 16)) := by rw [Nat.pow_mul]
  have h := Nat.testBit_mod_two_pow (V / 2 ^ (16 * (pl / 16))) 16 (pl % 16)
  rw [show decide (pl % 16 < 16) = true from decide_eq_true (Nat.mod_lt _ (by decide)), Bool.true_and] at h
  have h2 := congrArg Bool.toNat h
  rw [Nat.toNat_testBit, Nat.toNat_testBit, Nat.div_div_eq_div_mul, ← Nat.pow_add, Nat.div_add_mod] at h2
  show V / 65536 ^ (pl / 16) % 65536 / 2 ^ (pl % 16) % 2 = _
  rw [e1]
  exact h2
def bg_ (x : Nat) : Nat := if x = 0 then 0 else 1
theorem th_3 (X : Nat) : (X / 4294967296 + X % 4294967296) % 3 = X % 3 := by omega
/-! the model's epochs -/
def me_ (cf : Nat → Int32) (sf : Nat → Int64) (qf : Nat → Int32) (Ls : Nat → rl_) : Prop := ∀ e, e < 17 → cf e = nI (Ls e).length ∧ (Ls e).length ≤ 10 ∧ ∀ j, j < (Ls e).length → sf (10 * e + j) = sr_ (Ls e) j ∧ qf (10 * e + j) = nI (pr_ (Ls e) j)
def mz_ (L : rl_) (e : Nat) (s : Int64) : Int32 := match px_ L s with
  | some i => nI (10 * e + i)
  | none => (-1)

set_option maxHeartbeats 4000000 in
set_option maxRecDepth 100000 in
theorem c_M_beginWords (l : Launch) {G : mg_} {M : mw_} {m0 kA wA psA ppA cA sA pA uA lA xA : Nat} {has pend now fac : Int32} {n1 n0 v1 v0 h1 h0 r1 r0 : Int64} {x0 : Nat → Int32} (h_m : M m0 = some (ob_ 6 [.ref kA, .ref wA, .int has, .long n1, .long n0, .long v1, .long v0, .int pend, .ref psA, .ref ppA, .int now, .ref cA, .ref sA, .ref pA, .ref uA, .ref lA, .long h1, .long h0, .int fac, .long r1, .long r0, .ref xA])) (h_xA : M xA = some (ia_ G 32 x0))   : dt_ l my_M_beginWords cd_M_beginWords 2 none { frames := 0, cells := 0, slots := 0, locals := 0 } G [.ref m0] M none (mu_ M xA (ia_ G 32 (wl_ 1))) 0 0 := by
  refine ct_.intro2 (by decide) (Nat.le_of_ble_eq_true rfl) ?_
  intro p e s m args below meth c ls R Q hR hQ C0 hl hM hS
  have hx := C0.1
  have hb := C0.2.1
  have hl : lv_has ls 2 [(0, .ref m0)] := hl
  refine lv_iconst (v := nI 0) hx hb dd_M_beginWords_0 (by decide) ?_
  refine lv_istore_n (lv' := [(1, .int (nI 0)), (0, .ref m0)]) hx hb dd_M_beginWords_1 rfl hl (by decide) rfl (fun ls hl => ?_)
  have loop_2 : ∀ (k : Nat) (i : Nat) (H : Heap) (locs : List Loc) (ls : Array Slot), i + k = 32 → mm_ G (mu_ M xA (ia_ G 32 (wu_ x0 1 i))) H → va_S (fz_ G) s.heap H locs → lv_has ls 2 [(0, .ref m0), (1, .int (nI i))] → W p l e R s m args below meth c H locs 0 0 Q (F0 m 2 ls []) := by
    intro k
    induction k with
    | zero =>
      intro i H locs ls hi hM hS hl
      refine lv_iload_n hx hb dd_M_beginWords_2 rfl (lv_at hl 1 rfl) ?_
      refine lv_bipush (v := nI 32) hx hb dd_M_beginWords_3 (by decide) ?_
      refine lv_icmp_ge (tgt := 29) hx hb dd_M_beginWords_5 rfl (fun _ => ?_) (fun hc => absurd (le_nI (a := 32) (b := i) (by omega) (by omega) (by omega)) hc)
      have hM := mr_iext (g := wl_ 1) (fun j hj => wu_b (by omega)) hM
      exact mr_ret hQ (mr_vret C0 hM hS (⟨rfl, rfl⟩) dd_M_beginWords_29)
    | succ k ih =>
      intro i H locs ls hi hM hS hl
      refine lv_iload_n hx hb dd_M_beginWords_2 rfl (lv_at hl 1 rfl) ?_
      refine lv_bipush (v := nI 32) hx hb dd_M_beginWords_3 (by decide) ?_
      refine lv_icmp_ge (tgt := 29) hx hb dd_M_beginWords_5 rfl (fun hc => absurd hc (nle_nI (a := 32) (b := i) (by omega) (by omega) (by omega))) (fun _ => ?_)
      refine lv_aload_n hx hb dd_M_beginWords_8 rfl (lv_at hl 0 rfl) ?_
      refine mr_get C0 hM fk_M_102 (mu_n' (ne_k h_m h_xA (fun q => by cases q)) h_m) (v := .ref xA) rfl dd_M_beginWords_9 ?_
      refine lv_iload_n hx hb dd_M_beginWords_12 rfl (lv_at hl 1 rfl) ?_
      refine lv_iload_n hx hb dd_M_beginWords_13 rfl (lv_at hl 1 rfl) ?_
      refine lv_if_ne (tgt := 21) hx hb dd_M_beginWords_14 rfl (fun h14 => ?_) (fun h14 => ?_)
      · skip
        have hv : dw_ 1 i = 0 := by rw [dw_1, if_neg (fun q => h14 (by rw [q]; rfl))]
        refine lv_iconst (v := nI 0) hx hb dd_M_beginWords_21 (by decide) ?_
        refine mr_iast C0 hM hS mu_s (i) (rfl) (by omega) (by decide) dd_M_beginWords_22 (fun H locs hM hS => ?_)
        have hM := mr_M mu_mu hM
        have hM := mr_M (congrArg (fun z__ => mu_ M xA (ia_ G 32 z__)) (show (upd (wu_ x0 1 i) i (nI 0) : Nat → Int32) = (wu_ x0 1 (i + 1)) from by rw [← wu_s, hv])) hM
        have hM : mm_ G (mu_ M xA (ia_ G 32 (wu_ x0 1 (i + 1)))) H := hM
        refine lv_iinc (k := 1) (v := nI (i + 1)) (lv' := [(1, .int (nI (i + 1))), (0, .ref m0)]) hx hb dd_M_beginWords_23 hl rfl (inc_ i) (by decide) rfl (fun ls hl => ?_)
        refine lv_goto (tgt := 2) hx hb dd_M_beginWords_26 rfl ?_
        exact ih (i + 1) _ _ _ (by omega) hM hS (lv_sub hl [1, 0] rfl)
      · skip
        have hv : dw_ 1 i = 1 := by rw [dw_1, if_pos ((nI_eq (by omega) (by decide)).mp h14)]
        refine lv_iconst (v := nI 1) hx hb dd_M_beginWords_17 (by decide) ?_
        refine lv_goto (tgt := 22) hx hb dd_M_beginWords_18 rfl ?_
        refine mr_iast C0 hM hS mu_s (i) (rfl) (by omega) (by decide) dd_M_beginWords_22 (fun H locs hM hS => ?_)
        have hM := mr_M mu_mu hM
        have hM := mr_M (congrArg (fun z__ => mu_ M xA (ia_ G 32 z__)) (show (upd (wu_ x0 1 i) i (nI 1) : Nat → Int32) = (wu_ x0 1 (i + 1)) from by rw [← wu_s, hv])) hM
        have hM : mm_ G (mu_ M xA (ia_ G 32 (wu_ x0 1 (i + 1)))) H := hM
        refine lv_iinc (k := 1) (v := nI (i + 1)) (lv' := [(1, .int (nI (i + 1))), (0, .ref m0)]) hx hb dd_M_beginWords_23 hl rfl (inc_ i) (by decide) rfl (fun ls hl => ?_)
        refine lv_goto (tgt := 2) hx hb dd_M_beginWords_26 rfl ?_
        exact ih (i + 1) _ _ _ (by omega) hM hS (lv_sub hl [1, 0] rfl)
  have hM := mr_M (mu_id h_xA).symm hM
  have hM := mr_M (congrArg (fun z => mu_ M xA (ia_ G 32 z)) (wu_0 x0 1)) hM
  exact loop_2 32 0 _ _ _ (rfl) hM hS (lv_sub hl [1, 0] rfl)

set_option maxHeartbeats 4000000 in
set_option maxRecDepth 100000 in
theorem c_M_multiplyWords (l : Launch) {G : mg_} {M : mw_} {m0 kA wA psA ppA cA sA pA uA lA xA : Nat} {has pend now fac : Int32} {n1 n0 v1 v0 h1 h0 r1 r0 : Int64} {V x : Nat} (h_m : M m0 = some (ob_ 6 [.ref kA, .ref wA, .int has, .long n1, .long n0, .long v1, .long v0, .int pend, .ref psA, .ref ppA, .int now, .ref cA, .ref sA, .ref pA, .ref uA, .ref lA, .long h1, .long h0, .int fac, .long r1, .long r0, .ref xA])) (h_xA : M xA = some (ia_ G 32 (wl_ V)))  (hx31 : x < 2147483648) : dt_ l my_M_multiplyWords cd_M_multiplyWords 5 none { frames := 0, cells := 0, slots := 0, locals := 0 } G [.ref m0, .int (nI x)] M none (mu_ M xA (ia_ G 32 (wl_ (V * x)))) 0 0 := by
  refine ct_.intro2 (by decide) (Nat.le_of_ble_eq_true rfl) ?_
  intro p e s m args below meth c ls R Q hR hQ C0 hl hM hS
  have hx := C0.1
  have hb := C0.2.1
  have hl : lv_has ls 5 [(0, .ref m0), (1, .int (nI x))] := hl
  refine lv_lconst (v := lN 0) hx hb dd_M_multiplyWords_0 rfl ?_
  refine lv_lstore_n (lv' := [(2, .long (lN 0)), (0, .ref m0), (1, .int (nI x))]) hx hb dd_M_multiplyWords_1 rfl hl (by decide) rfl (fun ls hl => ?_)
  refine lv_iconst (v := nI 0) hx hb dd_M_multiplyWords_2 (by decide) ?_
  refine lv_istore (lv' := [(4, .int (nI 0)), (2, .long (lN 0)), (0, .ref m0), (1, .int (nI x))]) hx hb dd_M_multiplyWords_3 hl (by decide) rfl (fun ls hl => ?_)
  have loop_5 : ∀ (k : Nat) (i : Nat) (H : Heap) (locs : List Loc) (ls : Array Slot), i + k = 32 → mm_ G (mu_ M xA (ia_ G 32 (wq_ V (V * x) i))) H → va_S (fz_ G) s.heap H locs → lv_has ls 5 [(0, .ref m0), (1, .int (nI x)), (2, .long (lN (cm_ 65536 V x i))), (4, .int (nI i))] → W p l e R s m args below meth c H locs 0 0 Q (F0 m 5 ls []) := by
    intro k
    induction k with
    | zero =>
      intro i H locs ls hi hM hS hl
      refine lv_iload hx hb dd_M_multiplyWords_5 (lv_at hl 3 rfl) ?_
      refine lv_bipush (v := nI 32) hx hb dd_M_multiplyWords_7 (by decide) ?_
      refine lv_icmp_ge (tgt := 50) hx hb dd_M_multiplyWords_9 rfl (fun _ => ?_) (fun hc => absurd (le_nI (a := 32) (b := i) (by omega) (by omega) (by omega)) hc)
      have hM := mr_iext (g := wl_ (V * x)) (fun j hj => wq_b (by omega)) hM
      exact mr_ret hQ (mr_vret C0 hM hS (⟨rfl, rfl⟩) dd_M_multiplyWords_50)
    | succ k ih =>
      intro i H locs ls hi hM hS hl
      have hg : dw_ V i < 65536 := dw_lt
      have hc : cm_ 65536 V x i ≤ x := cm_le (by decide) V x i
      have h64 : dw_ V i * x + cm_ 65536 V x i < 4611686018427387904 := by
        have : dw_ V i * x ≤ 65536 * 2147483648 := Nat.mul_le_mul (by omega) (by omega)
        omega
      refine lv_iload hx hb dd_M_multiplyWords_5 (lv_at hl 3 rfl) ?_
      refine lv_bipush (v := nI 32) hx hb dd_M_multiplyWords_7 (by decide) ?_
      refine lv_icmp_ge (tgt := 50) hx hb dd_M_multiplyWords_9 rfl (fun hc => absurd hc (nle_nI (a := 32) (b := i) (by omega) (by omega) (by omega))) (fun _ => ?_)
      refine lv_lload_n hx hb dd_M_multiplyWords_12 rfl (lv_at hl 2 rfl) ?_
      refine lv_aload_n hx hb dd_M_multiplyWords_13 rfl (lv_at hl 0 rfl) ?_
      refine mr_get C0 hM fk_M_102 (mu_n' (ne_k h_m h_xA (fun q => by cases q)) h_m) (v := .ref xA) rfl dd_M_multiplyWords_14 ?_
      refine lv_iload hx hb dd_M_multiplyWords_17 (lv_at hl 3 rfl) ?_
      refine mr_iald C0 hM mu_s (i) (rfl) (by omega) (by decide) dd_M_multiplyWords_19 ?_
      refine lv_i2l (v := lN (dw_ V i)) hx hb dd_M_multiplyWords_20 ((congrArg Int32.toInt64 (wq_at V (V * x) i)).trans (nI_l (by omega))) ?_
      refine lv_iload_n hx hb dd_M_multiplyWords_21 rfl (lv_at hl 1 rfl) ?_
      refine lv_i2l (v := lN x) hx hb dd_M_multiplyWords_22 (nI_l hx31) ?_
      refine lv_lmul hx hb dd_M_multiplyWords_23 ?_
      refine mr_vl (x' := lN (dw_ V i * x)) (lN_mul _ _) ?_
      refine lv_ladd hx hb dd_M_multiplyWords_24 ?_
      refine mr_vl (x' := lN (dw_ V i * x + cm_ 65536 V x i)) ((lN_add _ _).trans (congrArg lN (Nat.add_comm _ _))) ?_
      refine lv_lstore_n (lv' := [(2, .long (lN (dw_ V i * x + cm_ 65536 V x i))), (0, .ref m0), (1, .int (nI x)), (4, .int (nI i))]) hx hb dd_M_multiplyWords_25 rfl hl (by decide) rfl (fun ls hl => ?_)
      refine lv_aload_n hx hb dd_M_multiplyWords_26 rfl (lv_at hl 1 rfl) ?_
      refine mr_get C0 hM fk_M_102 (mu_n' (ne_k h_m h_xA (fun q => by cases q)) h_m) (v := .ref xA) rfl dd_M_multiplyWords_27 ?_
      refine lv_iload hx hb dd_M_multiplyWords_30 (lv_at hl 3 rfl) ?_
      refine lv_lload_n hx hb dd_M_multiplyWords_32 rfl (lv_at hl 0 rfl) ?_
      refine mr_ldc2 (v := lN 65535) C0 tw_714 dd_M_multiplyWords_33 ?_
      refine lv_land hx hb dd_M_multiplyWords_36 ?_
      refine mr_vl (x' := lN (dw_ (V * x) i)) ((lm16 (by omega)).trans (congrArg lN (by rw [cm_step (by decide), cm_dig]))) ?_
      refine lv_l2i (v := nI (dw_ (V * x) i)) hx hb dd_M_multiplyWords_37 (lN_i _) ?_
      refine mr_iast C0 hM hS mu_s (i) (rfl) (by omega) (by decide) dd_M_multiplyWords_38 (fun H locs hM hS => ?_)
      have hM := mr_M mu_mu hM
      have hM := mr_M (congrArg (fun z__ => mu_ M xA (ia_ G 32 z__)) (show (upd (wq_ V (V * x) i) i (nI (dw_ (V * x) i)) : Nat → Int32) = (wq_ V (V * x) (i + 1)) from wq_s V (V * x) i)) hM
      have hM : mm_ G (mu_ M xA (ia_ G 32 (wq_ V (V * x) (i + 1)))) H := hM
      refine lv_lload_n hx hb dd_M_multiplyWords_39 rfl (lv_at hl 0 rfl) ?_
      refine lv_bipush (v := nI 16) hx hb dd_M_multiplyWords_40 (by decide) ?_
      refine lv_lshr (v := lN (cm_ 65536 V x (i + 1))) hx hb dd_M_multiplyWords_42 ((lsr_nn h64 (by decide)).trans (congrArg lN (by rw [cm_step (by decide)]; exact cm_next 65536 V x i))) ?_
      refine lv_lstore_n (lv' := [(2, .long (lN (cm_ 65536 V x (i + 1)))), (0, .ref m0), (1, .int (nI x)), (4, .int (nI i))]) hx hb dd_M_multiplyWords_43 rfl hl (by decide) rfl (fun ls hl => ?_)
      refine lv_iinc (k := 3) (v := nI (i + 1)) (lv' := [(4, .int (nI (i + 1))), (2, .long (lN (cm_ 65536 V x (i + 1)))), (0, .ref m0), (1, .int (nI x))]) hx hb dd_M_multiplyWords_44 hl rfl (inc_ i) (by decide) rfl (fun ls hl => ?_)
      refine lv_goto (tgt := 5) hx hb dd_M_multiplyWords_47 rfl ?_
      exact ih (i + 1) _ _ _ (by omega) hM hS (lv_sub hl [2, 3, 1, 0] rfl)
  have hM := mr_M (mu_id h_xA).symm hM
  have hM := mr_iext (g := wq_ V (V * x) 0) (fun j _ => by rw [← wq_0]) hM
  exact loop_5 32 0 _ _ _ (rfl) hM hS (by rw [cm_0]; exact lv_sub hl [2, 3, 1, 0] rfl)

set_option maxHeartbeats 4000000 in
set_option maxRecDepth 100000 in
theorem c_M_restOfWords (l : Launch) {G : mg_} {M : mw_} {m0 kA wA psA ppA cA sA pA uA lA xA : Nat} {has pend now fac : Int32} {n1 n0 v1 v0 h1 h0 r1 r0 : Int64} {V d : Nat} (h_m : M m0 = some (ob_ 6 [.ref kA, .ref wA, .int has, .long n1, .long n0, .long v1, .long v0, .int pend, .ref psA, .ref ppA, .int now, .ref cA, .ref sA, .ref pA, .ref uA, .ref lA, .long h1, .long h0, .int fac, .long r1, .long r0, .ref xA])) (h_xA : M xA = some (ia_ G 32 (wl_ V)))  (hV : V < 65536 ^ 32) (hd : 0 < d) (hd31 : d < 2147483648) : dt_ l my_M_restOfWords cd_M_restOfWords 5 (some .long) { frames := 0, cells := 0, slots := 0, locals := 0 } G [.ref m0, .int (nI d)] M (some (.long (lN (V % d)))) (M) 0 0 := by
  refine ct_.intro2 (by decide) (Nat.le_of_ble_eq_true rfl) ?_
  intro p e s m args below meth c ls R Q hR hQ C0 hl hM hS
  have hx := C0.1
  have hb := C0.2.1
  have hl : lv_has ls 5 [(0, .ref m0), (1, .int (nI d))] := hl
  refine lv_lconst (v := lN 0) hx hb dd_M_restOfWords_0 rfl ?_
  refine lv_lstore_n (lv' := [(2, .long (lN 0)), (0, .ref m0), (1, .int (nI d))]) hx hb dd_M_restOfWords_1 rfl hl (by decide) rfl (fun ls hl => ?_)
  refine lv_bipush (v := nI 31) hx hb dd_M_restOfWords_2 (by decide) ?_
  refine lv_istore (lv' := [(4, .int (nI 31)), (2, .long (lN 0)), (0, .ref m0), (1, .int (nI d))]) hx hb dd_M_restOfWords_4 hl (by decide) rfl (fun ls hl => ?_)
  have loop_6 : ∀ (k : Nat)  (H : Heap) (locs : List Loc) (ls : Array Slot), k ≤ 32 → mm_ G (M) H → va_S (fz_ G) s.heap H locs → lv_has ls 5 [(0, .ref m0), (1, .int (nI d)), (2, .long (lN (V / 65536 ^ k % d))), (4, .int (nI k + (-1 : Int32)))] → W p l e R s m args below meth c H locs 0 0 Q (F0 m 6 ls []) := by
    intro k
    induction k with
    | zero =>
      intro  H locs ls hk hM hS hl
      have hl : lv_has ls 5 [(0, .ref m0), (1, .int (nI d)), (2, .long (lN (V / 65536 ^ 0 % d))), (4, .int (nI 0 + (-1 : Int32)))] := by exact hl
      refine lv_iload hx hb dd_M_restOfWords_6 (lv_at hl 3 rfl) ?_
      refine lv_if_lt (tgt := 35) hx hb dd_M_restOfWords_8 rfl (fun _ => ?_) (fun hc => absurd (by decide) hc)
      refine lv_lload_n hx hb dd_M_restOfWords_35 rfl (lv_at hl 2 rfl) ?_
      exact mr_ret hQ (mr_lret C0 hM hS (⟨by rw [Nat.pow_zero, Nat.div_one], rfl⟩) dd_M_restOfWords_36)
    | succ k ih =>
      intro  H locs ls hk hM hS hl
      have hk10 : k < 32 := by omega
      have hr : (V / 65536 ^ (k + 1) % d) < d := Nat.mod_lt _ hd
      have hg : dw_ V k < 65536 := dw_lt
      have hl : lv_has ls 5 [(0, .ref m0), (1, .int (nI d)), (2, .long (lN (V / 65536 ^ (k + 1) % d))), (4, .int (nI k))] := by rw [pk_m1] at hl; exact hl
      refine lv_iload hx hb dd_M_restOfWords_6 (lv_at hl 3 rfl) ?_
      refine lv_if_lt (tgt := 35) hx hb dd_M_restOfWords_8 rfl (fun hc => absurd hc (z_nlt (by omega))) (fun _ => ?_)
      refine lv_lload_n hx hb dd_M_restOfWords_11 rfl (lv_at hl 2 rfl) ?_
      refine mr_ldc2 (v := lN 65536) C0 tw_723 dd_M_restOfWords_12 ?_
      refine lv_lmul hx hb dd_M_restOfWords_15 ?_
      refine mr_vl (x' := lN ((V / 65536 ^ (k + 1) % d) * 65536)) (lN_mul _ _) ?_
      refine lv_aload_n hx hb dd_M_restOfWords_16 rfl (lv_at hl 0 rfl) ?_
      refine mr_get C0 hM fk_M_102 h_m (v := .ref xA) rfl dd_M_restOfWords_17 ?_
      refine lv_iload hx hb dd_M_restOfWords_20 (lv_at hl 3 rfl) ?_
      refine mr_iald C0 hM h_xA (k) (rfl) (by omega) (by decide) dd_M_restOfWords_22 ?_
      refine lv_i2l (v := lN (dw_ V k)) hx hb dd_M_restOfWords_23 (nI_l (Nat.lt_trans dw_lt (by decide))) ?_
      refine lv_ladd hx hb dd_M_restOfWords_24 ?_
      refine mr_vl (x' := lN ((V / 65536 ^ (k + 1) % d) * 65536 + dw_ V k)) (lN_add _ _) ?_
      refine lv_iload_n hx hb dd_M_restOfWords_25 rfl (lv_at hl 1 rfl) ?_
      refine lv_i2l (v := lN d) hx hb dd_M_restOfWords_26 (nI_l hd31) ?_
      refine lv_lrem hx hb dd_M_restOfWords_27 (ln0_ hd hd31) ?_
      refine mr_vl (x' := lN (V / 65536 ^ k % d)) ((pk_lRem (by omega) hd (by omega)).trans (congrArg lN (dr_step V k))) ?_
      refine lv_lstore_n (lv' := [(2, .long (lN (V / 65536 ^ k % d))), (0, .ref m0), (1, .int (nI d)), (4, .int (nI k))]) hx hb dd_M_restOfWords_28 rfl hl (by decide) rfl (fun ls hl => ?_)
      refine lv_iinc (k := 3) (v := nI k + (-1 : Int32)) (lv' := [(4, .int (nI k + (-1 : Int32))), (2, .long (lN (V / 65536 ^ k % d))), (0, .ref m0), (1, .int (nI d))]) hx hb dd_M_restOfWords_29 hl rfl (rfl) (by decide) rfl (fun ls hl => ?_)
      refine lv_goto (tgt := 6) hx hb dd_M_restOfWords_32 rfl ?_
      exact ih  _ _ _ (by omega) hM hS (lv_sub hl [2, 3, 1, 0] rfl)
  exact loop_6 32  _ _ _ (Nat.le_refl _) hM hS (by rw [show nI 32 + (-1 : Int32) = nI 31 from by decide, show V / 65536 ^ 32 % d = 0 by rw [Nat.div_eq_of_lt hV, Nat.zero_mod]]; exact lv_sub hl [2, 3, 1, 0] rfl)

set_option maxHeartbeats 4000000 in
set_option maxRecDepth 100000 in
theorem c_M_invertWords (l : Launch) {G : mg_} {M : mw_} {m0 kA wA psA ppA cA sA pA uA lA xA : Nat} {has pend now fac : Int32} {n1 n0 v1 v0 h1 h0 r1 r0 : Int64} {V d : Nat} (h_m : M m0 = some (ob_ 6 [.ref kA, .ref wA, .int has, .long n1, .long n0, .long v1, .long v0, .int pend, .ref psA, .ref ppA, .int now, .ref cA, .ref sA, .ref pA, .ref uA, .ref lA, .long h1, .long h0, .int fac, .long r1, .long r0, .ref xA])) (h_xA : M xA = some (ia_ G 32 (wl_ V)))  (hV : V < 65536 ^ 32) (hW : (V * ((V % d) ^ (d - 2) % d)) < 65536 ^ 32) (hd : 2 ≤ d) (hd31 : d < 2147483648) : dt_ l my_M_invertWords cd_M_invertWords 9 (some .int) { frames := 1, cells := 0, slots := 0, locals := 24 } G [.ref m0, .int (nI d)] M (some (.int (nI ((V % d) ^ (d - 2) % d)))) (mu_ M xA (ia_ G 32 (wl_ ((V * ((V % d) ^ (d - 2) % d)) / d)))) 0 0 := by
  refine ct_.intro2 (by decide) (Nat.le_of_ble_eq_true rfl) ?_
  intro p e s m args below meth c ls R Q hR hQ C0 hl hM hS
  have hx := C0.1
  have hb := C0.2.1
  have hl : lv_has ls 9 [(0, .ref m0), (1, .int (nI d))] := hl
  have hy : (V % d) < d := Nat.mod_lt _ (by omega)
  have hbb : ((V % d) ^ (d - 2) % d) < d := Nat.mod_lt _ (by omega)
  refine lv_aload_n hx hb dd_M_invertWords_0 rfl (lv_at hl 0 rfl) ?_
  refine lv_iload_n hx hb dd_M_invertWords_1 rfl (lv_at hl 1 rfl) ?_
  refine mr_callV (As := [.int (nI d)]) (rest := []) C0 hM hS vk_M_171 h_m rfl (c_M_restOfWords l h_m h_xA  hV (by omega) hd31) rfl rfl hl.1 (Nat.le_of_ble_eq_true rfl) rfl rfl (by subst hR; exact ⟨Nat.le_of_ble_eq_true rfl, Nat.le_of_ble_eq_true rfl⟩) (by subst hR; exact ⟨Nat.le_of_ble_eq_true rfl, Nat.le_of_ble_eq_true rfl⟩) dd_M_invertWords_2 (fun v1 M1 H locs hp hM hS => ?_)
  obtain ⟨ev1, eM1⟩ := hp
  subst ev1
  rw [eM1] at hM
  refine W.eq (g2 := F0 m 5 ls [.long (lN (V % d))]) rfl ?_
  refine lv_lstore_n (lv' := [(2, .long (lN (V % d))), (0, .ref m0), (1, .int (nI d))]) hx hb dd_M_invertWords_5 rfl hl (by decide) rfl (fun ls hl => ?_)
  refine lv_lconst (v := lN 1) hx hb dd_M_invertWords_6 rfl ?_
  refine lv_lstore (lv' := [(4, .long (lN 1)), (2, .long (lN (V % d))), (0, .ref m0), (1, .int (nI d))]) hx hb dd_M_invertWords_7 hl (by decide) rfl (fun ls hl => ?_)
  refine lv_bipush (v := nI 30) hx hb dd_M_invertWords_9 (by decide) ?_
  refine lv_istore (lv' := [(6, .int (nI 30)), (4, .long (lN 1)), (2, .long (lN (V % d))), (0, .ref m0), (1, .int (nI d))]) hx hb dd_M_invertWords_11 hl (by decide) rfl (fun ls hl => ?_)
  have loop_13 : ∀ (k : Nat)  (H : Heap) (locs : List Loc) (ls : Array Slot), k ≤ 31 → mm_ G (M) H → va_S (fz_ G) s.heap H locs → lv_has ls 9 [(0, .ref m0), (1, .int (nI d)), (2, .long (lN (V % d))), (4, .long (lN ((V % d) ^ ((d - 2) / 2 ^ k) % d))), (6, .int (nI k + (-1 : Int32)))] → W p l e R s m args below meth c H locs 0 0 Q (F0 m 13 ls []) := by
    intro k
    induction k with
    | zero =>
      intro  H locs ls hk hM hS hl
      have hl : lv_has ls 9 [(0, .ref m0), (1, .int (nI d)), (2, .long (lN (V % d))), (4, .long (lN ((V % d) ^ ((d - 2) / 2 ^ 0) % d))), (6, .int (nI 0 + (-1 : Int32)))] := by exact hl
      refine lv_iload hx hb dd_M_invertWords_13 (lv_at hl 4 rfl) ?_
      refine lv_if_lt (tgt := 60) hx hb dd_M_invertWords_15 rfl (fun _ => ?_) (fun hc => absurd (by decide) hc)
      refine lv_aload_n hx hb dd_M_invertWords_60 rfl (lv_at hl 0 rfl) ?_
      refine lv_lload hx hb dd_M_invertWords_61 (lv_at hl 3 rfl) ?_
      refine lv_l2i (v := nI ((V % d) ^ (d - 2) % d)) hx hb dd_M_invertWords_63 ((lN_i _).trans (congrArg nI (by rw [Nat.pow_zero, Nat.div_one]))) ?_
      refine mr_callV (As := [.int (nI ((V % d) ^ (d - 2) % d))]) (rest := []) C0 hM hS vk_M_175 h_m rfl (c_M_multiplyWords l h_m h_xA  (x := ((V % d) ^ (d - 2) % d)) (by omega)) rfl rfl hl.1 (Nat.le_of_ble_eq_true rfl) rfl rfl (by subst hR; exact ⟨Nat.le_of_ble_eq_true rfl, Nat.le_of_ble_eq_true rfl⟩) (by subst hR; exact ⟨Nat.le_of_ble_eq_true rfl, Nat.le_of_ble_eq_true rfl⟩) dd_M_invertWords_64 (fun v1 M1 H locs hp hM hS => ?_)
      obtain ⟨ev1, eM1⟩ := hp
      subst ev1
      rw [eM1] at hM
      have hM : mm_ G (mu_ M xA (ia_ G 32 (wl_ (V * ((V % d) ^ (d - 2) % d))))) H := hM
      refine W.eq (g2 := F0 m 67 ls []) rfl ?_
      have hl : lv_has ls 9 [(0, .ref m0), (1, .int (nI d)), (4, .long (lN ((V % d) ^ (d - 2) % d)))] := by
        have h := lv_sub hl [0, 1, 3] rfl
        rw [Nat.pow_zero, Nat.div_one] at h
        exact h
      refine lv_lconst (v := lN 0) hx hb dd_M_invertWords_67 rfl ?_
      refine lv_lstore (lv' := [(6, .long (lN 0)), (0, .ref m0), (1, .int (nI d)), (4, .long (lN ((V % d) ^ (d - 2) % d)))]) hx hb dd_M_invertWords_68 hl (by decide) rfl (fun ls hl => ?_)
      refine lv_bipush (v := nI 31) hx hb dd_M_invertWords_70 (by decide) ?_
      refine lv_istore (lv' := [(8, .int (nI 31)), (6, .long (lN 0)), (0, .ref m0), (1, .int (nI d)), (4, .long (lN ((V % d) ^ (d - 2) % d)))]) hx hb dd_M_invertWords_72 hl (by decide) rfl (fun ls hl => ?_)
      have loop_74 : ∀ (q : Nat)  (H : Heap) (locs : List Loc) (ls : Array Slot), q ≤ 32 → mm_ G (mu_ M xA (ia_ G 32 (wq_ ((V * ((V % d) ^ (d - 2) % d)) / d) (V * ((V % d) ^ (d - 2) % d)) q))) H → va_S (fz_ G) s.heap H locs → lv_has ls 9 [(0, .ref m0), (1, .int (nI d)), (4, .long (lN ((V % d) ^ (d - 2) % d))), (6, .long (lN ((V * ((V % d) ^ (d - 2) % d)) / 65536 ^ q % d))), (8, .int (nI q + (-1 : Int32)))] → W p l e R s m args below meth c H locs 0 0 Q (F0 m 74 ls []) := by
        intro q
        induction q with
        | zero =>
          intro  H locs ls hk2 hM hS hl
          have hl : lv_has ls 9 [(0, .ref m0), (1, .int (nI d)), (4, .long (lN ((V % d) ^ (d - 2) % d))), (6, .long (lN ((V * ((V % d) ^ (d - 2) % d)) / 65536 ^ 0 % d))), (8, .int (nI 0 + (-1 : Int32)))] := by exact hl
          have hM : mm_ G (mu_ M xA (ia_ G 32 (wq_ ((V * ((V % d) ^ (d - 2) % d)) / d) (V * ((V % d) ^ (d - 2) % d)) 0))) H := hM
          refine lv_iload hx hb dd_M_invertWords_74 (lv_at hl 4 rfl) ?_
          refine lv_if_lt (tgt := 122) hx hb dd_M_invertWords_76 rfl (fun _ => ?_) (fun hc => absurd (by decide) hc)
          refine lv_lload hx hb dd_M_invertWords_122 (lv_at hl 2 rfl) ?_
          refine lv_l2i (v := nI ((V % d) ^ (d - 2) % d)) hx hb dd_M_invertWords_124 (lN_i _) ?_
          have hM := mr_iext (g := wl_ ((V * ((V % d) ^ (d - 2) % d)) / d)) (fun j _ => wq_a (Nat.not_lt_zero j)) hM
          exact mr_ret hQ (mr_iret C0 hM hS (rfl) (⟨rfl, rfl⟩) dd_M_invertWords_125)
        | succ q ih2 =>
          intro  H locs ls hk2 hM hS hl
          have hq10 : q < 32 := by omega
          have hr : ((V * ((V % d) ^ (d - 2) % d)) / 65536 ^ (q + 1) % d) < d := Nat.mod_lt _ (by omega)
          have hg : dw_ (V * ((V % d) ^ (d - 2) % d)) q < 65536 := dw_lt
          have hl : lv_has ls 9 [(0, .ref m0), (1, .int (nI d)), (4, .long (lN ((V % d) ^ (d - 2) % d))), (6, .long (lN ((V * ((V % d) ^ (d - 2) % d)) / 65536 ^ (q + 1) % d))), (8, .int (nI q))] := by rw [pk_m1] at hl; exact hl
          have hM : mm_ G (mu_ M xA (ia_ G 32 (wq_ ((V * ((V % d) ^ (d - 2) % d)) / d) (V * ((V % d) ^ (d - 2) % d)) (q + 1)))) H := hM
          refine lv_iload hx hb dd_M_invertWords_74 (lv_at hl 4 rfl) ?_
          refine lv_if_lt (tgt := 122) hx hb dd_M_invertWords_76 rfl (fun hc => absurd hc (z_nlt (by omega))) (fun _ => ?_)
          refine lv_lload hx hb dd_M_invertWords_79 (lv_at hl 3 rfl) ?_
          refine mr_ldc2 (v := lN 65536) C0 tw_723 dd_M_invertWords_81 ?_
          refine lv_lmul hx hb dd_M_invertWords_84 ?_
          refine mr_vl (x' := lN (((V * ((V % d) ^ (d - 2) % d)) / 65536 ^ (q + 1) % d) * 65536)) (lN_mul _ _) ?_
          refine lv_aload_n hx hb dd_M_invertWords_85 rfl (lv_at hl 0 rfl) ?_
          refine mr_get C0 hM fk_M_102 (mu_n' (ne_k h_m h_xA (fun q => by cases q)) h_m) (v := .ref xA) rfl dd_M_invertWords_86 ?_
          refine lv_iload hx hb dd_M_invertWords_89 (lv_at hl 4 rfl) ?_
          refine mr_iald C0 hM mu_s (q) (rfl) (by omega) (by decide) dd_M_invertWords_91 ?_
          refine lv_i2l (v := lN (dw_ (V * ((V % d) ^ (d - 2) % d)) q)) hx hb dd_M_invertWords_92 ((congrArg Int32.toInt64 (wq_b (Nat.lt_succ_self q))).trans (nI_l (by omega))) ?_
          refine lv_ladd hx hb dd_M_invertWords_93 ?_
          refine mr_vl (x' := lN (((V * ((V % d) ^ (d - 2) % d)) / 65536 ^ (q + 1) % d) * 65536 + dw_ (V * ((V % d) ^ (d - 2) % d)) q)) (lN_add _ _) ?_
          refine lv_lstore (lv' := [(6, .long (lN (((V * ((V % d) ^ (d - 2) % d)) / 65536 ^ (q + 1) % d) * 65536 + dw_ (V * ((V % d) ^ (d - 2) % d)) q))), (0, .ref m0), (1, .int (nI d)), (4, .long (lN ((V % d) ^ (d - 2) % d))), (8, .int (nI q))]) hx hb dd_M_invertWords_94 hl (by decide) rfl (fun ls hl => ?_)
          refine lv_aload_n hx hb dd_M_invertWords_96 rfl (lv_at hl 1 rfl) ?_
          refine mr_get C0 hM fk_M_102 (mu_n' (ne_k h_m h_xA (fun q => by cases q)) h_m) (v := .ref xA) rfl dd_M_invertWords_97 ?_
          refine lv_iload hx hb dd_M_invertWords_100 (lv_at hl 4 rfl) ?_
          refine lv_lload hx hb dd_M_invertWords_102 (lv_at hl 0 rfl) ?_
          refine lv_iload_n hx hb dd_M_invertWords_104 rfl (lv_at hl 2 rfl) ?_
          refine lv_i2l (v := lN d) hx hb dd_M_invertWords_105 (nI_l hd31) ?_
          refine lv_ldiv hx hb dd_M_invertWords_106 (ln0_ (by omega) hd31) ?_
          refine mr_vl (x' := lN (dw_ ((V * ((V % d) ^ (d - 2) % d)) / d) q)) ((pk_lDiv (by omega) (by omega) (by omega)).trans (congrArg lN (dq_step (by decide) (by omega) (V * ((V % d) ^ (d - 2) % d)) q).symm)) ?_
          refine lv_l2i (v := nI (dw_ ((V * ((V % d) ^ (d - 2) % d)) / d) q)) hx hb dd_M_invertWords_107 (lN_i _) ?_
          refine mr_iast C0 hM hS mu_s (q) (rfl) (by omega) (by decide) dd_M_invertWords_108 (fun H locs hM hS => ?_)
          have hM := mr_M mu_mu hM
          have hM := mr_M (congrArg (fun z__ => mu_ M xA (ia_ G 32 z__)) (show (upd (wq_ ((V * ((V % d) ^ (d - 2) % d)) / d) (V * ((V % d) ^ (d - 2) % d)) (q + 1)) q (nI (dw_ ((V * ((V % d) ^ (d - 2) % d)) / d) q)) : Nat → Int32) = (wq_ ((V * ((V % d) ^ (d - 2) % d)) / d) (V * ((V % d) ^ (d - 2) % d)) q) from wq_d ((V * ((V % d) ^ (d - 2) % d)) / d) (V * ((V % d) ^ (d - 2) % d)) q)) hM
          have hM : mm_ G (mu_ M xA (ia_ G 32 (wq_ ((V * ((V % d) ^ (d - 2) % d)) / d) (V * ((V % d) ^ (d - 2) % d)) q))) H := hM
          refine lv_lload hx hb dd_M_invertWords_109 (lv_at hl 0 rfl) ?_
          refine lv_iload_n hx hb dd_M_invertWords_111 rfl (lv_at hl 2 rfl) ?_
          refine lv_i2l (v := lN d) hx hb dd_M_invertWords_112 (nI_l hd31) ?_
          refine lv_lrem hx hb dd_M_invertWords_113 (ln0_ (by omega) hd31) ?_
          refine mr_vl (x' := lN ((V * ((V % d) ^ (d - 2) % d)) / 65536 ^ q % d)) ((pk_lRem (by omega) (by omega) (by omega)).trans (congrArg lN (dr_step (V * ((V % d) ^ (d - 2) % d)) q))) ?_
          refine lv_lstore (lv' := [(6, .long (lN ((V * ((V % d) ^ (d - 2) % d)) / 65536 ^ q % d))), (0, .ref m0), (1, .int (nI d)), (4, .long (lN ((V % d) ^ (d - 2) % d))), (8, .int (nI q))]) hx hb dd_M_invertWords_114 hl (by decide) rfl (fun ls hl => ?_)
          refine lv_iinc (k := 4) (v := nI q + (-1 : Int32)) (lv' := [(8, .int (nI q + (-1 : Int32))), (6, .long (lN ((V * ((V % d) ^ (d - 2) % d)) / 65536 ^ q % d))), (0, .ref m0), (1, .int (nI d)), (4, .long (lN ((V % d) ^ (d - 2) % d)))]) hx hb dd_M_invertWords_116 hl rfl (rfl) (by decide) rfl (fun ls hl => ?_)
          refine lv_goto (tgt := 74) hx hb dd_M_invertWords_119 rfl ?_
          exact ih2  _ _ _ (by omega) hM hS (lv_sub hl [2, 3, 4, 1, 0] rfl)
      have hM := mr_iext (g := wq_ ((V * ((V % d) ^ (d - 2) % d)) / d) (V * ((V % d) ^ (d - 2) % d)) 32) (fun j hj => (wq_b hj).symm) hM
      exact loop_74 32  _ _ _ (Nat.le_refl _) hM hS (by rw [show nI 32 + (-1 : Int32) = nI 31 from by decide, show (V * ((V % d) ^ (d - 2) % d)) / 65536 ^ 32 % d = 0 by rw [Nat.div_eq_of_lt hW, Nat.zero_mod]]; exact lv_sub hl [2, 3, 4, 1, 0] rfl)
    | succ k ih =>
      intro  H locs ls hk hM hS hl
      have hk10 : k < 31 := by omega
      have hr : ((V % d) ^ ((d - 2) / 2 ^ (k + 1)) % d) < d := Nat.mod_lt _ (by omega)
      have hr2 : (((V % d) ^ ((d - 2) / 2 ^ (k + 1)) % d) * ((V % d) ^ ((d - 2) / 2 ^ (k + 1)) % d) % d) < d := Nat.mod_lt _ (by omega)
      have hm1 := m31_lt (show ((V % d) ^ ((d - 2) / 2 ^ (k + 1)) % d) < 2147483648 by omega) (show ((V % d) ^ ((d - 2) / 2 ^ (k + 1)) % d) < 2147483648 by omega)
      have hm2 := m31_lt (show (((V % d) ^ ((d - 2) / 2 ^ (k + 1)) % d) * ((V % d) ^ ((d - 2) / 2 ^ (k + 1)) % d) % d) < 2147483648 by omega) (show (V % d) < 2147483648 by omega)
      have hl : lv_has ls 9 [(0, .ref m0), (1, .int (nI d)), (2, .long (lN (V % d))), (4, .long (lN ((V % d) ^ ((d - 2) / 2 ^ (k + 1)) % d))), (6, .int (nI k))] := by rw [pk_m1] at hl; exact hl
      refine lv_iload hx hb dd_M_invertWords_13 (lv_at hl 4 rfl) ?_
      refine lv_if_lt (tgt := 60) hx hb dd_M_invertWords_15 rfl (fun hc => absurd hc (z_nlt (by omega))) (fun _ => ?_)
      refine lv_lload hx hb dd_M_invertWords_18 (lv_at hl 3 rfl) ?_
      refine lv_lload hx hb dd_M_invertWords_20 (lv_at hl 3 rfl) ?_
      refine lv_lmul hx hb dd_M_invertWords_22 ?_
      refine mr_vl (x' := lN (((V % d) ^ ((d - 2) / 2 ^ (k + 1)) % d) * ((V % d) ^ ((d - 2) / 2 ^ (k + 1)) % d))) (lN_mul _ _) ?_
      refine lv_iload_n hx hb dd_M_invertWords_23 rfl (lv_at hl 1 rfl) ?_
      refine lv_i2l (v := lN d) hx hb dd_M_invertWords_24 (nI_l hd31) ?_
      refine lv_lrem hx hb dd_M_invertWords_25 (ln0_ (by omega) hd31) ?_
      refine mr_vl (x' := lN (((V % d) ^ ((d - 2) / 2 ^ (k + 1)) % d) * ((V % d) ^ ((d - 2) / 2 ^ (k + 1)) % d) % d)) (pk_lRem (by omega) (by omega) (by omega)) ?_
      refine lv_lstore (lv' := [(4, .long (lN (((V % d) ^ ((d - 2) / 2 ^ (k + 1)) % d) * ((V % d) ^ ((d - 2) / 2 ^ (k + 1)) % d) % d))), (0, .ref m0), (1, .int (nI d)), (2, .long (lN (V % d))), (6, .int (nI k))]) hx hb dd_M_invertWords_26 hl (by decide) rfl (fun ls hl => ?_)
      refine lv_iload_n hx hb dd_M_invertWords_28 rfl (lv_at hl 2 rfl) ?_
      refine lv_iconst (v := nI 2) hx hb dd_M_invertWords_29 (by decide) ?_
      refine lv_isub hx hb dd_M_invertWords_30 ?_
      refine mr_vi (pk_sub (a := d) (b := 2) (by omega)) ?_
      refine lv_iload hx hb dd_M_invertWords_31 (lv_at hl 4 rfl) ?_
      refine lv_ishr hx hb dd_M_invertWords_33 ?_
      refine mr_vi (x' := nI ((d - 2) / 2 ^ k)) (nI_shr (by omega) (by omega)) ?_
      refine lv_iconst (v := nI 1) hx hb dd_M_invertWords_34 (by decide) ?_
      refine lv_iand hx hb dd_M_invertWords_35 ?_
      refine mr_vi (x' := nI ((d - 2) / 2 ^ k % 2)) (pk_andN (Nat.lt_of_le_of_lt (Nat.div_le_self _ _) (by omega)) 1 (by decide)) ?_
      refine lv_iconst (v := nI 1) hx hb dd_M_invertWords_36 (by decide) ?_
      refine lv_icmp_ne (tgt := 50) hx hb dd_M_invertWords_37 rfl (fun h37 => ?_) (fun h37 => ?_)
      · skip
        have hv : (d - 2) / 2 ^ k % 2 = 0 := by
          have h2 : (d - 2) / 2 ^ k % 2 ≠ 1 := fun q => h37 (congrArg nI q)
          omega
        have hbk := mp_0 (A := (V % d)) (N := d) hv
        refine lv_lload hx hb dd_M_invertWords_50 (lv_at hl 0 rfl) ?_
        refine lv_lstore (lv' := [(4, .long (lN (((V % d) ^ ((d - 2) / 2 ^ (k + 1)) % d) * ((V % d) ^ ((d - 2) / 2 ^ (k + 1)) % d) % d))), (0, .ref m0), (1, .int (nI d)), (2, .long (lN (V % d))), (6, .int (nI k))]) hx hb dd_M_invertWords_52 hl (by decide) rfl (fun ls hl => ?_)
        refine lv_iinc (k := 4) (v := nI k + (-1 : Int32)) (lv' := [(6, .int (nI k + (-1 : Int32))), (4, .long (lN (((V % d) ^ ((d - 2) / 2 ^ (k + 1)) % d) * ((V % d) ^ ((d - 2) / 2 ^ (k + 1)) % d) % d))), (0, .ref m0), (1, .int (nI d)), (2, .long (lN (V % d)))]) hx hb dd_M_invertWords_54 hl rfl (rfl) (by decide) rfl (fun ls hl => ?_)
        refine lv_goto (tgt := 13) hx hb dd_M_invertWords_57 rfl ?_
        exact ih  _ _ _ (by omega) hM hS (by rw [hbk]; exact lv_sub hl [2, 3, 4, 1, 0] rfl)
      · skip
        have hv : (d - 2) / 2 ^ k % 2 = 1 := (nI_eq (by omega) (by decide)).mp h37
        have hbk := mp_1 (A := (V % d)) (N := d) hv
        refine lv_lload hx hb dd_M_invertWords_40 (lv_at hl 0 rfl) ?_
        refine lv_lload_n hx hb dd_M_invertWords_42 rfl (lv_at hl 3 rfl) ?_
        refine lv_lmul hx hb dd_M_invertWords_43 ?_
        refine mr_vl (x' := lN ((((V % d) ^ ((d - 2) / 2 ^ (k + 1)) % d) * ((V % d) ^ ((d - 2) / 2 ^ (k + 1)) % d) % d) * (V % d))) (lN_mul _ _) ?_
        refine lv_iload_n hx hb dd_M_invertWords_44 rfl (lv_at hl 2 rfl) ?_
        refine lv_i2l (v := lN d) hx hb dd_M_invertWords_45 (nI_l hd31) ?_
        refine lv_lrem hx hb dd_M_invertWords_46 (ln0_ (by omega) hd31) ?_
        refine mr_vl (x' := lN ((((V % d) ^ ((d - 2) / 2 ^ (k + 1)) % d) * ((V % d) ^ ((d - 2) / 2 ^ (k + 1)) % d) % d) * (V % d) % d)) (pk_lRem (by omega) (by omega) (by omega)) ?_
        refine lv_goto (tgt := 52) hx hb dd_M_invertWords_47 rfl ?_
        refine lv_lstore (lv' := [(4, .long (lN ((((V % d) ^ ((d - 2) / 2 ^ (k + 1)) % d) * ((V % d) ^ ((d - 2) / 2 ^ (k + 1)) % d) % d) * (V % d) % d))), (0, .ref m0), (1, .int (nI d)), (2, .long (lN (V % d))), (6, .int (nI k))]) hx hb dd_M_invertWords_52 hl (by decide) rfl (fun ls hl => ?_)
        refine lv_iinc (k := 4) (v := nI k + (-1 : Int32)) (lv' := [(6, .int (nI k + (-1 : Int32))), (4, .long (lN ((((V % d) ^ ((d - 2) / 2 ^ (k + 1)) % d) * ((V % d) ^ ((d - 2) / 2 ^ (k + 1)) % d) % d) * (V % d) % d))), (0, .ref m0), (1, .int (nI d)), (2, .long (lN (V % d)))]) hx hb dd_M_invertWords_54 hl rfl (rfl) (by decide) rfl (fun ls hl => ?_)
        refine lv_goto (tgt := 13) hx hb dd_M_invertWords_57 rfl ?_
        exact ih  _ _ _ (by omega) hM hS (by rw [hbk]; exact lv_sub hl [2, 3, 4, 1, 0] rfl)
  exact loop_13 31  _ _ _ (Nat.le_refl _) hM hS (by rw [show nI 31 + (-1 : Int32) = nI 30 from by decide, show (V % d) ^ ((d - 2) / 2 ^ 31) % d = 1 by rw [Nat.div_eq_of_lt (by omega), Nat.pow_zero, Nat.mod_eq_of_lt (by omega)]]; exact lv_sub hl [3, 4, 2, 1, 0] rfl)

set_option maxHeartbeats 4000000 in
set_option maxRecDepth 100000 in
theorem c_M_powerOfWords (l : Launch) {G : mg_} {M : mw_} {m0 kA wA psA ppA cA sA pA uA lA xA : Nat} {has pend now fac : Int32} {v1 v0 h1 h0 r1 r0 : Int64} {A V N : Nat} (h_m : M m0 = some (ob_ 6 [.ref kA, .ref wA, .int has, .long (hi_ N), .long (lo_ N), .long v1, .long v0, .int pend, .ref psA, .ref ppA, .int now, .ref cA, .ref sA, .ref pA, .ref uA, .ref lA, .long h1, .long h0, .int fac, .long r1, .long r0, .ref xA])) (h_xA : M xA = some (ia_ G 32 (wl_ V)))  (hN : N < 340282366920938463463374607431768211456) (hA : A < N) (hN1 : 1 < N) (hV : V < 2 ^ 512) : dt_ l my_M_powerOfWords cd_M_powerOfWords 11 none { frames := 4, cells := 0, slots := 0, locals := 113 } G [.ref m0, .long (hi_ A), .long (lo_ A)] M none (mu_ M m0 (ob_ 6 [.ref kA, .ref wA, .int has, .long (hi_ N), .long (lo_ N), .long v1, .long v0, .int pend, .ref psA, .ref ppA, .int now, .ref cA, .ref sA, .ref pA, .ref uA, .ref lA, .long h1, .long h0, .int fac, .long (hi_ (A ^ V % N)), .long (lo_ (A ^ V % N)), .ref xA])) 0 0 := by
  refine ct_.intro2 (by decide) (Nat.le_of_ble_eq_true rfl) ?_
  intro p e s m args below meth c ls R Q hR hQ C0 hl hM hS
  have hx := C0.1
  have hb := C0.2.1
  have hl : lv_has ls 11 [(0, .ref m0), (1, .long (hi_ A)), (3, .long (lo_ A))] := hl
  have hN0 : 0 < N := by omega
  refine lv_lconst (v := lN 0) hx hb dd_M_powerOfWords_0 rfl ?_
  refine lv_lstore (lv' := [(5, .long (lN 0)), (0, .ref m0), (1, .long (hi_ A)), (3, .long (lo_ A))]) hx hb dd_M_powerOfWords_1 hl (by decide) rfl (fun ls hl => ?_)
  refine lv_lconst (v := lN 1) hx hb dd_M_powerOfWords_3 rfl ?_
  refine lv_lstore (lv' := [(7, .long (lN 1)), (5, .long (lN 0)), (0, .ref m0), (1, .long (hi_ A)), (3, .long (lo_ A))]) hx hb dd_M_powerOfWords_4 hl (by decide) rfl (fun ls hl => ?_)
  refine lv_iconst (v := nI 0) hx hb dd_M_powerOfWords_6 (by decide) ?_
  refine lv_istore (lv' := [(9, .int (nI 0)), (7, .long (lN 1)), (5, .long (lN 0)), (0, .ref m0), (1, .long (hi_ A)), (3, .long (lo_ A))]) hx hb dd_M_powerOfWords_7 hl (by decide) rfl (fun ls hl => ?_)
  refine lv_sipush (v := nI 511) hx hb dd_M_powerOfWords_9 (by decide) ?_
  refine lv_istore (lv' := [(10, .int (nI 511)), (9, .int (nI 0)), (7, .long (lN 1)), (5, .long (lN 0)), (0, .ref m0), (1, .long (hi_ A)), (3, .long (lo_ A))]) hx hb dd_M_powerOfWords_12 hl (by decide) rfl (fun ls hl => ?_)
  have loop_14 : ∀ (k : Nat) (x1 : Int64) (x0 : Int64) (H : Heap) (locs : List Loc) (ls : Array Slot), k ≤ 512 → mm_ G (mu_ M m0 (ob_ 6 [.ref kA, .ref wA, .int has, .long (hi_ N), .long (lo_ N), .long v1, .long v0, .int pend, .ref psA, .ref ppA, .int now, .ref cA, .ref sA, .ref pA, .ref uA, .ref lA, .long h1, .long h0, .int fac, .long x1, .long x0, .ref xA])) H → va_S (fz_ G) s.heap H locs → lv_has ls 11 [(0, .ref m0), (1, .long (hi_ A)), (3, .long (lo_ A)), (5, .long (hi_ (A ^ (V / 2 ^ k) % N))), (7, .long (lo_ (A ^ (V / 2 ^ k) % N))), (9, .int (nI (bg_ (V / 2 ^ k)))), (10, .int (nI k + (-1 : Int32)))] → W p l e R s m args below meth c H locs 0 0 Q (F0 m 14 ls []) := by
    intro k
    induction k with
    | zero =>
      intro x1 x0 H locs ls hk hM hS hl
      have hl : lv_has ls 11 [(0, .ref m0), (1, .long (hi_ A)), (3, .long (lo_ A)), (5, .long (hi_ (A ^ (V / 2 ^ 0) % N))), (7, .long (lo_ (A ^ (V / 2 ^ 0) % N))), (9, .int (nI (bg_ (V / 2 ^ 0)))), (10, .int (nI 0 + (-1 : Int32)))] := by exact hl
      refine lv_iload hx hb dd_M_powerOfWords_14 (lv_at hl 6 rfl) ?_
      refine lv_if_lt (tgt := 101) hx hb dd_M_powerOfWords_16 rfl (fun _ => ?_) (fun hc => absurd (by decide) hc)
      refine lv_aload_n hx hb dd_M_powerOfWords_101 rfl (lv_at hl 0 rfl) ?_
      refine lv_lload hx hb dd_M_powerOfWords_102 (lv_at hl 3 rfl) ?_
      refine mr_put C0 hM hS fk_M_154 fp_M_154 mu_s rfl (rfl) (rfl) (Nat.le_of_ble_eq_true rfl) dd_M_powerOfWords_104 (fun H locs hM hS => ?_)
      have hM := mr_M mu_mu hM
      have hM : mm_ G (mu_ M m0 (ob_ 6 [.ref kA, .ref wA, .int has, .long (hi_ N), .long (lo_ N), .long v1, .long v0, .int pend, .ref psA, .ref ppA, .int now, .ref cA, .ref sA, .ref pA, .ref uA, .ref lA, .long h1, .long h0, .int fac, .long (hi_ (A ^ (V / 2 ^ 0) % N)), .long x0, .ref xA])) H := hM
      refine lv_aload_n hx hb dd_M_powerOfWords_107 rfl (lv_at hl 0 rfl) ?_
      refine lv_lload hx hb dd_M_powerOfWords_108 (lv_at hl 4 rfl) ?_
      refine mr_put C0 hM hS fk_M_151 fp_M_151 mu_s rfl (rfl) (rfl) (Nat.le_of_ble_eq_true rfl) dd_M_powerOfWords_110 (fun H locs hM hS => ?_)
      have hM := mr_M mu_mu hM
      have hM : mm_ G (mu_ M m0 (ob_ 6 [.ref kA, .ref wA, .int has, .long (hi_ N), .long (lo_ N), .long v1, .long v0, .int pend, .ref psA, .ref ppA, .int now, .ref cA, .ref sA, .ref pA, .ref uA, .ref lA, .long h1, .long h0, .int fac, .long (hi_ (A ^ (V / 2 ^ 0) % N)), .long (lo_ (A ^ (V / 2 ^ 0) % N)), .ref xA])) H := hM
      rw [Nat.pow_zero, Nat.div_one] at hM
      exact mr_ret hQ (mr_vret C0 hM hS (⟨rfl, rfl⟩) dd_M_powerOfWords_113)
    | succ k ih =>
      intro x1 x0 H locs ls hk hM hS hl
      have hk10 : k < 512 := by omega
      have hp1 : (A ^ (V / 2 ^ (k + 1)) % N) < N := Nat.mod_lt _ hN0
      have hp2 : ((A ^ (V / 2 ^ (k + 1)) % N) * (A ^ (V / 2 ^ (k + 1)) % N) % N) < N := Nat.mod_lt _ hN0
      have hbs := bit_s V k
      have hl : lv_has ls 11 [(0, .ref m0), (1, .long (hi_ A)), (3, .long (lo_ A)), (5, .long (hi_ (A ^ (V / 2 ^ (k + 1)) % N))), (7, .long (lo_ (A ^ (V / 2 ^ (k + 1)) % N))), (9, .int (nI (bg_ (V / 2 ^ (k + 1))))), (10, .int (nI k))] := by rw [pk_m1] at hl; exact hl
      refine lv_iload hx hb dd_M_powerOfWords_14 (lv_at hl 6 rfl) ?_
      refine lv_if_lt (tgt := 101) hx hb dd_M_powerOfWords_16 rfl (fun hc => absurd hc (z_nlt (by omega))) (fun _ => ?_)
      refine lv_iload hx hb dd_M_powerOfWords_19 (lv_at hl 5 rfl) ?_
      have join_48 : ∀ (z1 : Int64) (z0 : Int64) (H : Heap) (locs : List Loc) (ls : Array Slot), mm_ G (mu_ M m0 (ob_ 6 [.ref kA, .ref wA, .int has, .long (hi_ N), .long (lo_ N), .long v1, .long v0, .int pend, .ref psA, .ref ppA, .int now, .ref cA, .ref sA, .ref pA, .ref uA, .ref lA, .long h1, .long h0, .int fac, .long z1, .long z0, .ref xA])) H → va_S (fz_ G) s.heap H locs → lv_has ls 11 [(0, .ref m0), (1, .long (hi_ A)), (3, .long (lo_ A)), (5, .long (hi_ ((A ^ (V / 2 ^ (k + 1)) % N) * (A ^ (V / 2 ^ (k + 1)) % N) % N))), (7, .long (lo_ ((A ^ (V / 2 ^ (k + 1)) % N) * (A ^ (V / 2 ^ (k + 1)) % N) % N))), (9, .int (nI (bg_ (V / 2 ^ (k + 1))))), (10, .int (nI k))] → W p l e R s m args below meth c H locs 0 0 Q (F0 m 48 ls []) := by
        intro z1 z0 H locs ls  hM hS hl
        refine lv_aload_n hx hb dd_M_powerOfWords_48 rfl (lv_at hl 0 rfl) ?_
        refine mr_get C0 hM fk_M_102 mu_s (v := .ref xA) rfl dd_M_powerOfWords_49 ?_
        refine lv_iload hx hb dd_M_powerOfWords_52 (lv_at hl 6 rfl) ?_
        refine lv_bipush (v := nI 16) hx hb dd_M_powerOfWords_54 (by decide) ?_
        refine lv_idiv hx hb dd_M_powerOfWords_56 (by decide) ?_
        refine mr_vi (x' := nI (k / 16)) (pk_div (d := 16) (by omega) (by decide) (by decide)) ?_
        refine mr_iald C0 hM (mu_n' (ne_k h_xA h_m (fun q => by cases q)) h_xA) ((k / 16)) (rfl) (by omega) (by decide) dd_M_powerOfWords_57 ?_
        refine lv_iload hx hb dd_M_powerOfWords_58 (lv_at hl 6 rfl) ?_
        refine lv_bipush (v := nI 16) hx hb dd_M_powerOfWords_60 (by decide) ?_
        refine lv_irem hx hb dd_M_powerOfWords_62 (by decide) ?_
        refine mr_vi (x' := nI (k % 16)) (pk_rem (d := 16) (by omega) (by decide) (by decide)) ?_
        refine lv_ishr hx hb dd_M_powerOfWords_63 ?_
        refine mr_vi (x' := nI (dw_ V (k / 16) / 2 ^ (k % 16))) (nI_shr (Nat.lt_trans dw_lt (by decide)) (by omega)) ?_
        refine lv_iconst (v := nI 1) hx hb dd_M_powerOfWords_64 (by decide) ?_
        refine lv_iand hx hb dd_M_powerOfWords_65 ?_
        refine mr_vi (x' := nI (V / 2 ^ k % 2)) ((pk_andN (Nat.lt_of_le_of_lt (Nat.div_le_self _ _) (Nat.lt_trans dw_lt (by decide))) 1 (by decide)).trans (congrArg nI (bit_dw V k))) ?_
        refine lv_iconst (v := nI 1) hx hb dd_M_powerOfWords_66 (by decide) ?_
        refine lv_icmp_ne (tgt := 95) hx hb dd_M_powerOfWords_67 rfl (fun h67 => ?_) (fun h67 => ?_)
        · skip
          have hv : V / 2 ^ k % 2 = 0 := by
            have h2 : V / 2 ^ k % 2 ≠ 1 := fun q => h67 (congrArg nI q)
            omega
          have hbk := mp_0 (A := A) (N := N) hv
          have hbg : bg_ (V / 2 ^ k) = bg_ (V / 2 ^ (k + 1)) := by
            unfold bg_
            by_cases h0 : V / 2 ^ (k + 1) = 0
            · rw [if_pos h0, if_pos (by omega)]
            · rw [if_neg h0, if_neg (by omega)]
          refine lv_iinc (k := 6) (v := nI k + (-1 : Int32)) (lv' := [(10, .int (nI k + (-1 : Int32))), (0, .ref m0), (1, .long (hi_ A)), (3, .long (lo_ A)), (5, .long (hi_ ((A ^ (V / 2 ^ (k + 1)) % N) * (A ^ (V / 2 ^ (k + 1)) % N) % N))), (7, .long (lo_ ((A ^ (V / 2 ^ (k + 1)) % N) * (A ^ (V / 2 ^ (k + 1)) % N) % N))), (9, .int (nI (bg_ (V / 2 ^ (k + 1)))))]) hx hb dd_M_powerOfWords_95 hl rfl (rfl) (by decide) rfl (fun ls hl => ?_)
          refine lv_goto (tgt := 14) hx hb dd_M_powerOfWords_98 rfl ?_
          exact ih _ _ _ _ _ (by omega) hM hS (by rw [hbk, hbg]; exact lv_sub hl [1, 2, 3, 4, 5, 6, 0] rfl)
        · skip
          have hv : V / 2 ^ k % 2 = 1 := (nI_eq (by omega) (by decide)).mp h67
          have hbk := mp_1 (A := A) (N := N) hv
          have hbg : bg_ (V / 2 ^ k) = 1 := by
            unfold bg_
            rw [if_neg (by omega)]
          refine lv_aload_n hx hb dd_M_powerOfWords_70 rfl (lv_at hl 0 rfl) ?_
          refine lv_lload hx hb dd_M_powerOfWords_71 (lv_at hl 3 rfl) ?_
          refine lv_lload hx hb dd_M_powerOfWords_73 (lv_at hl 4 rfl) ?_
          refine lv_lload_n hx hb dd_M_powerOfWords_75 rfl (lv_at hl 1 rfl) ?_
          refine lv_lload_n hx hb dd_M_powerOfWords_76 rfl (lv_at hl 2 rfl) ?_
          refine mr_callV (As := [.long (hi_ ((A ^ (V / 2 ^ (k + 1)) % N) * (A ^ (V / 2 ^ (k + 1)) % N) % N)), .long (lo_ ((A ^ (V / 2 ^ (k + 1)) % N) * (A ^ (V / 2 ^ (k + 1)) % N) % N)), .long (hi_ A), .long (lo_ A)]) (rest := []) C0 hM hS vk_M_164 mu_s rfl (c_M_multiply l mu_s hN hp2 (Nat.lt_trans hA hN)) rfl rfl hl.1 (Nat.le_of_ble_eq_true rfl) rfl rfl (by subst hR; exact ⟨Nat.le_of_ble_eq_true rfl, Nat.le_of_ble_eq_true rfl⟩) (by subst hR; exact ⟨Nat.le_of_ble_eq_true rfl, Nat.le_of_ble_eq_true rfl⟩) dd_M_powerOfWords_77 (fun v1 M1 H locs hp hM hS => ?_)
          obtain ⟨ev1, eM1⟩ := hp
          subst ev1
          rw [eM1] at hM
          have hM := mr_M mu_mu hM
          have hM : mm_ G (mu_ M m0 (ob_ 6 [.ref kA, .ref wA, .int has, .long (hi_ N), .long (lo_ N), .long v1, .long v0, .int pend, .ref psA, .ref ppA, .int now, .ref cA, .ref sA, .ref pA, .ref uA, .ref lA, .long h1, .long h0, .int fac, .long (hi_ (((A ^ (V / 2 ^ (k + 1)) % N) * (A ^ (V / 2 ^ (k + 1)) % N) % N) * A % N)), .long (lo_ (((A ^ (V / 2 ^ (k + 1)) % N) * (A ^ (V / 2 ^ (k + 1)) % N) % N) * A % N)), .ref xA])) H := hM
          refine W.eq (g2 := F0 m 80 ls []) rfl ?_
          refine lv_aload_n hx hb dd_M_powerOfWords_80 rfl (lv_at hl 0 rfl) ?_
          refine mr_get C0 hM fk_M_154 mu_s (v := .long (hi_ (((A ^ (V / 2 ^ (k + 1)) % N) * (A ^ (V / 2 ^ (k + 1)) % N) % N) * A % N))) rfl dd_M_powerOfWords_81 ?_
          refine lv_lstore (lv' := [(5, .long (hi_ (((A ^ (V / 2 ^ (k + 1)) % N) * (A ^ (V / 2 ^ (k + 1)) % N) % N) * A % N))), (0, .ref m0), (1, .long (hi_ A)), (3, .long (lo_ A)), (7, .long (lo_ ((A ^ (V / 2 ^ (k + 1)) % N) * (A ^ (V / 2 ^ (k + 1)) % N) % N))), (9, .int (nI (bg_ (V / 2 ^ (k + 1))))), (10, .int (nI k))]) hx hb dd_M_powerOfWords_84 hl (by decide) rfl (fun ls hl => ?_)
          refine lv_aload_n hx hb dd_M_powerOfWords_86 rfl (lv_at hl 1 rfl) ?_
          refine mr_get C0 hM fk_M_151 mu_s (v := .long (lo_ (((A ^ (V / 2 ^ (k + 1)) % N) * (A ^ (V / 2 ^ (k + 1)) % N) % N) * A % N))) rfl dd_M_powerOfWords_87 ?_
          refine lv_lstore (lv' := [(7, .long (lo_ (((A ^ (V / 2 ^ (k + 1)) % N) * (A ^ (V / 2 ^ (k + 1)) % N) % N) * A % N))), (5, .long (hi_ (((A ^ (V / 2 ^ (k + 1)) % N) * (A ^ (V / 2 ^ (k + 1)) % N) % N) * A % N))), (0, .ref m0), (1, .long (hi_ A)), (3, .long (lo_ A)), (9, .int (nI (bg_ (V / 2 ^ (k + 1))))), (10, .int (nI k))]) hx hb dd_M_powerOfWords_90 hl (by decide) rfl (fun ls hl => ?_)
          refine lv_iconst (v := nI 1) hx hb dd_M_powerOfWords_92 (by decide) ?_
          refine lv_istore (lv' := [(9, .int (nI 1)), (7, .long (lo_ (((A ^ (V / 2 ^ (k + 1)) % N) * (A ^ (V / 2 ^ (k + 1)) % N) % N) * A % N))), (5, .long (hi_ (((A ^ (V / 2 ^ (k + 1)) % N) * (A ^ (V / 2 ^ (k + 1)) % N) % N) * A % N))), (0, .ref m0), (1, .long (hi_ A)), (3, .long (lo_ A)), (10, .int (nI k))]) hx hb dd_M_powerOfWords_93 hl (by decide) rfl (fun ls hl => ?_)
          refine lv_iinc (k := 6) (v := nI k + (-1 : Int32)) (lv' := [(10, .int (nI k + (-1 : Int32))), (9, .int (nI 1)), (7, .long (lo_ (((A ^ (V / 2 ^ (k + 1)) % N) * (A ^ (V / 2 ^ (k + 1)) % N) % N) * A % N))), (5, .long (hi_ (((A ^ (V / 2 ^ (k + 1)) % N) * (A ^ (V / 2 ^ (k + 1)) % N) % N) * A % N))), (0, .ref m0), (1, .long (hi_ A)), (3, .long (lo_ A))]) hx hb dd_M_powerOfWords_95 hl rfl (rfl) (by decide) rfl (fun ls hl => ?_)
          refine lv_goto (tgt := 14) hx hb dd_M_powerOfWords_98 rfl ?_
          exact ih _ _ _ _ _ (by omega) hM hS (by rw [hbk, hbg]; exact lv_sub hl [4, 5, 6, 3, 2, 1, 0] rfl)
      refine lv_if_eq (tgt := 48) hx hb dd_M_powerOfWords_21 rfl (fun h21 => ?_) (fun h21 => ?_)
      · skip
        have hz : V / 2 ^ (k + 1) = 0 := by
          have h2 : bg_ (V / 2 ^ (k + 1)) = 0 := (nI_eq (by unfold bg_; split <;> decide) (by decide)).mp h21
          unfold bg_ at h2
          split at h2
          · assumption
          · exact absurd h2 (by decide)
        have hl : lv_has ls 11 [(0, .ref m0), (1, .long (hi_ A)), (3, .long (lo_ A)), (5, .long (hi_ ((A ^ (V / 2 ^ (k + 1)) % N) * (A ^ (V / 2 ^ (k + 1)) % N) % N))), (7, .long (lo_ ((A ^ (V / 2 ^ (k + 1)) % N) * (A ^ (V / 2 ^ (k + 1)) % N) % N))), (9, .int (nI (bg_ (V / 2 ^ (k + 1))))), (10, .int (nI k))] := by
          have h := hl
          rw [hz, Nat.pow_zero, Nat.mod_eq_of_lt hN1] at h ⊢
          rw [Nat.mul_one, Nat.mod_eq_of_lt hN1]
          exact h
        exact join_48 _ _ _ _ _  hM hS (lv_sub hl [0, 1, 2, 3, 4, 5, 6] rfl)
      · skip
        refine lv_aload_n hx hb dd_M_powerOfWords_24 rfl (lv_at hl 0 rfl) ?_
        refine lv_lload hx hb dd_M_powerOfWords_25 (lv_at hl 3 rfl) ?_
        refine lv_lload hx hb dd_M_powerOfWords_27 (lv_at hl 4 rfl) ?_
        refine lv_lload hx hb dd_M_powerOfWords_29 (lv_at hl 3 rfl) ?_
        refine lv_lload hx hb dd_M_powerOfWords_31 (lv_at hl 4 rfl) ?_
        refine mr_callV (As := [.long (hi_ (A ^ (V / 2 ^ (k + 1)) % N)), .long (lo_ (A ^ (V / 2 ^ (k + 1)) % N)), .long (hi_ (A ^ (V / 2 ^ (k + 1)) % N)), .long (lo_ (A ^ (V / 2 ^ (k + 1)) % N))]) (rest := []) C0 hM hS vk_M_164 mu_s rfl (c_M_multiply l mu_s hN hp1 (Nat.lt_trans hp1 hN)) rfl rfl hl.1 (Nat.le_of_ble_eq_true rfl) rfl rfl (by subst hR; exact ⟨Nat.le_of_ble_eq_true rfl, Nat.le_of_ble_eq_true rfl⟩) (by subst hR; exact ⟨Nat.le_of_ble_eq_true rfl, Nat.le_of_ble_eq_true rfl⟩) dd_M_powerOfWords_33 (fun v1 M1 H locs hp hM hS => ?_)
        obtain ⟨ev1, eM1⟩ := hp
        subst ev1
        rw [eM1] at hM
        have hM := mr_M mu_mu hM
        have hM : mm_ G (mu_ M m0 (ob_ 6 [.ref kA, .ref wA, .int has, .long (hi_ N), .long (lo_ N), .long v1, .long v0, .int pend, .ref psA, .ref ppA, .int now, .ref cA, .ref sA, .ref pA, .ref uA, .ref lA, .long h1, .long h0, .int fac, .long (hi_ ((A ^ (V / 2 ^ (k + 1)) % N) * (A ^ (V / 2 ^ (k + 1)) % N) % N)), .long (lo_ ((A ^ (V / 2 ^ (k + 1)) % N) * (A ^ (V / 2 ^ (k + 1)) % N) % N)), .ref xA])) H := hM
        refine W.eq (g2 := F0 m 36 ls []) rfl ?_
        refine lv_aload_n hx hb dd_M_powerOfWords_36 rfl (lv_at hl 0 rfl) ?_
        refine mr_get C0 hM fk_M_154 mu_s (v := .long (hi_ ((A ^ (V / 2 ^ (k + 1)) % N) * (A ^ (V / 2 ^ (k + 1)) % N) % N))) rfl dd_M_powerOfWords_37 ?_
        refine lv_lstore (lv' := [(5, .long (hi_ ((A ^ (V / 2 ^ (k + 1)) % N) * (A ^ (V / 2 ^ (k + 1)) % N) % N))), (0, .ref m0), (1, .long (hi_ A)), (3, .long (lo_ A)), (7, .long (lo_ (A ^ (V / 2 ^ (k + 1)) % N))), (9, .int (nI (bg_ (V / 2 ^ (k + 1))))), (10, .int (nI k))]) hx hb dd_M_powerOfWords_40 hl (by decide) rfl (fun ls hl => ?_)
        refine lv_aload_n hx hb dd_M_powerOfWords_42 rfl (lv_at hl 1 rfl) ?_
        refine mr_get C0 hM fk_M_151 mu_s (v := .long (lo_ ((A ^ (V / 2 ^ (k + 1)) % N) * (A ^ (V / 2 ^ (k + 1)) % N) % N))) rfl dd_M_powerOfWords_43 ?_
        refine lv_lstore (lv' := [(7, .long (lo_ ((A ^ (V / 2 ^ (k + 1)) % N) * (A ^ (V / 2 ^ (k + 1)) % N) % N))), (5, .long (hi_ ((A ^ (V / 2 ^ (k + 1)) % N) * (A ^ (V / 2 ^ (k + 1)) % N) % N))), (0, .ref m0), (1, .long (hi_ A)), (3, .long (lo_ A)), (9, .int (nI (bg_ (V / 2 ^ (k + 1))))), (10, .int (nI k))]) hx hb dd_M_powerOfWords_46 hl (by decide) rfl (fun ls hl => ?_)
        exact join_48 _ _ _ _ _  hM hS (lv_sub hl [2, 3, 4, 1, 0, 5, 6] rfl)
  have hM := mr_M (mu_id h_m).symm hM
  exact loop_14 512 r1 r0 _ _ _ (Nat.le_refl _) hM hS (by rw [show nI 512 + (-1 : Int32) = nI 511 from by decide, show V / 2 ^ 512 = 0 from Nat.div_eq_of_lt hV, Nat.pow_zero, Nat.mod_eq_of_lt hN1, hi_1, lo_1, show bg_ 0 = 0 from rfl]; exact lv_sub hl [4, 5, 6, 3, 2, 1, 0] rfl)
