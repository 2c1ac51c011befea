
theorem mu_c4 {M : mw_} {a b c d : Nat} {e e' f g h : va_E} (h1 : a ≠ b) (h2 : a ≠ c) (h3 : a ≠ d) : mu_ (mu_ (mu_ (mu_ (mu_ M a e) b f) c g) d h) a e' = mu_ (mu_ (mu_ (mu_ M a e') b f) c g) d h := by
  rw [← mu_sw h3, mu_c3 h1 h2]
theorem mu_c5 {M : mw_} {a b c d i : Nat} {e e' f g h j : va_E} (h1 : a ≠ b) (h2 : a ≠ c) (h3 : a ≠ d) (h4 : a ≠ i) : mu_ (mu_ (mu_ (mu_ (mu_ (mu_ M a e) b f) c g) d h) i j) a e' = mu_ (mu_ (mu_ (mu_ (mu_ M a e') b f) c g) d h) i j := by
  rw [← mu_sw h4, mu_c4 h1 h2 h3]
theorem mu_c6 {M : mw_} {a b c d i k : Nat} {e e' f g h j o : va_E} (h1 : a ≠ b) (h2 : a ≠ c) (h3 : a ≠ d) (h4 : a ≠ i) (h5 : a ≠ k) : mu_ (mu_ (mu_ (mu_ (mu_ (mu_ (mu_ M a e) b f) c g) d h) i j) k o) a e' = mu_ (mu_ (mu_ (mu_ (mu_ (mu_ M a e') b f) c g) d h) i j) k o := by
  rw [← mu_sw h5, mu_c5 h1 h2 h3 h4]
/-! Newton's steps to the inverse modulo 2^32 -/
def nx_ (n x : Nat) : Nat := x * (2 + 18446744073709551616 - n * x) % 4294967296
theorem nx_lt (n x : Nat) : nx_ n x < 4294967296 := Nat.mod_lt _ (by decide)
theorem nx_64 {n x : Nat} (hn : n < 4294967296) (hx : x < 4294967296) : lN x * (lN 2 - lN n * lN x) &&& lN 4294967295 = lN (nx_ n x) := by
  have h := m2_lt hn hx
  have e : lN 2 = lN (2 + 18446744073709551616) := by decide
  rw [lN_mul, e, lN_sub (by omega), lN_mul, wb_mod, lm_ (Nat.mod_lt _ (by decide)), nx_]
  congr 1
  exact Nat.mod_mod_of_dvd _ (by decide)
theorem nx_ok {n x k : Nat} (hn : n < 4294967296) (hx : x < 4294967296) (hk : 0 < k) (h : n * x % 2 ^ k = 1) : n * nx_ n x % 2 ^ (min (2 * k) 32) = 1 := by
  have hB := m2_lt hn hx
  have hm : (2 : Nat) ^ min (2 * k) 32 ∣ 4294967296 := by
    have : (4294967296 : Nat) = 2 ^ 32 := by decide
    rw [this]
    exact Nat.pow_dvd_pow 2 (Nat.min_le_right _ _)
  have hm2 : (2 : Nat) ^ min (2 * k) 32 ∣ 2 ^ (2 * k) := Nat.pow_dvd_pow 2 (Nat.min_le_left _ _)
  have hm1 : 1 < (2 : Nat) ^ min (2 * k) 32 := Nat.one_lt_two_pow (by omega)
  generalize (2 : Nat) ^ min (2 * k) 32 = m at *
  have e1 : n * nx_ n x % m = n * x * (2 + 18446744073709551616 - n * x) % m := by
    rw [nx_, Nat.mul_mod, Nat.mod_mod_of_dvd _ hm, ← Nat.mul_mod, Nat.mul_assoc]
  rw [e1]
  obtain ⟨q, hq⟩ : ∃ q, n * x = 1 + q * 2 ^ k := by
    refine ⟨n * x / 2 ^ k, ?_⟩
    have := Nat.mod_add_div (n * x) (2 ^ k)
    rw [h, Nat.mul_comm] at this
    exact this.symm
  rw [hq] at hB ⊢
  have hQ : m ∣ (q * 2 ^ k) * (q * 2 ^ k) := by
    have e2 : (q * 2 ^ k) * (q * 2 ^ k) = 2 ^ (2 * k) * (q * q) := by
      rw [Nat.two_mul, Nat.pow_add, Nat.mul_mul_mul_comm, Nat.mul_comm]
    rw [e2]
    exact Nat.dvd_trans hm2 (Nat.dvd_mul_right _ _)
  generalize q * 2 ^ k = Q at *
  have e3 : (1 + Q) * (2 + 18446744073709551616 - (1 + Q)) + Q * Q = 1 + 18446744073709551616 * (1 + Q) := by
    obtain ⟨w, hw⟩ : ∃ w, 18446744073709551616 = Q + w := ⟨18446744073709551616 - Q, by omega⟩
    have e4 : 2 + 18446744073709551616 - (1 + Q) = 1 + w := by omega
    rw [e4, hw]
    simp only [Nat.add_mul, Nat.mul_add, Nat.one_mul, Nat.mul_one]
    have : Q * w = w * Q := Nat.mul_comm _ _
    omega
  have h64 : m ∣ 18446744073709551616 := Nat.dvd_trans hm (by decide)
  have e5 : ((1 + Q) * (2 + 18446744073709551616 - (1 + Q)) + Q * Q) % m = 1 % m := by
    rw [e3]
    obtain ⟨z, hz⟩ := h64
    rw [hz, Nat.mul_assoc, Nat.add_mul_mod_self_left]
  rw [Nat.add_mod, Nat.mod_eq_zero_of_dvd hQ, Nat.add_zero, Nat.mod_mod] at e5
  rw [e5, Nat.mod_eq_of_lt hm1]
def ke_ (i : Nat) : Nat := min (3 * 2 ^ i) 32
theorem ke_s (i : Nat) : min (2 * ke_ i) 32 = ke_ (i + 1) := by
  unfold ke_
  rw [Nat.pow_succ]
  generalize 2 ^ i = z
  omega
theorem ke_pos (i : Nat) : 0 < ke_ i := by
  unfold ke_
  have := Nat.pow_pos (n := i) (show 0 < 2 by decide)
  omega
theorem nx_0 {n : Nat} (h : n % 2 = 1) : n * n % 2 ^ ke_ 0 = 1 := by
  have e : (2 : Nat) ^ ke_ 0 = 8 := by decide
  rw [e, Nat.mul_mod]
  rcases (show n % 8 = 1 ∨ n % 8 = 3 ∨ n % 8 = 5 ∨ n % 8 = 7 by omega) with h | h | h | h <;> rw [h]
theorem nx_end {N x : Nat} (hx : x < 4294967296) (h : N % 4294967296 * x % 2 ^ ke_ 4 = 1) : ((4294967296 - x) % 4294967296 * N + 1) % 4294967296 = 0 := by
  have e : (2 : Nat) ^ ke_ 4 = 4294967296 := by decide
  rw [e, Nat.mod_mul_mod] at h
  have hx0 : x ≠ 0 := by intro q; rw [q, Nat.mul_zero] at h; omega
  rw [Nat.mod_eq_of_lt (show 4294967296 - x < 4294967296 by omega)]
  have e2 : (4294967296 - x) * N + 1 + N * x = 4294967296 * N + 1 := by
    have : (4294967296 - x) * N + x * N = 4294967296 * N := by rw [← Nat.add_mul]; congr 1; omega
    rw [Nat.mul_comm N x]; omega
  have e3 : ((4294967296 - x) * N + 1 + N * x) % 4294967296 = 1 := by rw [e2, Nat.mul_add_mod]
  rw [Nat.add_mod, h] at e3
  omega
theorem ng_64 {x : Nat} (hx : x < 4294967296) : - lN x &&& lN 4294967295 = lN ((4294967296 - x) % 4294967296) := by
  have e : - lN x = lN (18446744073709551616 - x) := by
    have h1 : lN 18446744073709551616 - lN x = lN (18446744073709551616 - x) := lN_sub (by omega)
    have h2 : lN 18446744073709551616 = 0 := by decide
    rw [h2, Int64.zero_sub] at h1
    exact h1
  rw [e, wb_mod, lm_ (Nat.mod_lt _ (by decide)), Nat.mod_mod_of_dvd _ (by decide)]
  congr 1
  omega
/-! the inverse of 3 -/
def tm_ (N : Nat) : Nat := if N % 3 = 1 then 2 else 1
def th_ (N : Nat) : Nat := 1 + N / 3 * tm_ N
def nv_ (f : Nat → Int64) (W k : Nat) : Nat → Int64 := fun j => if j < k then f j else lN (dg_ W j)
theorem nv_d (f : Nat → Int64) (W i : Nat) : vp_updL (nv_ f W (i + 1)) i (lN (dg_ W i)) = nv_ f W i := by
  funext j
  by_cases h : j = i
  · subst h; simp [vp_updL, nv_]
  · by_cases h2 : j < i
    · simp [vp_updL, nv_, h, h2, Nat.lt_succ_of_lt h2]
    · simp [vp_updL, nv_, h, h2, show ¬ j < i + 1 by omega]
/-! powers under Montgomery -/
theorem mo_r {P Bi N : Nat} (hBi : P * Bi % N = 1 % N) (u : Nat) : u * P * Bi % N = u % N := by
  rw [Nat.mul_assoc, Nat.mul_mod, hBi, ← Nat.mul_mod, Nat.mul_one]
theorem mo_2 {Bi N : Nat} (u v : Nat) : u % N * (v % N) * Bi % N = u * v * Bi % N := by
  rw [Nat.mul_mod, ← Nat.mul_mod u v N, ← Nat.mul_mod]
theorem mm1 {P Bi N : Nat} (hBi : P * Bi % N = 1 % N) (X : Nat) : X * (P * P % N) * Bi % N = X * P % N := by
  have h : X * (P * P % N) * Bi % N = X * (P * P) * Bi % N := by rw [Nat.mul_mod (X * (P * P % N)) Bi N, Nat.mul_mod_mod X (P * P) N, ← Nat.mul_mod]
  rw [h, ← Nat.mul_assoc, mo_r hBi]
theorem mm4 {P Bi N : Nat} (hBi : P * Bi % N = 1 % N) (A X : Nat) : A * P % N * (X * P % N) * Bi % N = A * X * P % N := by
  rw [mo_2, show A * P * (X * P) = A * X * P * P by rw [Nat.mul_assoc, Nat.mul_assoc, Nat.mul_assoc, Nat.mul_left_comm P X P], mo_r hBi]
theorem mm2 {P Bi N : Nat} (hBi : P * Bi % N = 1 % N) (X Y : Nat) : X * P % N * Y * Bi % N = X * Y % N := by
  have h : X * P % N * Y * Bi % N = X * P * Y * Bi % N := by rw [Nat.mul_mod (X * P % N * Y) Bi N, Nat.mod_mul_mod (X * P) Y N, ← Nat.mul_mod]
  rw [h, Nat.mul_right_comm X P Y, mo_r hBi]
def nb_ (V : Nat) : Nat := if V = 0 then 0 else Nat.log2 V + 1
theorem hb_nb (V : Nat) : hb_ V = nI (nb_ V) + (-1 : Int32) := by
  unfold hb_ nb_
  split
  · rfl
  · rw [pk_m1]
theorem nb_0 (V : Nat) : V / 2 ^ nb_ V = 0 := by
  unfold nb_
  split
  · subst V; simp
  · exact Nat.div_eq_of_lt Nat.lt_log2_self
theorem nb_le {V n : Nat} (h : V < 2 ^ n) : nb_ V ≤ n := by
  unfold nb_
  split
  · omega
  · rename_i h0
    exact (Nat.log2_lt h0).mpr h
theorem bit_s (V k : Nat) : V / 2 ^ k = V / 2 ^ (k + 1) * 2 + V / 2 ^ k % 2 := by
  have h : V / 2 ^ (k + 1) = V / 2 ^ k / 2 := by rw [Nat.pow_succ, Nat.div_div_eq_div_mul]
  rw [h]
  omega
theorem pw_0 {V k : Nat} (X : Nat) (h : V / 2 ^ k % 2 = 0) : X ^ (V / 2 ^ (k + 1)) * X ^ (V / 2 ^ (k + 1)) = X ^ (V / 2 ^ k) := by
  rw [← Nat.pow_add]
  congr 1
  have := bit_s V k
  omega
theorem pw_1 {V k : Nat} (X : Nat) (h : V / 2 ^ k % 2 = 1) : X ^ (V / 2 ^ (k + 1)) * X ^ (V / 2 ^ (k + 1)) * X = X ^ (V / 2 ^ k) := by
  rw [← Nat.pow_add, ← Nat.pow_succ]
  congr 1
  have := bit_s V k
  omega

set_option maxHeartbeats 4000000 in
set_option maxRecDepth 100000 in
theorem c_R_findNegatedInverse (l : Launch) {G : mg_} {M : mw_} {r th td un mn mo mq tt dd bb rr : Nat} {ni : Int64} {N : Nat} (h_r : M r = some (ob_ 2 [.ref th, .ref td, .ref un, .ref mn, .ref mo, .ref mq, .ref tt, .ref dd, .ref bb, .ref rr, .long ni])) (h_mn : M mn = some (la_ G 4 (nl_ N)))  (hodd : N % 2 = 1) : ct_ l my_R_findNegatedInverse cd_R_findNegatedInverse 6 none { frames := 0, cells := 0, slots := 0, locals := 0 } G [.ref r] M (fun v0 M' => v0 = none ∧ ∃ (n1 : Nat), (n1 < 4294967296 ∧ (n1 * N + 1) % 4294967296 = 0) ∧ M' = mu_ M r (ob_ 2 [.ref th, .ref td, .ref un, .ref mn, .ref mo, .ref mq, .ref tt, .ref dd, .ref bb, .ref rr, .long (lN n1)])) 0 0 := by
  refine ct_.intro2 (by decide) (Nat.le_of_ble_eq_true rfl) ?_
  intro p e s m args below meth c ls R Q hR hQ C0 hl hM hS
  have hx := C0.1
  have hb := C0.2.1
  have hl : lv_has ls 6 [(0, .ref r)] := hl
  have hn : N % 4294967296 < 4294967296 := Nat.mod_lt _ (by decide)
  refine lv_aload_n hx hb dd_R_findNegatedInverse_0 rfl (lv_at hl 0 rfl) ?_
  refine mr_get C0 hM fk_R_21 h_r (v := .ref mn) rfl dd_R_findNegatedInverse_1 ?_
  refine lv_iconst (v := nI 0) hx hb dd_R_findNegatedInverse_4 (by decide) ?_
  refine mr_lald C0 hM h_mn (0) (rfl) (by omega) (by decide) dd_R_findNegatedInverse_5 ?_
  refine mr_vl (x' := lN (N % 4294967296)) (congrArg lN (dg_0 N)) ?_
  refine lv_lstore_n (lv' := [(1, .long (lN (N % 4294967296))), (0, .ref r)]) hx hb dd_R_findNegatedInverse_6 rfl hl (by decide) rfl (fun ls hl => ?_)
  refine lv_lload_n hx hb dd_R_findNegatedInverse_7 rfl (lv_at hl 0 rfl) ?_
  refine lv_lstore_n (lv' := [(3, .long (lN (N % 4294967296))), (1, .long (lN (N % 4294967296))), (0, .ref r)]) hx hb dd_R_findNegatedInverse_8 rfl hl (by decide) rfl (fun ls hl => ?_)
  refine lv_iconst (v := nI 0) hx hb dd_R_findNegatedInverse_9 (by decide) ?_
  refine lv_istore (lv' := [(5, .int (nI 0)), (3, .long (lN (N % 4294967296))), (1, .long (lN (N % 4294967296))), (0, .ref r)]) hx hb dd_R_findNegatedInverse_10 hl (by decide) rfl (fun ls hl => ?_)
  have loop_12 : ∀ (k : Nat) (i : Nat) (x : Nat) (H : Heap) (locs : List Loc) (ls : Array Slot), i + k = 4 → x < 4294967296 → N % 4294967296 * x % 2 ^ ke_ i = 1 → mm_ G (M) H → va_S (fz_ G) s.heap H locs → lv_has ls 6 [(0, .ref r), (1, .long (lN (N % 4294967296))), (3, .long (lN x)), (5, .int (nI i))] → W p l e R s m args below meth c H locs 0 0 Q (F0 m 12 ls []) := by
    intro k
    induction k with
    | zero =>
      intro i x H locs ls hi hx4 hk hM hS hl
      refine lv_iload hx hb dd_R_findNegatedInverse_12 (lv_at hl 3 rfl) ?_
      refine lv_iconst (v := nI 4) hx hb dd_R_findNegatedInverse_14 (by decide) ?_
      refine lv_icmp_ge (tgt := 38) hx hb dd_R_findNegatedInverse_15 rfl (fun _ => ?_) (fun hc => absurd (le_nI (a := 4) (b := i) (by omega) (by omega) (by omega)) hc)
      refine lv_aload_n hx hb dd_R_findNegatedInverse_38 rfl (lv_at hl 0 rfl) ?_
      refine lv_lload_n hx hb dd_R_findNegatedInverse_39 rfl (lv_at hl 2 rfl) ?_
      refine lv_lneg hx hb dd_R_findNegatedInverse_40 ?_
      refine mr_ldc2 (v := lN 4294967295) C0 tw_163 dd_R_findNegatedInverse_41 ?_
      refine lv_land hx hb dd_R_findNegatedInverse_44 ?_
      refine mr_vl (x' := lN ((4294967296 - x) % 4294967296)) (ng_64 hx4) ?_
      refine mr_put C0 hM hS fk_R_92 fp_R_92 h_r rfl (rfl) (rfl) (Nat.le_of_ble_eq_true rfl) dd_R_findNegatedInverse_45 (fun H locs hM hS => ?_)
      have hM : mm_ G (mu_ M r (ob_ 2 [.ref th, .ref td, .ref un, .ref mn, .ref mo, .ref mq, .ref tt, .ref dd, .ref bb, .ref rr, .long (lN ((4294967296 - x) % 4294967296))])) H := hM
      exact mr_ret hQ (mr_vret C0 hM hS (⟨rfl, _, ⟨Nat.mod_lt _ (by decide), nx_end hx4 (by rw [show i = 4 from by omega] at hk; exact hk)⟩, rfl⟩) dd_R_findNegatedInverse_48)
    | succ k ih =>
      intro i x H locs ls hi hx4 hk hM hS hl
      refine lv_iload hx hb dd_R_findNegatedInverse_12 (lv_at hl 3 rfl) ?_
      refine lv_iconst (v := nI 4) hx hb dd_R_findNegatedInverse_14 (by decide) ?_
      refine lv_icmp_ge (tgt := 38) hx hb dd_R_findNegatedInverse_15 rfl (fun hc => absurd hc (nle_nI (a := 4) (b := i) (by omega) (by omega) (by omega))) (fun _ => ?_)
      refine lv_lload_n hx hb dd_R_findNegatedInverse_18 rfl (lv_at hl 2 rfl) ?_
      refine mr_ldc2 (v := lN 2) C0 tw_175 dd_R_findNegatedInverse_19 ?_
      refine lv_lload_n hx hb dd_R_findNegatedInverse_22 rfl (lv_at hl 1 rfl) ?_
      refine lv_lload_n hx hb dd_R_findNegatedInverse_23 rfl (lv_at hl 2 rfl) ?_
      refine lv_lmul hx hb dd_R_findNegatedInverse_24 ?_
      refine lv_lsub hx hb dd_R_findNegatedInverse_25 ?_
      refine lv_lmul hx hb dd_R_findNegatedInverse_26 ?_
      refine mr_ldc2 (v := lN 4294967295) C0 tw_163 dd_R_findNegatedInverse_27 ?_
      refine lv_land hx hb dd_R_findNegatedInverse_30 ?_
      refine mr_vl (x' := lN (nx_ (N % 4294967296) x)) (nx_64 hn hx4) ?_
      refine lv_lstore_n (lv' := [(3, .long (lN (nx_ (N % 4294967296) x))), (0, .ref r), (1, .long (lN (N % 4294967296))), (5, .int (nI i))]) hx hb dd_R_findNegatedInverse_31 rfl hl (by decide) rfl (fun ls hl => ?_)
      refine lv_iinc (k := 3) (v := nI (i + 1)) (lv' := [(5, .int (nI (i + 1))), (3, .long (lN (nx_ (N % 4294967296) x))), (0, .ref r), (1, .long (lN (N % 4294967296)))]) hx hb dd_R_findNegatedInverse_32 hl rfl (inc_ i) (by decide) rfl (fun ls hl => ?_)
      refine lv_goto (tgt := 12) hx hb dd_R_findNegatedInverse_35 rfl ?_
      exact ih (i + 1) (nx_ (N % 4294967296) x) _ _ _ (by omega) (nx_lt _ _) (by rw [← ke_s]; exact nx_ok hn hx4 (ke_pos i) hk) hM hS (lv_sub hl [2, 3, 1, 0] rfl)
  exact loop_12 4 0 (N % 4294967296) _ _ _ (rfl) (hn) (nx_0 (by omega)) hM hS (lv_sub hl [3, 2, 1, 0] rfl)

set_option maxHeartbeats 4000000 in
set_option maxRecDepth 100000 in
theorem c_R_findThird (l : Launch) {G : mg_} {M : mw_} {r th td un mn mo mq tt dd bb rr : Nat} {ni : Int64} {N : Nat} {f0 : Nat → Int64} (h_r : M r = some (ob_ 2 [.ref th, .ref td, .ref un, .ref mn, .ref mo, .ref mq, .ref tt, .ref dd, .ref bb, .ref rr, .long ni])) (h_mn : M mn = some (la_ G 4 (nl_ N))) (h_td : M td = some (la_ G 4 f0)) (ne_mn_td : mn ≠ td) (hN : N < 4294967296 ^ 4) : dt_ l my_R_findThird cd_R_findThird 10 none { frames := 0, cells := 0, slots := 0, locals := 0 } G [.ref r] M none (mu_ M td (la_ G 4 (nl_ (th_ N)))) 0 0 := by
  refine ct_.intro2 (by decide) (Nat.le_of_ble_eq_true rfl) ?_
  intro p e s m args below meth c ls R Q hR hQ C0 hl hM hS
  have hx := C0.1
  have hb := C0.2.1
  have hl : lv_has ls 10 [(0, .ref r)] := hl
  refine lv_lconst (v := lN 0) hx hb dd_R_findThird_0 rfl ?_
  refine lv_lstore_n (lv' := [(1, .long (lN 0)), (0, .ref r)]) hx hb dd_R_findThird_1 rfl hl (by decide) rfl (fun ls hl => ?_)
  refine lv_iconst (v := nI 3) hx hb dd_R_findThird_2 (by decide) ?_
  refine lv_istore_n (lv' := [(3, .int (nI 3)), (1, .long (lN 0)), (0, .ref r)]) hx hb dd_R_findThird_3 rfl hl (by decide) rfl (fun ls hl => ?_)
  have loop_4 : ∀ (k : Nat)  (H : Heap) (locs : List Loc) (ls : Array Slot), k ≤ 4 → mm_ G (mu_ M td (la_ G 4 (nv_ f0 (N / 3) k))) H → va_S (fz_ G) s.heap H locs → lv_has ls 10 [(0, .ref r), (1, .long (lN (N / 4294967296 ^ k % 3))), (3, .int (nI k + (-1 : Int32)))] → W p l e R s m args below meth c H locs 0 0 Q (F0 m 4 ls []) := by
    intro k
    induction k with
    | zero =>
      intro  H locs ls hk hM hS hl
      have hl : lv_has ls 10 [(0, .ref r), (1, .long (lN (N / 4294967296 ^ 0 % 3))), (3, .int (nI 0 + (-1 : Int32)))] := by exact hl
      have hM : mm_ G (mu_ M td (la_ G 4 (nv_ f0 (N / 3) 0))) H := hM
      refine lv_iload_n hx hb dd_R_findThird_4 rfl (lv_at hl 2 rfl) ?_
      refine lv_if_lt (tgt := 46) hx hb dd_R_findThird_5 rfl (fun _ => ?_) (fun hc => absurd (by decide) hc)
      have hM := mr_lext (g := nl_ (N / 3)) (fun j _ => if_neg (Nat.not_lt_zero j)) hM
      have hM : mm_ G (mu_ M td (la_ G 4 (nl_ (N / 3)))) H := hM
      refine lv_lload_n hx hb dd_R_findThird_46 rfl (lv_at hl 1 rfl) ?_
      refine mr_vl (x' := lN (N % 3)) (congrArg lN (by rw [Nat.pow_zero, Nat.div_one])) ?_
      have join_59 : ∀ (tm : Nat) (H : Heap) (locs : List Loc) (ls : Array Slot), tm = tm_ N → mm_ G (mu_ M td (la_ G 4 (nl_ (N / 3)))) H → va_S (fz_ G) s.heap H locs → lv_has ls 10 [(0, .ref r)] → W p l e R s m args below meth c H locs 0 0 Q (F0 m 59 ls [.long (lN tm)]) := by
        intro tm H locs ls htm hM hS hl
        refine lv_lstore_n (lv' := [(3, .long (lN tm)), (0, .ref r)]) hx hb dd_R_findThird_59 rfl hl (by decide) rfl (fun ls hl => ?_)
        refine lv_lconst (v := lN 1) hx hb dd_R_findThird_60 rfl ?_
        refine lv_lstore (lv' := [(5, .long (lN 1)), (3, .long (lN tm)), (0, .ref r)]) hx hb dd_R_findThird_61 hl (by decide) rfl (fun ls hl => ?_)
        refine lv_iconst (v := nI 0) hx hb dd_R_findThird_63 (by decide) ?_
        refine lv_istore (lv' := [(7, .int (nI 0)), (5, .long (lN 1)), (3, .long (lN tm)), (0, .ref r)]) hx hb dd_R_findThird_64 hl (by decide) rfl (fun ls hl => ?_)
        have loop_66 : ∀ (q : Nat) (i : Nat) (H : Heap) (locs : List Loc) (ls : Array Slot), i + q = 4 → mm_ G (mu_ M td (la_ G 4 (nf_ (N / 3) (1 + N / 3 * tm) i))) H → va_S (fz_ G) s.heap H locs → lv_has ls 10 [(0, .ref r), (3, .long (lN tm)), (5, .long (lN (ce_ 4294967296 1 (N / 3) tm i))), (7, .int (nI i))] → W p l e R s m args below meth c H locs 0 0 Q (F0 m 66 ls []) := by
          intro q
          induction q with
          | zero =>
            intro i H locs ls hi hM hS hl
            refine lv_iload hx hb dd_R_findThird_66 (lv_at hl 3 rfl) ?_
            refine lv_iconst (v := nI 4) hx hb dd_R_findThird_68 (by decide) ?_
            refine lv_icmp_ge (tgt := 112) hx hb dd_R_findThird_69 rfl (fun _ => ?_) (fun hc => absurd (le_nI (a := 4) (b := i) (by omega) (by omega) (by omega)) hc)
            have hM := mr_lext (g := nl_ (th_ N)) (fun j hj => by rw [nf_b (by omega), th_, ← htm]; rfl) hM
            exact mr_ret hQ (mr_vret C0 hM hS (⟨rfl, rfl⟩) dd_R_findThird_112)
          | succ q ih2 =>
            intro i H locs ls hi hM hS hl
            have hg : dg_ (N / 3) i < 4294967296 := db_lt (by decide)
            have hc : ce_ 4294967296 1 (N / 3) tm i ≤ 1 + tm := ce_le (by decide) _ _ _
            have htm2 : tm ≤ 2 := by rw [htm, tm_]; split <;> omega
            have h64 : dg_ (N / 3) i * tm + ce_ 4294967296 1 (N / 3) tm i < 18446744073709551616 := pr_lt64 hg (by omega) (by omega)
            refine lv_iload hx hb dd_R_findThird_66 (lv_at hl 3 rfl) ?_
            refine lv_iconst (v := nI 4) hx hb dd_R_findThird_68 (by decide) ?_
            refine lv_icmp_ge (tgt := 112) hx hb dd_R_findThird_69 rfl (fun hc => absurd hc (nle_nI (a := 4) (b := i) (by omega) (by omega) (by omega))) (fun _ => ?_)
            refine lv_aload_n hx hb dd_R_findThird_72 rfl (lv_at hl 0 rfl) ?_
            refine mr_get C0 hM fk_R_15 (mu_n' (ne_k h_r h_td (fun q => by cases q)) h_r) (v := .ref td) rfl dd_R_findThird_73 ?_
            refine lv_iload hx hb dd_R_findThird_76 (lv_at hl 3 rfl) ?_
            refine mr_lald C0 hM mu_s (i) (rfl) (by omega) (by decide) dd_R_findThird_78 ?_
            refine lv_lload_n hx hb dd_R_findThird_79 rfl (lv_at hl 1 rfl) ?_
            refine lv_lmul hx hb dd_R_findThird_80 ?_
            refine mr_vl (x' := lN (dg_ (N / 3) i * tm)) ((congrArg (· * lN tm) (nf_at (N / 3) (1 + N / 3 * tm) i)).trans (lN_mul _ _)) ?_
            refine lv_lload hx hb dd_R_findThird_81 (lv_at hl 2 rfl) ?_
            refine lv_ladd hx hb dd_R_findThird_83 ?_
            refine mr_vl (x' := lN (dg_ (N / 3) i * tm + ce_ 4294967296 1 (N / 3) tm i)) (lN_add _ _) ?_
            refine lv_lstore (lv' := [(8, .long (lN (dg_ (N / 3) i * tm + ce_ 4294967296 1 (N / 3) tm i))), (0, .ref r), (3, .long (lN tm)), (5, .long (lN (ce_ 4294967296 1 (N / 3) tm i))), (7, .int (nI i))]) hx hb dd_R_findThird_84 hl (by decide) rfl (fun ls hl => ?_)
            refine lv_aload_n hx hb dd_R_findThird_86 rfl (lv_at hl 1 rfl) ?_
            refine mr_get C0 hM fk_R_15 (mu_n' (ne_k h_r h_td (fun q => by cases q)) h_r) (v := .ref td) rfl dd_R_findThird_87 ?_
            refine lv_iload hx hb dd_R_findThird_90 (lv_at hl 4 rfl) ?_
            refine lv_lload hx hb dd_R_findThird_92 (lv_at hl 0 rfl) ?_
            refine mr_ldc2 (v := lN 4294967295) C0 tw_163 dd_R_findThird_94 ?_
            refine lv_land hx hb dd_R_findThird_97 ?_
            refine mr_vl (x' := lN (dg_ (1 + N / 3 * tm) i)) ((lm_ h64).trans (congrArg lN (by rw [ce_step (by decide), ce_dig]))) ?_
            refine mr_last C0 hM hS mu_s (i) (rfl) (by omega) (by decide) dd_R_findThird_98 (fun H locs hM hS => ?_)
            have hM := mr_M mu_mu hM
            have hM := mr_M (congrArg (fun z__ => mu_ M td (la_ G 4 z__)) (show (vp_updL (nf_ (N / 3) (1 + N / 3 * tm) i) i (lN (dg_ (1 + N / 3 * tm) i)) : Nat → Int64) = (nf_ (N / 3) (1 + N / 3 * tm) (i + 1)) from nf_s (N / 3) (1 + N / 3 * tm) i)) hM
            have hM : mm_ G (mu_ M td (la_ G 4 (nf_ (N / 3) (1 + N / 3 * tm) (i + 1)))) H := hM
            refine lv_lload hx hb dd_R_findThird_99 (lv_at hl 0 rfl) ?_
            refine lv_bipush (v := nI 32) hx hb dd_R_findThird_101 (by decide) ?_
            refine lv_lushr (v := lN (ce_ 4294967296 1 (N / 3) tm (i + 1))) hx hb dd_R_findThird_103 ((lh_ h64).trans (congrArg lN (by rw [ce_step (by decide), ce_next]))) ?_
            refine lv_lstore (lv' := [(5, .long (lN (ce_ 4294967296 1 (N / 3) tm (i + 1)))), (8, .long (lN (dg_ (N / 3) i * tm + ce_ 4294967296 1 (N / 3) tm i))), (0, .ref r), (3, .long (lN tm)), (7, .int (nI i))]) hx hb dd_R_findThird_104 hl (by decide) rfl (fun ls hl => ?_)
            refine lv_iinc (k := 4) (v := nI (i + 1)) (lv' := [(7, .int (nI (i + 1))), (5, .long (lN (ce_ 4294967296 1 (N / 3) tm (i + 1)))), (8, .long (lN (dg_ (N / 3) i * tm + ce_ 4294967296 1 (N / 3) tm i))), (0, .ref r), (3, .long (lN tm))]) hx hb dd_R_findThird_106 hl rfl (inc_ i) (by decide) rfl (fun ls hl => ?_)
            refine lv_goto (tgt := 66) hx hb dd_R_findThird_109 rfl ?_
            exact ih2 _ _ _ _ (by omega) hM hS (lv_sub hl [3, 4, 1, 0] rfl)
        have hM := mr_lext (g := nf_ (N / 3) (1 + N / 3 * tm) 0) (fun j _ => by rw [← nf_0]) hM
        exact loop_66 4 0 _ _ _ (rfl) hM hS (by rw [ce_0]; exact lv_sub hl [3, 2, 1, 0] rfl)
      refine lv_lconst (v := lN 1) hx hb dd_R_findThird_47 rfl ?_
      refine mr_lif_ne (tgt := 58) hx hb dd_R_findThird_48 dd_R_findThird_49 rfl (fun h48 => ?_) (fun h48 => ?_)
      · skip
        refine lv_lconst (v := lN 1) hx hb dd_R_findThird_58 rfl ?_
        exact join_59 _ _ _ _ (by rw [tm_, if_neg (fun q => h48 (congrArg lN q))]) hM hS (lv_sub hl [0] rfl)
      · skip
        refine mr_ldc2 (v := lN 2) C0 tw_175 dd_R_findThird_52 ?_
        refine lv_goto (tgt := 59) hx hb dd_R_findThird_55 rfl ?_
        exact join_59 _ _ _ _ (by rw [tm_, if_pos ((lE_ (by omega) (by decide)).mp h48)]) hM hS (lv_sub hl [0] rfl)
    | succ k ih =>
      intro  H locs ls hk hM hS hl
      have hr : N / 4294967296 ^ (k + 1) % 3 < 3 := Nat.mod_lt _ (by decide)
      have hg : dg_ N k < 4294967296 := db_lt (by decide)
      have hl : lv_has ls 10 [(0, .ref r), (1, .long (lN (N / 4294967296 ^ (k + 1) % 3))), (3, .int (nI k))] := by rw [pk_m1] at hl; exact hl
      have hM : mm_ G (mu_ M td (la_ G 4 (nv_ f0 (N / 3) (k + 1)))) H := hM
      refine lv_iload_n hx hb dd_R_findThird_4 rfl (lv_at hl 2 rfl) ?_
      refine lv_if_lt (tgt := 46) hx hb dd_R_findThird_5 rfl (fun hc => absurd hc (z_nlt (by omega))) (fun _ => ?_)
      refine lv_lload_n hx hb dd_R_findThird_8 rfl (lv_at hl 1 rfl) ?_
      refine lv_bipush (v := nI 32) hx hb dd_R_findThird_9 (by decide) ?_
      refine lv_lshl (v := lN (N / 4294967296 ^ (k + 1) % 3 * 4294967296)) hx hb dd_R_findThird_11 (wb_shl _ (by decide)) ?_
      refine lv_aload_n hx hb dd_R_findThird_12 rfl (lv_at hl 0 rfl) ?_
      refine mr_get C0 hM fk_R_21 (mu_n' (ne_k h_r h_td (fun q => by cases q)) h_r) (v := .ref mn) rfl dd_R_findThird_13 ?_
      refine lv_iload_n hx hb dd_R_findThird_16 rfl (lv_at hl 2 rfl) ?_
      refine mr_lald C0 hM (mu_n' ne_mn_td h_mn) (k) (rfl) (by omega) (by decide) dd_R_findThird_17 ?_
      refine lv_lor hx hb dd_R_findThird_18 ?_
      refine mr_vl (x' := lN (N / 4294967296 ^ (k + 1) % 3 * 4294967296 + dg_ N k)) (g_or (k := 32) rfl hg (by omega)) ?_
      refine lv_lstore (lv' := [(4, .long (lN (N / 4294967296 ^ (k + 1) % 3 * 4294967296 + dg_ N k))), (0, .ref r), (1, .long (lN (N / 4294967296 ^ (k + 1) % 3))), (3, .int (nI k))]) hx hb dd_R_findThird_19 hl (by decide) rfl (fun ls hl => ?_)
      refine lv_aload_n hx hb dd_R_findThird_21 rfl (lv_at hl 1 rfl) ?_
      refine mr_get C0 hM fk_R_15 (mu_n' (ne_k h_r h_td (fun q => by cases q)) h_r) (v := .ref td) rfl dd_R_findThird_22 ?_
      refine lv_iload_n hx hb dd_R_findThird_25 rfl (lv_at hl 3 rfl) ?_
      refine lv_lload hx hb dd_R_findThird_26 (lv_at hl 0 rfl) ?_
      refine mr_ldc2 (v := lN 3) C0 tw_35 dd_R_findThird_28 ?_
      refine lv_ldiv hx hb dd_R_findThird_31 (by decide) ?_
      refine mr_vl (x' := lN (dg_ (N / 3) k)) ((pk_lDiv (by omega) (by decide) (by decide)).trans (congrArg lN (dq_step (by decide) (by decide) N k).symm)) ?_
      refine mr_last C0 hM hS mu_s (k) (rfl) (by omega) (by decide) dd_R_findThird_32 (fun H locs hM hS => ?_)
      have hM := mr_M mu_mu hM
      have hM := mr_M (congrArg (fun z__ => mu_ M td (la_ G 4 z__)) (show (vp_updL (nv_ f0 (N / 3) (k + 1)) k (lN (dg_ (N / 3) k)) : Nat → Int64) = (nv_ f0 (N / 3) k) from nv_d f0 (N / 3) k)) hM
      have hM : mm_ G (mu_ M td (la_ G 4 (nv_ f0 (N / 3) k))) H := hM
      refine lv_lload hx hb dd_R_findThird_33 (lv_at hl 0 rfl) ?_
      refine mr_ldc2 (v := lN 3) C0 tw_35 dd_R_findThird_35 ?_
      refine lv_lrem hx hb dd_R_findThird_38 (by decide) ?_
      refine mr_vl (x' := lN (N / 4294967296 ^ k % 3)) ((pk_lRem (by omega) (by decide) (by decide)).trans (congrArg lN (dr_step N k))) ?_
      refine lv_lstore_n (lv' := [(1, .long (lN (N / 4294967296 ^ k % 3))), (4, .long (lN (N / 4294967296 ^ (k + 1) % 3 * 4294967296 + dg_ N k))), (0, .ref r), (3, .int (nI k))]) hx hb dd_R_findThird_39 rfl hl (by decide) rfl (fun ls hl => ?_)
      refine lv_iinc (k := 3) (v := nI k + (-1 : Int32)) (lv' := [(3, .int (nI k + (-1 : Int32))), (1, .long (lN (N / 4294967296 ^ k % 3))), (4, .long (lN (N / 4294967296 ^ (k + 1) % 3 * 4294967296 + dg_ N k))), (0, .ref r)]) hx hb dd_R_findThird_40 hl rfl (rfl) (by decide) rfl (fun ls hl => ?_)
      refine lv_goto (tgt := 4) hx hb dd_R_findThird_43 rfl ?_
      exact ih  _ _ _ (by omega) hM hS (lv_sub hl [3, 1, 0] rfl)
  have hM := mr_M (mu_id h_td).symm hM
  have hM := mr_lext (g := nv_ f0 (N / 3) 4) (fun j hj => (if_pos hj).symm) hM
  exact loop_4 4  _ _ _ (Nat.le_refl _) hM hS (by rw [show nI 4 + (-1 : Int32) = nI 3 from by decide, show N / 4294967296 ^ 4 % 3 = 0 by rw [Nat.div_eq_of_lt hN]]; exact lv_sub hl [2, 1, 0] rfl)

set_option maxHeartbeats 4000000 in
set_option maxRecDepth 100000 in
theorem c_R_begin (l : Launch) {G : mg_} {M : mw_} {r th td un mn mo mq tt dd bb rr : Nat} {ni : Int64} {U L N : Nat} {f1 f2 f3 f4 t0 d0 : Nat → Int64} (h_r : M r = some (ob_ 2 [.ref th, .ref td, .ref un, .ref mn, .ref mo, .ref mq, .ref tt, .ref dd, .ref bb, .ref rr, .long ni])) (h_mn : M mn = some (la_ G 4 f1)) (h_td : M td = some (la_ G 4 f2)) (h_un : M un = some (la_ G 4 (nl_ 1))) (h_mo : M mo = some (la_ G 4 f3)) (h_mq : M mq = some (la_ G 4 f4)) (h_tt : M tt = some (la_ G 6 t0)) (h_dd : M dd = some (la_ G 4 d0)) (ne_mn_dd : mn ≠ dd) (ne_mn_mo : mn ≠ mo) (ne_mn_mq : mn ≠ mq) (ne_mn_td : mn ≠ td) (ne_mn_tt : mn ≠ tt) (ne_mn_un : mn ≠ un) (ne_mo_dd : mo ≠ dd) (ne_mo_mq : mo ≠ mq) (ne_mo_tt : mo ≠ tt) (ne_mq_dd : mq ≠ dd) (ne_mq_tt : mq ≠ tt) (ne_td_dd : td ≠ dd) (ne_td_mo : td ≠ mo) (ne_td_mq : td ≠ mq) (ne_td_tt : td ≠ tt) (ne_td_un : td ≠ un) (ne_tt_dd : tt ≠ dd) (ne_un_dd : un ≠ dd) (ne_un_mo : un ≠ mo) (ne_un_mq : un ≠ mq) (ne_un_tt : un ≠ tt) (hU : U < 18446744073709551616) (hL : L < 18446744073709551616) (hN0 : N = U * 18446744073709551616 + L) (hN : N < 4294967296 ^ 4) (hodd : N % 2 = 1) (hN1 : 1 < N) : ct_ l my_R_begin cd_R_begin 5 none { frames := 3, cells := 0, slots := 0, locals := 88 } G [.ref r, .long (lN U), .long (lN L)] M (fun v0 M' => v0 = none ∧ ∃ (n1 : Nat) (t : Nat → Int64) (d : Nat → Int64), (n1 < 4294967296 ∧ (n1 * N + 1) % 4294967296 = 0) ∧ M' = mu_ (mu_ (mu_ (mu_ (mu_ (mu_ (mu_ M mn (la_ G 4 (nl_ N))) r (ob_ 2 [.ref th, .ref td, .ref un, .ref mn, .ref mo, .ref mq, .ref tt, .ref dd, .ref bb, .ref rr, .long (lN n1)])) td (la_ G 4 (nl_ (th_ N)))) mo (la_ G 4 (nl_ (4294967296 ^ 4 % N)))) tt (la_ G 6 t)) dd (la_ G 4 d)) mq (la_ G 4 (nl_ (4294967296 ^ 8 % N)))) 0 0 := by
  refine ct_.intro2 (by decide) (Nat.le_of_ble_eq_true rfl) ?_
  intro p e s m args below meth c ls R Q hR hQ C0 hl hM hS
  have hx := C0.1
  have hb := C0.2.1
  have hl : lv_has ls 5 [(0, .ref r), (1, .long (lN U)), (3, .long (lN L))] := hl
  refine lv_lload_n hx hb dd_R_begin_0 rfl (lv_at hl 1 rfl) ?_
  refine lv_lload_n hx hb dd_R_begin_1 rfl (lv_at hl 2 rfl) ?_
  refine lv_aload_n hx hb dd_R_begin_2 rfl (lv_at hl 0 rfl) ?_
  refine mr_get C0 hM fk_R_21 h_r (v := .ref mn) rfl dd_R_begin_3 ?_
  refine mr_callS (As := [.long (lN U), .long (lN L), .ref mn]) (rest := []) C0 hM hS sk_R_44 (c_R_split l h_mn  hU hL) rfl rfl hl.1 (by decide) rfl rfl (by subst hR; exact ⟨Nat.le_of_ble_eq_true rfl, Nat.le_of_ble_eq_true rfl⟩) (by subst hR; exact ⟨Nat.le_of_ble_eq_true rfl, Nat.le_of_ble_eq_true rfl⟩) dd_R_begin_6 (fun v1 M1 H locs hp hM hS => ?_)
  obtain ⟨ev1, eM1⟩ := hp
  subst ev1
  rw [eM1] at hM
  have hM : mm_ G (mu_ M mn (la_ G 4 (nl_ (U * 18446744073709551616 + L)))) H := hM
  refine W.eq (g2 := F0 m 9 ls []) rfl ?_
  rw [← hN0] at hM
  have hM : mm_ G (mu_ M mn (la_ G 4 (nl_ N))) H := hM
  refine lv_aload_n hx hb dd_R_begin_9 rfl (lv_at hl 0 rfl) ?_
  refine mr_callV (As := []) (rest := []) C0 hM hS vk_R_48 (mu_n' (ne_k h_r h_mn (fun q => by cases q)) h_r) rfl (c_R_findNegatedInverse l (mu_n' (ne_k h_r h_mn (fun q => by cases q)) h_r) mu_s  hodd) rfl rfl hl.1 (by decide) rfl rfl (by subst hR; exact ⟨Nat.le_of_ble_eq_true rfl, Nat.le_of_ble_eq_true rfl⟩) (by subst hR; exact ⟨Nat.le_of_ble_eq_true rfl, Nat.le_of_ble_eq_true rfl⟩) dd_R_begin_10 (fun v1 M1 H locs hp hM hS => ?_)
  obtain ⟨ev1, n1, hn1, eM1⟩ := hp
  subst ev1
  rw [eM1] at hM
  have hM : mm_ G (mu_ (mu_ M mn (la_ G 4 (nl_ N))) r (ob_ 2 [.ref th, .ref td, .ref un, .ref mn, .ref mo, .ref mq, .ref tt, .ref dd, .ref bb, .ref rr, .long (lN n1)])) H := hM
  refine W.eq (g2 := F0 m 13 ls []) rfl ?_
  refine lv_aload_n hx hb dd_R_begin_13 rfl (lv_at hl 0 rfl) ?_
  refine mr_callV (As := []) (rest := []) C0 hM hS vk_R_51 mu_s rfl (c_R_findThird l mu_s (mu_n' (ne_k h_mn h_r (fun q => by cases q)) mu_s) (mu_n' (ne_k h_td h_r (fun q => by cases q)) (mu_n' (Ne.symm ne_mn_td) h_td)) ne_mn_td hN) rfl rfl hl.1 (by decide) rfl rfl (by subst hR; exact ⟨Nat.le_of_ble_eq_true rfl, Nat.le_of_ble_eq_true rfl⟩) (by subst hR; exact ⟨Nat.le_of_ble_eq_true rfl, Nat.le_of_ble_eq_true rfl⟩) dd_R_begin_14 (fun v1 M1 H locs hp hM hS => ?_)
  obtain ⟨ev1, eM1⟩ := hp
  subst ev1
  rw [eM1] at hM
  have hM : mm_ G (mu_ (mu_ (mu_ M mn (la_ G 4 (nl_ N))) r (ob_ 2 [.ref th, .ref td, .ref un, .ref mn, .ref mo, .ref mq, .ref tt, .ref dd, .ref bb, .ref rr, .long (lN n1)])) td (la_ G 4 (nl_ (th_ N)))) H := hM
  refine W.eq (g2 := F0 m 17 ls []) rfl ?_
  refine lv_aload_n hx hb dd_R_begin_17 rfl (lv_at hl 0 rfl) ?_
  refine mr_get C0 hM fk_R_18 (mu_n' (ne_k h_r h_td (fun q => by cases q)) mu_s) (v := .ref un) rfl dd_R_begin_18 ?_
  refine lv_iconst (v := nI 0) hx hb dd_R_begin_21 (by decide) ?_
  refine lv_aload_n hx hb dd_R_begin_22 rfl (lv_at hl 0 rfl) ?_
  refine mr_get C0 hM fk_R_24 (mu_n' (ne_k h_r h_td (fun q => by cases q)) mu_s) (v := .ref mo) rfl dd_R_begin_23 ?_
  refine lv_iconst (v := nI 0) hx hb dd_R_begin_26 (by decide) ?_
  refine lv_iconst (v := nI 4) hx hb dd_R_begin_27 (by decide) ?_
  refine mr_copyl C0 hl.1 tw_180 hM hS (mu_n' (Ne.symm ne_td_un) (mu_n' (ne_k h_un h_r (fun q => by cases q)) (mu_n' (Ne.symm ne_mn_un) h_un))) (mu_n' (Ne.symm ne_td_mo) (mu_n' (ne_k h_mo h_r (fun q => by cases q)) (mu_n' (Ne.symm ne_mn_mo) h_mo))) (0) (0) (4) rfl rfl rfl (by decide) (by decide) (by decide) (by decide) (by subst hR; decide) (by subst hR; decide) dd_R_begin_28 (fun H locs hM hS => ?_)
  have hM := mr_lext (g := nl_ 1) (fun j hj => by rw [pk_cpy_in (by omega) (by omega), Nat.zero_add, Nat.sub_zero]) hM
  have hM : mm_ G (mu_ (mu_ (mu_ (mu_ M mn (la_ G 4 (nl_ N))) r (ob_ 2 [.ref th, .ref td, .ref un, .ref mn, .ref mo, .ref mq, .ref tt, .ref dd, .ref bb, .ref rr, .long (lN n1)])) td (la_ G 4 (nl_ (th_ N)))) mo (la_ G 4 (nl_ 1))) H := hM
  refine lv_aload_n hx hb dd_R_begin_31 rfl (lv_at hl 0 rfl) ?_
  refine lv_aload_n hx hb dd_R_begin_32 rfl (lv_at hl 0 rfl) ?_
  refine mr_get C0 hM fk_R_24 (mu_n' (ne_k h_r h_mo (fun q => by cases q)) (mu_n' (ne_k h_r h_td (fun q => by cases q)) mu_s)) (v := .ref mo) rfl dd_R_begin_33 ?_
  refine mr_callV (As := [.ref mo]) (rest := []) C0 hM hS vk_R_60 (mu_n' (ne_k h_r h_mo (fun q => by cases q)) (mu_n' (ne_k h_r h_td (fun q => by cases q)) mu_s)) rfl (c_R_shiftBy128 l (mu_n' (ne_k h_r h_mo (fun q => by cases q)) (mu_n' (ne_k h_r h_td (fun q => by cases q)) mu_s)) (mu_n' (Ne.symm ne_mo_tt) (mu_n' (Ne.symm ne_td_tt) (mu_n' (ne_k h_tt h_r (fun q => by cases q)) (mu_n' (Ne.symm ne_mn_tt) h_tt)))) (mu_n' (Ne.symm ne_mo_dd) (mu_n' (Ne.symm ne_td_dd) (mu_n' (ne_k h_dd h_r (fun q => by cases q)) (mu_n' (Ne.symm ne_mn_dd) h_dd)))) (mu_n' ne_mn_mo (mu_n' ne_mn_td (mu_n' (ne_k h_mn h_r (fun q => by cases q)) mu_s))) mu_s ne_mn_dd ne_mn_tt ne_mn_mo ne_tt_dd ne_mo_dd ne_mo_tt hN1 hN) rfl rfl hl.1 (by decide) rfl rfl (by subst hR; exact ⟨Nat.le_of_ble_eq_true rfl, Nat.le_of_ble_eq_true rfl⟩) (by subst hR; exact ⟨Nat.le_of_ble_eq_true rfl, Nat.le_of_ble_eq_true rfl⟩) dd_R_begin_36 (fun v1 M1 H locs hp hM hS => ?_)
  obtain ⟨ev1, t1, d1, eM1⟩ := hp
  subst ev1
  rw [eM1] at hM
  have hM := mr_M (mu_c3 ne_mo_tt ne_mo_dd) hM
  have hM : mm_ G (mu_ (mu_ (mu_ (mu_ (mu_ (mu_ M mn (la_ G 4 (nl_ N))) r (ob_ 2 [.ref th, .ref td, .ref un, .ref mn, .ref mo, .ref mq, .ref tt, .ref dd, .ref bb, .ref rr, .long (lN n1)])) td (la_ G 4 (nl_ (th_ N)))) mo (la_ G 4 (nl_ (1 * 2 ^ 128 % N)))) tt (la_ G 6 t1)) dd (la_ G 4 d1)) H := hM
  refine W.eq (g2 := F0 m 39 ls []) rfl ?_
  rw [show 1 * 2 ^ 128 % N = 4294967296 ^ 4 % N by rw [Nat.one_mul]] at hM
  have hM : mm_ G (mu_ (mu_ (mu_ (mu_ (mu_ (mu_ M mn (la_ G 4 (nl_ N))) r (ob_ 2 [.ref th, .ref td, .ref un, .ref mn, .ref mo, .ref mq, .ref tt, .ref dd, .ref bb, .ref rr, .long (lN n1)])) td (la_ G 4 (nl_ (th_ N)))) mo (la_ G 4 (nl_ (4294967296 ^ 4 % N)))) tt (la_ G 6 t1)) dd (la_ G 4 d1)) H := hM
  refine lv_aload_n hx hb dd_R_begin_39 rfl (lv_at hl 0 rfl) ?_
  refine mr_get C0 hM fk_R_24 (mu_n' (ne_k h_r h_dd (fun q => by cases q)) (mu_n' (ne_k h_r h_tt (fun q => by cases q)) (mu_n' (ne_k h_r h_mo (fun q => by cases q)) (mu_n' (ne_k h_r h_td (fun q => by cases q)) mu_s)))) (v := .ref mo) rfl dd_R_begin_40 ?_
  refine lv_iconst (v := nI 0) hx hb dd_R_begin_43 (by decide) ?_
  refine lv_aload_n hx hb dd_R_begin_44 rfl (lv_at hl 0 rfl) ?_
  refine mr_get C0 hM fk_R_27 (mu_n' (ne_k h_r h_dd (fun q => by cases q)) (mu_n' (ne_k h_r h_tt (fun q => by cases q)) (mu_n' (ne_k h_r h_mo (fun q => by cases q)) (mu_n' (ne_k h_r h_td (fun q => by cases q)) mu_s)))) (v := .ref mq) rfl dd_R_begin_45 ?_
  refine lv_iconst (v := nI 0) hx hb dd_R_begin_48 (by decide) ?_
  refine lv_iconst (v := nI 4) hx hb dd_R_begin_49 (by decide) ?_
  refine mr_copyl C0 hl.1 tw_180 hM hS (mu_n' ne_mo_dd (mu_n' ne_mo_tt mu_s)) (mu_n' ne_mq_dd (mu_n' ne_mq_tt (mu_n' (Ne.symm ne_mo_mq) (mu_n' (Ne.symm ne_td_mq) (mu_n' (ne_k h_mq h_r (fun q => by cases q)) (mu_n' (Ne.symm ne_mn_mq) h_mq)))))) (0) (0) (4) rfl rfl rfl (by decide) (by decide) (by decide) (by decide) (by subst hR; decide) (by subst hR; decide) dd_R_begin_50 (fun H locs hM hS => ?_)
  have hM := mr_lext (g := nl_ (4294967296 ^ 4 % N)) (fun j hj => by rw [pk_cpy_in (by omega) (by omega), Nat.zero_add, Nat.sub_zero]) hM
  have hM : mm_ G (mu_ (mu_ (mu_ (mu_ (mu_ (mu_ (mu_ M mn (la_ G 4 (nl_ N))) r (ob_ 2 [.ref th, .ref td, .ref un, .ref mn, .ref mo, .ref mq, .ref tt, .ref dd, .ref bb, .ref rr, .long (lN n1)])) td (la_ G 4 (nl_ (th_ N)))) mo (la_ G 4 (nl_ (4294967296 ^ 4 % N)))) tt (la_ G 6 t1)) dd (la_ G 4 d1)) mq (la_ G 4 (nl_ (4294967296 ^ 4 % N)))) H := hM
  refine lv_aload_n hx hb dd_R_begin_53 rfl (lv_at hl 0 rfl) ?_
  refine lv_aload_n hx hb dd_R_begin_54 rfl (lv_at hl 0 rfl) ?_
  refine mr_get C0 hM fk_R_27 (mu_n' (ne_k h_r h_mq (fun q => by cases q)) (mu_n' (ne_k h_r h_dd (fun q => by cases q)) (mu_n' (ne_k h_r h_tt (fun q => by cases q)) (mu_n' (ne_k h_r h_mo (fun q => by cases q)) (mu_n' (ne_k h_r h_td (fun q => by cases q)) mu_s))))) (v := .ref mq) rfl dd_R_begin_55 ?_
  refine mr_callV (As := [.ref mq]) (rest := []) C0 hM hS vk_R_60 (mu_n' (ne_k h_r h_mq (fun q => by cases q)) (mu_n' (ne_k h_r h_dd (fun q => by cases q)) (mu_n' (ne_k h_r h_tt (fun q => by cases q)) (mu_n' (ne_k h_r h_mo (fun q => by cases q)) (mu_n' (ne_k h_r h_td (fun q => by cases q)) mu_s))))) rfl (c_R_shiftBy128 l (mu_n' (ne_k h_r h_mq (fun q => by cases q)) (mu_n' (ne_k h_r h_dd (fun q => by cases q)) (mu_n' (ne_k h_r h_tt (fun q => by cases q)) (mu_n' (ne_k h_r h_mo (fun q => by cases q)) (mu_n' (ne_k h_r h_td (fun q => by cases q)) mu_s))))) (mu_n' (Ne.symm ne_mq_tt) (mu_n' ne_tt_dd mu_s)) (mu_n' (Ne.symm ne_mq_dd) mu_s) (mu_n' ne_mn_mq (mu_n' ne_mn_dd (mu_n' ne_mn_tt (mu_n' ne_mn_mo (mu_n' ne_mn_td (mu_n' (ne_k h_mn h_r (fun q => by cases q)) mu_s)))))) mu_s ne_mn_dd ne_mn_tt ne_mn_mq ne_tt_dd ne_mq_dd ne_mq_tt (Nat.mod_lt _ (by omega)) hN) rfl rfl hl.1 (by decide) rfl rfl (by subst hR; exact ⟨Nat.le_of_ble_eq_true rfl, Nat.le_of_ble_eq_true rfl⟩) (by subst hR; exact ⟨Nat.le_of_ble_eq_true rfl, Nat.le_of_ble_eq_true rfl⟩) dd_R_begin_58 (fun v1 M1 H locs hp hM hS => ?_)
  obtain ⟨ev1, t2, d2, eM1⟩ := hp
  subst ev1
  rw [eM1] at hM
  have hM := mr_M ((congrArg (fun X__ => mu_ X__ mq (la_ G 4 (nl_ (4294967296 ^ 4 % N * 2 ^ 128 % N)))) ((congrArg (fun X__ => mu_ X__ dd (la_ G 4 d2)) (mu_c3 ne_tt_dd (Ne.symm ne_mq_tt))).trans (mu_c2 (Ne.symm ne_mq_dd)))).trans mu_mu) hM
  have hM : mm_ G (mu_ (mu_ (mu_ (mu_ (mu_ (mu_ (mu_ M mn (la_ G 4 (nl_ N))) r (ob_ 2 [.ref th, .ref td, .ref un, .ref mn, .ref mo, .ref mq, .ref tt, .ref dd, .ref bb, .ref rr, .long (lN n1)])) td (la_ G 4 (nl_ (th_ N)))) mo (la_ G 4 (nl_ (4294967296 ^ 4 % N)))) tt (la_ G 6 t2)) dd (la_ G 4 d2)) mq (la_ G 4 (nl_ (4294967296 ^ 4 % N * 2 ^ 128 % N)))) H := hM
  refine W.eq (g2 := F0 m 61 ls []) rfl ?_
  rw [show 4294967296 ^ 4 % N * 2 ^ 128 % N = 4294967296 ^ 8 % N by rw [Nat.mod_mul_mod]] at hM
  exact mr_ret hQ (mr_vret C0 hM hS (⟨rfl, _, _, _, hn1, rfl⟩) dd_R_begin_61)

set_option maxHeartbeats 4000000 in
set_option maxRecDepth 100000 in
theorem c_R_multiply (l : Launch) {G : mg_} {M : mw_} {r th td un mn mo mq tt dd bb rr : Nat} {n1 N Bi X Y x y out : Nat} {t0 d0 b0 o0 : Nat → Int64} (h_r : M r = some (ob_ 2 [.ref th, .ref td, .ref un, .ref mn, .ref mo, .ref mq, .ref tt, .ref dd, .ref bb, .ref rr, .long (lN n1)])) (h_mn : M mn = some (la_ G 4 (nl_ N))) (h_mq : M mq = some (la_ G 4 (nl_ (4294967296 ^ 8 % N)))) (h_tt : M tt = some (la_ G 6 t0)) (h_dd : M dd = some (la_ G 4 d0)) (h_bb : M bb = some (la_ G 4 b0)) (h_x : M x = some (la_ G 4 (nl_ X))) (h_y : M y = some (la_ G 4 (nl_ Y))) (h_out : M out = some (la_ G 4 o0)) (ne_dd_bb : dd ≠ bb) (ne_mn_bb : mn ≠ bb) (ne_mn_dd : mn ≠ dd) (ne_mn_tt : mn ≠ tt) (ne_mq_dd : mq ≠ dd) (ne_mq_tt : mq ≠ tt) (ne_out_bb : out ≠ bb) (ne_out_dd : out ≠ dd) (ne_out_tt : out ≠ tt) (ne_tt_bb : tt ≠ bb) (ne_tt_dd : tt ≠ dd) (ne_x_dd : x ≠ dd) (ne_x_tt : x ≠ tt) (ne_y_bb : y ≠ bb) (ne_y_dd : y ≠ dd) (ne_y_tt : y ≠ tt) (hX : X < N) (hY : Y < N) (hN : N < 4294967296 ^ 4) (hn1 : n1 < 4294967296) (hinv : (n1 * N + 1) % 4294967296 = 0) (hBi : 4294967296 ^ 4 * Bi % N = 1 % N) : ct_ l my_R_multiply cd_R_multiply 4 none { frames := 3, cells := 0, slots := 0, locals := 85 } G [.ref r, .ref x, .ref y, .ref out] M (fun v0 M' => v0 = none ∧ ∃ (t : Nat → Int64) (d : Nat → Int64) (b : Nat → Int64), M' = mu_ (mu_ (mu_ (mu_ M tt (la_ G 6 t)) dd (la_ G 4 d)) bb (la_ G 4 b)) out (la_ G 4 (nl_ (X * Y % N)))) 0 0 := by
  refine ct_.intro2 (by decide) (Nat.le_of_ble_eq_true rfl) ?_
  intro p e s m args below meth c ls R Q hR hQ C0 hl hM hS
  have hx := C0.1
  have hb := C0.2.1
  have hl : lv_has ls 4 [(0, .ref r), (1, .ref x), (2, .ref y), (3, .ref out)] := hl
  have hN0 : 0 < N := by omega
  refine lv_aload_n hx hb dd_R_multiply_0 rfl (lv_at hl 0 rfl) ?_
  refine lv_aload_n hx hb dd_R_multiply_1 rfl (lv_at hl 1 rfl) ?_
  refine lv_aload_n hx hb dd_R_multiply_2 rfl (lv_at hl 0 rfl) ?_
  refine mr_get C0 hM fk_R_27 h_r (v := .ref mq) rfl dd_R_multiply_3 ?_
  refine lv_aload_n hx hb dd_R_multiply_6 rfl (lv_at hl 0 rfl) ?_
  refine mr_get C0 hM fk_R_36 h_r (v := .ref bb) rfl dd_R_multiply_7 ?_
  refine mr_callV (As := [.ref x, .ref mq, .ref bb]) (rest := []) C0 hM hS vk_R_72 h_r rfl (c_R_montgomery l h_r h_tt h_dd h_mn h_x h_mq h_bb ne_mn_dd ne_mn_tt (Ne.symm ne_dd_bb) (Ne.symm ne_tt_bb) ne_tt_dd ne_x_tt ne_mq_tt hX (Nat.mod_lt _ hN0) hN hn1 hinv hBi) rfl rfl hl.1 (by decide) rfl rfl (by subst hR; exact ⟨Nat.le_of_ble_eq_true rfl, Nat.le_of_ble_eq_true rfl⟩) (by subst hR; exact ⟨Nat.le_of_ble_eq_true rfl, Nat.le_of_ble_eq_true rfl⟩) dd_R_multiply_10 (fun v1 M1 H locs hp hM hS => ?_)
  obtain ⟨ev1, t1, d1, eM1⟩ := hp
  subst ev1
  rw [eM1] at hM
  have hM : mm_ G (mu_ (mu_ (mu_ M tt (la_ G 6 t1)) dd (la_ G 4 d1)) bb (la_ G 4 (nl_ (X * (4294967296 ^ 8 % N) * Bi % N)))) H := hM
  refine W.eq (g2 := F0 m 13 ls []) rfl ?_
  rw [show X * (4294967296 ^ 8 % N) * Bi % N = X * 4294967296 ^ 4 % N from mm1 hBi X] at hM
  have hM : mm_ G (mu_ (mu_ (mu_ M tt (la_ G 6 t1)) dd (la_ G 4 d1)) bb (la_ G 4 (nl_ (X * 4294967296 ^ 4 % N)))) H := hM
  refine lv_aload_n hx hb dd_R_multiply_13 rfl (lv_at hl 0 rfl) ?_
  refine lv_aload_n hx hb dd_R_multiply_14 rfl (lv_at hl 0 rfl) ?_
  refine mr_get C0 hM fk_R_36 (mu_n' (ne_k h_r h_bb (fun q => by cases q)) (mu_n' (ne_k h_r h_dd (fun q => by cases q)) (mu_n' (ne_k h_r h_tt (fun q => by cases q)) h_r))) (v := .ref bb) rfl dd_R_multiply_15 ?_
  refine lv_aload_n hx hb dd_R_multiply_18 rfl (lv_at hl 2 rfl) ?_
  refine lv_aload_n hx hb dd_R_multiply_19 rfl (lv_at hl 3 rfl) ?_
  refine mr_callV (As := [.ref bb, .ref y, .ref out]) (rest := []) C0 hM hS vk_R_72 (mu_n' (ne_k h_r h_bb (fun q => by cases q)) (mu_n' (ne_k h_r h_dd (fun q => by cases q)) (mu_n' (ne_k h_r h_tt (fun q => by cases q)) h_r))) rfl (c_R_montgomery l (mu_n' (ne_k h_r h_bb (fun q => by cases q)) (mu_n' (ne_k h_r h_dd (fun q => by cases q)) (mu_n' (ne_k h_r h_tt (fun q => by cases q)) h_r))) (mu_n' ne_tt_bb (mu_n' ne_tt_dd mu_s)) (mu_n' ne_dd_bb mu_s) (mu_n' ne_mn_bb (mu_n' ne_mn_dd (mu_n' ne_mn_tt h_mn))) mu_s (mu_n' ne_y_bb (mu_n' ne_y_dd (mu_n' ne_y_tt h_y))) (mu_n' ne_out_bb (mu_n' ne_out_dd (mu_n' ne_out_tt h_out))) ne_mn_dd ne_mn_tt ne_out_dd ne_out_tt ne_tt_dd (Ne.symm ne_tt_bb) ne_y_tt (Nat.mod_lt _ hN0) hY hN hn1 hinv hBi) rfl rfl hl.1 (by decide) rfl rfl (by subst hR; exact ⟨Nat.le_of_ble_eq_true rfl, Nat.le_of_ble_eq_true rfl⟩) (by subst hR; exact ⟨Nat.le_of_ble_eq_true rfl, Nat.le_of_ble_eq_true rfl⟩) dd_R_multiply_20 (fun v1 M1 H locs hp hM hS => ?_)
  obtain ⟨ev1, t2, d2, eM1⟩ := hp
  subst ev1
  rw [eM1] at hM
  have hM := mr_M (congrArg (fun X__ => mu_ X__ out (la_ G 4 (nl_ (X * 4294967296 ^ 4 % N * Y * Bi % N)))) ((congrArg (fun X__ => mu_ X__ dd (la_ G 4 d2)) (mu_c3 ne_tt_dd ne_tt_bb)).trans (mu_c2 ne_dd_bb))) hM
  have hM : mm_ G (mu_ (mu_ (mu_ (mu_ M tt (la_ G 6 t2)) dd (la_ G 4 d2)) bb (la_ G 4 (nl_ (X * 4294967296 ^ 4 % N)))) out (la_ G 4 (nl_ (X * 4294967296 ^ 4 % N * Y * Bi % N)))) H := hM
  refine W.eq (g2 := F0 m 23 ls []) rfl ?_
  rw [mm2 hBi X Y] at hM
  exact mr_ret hQ (mr_vret C0 hM hS (⟨rfl, _, _, _, rfl⟩) dd_R_multiply_23)

set_option maxHeartbeats 4000000 in
set_option maxRecDepth 100000 in
theorem c_R_power (l : Launch) {G : mg_} {M : mw_} {r th td un mn mo mq tt dd bb rr : Nat} {n1 N Bi X V x out eo eA : Nat} {t0 d0 b0 r0 o0 : Nat → Int64} (h_r : M r = some (ob_ 2 [.ref th, .ref td, .ref un, .ref mn, .ref mo, .ref mq, .ref tt, .ref dd, .ref bb, .ref rr, .long (lN n1)])) (h_mn : M mn = some (la_ G 4 (nl_ N))) (h_mo : M mo = some (la_ G 4 (nl_ (4294967296 ^ 4 % N)))) (h_mq : M mq = some (la_ G 4 (nl_ (4294967296 ^ 8 % N)))) (h_un : M un = some (la_ G 4 (nl_ 1))) (h_tt : M tt = some (la_ G 6 t0)) (h_dd : M dd = some (la_ G 4 d0)) (h_bb : M bb = some (la_ G 4 b0)) (h_rr : M rr = some (la_ G 4 r0)) (h_x : M x = some (la_ G 4 (nl_ X))) (h_out : M out = some (la_ G 4 o0)) (h_eo : M eo = some (ob_ 1 [.ref eA])) (h_eA : M eA = some (la_ G 11 (nl_ V))) (ne_bb_rr : bb ≠ rr) (ne_dd_bb : dd ≠ bb) (ne_dd_rr : dd ≠ rr) (ne_eA_bb : eA ≠ bb) (ne_eA_dd : eA ≠ dd) (ne_eA_rr : eA ≠ rr) (ne_eA_tt : eA ≠ tt) (ne_mn_bb : mn ≠ bb) (ne_mn_dd : mn ≠ dd) (ne_mn_rr : mn ≠ rr) (ne_mn_tt : mn ≠ tt) (ne_mo_bb : mo ≠ bb) (ne_mo_dd : mo ≠ dd) (ne_mo_rr : mo ≠ rr) (ne_mo_tt : mo ≠ tt) (ne_mq_bb : mq ≠ bb) (ne_mq_dd : mq ≠ dd) (ne_mq_rr : mq ≠ rr) (ne_mq_tt : mq ≠ tt) (ne_out_bb : out ≠ bb) (ne_out_dd : out ≠ dd) (ne_out_rr : out ≠ rr) (ne_out_tt : out ≠ tt) (ne_tt_bb : tt ≠ bb) (ne_tt_dd : tt ≠ dd) (ne_tt_rr : tt ≠ rr) (ne_un_bb : un ≠ bb) (ne_un_dd : un ≠ dd) (ne_un_rr : un ≠ rr) (ne_un_tt : un ≠ tt) (ne_x_bb : x ≠ bb) (ne_x_dd : x ≠ dd) (ne_x_rr : x ≠ rr) (ne_x_tt : x ≠ tt) (hX : X < N) (hN1 : 1 < N) (hV : V < 2 ^ 352) (hN : N < 4294967296 ^ 4) (hn1 : n1 < 4294967296) (hinv : (n1 * N + 1) % 4294967296 = 0) (hBi : 4294967296 ^ 4 * Bi % N = 1 % N) : ct_ l my_R_power cd_R_power 5 none { frames := 3, cells := 0, slots := 0, locals := 85 } G [.ref r, .ref x, .ref eo, .ref out] M (fun v0 M' => v0 = none ∧ ∃ (t : Nat → Int64) (d : Nat → Int64) (w : Nat → Int64), M' = mu_ (mu_ (mu_ (mu_ (mu_ M tt (la_ G 6 t)) dd (la_ G 4 d)) bb (la_ G 4 (nl_ (X * 4294967296 ^ 4 % N)))) rr (la_ G 4 w)) out (la_ G 4 (nl_ (X ^ V % N)))) 0 0 := by
  refine ct_.intro2 (by decide) (Nat.le_of_ble_eq_true rfl) ?_
  intro p e s m args below meth c ls R Q hR hQ C0 hl hM hS
  have hx := C0.1
  have hb := C0.2.1
  have hl : lv_has ls 5 [(0, .ref r), (1, .ref x), (2, .ref eo), (3, .ref out)] := hl
  have hN0 : 0 < N := by omega
  refine lv_aload_n hx hb dd_R_power_0 rfl (lv_at hl 0 rfl) ?_
  refine lv_aload_n hx hb dd_R_power_1 rfl (lv_at hl 1 rfl) ?_
  refine lv_aload_n hx hb dd_R_power_2 rfl (lv_at hl 0 rfl) ?_
  refine mr_get C0 hM fk_R_27 h_r (v := .ref mq) rfl dd_R_power_3 ?_
  refine lv_aload_n hx hb dd_R_power_6 rfl (lv_at hl 0 rfl) ?_
  refine mr_get C0 hM fk_R_36 h_r (v := .ref bb) rfl dd_R_power_7 ?_
  refine mr_callV (As := [.ref x, .ref mq, .ref bb]) (rest := []) C0 hM hS vk_R_72 h_r rfl (c_R_montgomery l h_r h_tt h_dd h_mn h_x h_mq h_bb ne_mn_dd ne_mn_tt (Ne.symm ne_dd_bb) (Ne.symm ne_tt_bb) ne_tt_dd ne_x_tt ne_mq_tt hX (Nat.mod_lt _ hN0) hN hn1 hinv hBi) rfl rfl hl.1 (by decide) rfl rfl (by subst hR; exact ⟨Nat.le_of_ble_eq_true rfl, Nat.le_of_ble_eq_true rfl⟩) (by subst hR; exact ⟨Nat.le_of_ble_eq_true rfl, Nat.le_of_ble_eq_true rfl⟩) dd_R_power_10 (fun v1 M1 H locs hp hM hS => ?_)
  obtain ⟨ev1, t1, d1, eM1⟩ := hp
  subst ev1
  rw [eM1] at hM
  have hM : mm_ G (mu_ (mu_ (mu_ M tt (la_ G 6 t1)) dd (la_ G 4 d1)) bb (la_ G 4 (nl_ (X * (4294967296 ^ 8 % N) * Bi % N)))) H := hM
  refine W.eq (g2 := F0 m 13 ls []) rfl ?_
  rw [show X * (4294967296 ^ 8 % N) * Bi % N = X * 4294967296 ^ 4 % N from mm1 hBi X] at hM
  have hM : mm_ G (mu_ (mu_ (mu_ M tt (la_ G 6 t1)) dd (la_ G 4 d1)) bb (la_ G 4 (nl_ (X * 4294967296 ^ 4 % N)))) H := hM
  refine lv_aload_n hx hb dd_R_power_13 rfl (lv_at hl 0 rfl) ?_
  refine mr_get C0 hM fk_R_24 (mu_n' (ne_k h_r h_bb (fun q => by cases q)) (mu_n' (ne_k h_r h_dd (fun q => by cases q)) (mu_n' (ne_k h_r h_tt (fun q => by cases q)) h_r))) (v := .ref mo) rfl dd_R_power_14 ?_
  refine lv_iconst (v := nI 0) hx hb dd_R_power_17 (by decide) ?_
  refine lv_aload_n hx hb dd_R_power_18 rfl (lv_at hl 0 rfl) ?_
  refine mr_get C0 hM fk_R_39 (mu_n' (ne_k h_r h_bb (fun q => by cases q)) (mu_n' (ne_k h_r h_dd (fun q => by cases q)) (mu_n' (ne_k h_r h_tt (fun q => by cases q)) h_r))) (v := .ref rr) rfl dd_R_power_19 ?_
  refine lv_iconst (v := nI 0) hx hb dd_R_power_22 (by decide) ?_
  refine lv_iconst (v := nI 4) hx hb dd_R_power_23 (by decide) ?_
  refine mr_copyl C0 hl.1 tw_180 hM hS (mu_n' ne_mo_bb (mu_n' ne_mo_dd (mu_n' ne_mo_tt h_mo))) (mu_n' (Ne.symm ne_bb_rr) (mu_n' (Ne.symm ne_dd_rr) (mu_n' (Ne.symm ne_tt_rr) h_rr))) (0) (0) (4) rfl rfl rfl (by decide) (by decide) (by decide) (by decide) (by subst hR; decide) (by subst hR; decide) dd_R_power_24 (fun H locs hM hS => ?_)
  have hM := mr_lext (g := nl_ (4294967296 ^ 4 % N)) (fun j hj => by rw [pk_cpy_in (by omega) (by omega), Nat.zero_add, Nat.sub_zero]) hM
  have hM : mm_ G (mu_ (mu_ (mu_ (mu_ M tt (la_ G 6 t1)) dd (la_ G 4 d1)) bb (la_ G 4 (nl_ (X * 4294967296 ^ 4 % N)))) rr (la_ G 4 (nl_ (4294967296 ^ 4 % N)))) H := hM
  refine lv_aload_n hx hb dd_R_power_27 rfl (lv_at hl 2 rfl) ?_
  refine mr_callV (As := []) (rest := []) C0 hM hS vk_R_76 (mu_n' (ne_k h_eo h_rr (fun q => by cases q)) (mu_n' (ne_k h_eo h_bb (fun q => by cases q)) (mu_n' (ne_k h_eo h_dd (fun q => by cases q)) (mu_n' (ne_k h_eo h_tt (fun q => by cases q)) h_eo)))) rfl (c_N_highestBit l (mu_n' (ne_k h_eo h_rr (fun q => by cases q)) (mu_n' (ne_k h_eo h_bb (fun q => by cases q)) (mu_n' (ne_k h_eo h_dd (fun q => by cases q)) (mu_n' (ne_k h_eo h_tt (fun q => by cases q)) h_eo)))) (mu_n' ne_eA_rr (mu_n' ne_eA_bb (mu_n' ne_eA_dd (mu_n' ne_eA_tt h_eA))))  hV) rfl rfl hl.1 (by decide) rfl rfl (by subst hR; exact ⟨Nat.le_of_ble_eq_true rfl, Nat.le_of_ble_eq_true rfl⟩) (by subst hR; exact ⟨Nat.le_of_ble_eq_true rfl, Nat.le_of_ble_eq_true rfl⟩) dd_R_power_28 (fun v1 M1 H locs hp hM hS => ?_)
  obtain ⟨ev1, eM1⟩ := hp
  subst ev1
  rw [eM1] at hM
  refine W.eq (g2 := F0 m 31 ls [.int (hb_ V)]) rfl ?_
  refine mr_vi (x' := nI (nb_ V) + (-1 : Int32)) (hb_nb V) ?_
  refine lv_istore (lv' := [(4, .int (nI (nb_ V) + (-1 : Int32))), (0, .ref r), (1, .ref x), (2, .ref eo), (3, .ref out)]) hx hb dd_R_power_31 hl (by decide) rfl (fun ls hl => ?_)
  have loop_33 : ∀ (k : Nat) (t : Nat → Int64) (d : Nat → Int64) (H : Heap) (locs : List Loc) (ls : Array Slot), k ≤ 352 → mm_ G (mu_ (mu_ (mu_ (mu_ M tt (la_ G 6 t)) dd (la_ G 4 d)) bb (la_ G 4 (nl_ (X * 4294967296 ^ 4 % N)))) rr (la_ G 4 (nl_ (X ^ (V / 2 ^ k) * 4294967296 ^ 4 % N)))) H → va_S (fz_ G) s.heap H locs → lv_has ls 5 [(0, .ref r), (1, .ref x), (2, .ref eo), (3, .ref out), (4, .int (nI k + (-1 : Int32)))] → W p l e R s m args below meth c H locs 0 0 Q (F0 m 33 ls []) := by
    intro k
    induction k with
    | zero =>
      intro t d H locs ls hk hM hS hl
      have hl : lv_has ls 5 [(0, .ref r), (1, .ref x), (2, .ref eo), (3, .ref out), (4, .int (nI 0 + (-1 : Int32)))] := by exact hl
      have hM : mm_ G (mu_ (mu_ (mu_ (mu_ M tt (la_ G 6 t)) dd (la_ G 4 d)) bb (la_ G 4 (nl_ (X * 4294967296 ^ 4 % N)))) rr (la_ G 4 (nl_ (X ^ (V / 2 ^ 0) * 4294967296 ^ 4 % N)))) H := hM
      refine lv_iload hx hb dd_R_power_33 (lv_at hl 4 rfl) ?_
      refine lv_if_lt (tgt := 85) hx hb dd_R_power_35 rfl (fun _ => ?_) (fun hc => absurd (by decide) hc)
      refine lv_aload_n hx hb dd_R_power_85 rfl (lv_at hl 0 rfl) ?_
      refine lv_aload_n hx hb dd_R_power_86 rfl (lv_at hl 0 rfl) ?_
      refine mr_get C0 hM fk_R_39 (mu_n' (ne_k h_r h_rr (fun q => by cases q)) (mu_n' (ne_k h_r h_bb (fun q => by cases q)) (mu_n' (ne_k h_r h_dd (fun q => by cases q)) (mu_n' (ne_k h_r h_tt (fun q => by cases q)) h_r)))) (v := .ref rr) rfl dd_R_power_87 ?_
      refine lv_aload_n hx hb dd_R_power_90 rfl (lv_at hl 0 rfl) ?_
      refine mr_get C0 hM fk_R_18 (mu_n' (ne_k h_r h_rr (fun q => by cases q)) (mu_n' (ne_k h_r h_bb (fun q => by cases q)) (mu_n' (ne_k h_r h_dd (fun q => by cases q)) (mu_n' (ne_k h_r h_tt (fun q => by cases q)) h_r)))) (v := .ref un) rfl dd_R_power_91 ?_
      refine lv_aload_n hx hb dd_R_power_94 rfl (lv_at hl 3 rfl) ?_
      refine mr_callV (As := [.ref rr, .ref un, .ref out]) (rest := []) C0 hM hS vk_R_72 (mu_n' (ne_k h_r h_rr (fun q => by cases q)) (mu_n' (ne_k h_r h_bb (fun q => by cases q)) (mu_n' (ne_k h_r h_dd (fun q => by cases q)) (mu_n' (ne_k h_r h_tt (fun q => by cases q)) h_r)))) rfl (c_R_montgomery l (mu_n' (ne_k h_r h_rr (fun q => by cases q)) (mu_n' (ne_k h_r h_bb (fun q => by cases q)) (mu_n' (ne_k h_r h_dd (fun q => by cases q)) (mu_n' (ne_k h_r h_tt (fun q => by cases q)) h_r)))) (mu_n' ne_tt_rr (mu_n' ne_tt_bb (mu_n' ne_tt_dd mu_s))) (mu_n' ne_dd_rr (mu_n' ne_dd_bb mu_s)) (mu_n' ne_mn_rr (mu_n' ne_mn_bb (mu_n' ne_mn_dd (mu_n' ne_mn_tt h_mn)))) mu_s (mu_n' ne_un_rr (mu_n' ne_un_bb (mu_n' ne_un_dd (mu_n' ne_un_tt h_un)))) (mu_n' ne_out_rr (mu_n' ne_out_bb (mu_n' ne_out_dd (mu_n' ne_out_tt h_out)))) ne_mn_dd ne_mn_tt ne_out_dd ne_out_tt ne_tt_dd (Ne.symm ne_tt_rr) ne_un_tt (Nat.mod_lt _ hN0) hN1 hN hn1 hinv hBi) rfl rfl hl.1 (by decide) rfl rfl (by subst hR; exact ⟨Nat.le_of_ble_eq_true rfl, Nat.le_of_ble_eq_true rfl⟩) (by subst hR; exact ⟨Nat.le_of_ble_eq_true rfl, Nat.le_of_ble_eq_true rfl⟩) dd_R_power_95 (fun v1 M1 H locs hp hM hS => ?_)
      obtain ⟨ev1, t4, d4, eM1⟩ := hp
      subst ev1
      rw [eM1] at hM
      have hM := mr_M (congrArg (fun X__ => mu_ X__ out (la_ G 4 (nl_ (X ^ (V / 2 ^ 0) * 4294967296 ^ 4 % N * 1 * Bi % N)))) ((congrArg (fun X__ => mu_ X__ dd (la_ G 4 d4)) (mu_c4 ne_tt_dd ne_tt_bb ne_tt_rr)).trans (mu_c3 ne_dd_bb ne_dd_rr))) hM
      have hM : mm_ G (mu_ (mu_ (mu_ (mu_ (mu_ M tt (la_ G 6 t4)) dd (la_ G 4 d4)) bb (la_ G 4 (nl_ (X * 4294967296 ^ 4 % N)))) rr (la_ G 4 (nl_ (X ^ (V / 2 ^ 0) * 4294967296 ^ 4 % N)))) out (la_ G 4 (nl_ (X ^ (V / 2 ^ 0) * 4294967296 ^ 4 % N * 1 * Bi % N)))) H := hM
      refine W.eq (g2 := F0 m 98 ls []) rfl ?_
      rw [mm2 hBi, Nat.mul_one, Nat.pow_zero, Nat.div_one] at hM
      exact mr_ret hQ (mr_vret C0 hM hS (⟨rfl, _, _, _, rfl⟩) dd_R_power_98)
    | succ k ih =>
      intro t d H locs ls hk hM hS hl
      have hk10 : k < 352 := by omega
      have hl : lv_has ls 5 [(0, .ref r), (1, .ref x), (2, .ref eo), (3, .ref out), (4, .int (nI k))] := by rw [pk_m1] at hl; exact hl
      have hM : mm_ G (mu_ (mu_ (mu_ (mu_ M tt (la_ G 6 t)) dd (la_ G 4 d)) bb (la_ G 4 (nl_ (X * 4294967296 ^ 4 % N)))) rr (la_ G 4 (nl_ (X ^ (V / 2 ^ (k + 1)) * 4294967296 ^ 4 % N)))) H := hM
      refine lv_iload hx hb dd_R_power_33 (lv_at hl 4 rfl) ?_
      refine lv_if_lt (tgt := 85) hx hb dd_R_power_35 rfl (fun hc => absurd hc (z_nlt (by omega))) (fun _ => ?_)
      refine lv_aload_n hx hb dd_R_power_38 rfl (lv_at hl 0 rfl) ?_
      refine lv_aload_n hx hb dd_R_power_39 rfl (lv_at hl 0 rfl) ?_
      refine mr_get C0 hM fk_R_39 (mu_n' (ne_k h_r h_rr (fun q => by cases q)) (mu_n' (ne_k h_r h_bb (fun q => by cases q)) (mu_n' (ne_k h_r h_dd (fun q => by cases q)) (mu_n' (ne_k h_r h_tt (fun q => by cases q)) h_r)))) (v := .ref rr) rfl dd_R_power_40 ?_
      refine lv_aload_n hx hb dd_R_power_43 rfl (lv_at hl 0 rfl) ?_
      refine mr_get C0 hM fk_R_39 (mu_n' (ne_k h_r h_rr (fun q => by cases q)) (mu_n' (ne_k h_r h_bb (fun q => by cases q)) (mu_n' (ne_k h_r h_dd (fun q => by cases q)) (mu_n' (ne_k h_r h_tt (fun q => by cases q)) h_r)))) (v := .ref rr) rfl dd_R_power_44 ?_
      refine lv_aload_n hx hb dd_R_power_47 rfl (lv_at hl 0 rfl) ?_
      refine mr_get C0 hM fk_R_39 (mu_n' (ne_k h_r h_rr (fun q => by cases q)) (mu_n' (ne_k h_r h_bb (fun q => by cases q)) (mu_n' (ne_k h_r h_dd (fun q => by cases q)) (mu_n' (ne_k h_r h_tt (fun q => by cases q)) h_r)))) (v := .ref rr) rfl dd_R_power_48 ?_
      refine mr_callV (As := [.ref rr, .ref rr, .ref rr]) (rest := []) C0 hM hS vk_R_72 (mu_n' (ne_k h_r h_rr (fun q => by cases q)) (mu_n' (ne_k h_r h_bb (fun q => by cases q)) (mu_n' (ne_k h_r h_dd (fun q => by cases q)) (mu_n' (ne_k h_r h_tt (fun q => by cases q)) h_r)))) rfl (c_R_montgomery l (mu_n' (ne_k h_r h_rr (fun q => by cases q)) (mu_n' (ne_k h_r h_bb (fun q => by cases q)) (mu_n' (ne_k h_r h_dd (fun q => by cases q)) (mu_n' (ne_k h_r h_tt (fun q => by cases q)) h_r)))) (mu_n' ne_tt_rr (mu_n' ne_tt_bb (mu_n' ne_tt_dd mu_s))) (mu_n' ne_dd_rr (mu_n' ne_dd_bb mu_s)) (mu_n' ne_mn_rr (mu_n' ne_mn_bb (mu_n' ne_mn_dd (mu_n' ne_mn_tt h_mn)))) mu_s mu_s mu_s ne_mn_dd ne_mn_tt (Ne.symm ne_dd_rr) (Ne.symm ne_tt_rr) ne_tt_dd (Ne.symm ne_tt_rr) (Ne.symm ne_tt_rr) (Nat.mod_lt _ hN0) (Nat.mod_lt _ hN0) hN hn1 hinv hBi) rfl rfl hl.1 (by decide) rfl rfl (by subst hR; exact ⟨Nat.le_of_ble_eq_true rfl, Nat.le_of_ble_eq_true rfl⟩) (by subst hR; exact ⟨Nat.le_of_ble_eq_true rfl, Nat.le_of_ble_eq_true rfl⟩) dd_R_power_51 (fun v1 M1 H locs hp hM hS => ?_)
      obtain ⟨ev1, t2, d2, eM1⟩ := hp
      subst ev1
      rw [eM1] at hM
      have hM := mr_M ((congrArg (fun X__ => mu_ X__ rr (la_ G 4 (nl_ ((X ^ (V / 2 ^ (k + 1)) * 4294967296 ^ 4 % N) * (X ^ (V / 2 ^ (k + 1)) * 4294967296 ^ 4 % N) * Bi % N)))) ((congrArg (fun X__ => mu_ X__ dd (la_ G 4 d2)) (mu_c4 ne_tt_dd ne_tt_bb ne_tt_rr)).trans (mu_c3 ne_dd_bb ne_dd_rr))).trans mu_mu) hM
      have hM : mm_ G (mu_ (mu_ (mu_ (mu_ M tt (la_ G 6 t2)) dd (la_ G 4 d2)) bb (la_ G 4 (nl_ (X * 4294967296 ^ 4 % N)))) rr (la_ G 4 (nl_ ((X ^ (V / 2 ^ (k + 1)) * 4294967296 ^ 4 % N) * (X ^ (V / 2 ^ (k + 1)) * 4294967296 ^ 4 % N) * Bi % N)))) H := hM
      refine W.eq (g2 := F0 m 54 ls []) rfl ?_
      rw [mm4 hBi] at hM
      have hM : mm_ G (mu_ (mu_ (mu_ (mu_ M tt (la_ G 6 t2)) dd (la_ G 4 d2)) bb (la_ G 4 (nl_ (X * 4294967296 ^ 4 % N)))) rr (la_ G 4 (nl_ (X ^ (V / 2 ^ (k + 1)) * X ^ (V / 2 ^ (k + 1)) * 4294967296 ^ 4 % N)))) H := hM
      refine lv_aload_n hx hb dd_R_power_54 rfl (lv_at hl 2 rfl) ?_
      refine lv_iload hx hb dd_R_power_55 (lv_at hl 4 rfl) ?_
      refine mr_callV (As := [.int (nI k)]) (rest := []) C0 hM hS vk_R_82 (mu_n' (ne_k h_eo h_rr (fun q => by cases q)) (mu_n' (ne_k h_eo h_bb (fun q => by cases q)) (mu_n' (ne_k h_eo h_dd (fun q => by cases q)) (mu_n' (ne_k h_eo h_tt (fun q => by cases q)) h_eo)))) rfl (c_N_bit l (mu_n' (ne_k h_eo h_rr (fun q => by cases q)) (mu_n' (ne_k h_eo h_bb (fun q => by cases q)) (mu_n' (ne_k h_eo h_dd (fun q => by cases q)) (mu_n' (ne_k h_eo h_tt (fun q => by cases q)) h_eo)))) (mu_n' ne_eA_rr (mu_n' ne_eA_bb (mu_n' ne_eA_dd (mu_n' ne_eA_tt h_eA))))  hk10) rfl rfl hl.1 (by decide) rfl rfl (by subst hR; exact ⟨Nat.le_of_ble_eq_true rfl, Nat.le_of_ble_eq_true rfl⟩) (by subst hR; exact ⟨Nat.le_of_ble_eq_true rfl, Nat.le_of_ble_eq_true rfl⟩) dd_R_power_57 (fun v1 M1 H locs hp hM hS => ?_)
      obtain ⟨ev1, eM1⟩ := hp
      subst ev1
      rw [eM1] at hM
      refine W.eq (g2 := F0 m 60 ls [.int (nI (V / 2 ^ k % 2))]) rfl ?_
      refine lv_if_eq (tgt := 79) hx hb dd_R_power_60 rfl (fun h60 => ?_) (fun h60 => ?_)
      · skip
        have hv : V / 2 ^ k % 2 = 0 := (nI_eq (by omega) (by decide)).mp h60
        rw [pw_0 X hv] at hM
        have hM : mm_ G (mu_ (mu_ (mu_ (mu_ M tt (la_ G 6 t2)) dd (la_ G 4 d2)) bb (la_ G 4 (nl_ (X * 4294967296 ^ 4 % N)))) rr (la_ G 4 (nl_ (X ^ (V / 2 ^ k) * 4294967296 ^ 4 % N)))) H := hM
        refine lv_iinc (k := 4) (v := nI k + (-1 : Int32)) (lv' := [(4, .int (nI k + (-1 : Int32))), (0, .ref r), (1, .ref x), (2, .ref eo), (3, .ref out)]) hx hb dd_R_power_79 hl rfl (rfl) (by decide) rfl (fun ls hl => ?_)
        refine lv_goto (tgt := 33) hx hb dd_R_power_82 rfl ?_
        exact ih _ _ _ _ _ (by omega) hM hS (lv_sub hl [1, 2, 3, 4, 0] rfl)
      · skip
        have hv : V / 2 ^ k % 2 = 1 := by
          have h2 : V / 2 ^ k % 2 ≠ 0 := fun q => h60 (by rw [q]; rfl)
          omega
        refine lv_aload_n hx hb dd_R_power_63 rfl (lv_at hl 0 rfl) ?_
        refine lv_aload_n hx hb dd_R_power_64 rfl (lv_at hl 0 rfl) ?_
        refine mr_get C0 hM fk_R_39 (mu_n' (ne_k h_r h_rr (fun q => by cases q)) (mu_n' (ne_k h_r h_bb (fun q => by cases q)) (mu_n' (ne_k h_r h_dd (fun q => by cases q)) (mu_n' (ne_k h_r h_tt (fun q => by cases q)) h_r)))) (v := .ref rr) rfl dd_R_power_65 ?_
        refine lv_aload_n hx hb dd_R_power_68 rfl (lv_at hl 0 rfl) ?_
        refine mr_get C0 hM fk_R_36 (mu_n' (ne_k h_r h_rr (fun q => by cases q)) (mu_n' (ne_k h_r h_bb (fun q => by cases q)) (mu_n' (ne_k h_r h_dd (fun q => by cases q)) (mu_n' (ne_k h_r h_tt (fun q => by cases q)) h_r)))) (v := .ref bb) rfl dd_R_power_69 ?_
        refine lv_aload_n hx hb dd_R_power_72 rfl (lv_at hl 0 rfl) ?_
        refine mr_get C0 hM fk_R_39 (mu_n' (ne_k h_r h_rr (fun q => by cases q)) (mu_n' (ne_k h_r h_bb (fun q => by cases q)) (mu_n' (ne_k h_r h_dd (fun q => by cases q)) (mu_n' (ne_k h_r h_tt (fun q => by cases q)) h_r)))) (v := .ref rr) rfl dd_R_power_73 ?_
        refine mr_callV (As := [.ref rr, .ref bb, .ref rr]) (rest := []) C0 hM hS vk_R_72 (mu_n' (ne_k h_r h_rr (fun q => by cases q)) (mu_n' (ne_k h_r h_bb (fun q => by cases q)) (mu_n' (ne_k h_r h_dd (fun q => by cases q)) (mu_n' (ne_k h_r h_tt (fun q => by cases q)) h_r)))) rfl (c_R_montgomery l (mu_n' (ne_k h_r h_rr (fun q => by cases q)) (mu_n' (ne_k h_r h_bb (fun q => by cases q)) (mu_n' (ne_k h_r h_dd (fun q => by cases q)) (mu_n' (ne_k h_r h_tt (fun q => by cases q)) h_r)))) (mu_n' ne_tt_rr (mu_n' ne_tt_bb (mu_n' ne_tt_dd mu_s))) (mu_n' ne_dd_rr (mu_n' ne_dd_bb mu_s)) (mu_n' ne_mn_rr (mu_n' ne_mn_bb (mu_n' ne_mn_dd (mu_n' ne_mn_tt h_mn)))) mu_s (mu_n' ne_bb_rr mu_s) mu_s ne_mn_dd ne_mn_tt (Ne.symm ne_dd_rr) (Ne.symm ne_tt_rr) ne_tt_dd (Ne.symm ne_tt_rr) (Ne.symm ne_tt_bb) (Nat.mod_lt _ hN0) (Nat.mod_lt _ hN0) hN hn1 hinv hBi) rfl rfl hl.1 (by decide) rfl rfl (by subst hR; exact ⟨Nat.le_of_ble_eq_true rfl, Nat.le_of_ble_eq_true rfl⟩) (by subst hR; exact ⟨Nat.le_of_ble_eq_true rfl, Nat.le_of_ble_eq_true rfl⟩) dd_R_power_76 (fun v1 M1 H locs hp hM hS => ?_)
        obtain ⟨ev1, t3, d3, eM1⟩ := hp
        subst ev1
        rw [eM1] at hM
        have hM := mr_M ((congrArg (fun X__ => mu_ X__ rr (la_ G 4 (nl_ ((X ^ (V / 2 ^ (k + 1)) * X ^ (V / 2 ^ (k + 1)) * 4294967296 ^ 4 % N) * (X * 4294967296 ^ 4 % N) * Bi % N)))) ((congrArg (fun X__ => mu_ X__ dd (la_ G 4 d3)) (mu_c4 ne_tt_dd ne_tt_bb ne_tt_rr)).trans (mu_c3 ne_dd_bb ne_dd_rr))).trans mu_mu) hM
        have hM : mm_ G (mu_ (mu_ (mu_ (mu_ M tt (la_ G 6 t3)) dd (la_ G 4 d3)) bb (la_ G 4 (nl_ (X * 4294967296 ^ 4 % N)))) rr (la_ G 4 (nl_ ((X ^ (V / 2 ^ (k + 1)) * X ^ (V / 2 ^ (k + 1)) * 4294967296 ^ 4 % N) * (X * 4294967296 ^ 4 % N) * Bi % N)))) H := hM
        refine W.eq (g2 := F0 m 79 ls []) rfl ?_
        rw [mm4 hBi, pw_1 X hv] at hM
        have hM : mm_ G (mu_ (mu_ (mu_ (mu_ M tt (la_ G 6 t3)) dd (la_ G 4 d3)) bb (la_ G 4 (nl_ (X * 4294967296 ^ 4 % N)))) rr (la_ G 4 (nl_ (X ^ (V / 2 ^ k) * 4294967296 ^ 4 % N)))) H := hM
        refine lv_iinc (k := 4) (v := nI k + (-1 : Int32)) (lv' := [(4, .int (nI k + (-1 : Int32))), (0, .ref r), (1, .ref x), (2, .ref eo), (3, .ref out)]) hx hb dd_R_power_79 hl rfl (rfl) (by decide) rfl (fun ls hl => ?_)
        refine lv_goto (tgt := 33) hx hb dd_R_power_82 rfl ?_
        exact ih _ _ _ _ _ (by omega) hM hS (lv_sub hl [1, 2, 3, 4, 0] rfl)
  rw [show 4294967296 ^ 4 % N = X ^ (V / 2 ^ nb_ V) * 4294967296 ^ 4 % N by rw [nb_0, Nat.pow_zero, Nat.one_mul]] at hM
  exact loop_33 (nb_ V) _ _ _ _ _ (nb_le hV) hM hS (lv_sub hl [1, 2, 3, 4, 0] rfl)
