
theorem th_add {U L : Nat} : (U % 3 + L % 3) % 3 = (U * 18446744073709551616 + L) % 3 := by omega
/-! the third, bit by bit -/
theorem ft_r (N k : Nat) : N / 2 ^ k % 3 = (2 * (N / 2 ^ (k + 1) % 3) + N / 2 ^ k % 2) % 3 := by
  have := bit_s N k
  omega
theorem ft_q (N k : Nat) : N / 2 ^ k / 3 = 2 * (N / 2 ^ (k + 1) / 3) + (2 * (N / 2 ^ (k + 1) % 3) + N / 2 ^ k % 2) / 3 := by
  have := bit_s N k
  omega
theorem ft_h {Q c : Nat} (hc : c ≤ 1) : (2 * Q + c) / 18446744073709551616 = Q / 18446744073709551616 * 2 + Q % 18446744073709551616 / 9223372036854775808 := by omega
theorem ft_l {Q c : Nat} (hc : c ≤ 1) : (2 * Q + c) % 18446744073709551616 = Q % 9223372036854775808 * 2 + c := by omega
theorem ft_hi {Q c : Nat} (hQ : Q < 170141183460469231731687303715884105728) (hc : c ≤ 1) : lsl_ (hi_ Q) (nI 1) ||| lus_ (lo_ Q) (nI 63) = hi_ (2 * Q + c) := by
  have e1 : lsl_ (hi_ Q) (nI 1) = lN (Q / 18446744073709551616 * 2) := wb_shl _ (k := 1) (by decide)
  have e2 : lus_ (lo_ Q) (nI 63) = lN (Q % 18446744073709551616 / 9223372036854775808) := wb_shr (k := 63) (Nat.mod_lt _ (by decide)) (by decide)
  rw [e1, e2, g_or (k := 1) rfl (by omega) (by omega), ← ft_h hc]
  rfl
theorem ft_lo {Q c : Nat} (hc : c ≤ 1) : lsl_ (lo_ Q) (nI 1) ||| lN c = lo_ (2 * Q + c) := by
  have e1 : lsl_ (lo_ Q) (nI 1) = lN (Q % 9223372036854775808 * 2) := by
    have h : lsl_ (lo_ Q) (nI 1) = lN (Q % 18446744073709551616 * 2) := wb_shl _ (k := 1) (by decide)
    rw [h, wb_mod, wb_mod (Q % 9223372036854775808 * 2)]
    congr 1
    omega
  rw [e1, g_or (k := 1) rfl (by omega) (by omega), ← ft_l hc]
  rfl
theorem ft_end {N : Nat} (h : N % 3 ≠ 0) (hN : 3 < N) : (if N % 3 = 1 then (N / 3 + N / 3) % N else N / 3) + 1 = th_ N ∧ th_ N < N ∧ N / 3 < N ∧ 1 < N ∧ (N / 3 + N / 3) % N < N := by
  unfold th_ tm_
  have e : (N / 3 + N / 3) % N = N / 3 + N / 3 := Nat.mod_eq_of_lt (by omega)
  rw [e]
  split <;> omega
/-! epochs -/
def ep_ (e : Int32) (nw : Nat) : Prop := ∃ k, k ≤ nw ∧ e = nI k
noncomputable def ie_ (e : Int32) (nw : Nat) : Int32 := @ite _ (ep_ e nw) (Classical.propDecidable _) (nI 1) (nI 0)
theorem ie_y {e : Int32} {nw : Nat} (h : ep_ e nw) : ie_ e nw = nI 1 := by unfold ie_; exact if_pos h
theorem ie_n {e : Int32} {nw : Nat} (h : ¬ ep_ e nw) : ie_ e nw = nI 0 := by unfold ie_; exact if_neg h
theorem ep_neg {e : Int32} {nw : Nat} (hn : nw ≤ 16) (h : e < 0) : ¬ ep_ e nw := by
  rintro ⟨k, hk, rfl⟩
  exact nI_pos (by omega) h
theorem ep_big {e : Int32} {nw : Nat} (hn : nw ≤ 16) (h : nI nw < e) : ¬ ep_ e nw := by
  rintro ⟨k, hk, rfl⟩
  have := (nI_ltI (by omega) (by omega)).mp h
  omega
theorem ep_in {e : Int32} {nw : Nat} (hn : nw ≤ 16) (h1 : ¬ e < 0) (h2 : ¬ nI nw < e) : ep_ e nw := by
  obtain ⟨j, hj, rfl⟩ := nI_of h1
  exact ⟨j, Nat.le_of_not_lt (fun q => h2 ((nI_ltI (by omega) hj).mpr q)), rfl⟩
/-- the product of the primes before place i, but for place q -/
def pe_ (L : rl_) (q : Nat) : Nat → Nat
  | 0 => 1
  | i + 1 => if i = q then pe_ L q i else pe_ L q i * pr_ L i
theorem pw_pw (A a b N : Nat) : (A ^ a % N) ^ b % N = A ^ (a * b) % N := by rw [← Nat.pow_mod, ← Nat.pow_mul]

set_option maxHeartbeats 4000000 in
set_option maxRecDepth 100000 in
theorem c_M_thirds (l : Launch) {G : mg_} {M : mw_} {X : Nat}   (hX : X < 18446744073709551616) : dt_ l my_M_thirds cd_M_thirds 2 (some .long) { frames := 0, cells := 0, slots := 0, locals := 0 } G [.long (lN X)] M (some (.long (lN (X % 3)))) (M) 0 0 := by
  refine ct_.intro2 (by decide) (Nat.le_of_ble_eq_true rfl) ?_
  intro p e s m args below meth c ls R Q hR hQ C0 hl hM hS
  have hx := C0.1
  have hb := C0.2.1
  have hl : lv_has ls 2 [(0, .long (lN X))] := hl
  refine lv_lload_n hx hb dd_M_thirds_0 rfl (lv_at hl 0 rfl) ?_
  refine lv_bipush (v := nI 32) hx hb dd_M_thirds_1 (by decide) ?_
  refine lv_lushr (v := lN (X / 4294967296)) hx hb dd_M_thirds_3 (lh_ hX) ?_
  refine lv_lload_n hx hb dd_M_thirds_4 rfl (lv_at hl 0 rfl) ?_
  refine mr_ldc2 (v := lN 4294967295) C0 tw_600 dd_M_thirds_5 ?_
  refine lv_land hx hb dd_M_thirds_8 ?_
  refine mr_vl (x' := lN (X % 4294967296)) (lm_ hX) ?_
  refine lv_ladd hx hb dd_M_thirds_9 ?_
  refine mr_vl (x' := lN (X / 4294967296 + X % 4294967296)) (lN_add _ _) ?_
  refine mr_ldc2 (v := lN 3) C0 tw_591 dd_M_thirds_10 ?_
  refine lv_lrem hx hb dd_M_thirds_13 (by decide) ?_
  refine mr_vl (x' := lN (X % 3)) ((pk_lRem (by omega) (by decide) (by decide)).trans (congrArg lN (th_3 X))) ?_
  exact mr_ret hQ (mr_lret C0 hM hS (⟨rfl, rfl⟩) dd_M_thirds_14)

set_option maxHeartbeats 4000000 in
set_option maxRecDepth 100000 in
theorem c_M_findThird (l : Launch) {G : mg_} {M : mw_} {m0 kA wA psA ppA cA sA pA uA lA xA : Nat} {has pend now fac : Int32} {v1 v0 h1 h0 r1 r0 : Int64} {N : Nat} (h_m : M m0 = some (ob_ 6 [.ref kA, .ref wA, .int has, .long (hi_ N), .long (lo_ N), .long v1, .long v0, .int pend, .ref psA, .ref ppA, .int now, .ref cA, .ref sA, .ref pA, .ref uA, .ref lA, .long h1, .long h0, .int fac, .long r1, .long r0, .ref xA]))  (hN : N < 340282366920938463463374607431768211456) (hN3 : N % 3 ≠ 0) (hN4 : 3 < N) : dt_ l my_M_findThird cd_M_findThird 7 none { frames := 3, cells := 0, slots := 0, locals := 80 } G [.ref m0] M none (mu_ M m0 (ob_ 6 [.ref kA, .ref wA, .int has, .long (hi_ N), .long (lo_ N), .long (hi_ (th_ N)), .long (lo_ (th_ N)), .int pend, .ref psA, .ref ppA, .int now, .ref cA, .ref sA, .ref pA, .ref uA, .ref lA, .long h1, .long h0, .int fac, .long (hi_ (th_ N)), .long (lo_ (th_ N)), .ref xA])) 0 0 := by
  refine ct_.intro2 (by decide) (Nat.le_of_ble_eq_true rfl) ?_
  intro p e s m args below meth c ls R Q hR hQ C0 hl hM hS
  have hx := C0.1
  have hb := C0.2.1
  have hl : lv_has ls 7 [(0, .ref m0)] := hl
  have hNh : N / 18446744073709551616 < 18446744073709551616 := by omega
  have hNl : N % 18446744073709551616 < 18446744073709551616 := by omega
  have hend := ft_end hN3 hN4
  refine lv_lconst (v := lN 0) hx hb dd_M_findThird_0 rfl ?_
  refine lv_lstore_n (lv' := [(1, .long (lN 0)), (0, .ref m0)]) hx hb dd_M_findThird_1 rfl hl (by decide) rfl (fun ls hl => ?_)
  refine lv_lconst (v := lN 0) hx hb dd_M_findThird_2 rfl ?_
  refine lv_lstore_n (lv' := [(3, .long (lN 0)), (1, .long (lN 0)), (0, .ref m0)]) hx hb dd_M_findThird_3 rfl hl (by decide) rfl (fun ls hl => ?_)
  refine lv_iconst (v := nI 0) hx hb dd_M_findThird_4 (by decide) ?_
  refine lv_istore (lv' := [(5, .int (nI 0)), (3, .long (lN 0)), (1, .long (lN 0)), (0, .ref m0)]) hx hb dd_M_findThird_5 hl (by decide) rfl (fun ls hl => ?_)
  refine lv_bipush (v := nI 127) hx hb dd_M_findThird_7 (by decide) ?_
  refine lv_istore (lv' := [(6, .int (nI 127)), (5, .int (nI 0)), (3, .long (lN 0)), (1, .long (lN 0)), (0, .ref m0)]) hx hb dd_M_findThird_9 hl (by decide) rfl (fun ls hl => ?_)
  have loop_11 : ∀ (k : Nat)  (H : Heap) (locs : List Loc) (ls : Array Slot), k ≤ 128 → mm_ G (M) H → va_S (fz_ G) s.heap H locs → lv_has ls 7 [(0, .ref m0), (1, .long (hi_ (N / 2 ^ k / 3))), (3, .long (lo_ (N / 2 ^ k / 3))), (5, .int (nI (N / 2 ^ k % 3))), (6, .int (nI k + (-1 : Int32)))] → W p l e R s m args below meth c H locs 0 0 Q (F0 m 11 ls []) := by
    intro k
    induction k with
    | zero =>
      intro  H locs ls hk hM hS hl
      have hl : lv_has ls 7 [(0, .ref m0), (1, .long (hi_ (N / 2 ^ 0 / 3))), (3, .long (lo_ (N / 2 ^ 0 / 3))), (5, .int (nI (N / 2 ^ 0 % 3))), (6, .int (nI 0 + (-1 : Int32)))] := by exact hl
      refine lv_iload hx hb dd_M_findThird_11 (lv_at hl 4 rfl) ?_
      refine lv_if_lt (tgt := 90) hx hb dd_M_findThird_13 rfl (fun _ => ?_) (fun hc => absurd (by decide) hc)
      have hl : lv_has ls 7 [(0, .ref m0), (1, .long (hi_ (N / 3))), (3, .long (lo_ (N / 3))), (5, .int (nI (N % 3)))] := by
        have h := lv_sub hl [0, 1, 2, 3] rfl
        rw [Nat.pow_zero, Nat.div_one] at h
        exact h
      refine lv_iload hx hb dd_M_findThird_90 (lv_at hl 3 rfl) ?_
      refine lv_iconst (v := nI 1) hx hb dd_M_findThird_92 (by decide) ?_
      refine lv_icmp_ne (tgt := 114) hx hb dd_M_findThird_93 rfl (fun h93 => ?_) (fun h93 => ?_)
      · skip
        have hq3 : N % 3 ≠ 1 := fun q => h93 (by rw [q])
        refine lv_aload_n hx hb dd_M_findThird_114 rfl (lv_at hl 0 rfl) ?_
        refine lv_lload_n hx hb dd_M_findThird_115 rfl (lv_at hl 1 rfl) ?_
        refine lv_lload_n hx hb dd_M_findThird_116 rfl (lv_at hl 2 rfl) ?_
        refine lv_lconst (v := lN 0) hx hb dd_M_findThird_117 rfl ?_
        refine lv_lconst (v := lN 1) hx hb dd_M_findThird_118 rfl ?_
        refine mr_callV (As := [.long (hi_ (N / 3)), .long (lo_ (N / 3)), .long (lN 0), .long (lN 1)]) (rest := []) C0 hM hS vk_M_160 h_m rfl (c_M_plus l h_m hN hend.2.2.1 hend.2.2.2.1) rfl rfl hl.1 (Nat.le_of_ble_eq_true rfl) rfl rfl (by subst hR; exact ⟨Nat.le_of_ble_eq_true rfl, Nat.le_of_ble_eq_true rfl⟩) (by subst hR; exact ⟨Nat.le_of_ble_eq_true rfl, Nat.le_of_ble_eq_true rfl⟩) dd_M_findThird_119 (fun v1 M1 H locs hp hM hS => ?_)
        obtain ⟨ev1, eM1⟩ := hp
        subst ev1
        rw [eM1] at hM
        have hM : mm_ G (mu_ M m0 (ob_ 6 [.ref kA, .ref wA, .int has, .long (hi_ N), .long (lo_ N), .long v1, .long v0, .int pend, .ref psA, .ref ppA, .int now, .ref cA, .ref sA, .ref pA, .ref uA, .ref lA, .long h1, .long h0, .int fac, .long (hi_ ((N / 3 + 1) % N)), .long (lo_ ((N / 3 + 1) % N)), .ref xA])) H := hM
        refine W.eq (g2 := F0 m 122 ls []) rfl ?_
        have eth : (N / 3 + 1) % N = th_ N := by rw [← hend.1, if_neg hq3]; exact Nat.mod_eq_of_lt (by have h := hend.2.1; rw [← hend.1, if_neg hq3] at h; exact h)
        rw [eth] at hM
        have hM : mm_ G (mu_ M m0 (ob_ 6 [.ref kA, .ref wA, .int has, .long (hi_ N), .long (lo_ N), .long v1, .long v0, .int pend, .ref psA, .ref ppA, .int now, .ref cA, .ref sA, .ref pA, .ref uA, .ref lA, .long h1, .long h0, .int fac, .long (hi_ (th_ N)), .long (lo_ (th_ N)), .ref xA])) H := hM
        refine lv_aload_n hx hb dd_M_findThird_122 rfl (lv_at hl 0 rfl) ?_
        refine lv_aload_n hx hb dd_M_findThird_123 rfl (lv_at hl 0 rfl) ?_
        refine mr_get C0 hM fk_M_154 mu_s (v := .long (hi_ (th_ N))) rfl dd_M_findThird_124 ?_
        refine lv_topl (fun v1 e2 => ?_)
        refine mr_put C0 hM hS fk_M_192 fp_M_192 mu_s rfl (rfl) (rfl) (Nat.le_of_ble_eq_true rfl) dd_M_findThird_127 (fun H locs hM hS => ?_)
        have hM := mr_M mu_mu hM
        have hM : mm_ G (mu_ M m0 (ob_ 6 [.ref kA, .ref wA, .int has, .long (hi_ N), .long (lo_ N), .long v1, .long v0, .int pend, .ref psA, .ref ppA, .int now, .ref cA, .ref sA, .ref pA, .ref uA, .ref lA, .long h1, .long h0, .int fac, .long (hi_ (th_ N)), .long (lo_ (th_ N)), .ref xA])) H := hM
        refine lv_aload_n hx hb dd_M_findThird_130 rfl (lv_at hl 0 rfl) ?_
        refine lv_aload_n hx hb dd_M_findThird_131 rfl (lv_at hl 0 rfl) ?_
        refine mr_get C0 hM fk_M_151 mu_s (v := .long (lo_ (th_ N))) rfl dd_M_findThird_132 ?_
        refine lv_topl (fun v3 e4 => ?_)
        refine mr_put C0 hM hS fk_M_195 fp_M_195 mu_s rfl (rfl) (rfl) (Nat.le_of_ble_eq_true rfl) dd_M_findThird_135 (fun H locs hM hS => ?_)
        have hM := mr_M mu_mu hM
        have hM : mm_ G (mu_ M m0 (ob_ 6 [.ref kA, .ref wA, .int has, .long (hi_ N), .long (lo_ N), .long v1, .long v3, .int pend, .ref psA, .ref ppA, .int now, .ref cA, .ref sA, .ref pA, .ref uA, .ref lA, .long h1, .long h0, .int fac, .long (hi_ (th_ N)), .long (lo_ (th_ N)), .ref xA])) H := hM
        subst e4 e2
        exact mr_ret hQ (mr_vret C0 hM hS (⟨rfl, rfl⟩) dd_M_findThird_138)
      · skip
        have hq3 : N % 3 = 1 := (nI_eq (by omega) (by decide)).mp h93
        refine lv_aload_n hx hb dd_M_findThird_96 rfl (lv_at hl 0 rfl) ?_
        refine lv_lload_n hx hb dd_M_findThird_97 rfl (lv_at hl 1 rfl) ?_
        refine lv_lload_n hx hb dd_M_findThird_98 rfl (lv_at hl 2 rfl) ?_
        refine lv_lload_n hx hb dd_M_findThird_99 rfl (lv_at hl 1 rfl) ?_
        refine lv_lload_n hx hb dd_M_findThird_100 rfl (lv_at hl 2 rfl) ?_
        refine mr_callV (As := [.long (hi_ (N / 3)), .long (lo_ (N / 3)), .long (hi_ (N / 3)), .long (lo_ (N / 3))]) (rest := []) C0 hM hS vk_M_160 h_m rfl (c_M_plus l h_m hN hend.2.2.1 hend.2.2.1) rfl rfl hl.1 (Nat.le_of_ble_eq_true rfl) rfl rfl (by subst hR; exact ⟨Nat.le_of_ble_eq_true rfl, Nat.le_of_ble_eq_true rfl⟩) (by subst hR; exact ⟨Nat.le_of_ble_eq_true rfl, Nat.le_of_ble_eq_true rfl⟩) dd_M_findThird_101 (fun v1 M1 H locs hp hM hS => ?_)
        obtain ⟨ev1, eM1⟩ := hp
        subst ev1
        rw [eM1] at hM
        have hM : mm_ G (mu_ M m0 (ob_ 6 [.ref kA, .ref wA, .int has, .long (hi_ N), .long (lo_ N), .long v1, .long v0, .int pend, .ref psA, .ref ppA, .int now, .ref cA, .ref sA, .ref pA, .ref uA, .ref lA, .long h1, .long h0, .int fac, .long (hi_ ((N / 3 + N / 3) % N)), .long (lo_ ((N / 3 + N / 3) % N)), .ref xA])) H := hM
        refine W.eq (g2 := F0 m 104 ls []) rfl ?_
        refine lv_aload_n hx hb dd_M_findThird_104 rfl (lv_at hl 0 rfl) ?_
        refine mr_get C0 hM fk_M_154 mu_s (v := .long (hi_ ((N / 3 + N / 3) % N))) rfl dd_M_findThird_105 ?_
        refine lv_lstore_n (lv' := [(1, .long (hi_ ((N / 3 + N / 3) % N))), (0, .ref m0), (3, .long (lo_ (N / 3))), (5, .int (nI (N % 3)))]) hx hb dd_M_findThird_108 rfl hl (by decide) rfl (fun ls hl => ?_)
        refine lv_aload_n hx hb dd_M_findThird_109 rfl (lv_at hl 1 rfl) ?_
        refine mr_get C0 hM fk_M_151 mu_s (v := .long (lo_ ((N / 3 + N / 3) % N))) rfl dd_M_findThird_110 ?_
        refine lv_lstore_n (lv' := [(3, .long (lo_ ((N / 3 + N / 3) % N))), (1, .long (hi_ ((N / 3 + N / 3) % N))), (0, .ref m0), (5, .int (nI (N % 3)))]) hx hb dd_M_findThird_113 rfl hl (by decide) rfl (fun ls hl => ?_)
        refine lv_aload_n hx hb dd_M_findThird_114 rfl (lv_at hl 2 rfl) ?_
        refine lv_lload_n hx hb dd_M_findThird_115 rfl (lv_at hl 1 rfl) ?_
        refine lv_lload_n hx hb dd_M_findThird_116 rfl (lv_at hl 0 rfl) ?_
        refine lv_lconst (v := lN 0) hx hb dd_M_findThird_117 rfl ?_
        refine lv_lconst (v := lN 1) hx hb dd_M_findThird_118 rfl ?_
        refine mr_callV (As := [.long (hi_ ((N / 3 + N / 3) % N)), .long (lo_ ((N / 3 + N / 3) % N)), .long (lN 0), .long (lN 1)]) (rest := []) C0 hM hS vk_M_160 mu_s rfl (c_M_plus l mu_s hN hend.2.2.2.2 hend.2.2.2.1) rfl rfl hl.1 (Nat.le_of_ble_eq_true rfl) rfl rfl (by subst hR; exact ⟨Nat.le_of_ble_eq_true rfl, Nat.le_of_ble_eq_true rfl⟩) (by subst hR; exact ⟨Nat.le_of_ble_eq_true rfl, Nat.le_of_ble_eq_true rfl⟩) dd_M_findThird_119 (fun v1 M1 H locs hp hM hS => ?_)
        obtain ⟨ev1, eM1⟩ := hp
        subst ev1
        rw [eM1] at hM
        have hM := mr_M mu_mu hM
        have hM : mm_ G (mu_ M m0 (ob_ 6 [.ref kA, .ref wA, .int has, .long (hi_ N), .long (lo_ N), .long v1, .long v0, .int pend, .ref psA, .ref ppA, .int now, .ref cA, .ref sA, .ref pA, .ref uA, .ref lA, .long h1, .long h0, .int fac, .long (hi_ (((N / 3 + N / 3) % N + 1) % N)), .long (lo_ (((N / 3 + N / 3) % N + 1) % N)), .ref xA])) H := hM
        refine W.eq (g2 := F0 m 122 ls []) rfl ?_
        have eth : ((N / 3 + N / 3) % N + 1) % N = th_ N := by rw [← hend.1, if_pos hq3]; exact Nat.mod_eq_of_lt (by have h := hend.2.1; rw [← hend.1, if_pos hq3] at h; exact h)
        rw [eth] at hM
        have hM : mm_ G (mu_ M m0 (ob_ 6 [.ref kA, .ref wA, .int has, .long (hi_ N), .long (lo_ N), .long v1, .long v0, .int pend, .ref psA, .ref ppA, .int now, .ref cA, .ref sA, .ref pA, .ref uA, .ref lA, .long h1, .long h0, .int fac, .long (hi_ (th_ N)), .long (lo_ (th_ N)), .ref xA])) H := hM
        refine lv_aload_n hx hb dd_M_findThird_122 rfl (lv_at hl 2 rfl) ?_
        refine lv_aload_n hx hb dd_M_findThird_123 rfl (lv_at hl 2 rfl) ?_
        refine mr_get C0 hM fk_M_154 mu_s (v := .long (hi_ (th_ N))) rfl dd_M_findThird_124 ?_
        refine lv_topl (fun v5 e6 => ?_)
        refine mr_put C0 hM hS fk_M_192 fp_M_192 mu_s rfl (rfl) (rfl) (Nat.le_of_ble_eq_true rfl) dd_M_findThird_127 (fun H locs hM hS => ?_)
        have hM := mr_M mu_mu hM
        have hM : mm_ G (mu_ M m0 (ob_ 6 [.ref kA, .ref wA, .int has, .long (hi_ N), .long (lo_ N), .long v5, .long v0, .int pend, .ref psA, .ref ppA, .int now, .ref cA, .ref sA, .ref pA, .ref uA, .ref lA, .long h1, .long h0, .int fac, .long (hi_ (th_ N)), .long (lo_ (th_ N)), .ref xA])) H := hM
        refine lv_aload_n hx hb dd_M_findThird_130 rfl (lv_at hl 2 rfl) ?_
        refine lv_aload_n hx hb dd_M_findThird_131 rfl (lv_at hl 2 rfl) ?_
        refine mr_get C0 hM fk_M_151 mu_s (v := .long (lo_ (th_ N))) rfl dd_M_findThird_132 ?_
        refine lv_topl (fun v7 e8 => ?_)
        refine mr_put C0 hM hS fk_M_195 fp_M_195 mu_s rfl (rfl) (rfl) (Nat.le_of_ble_eq_true rfl) dd_M_findThird_135 (fun H locs hM hS => ?_)
        have hM := mr_M mu_mu hM
        have hM : mm_ G (mu_ M m0 (ob_ 6 [.ref kA, .ref wA, .int has, .long (hi_ N), .long (lo_ N), .long v5, .long v7, .int pend, .ref psA, .ref ppA, .int now, .ref cA, .ref sA, .ref pA, .ref uA, .ref lA, .long h1, .long h0, .int fac, .long (hi_ (th_ N)), .long (lo_ (th_ N)), .ref xA])) H := hM
        subst e8 e6
        exact mr_ret hQ (mr_vret C0 hM hS (⟨rfl, rfl⟩) dd_M_findThird_138)
    | succ k ih =>
      intro  H locs ls hk hM hS hl
      have hk10 : k < 128 := by omega
      have hr3 : (N / 2 ^ (k + 1) % 3) < 3 := Nat.mod_lt _ (by decide)
      have hb2 : N / 2 ^ k % 2 < 2 := Nat.mod_lt _ (by decide)
      have hcc : ((2 * (N / 2 ^ (k + 1) % 3) + N / 2 ^ k % 2) / 3) ≤ 1 := by omega
      have hQ : (N / 2 ^ (k + 1) / 3) < 170141183460469231731687303715884105728 := by
        have h1 : N / 2 ^ (k + 1) ≤ N := Nat.div_le_self _ _
        omega
      have hl : lv_has ls 7 [(0, .ref m0), (1, .long (hi_ (N / 2 ^ (k + 1) / 3))), (3, .long (lo_ (N / 2 ^ (k + 1) / 3))), (5, .int (nI (N / 2 ^ (k + 1) % 3))), (6, .int (nI k))] := by rw [pk_m1] at hl; exact hl
      refine lv_iload hx hb dd_M_findThird_11 (lv_at hl 4 rfl) ?_
      refine lv_if_lt (tgt := 90) hx hb dd_M_findThird_13 rfl (fun hc => absurd hc (z_nlt (by omega))) (fun _ => ?_)
      refine lv_iconst (v := nI 2) hx hb dd_M_findThird_16 (by decide) ?_
      refine lv_iload hx hb dd_M_findThird_17 (lv_at hl 3 rfl) ?_
      refine lv_imul hx hb dd_M_findThird_19 ?_
      refine mr_vi (pk_mul 2 (N / 2 ^ (k + 1) % 3)) ?_
      refine lv_iload hx hb dd_M_findThird_20 (lv_at hl 4 rfl) ?_
      refine lv_bipush (v := nI 64) hx hb dd_M_findThird_22 (by decide) ?_
      refine lv_icmp_ge (tgt := 37) hx hb dd_M_findThird_24 rfl (fun h24 => ?_) (fun h24 => ?_)
      · skip
        have hk64 : 64 ≤ k := (nI_leI (by decide) (by omega)).mp h24
        refine lv_aload_n hx hb dd_M_findThird_37 rfl (lv_at hl 0 rfl) ?_
        refine mr_get C0 hM fk_M_140 h_m (v := .long (hi_ N)) rfl dd_M_findThird_38 ?_
        refine lv_iload hx hb dd_M_findThird_41 (lv_at hl 4 rfl) ?_
        refine lv_bipush (v := nI 64) hx hb dd_M_findThird_43 (by decide) ?_
        refine lv_isub hx hb dd_M_findThird_45 ?_
        refine mr_vi (pk_sub (a := k) (b := 64) (by omega)) ?_
        refine lv_lshr (v := lsr_ (hi_ N) (nI (k - 64))) hx hb dd_M_findThird_46 (rfl) ?_
        refine lv_lconst (v := lN 1) hx hb dd_M_findThird_47 rfl ?_
        refine lv_land hx hb dd_M_findThird_48 ?_
        refine mr_vl (x' := lN (N / 2 ^ k % 2)) ((lsr_bit hNh (by omega)).trans (congrArg lN (bit_hi hk64))) ?_
        refine lv_l2i (v := nI (N / 2 ^ k % 2)) hx hb dd_M_findThird_49 (lN_i _) ?_
        refine lv_iadd hx hb dd_M_findThird_50 ?_
        refine mr_vi (nI_add (2 * (N / 2 ^ (k + 1) % 3)) (N / 2 ^ k % 2)) ?_
        refine lv_istore (lv' := [(5, .int (nI ((2 * (N / 2 ^ (k + 1) % 3)) + (N / 2 ^ k % 2)))), (0, .ref m0), (1, .long (hi_ (N / 2 ^ (k + 1) / 3))), (3, .long (lo_ (N / 2 ^ (k + 1) / 3))), (6, .int (nI k))]) hx hb dd_M_findThird_51 hl (by decide) rfl (fun ls hl => ?_)
        refine lv_lload_n hx hb dd_M_findThird_53 rfl (lv_at hl 2 rfl) ?_
        refine lv_iconst (v := nI 1) hx hb dd_M_findThird_54 (by decide) ?_
        refine lv_lshl (v := lsl_ (hi_ (N / 2 ^ (k + 1) / 3)) (nI 1)) hx hb dd_M_findThird_55 (rfl) ?_
        refine lv_lload_n hx hb dd_M_findThird_56 rfl (lv_at hl 3 rfl) ?_
        refine lv_bipush (v := nI 63) hx hb dd_M_findThird_57 (by decide) ?_
        refine lv_lushr (v := lus_ (lo_ (N / 2 ^ (k + 1) / 3)) (nI 63)) hx hb dd_M_findThird_59 (rfl) ?_
        refine lv_lor hx hb dd_M_findThird_60 ?_
        refine mr_vl (x' := hi_ (2 * (N / 2 ^ (k + 1) / 3) + ((2 * (N / 2 ^ (k + 1) % 3) + N / 2 ^ k % 2) / 3))) (ft_hi hQ hcc) ?_
        refine lv_lstore_n (lv' := [(1, .long (hi_ (2 * (N / 2 ^ (k + 1) / 3) + ((2 * (N / 2 ^ (k + 1) % 3) + N / 2 ^ k % 2) / 3)))), (5, .int (nI ((2 * (N / 2 ^ (k + 1) % 3)) + (N / 2 ^ k % 2)))), (0, .ref m0), (3, .long (lo_ (N / 2 ^ (k + 1) / 3))), (6, .int (nI k))]) hx hb dd_M_findThird_61 rfl hl (by decide) rfl (fun ls hl => ?_)
        refine lv_lload_n hx hb dd_M_findThird_62 rfl (lv_at hl 3 rfl) ?_
        refine lv_iconst (v := nI 1) hx hb dd_M_findThird_63 (by decide) ?_
        refine lv_lshl (v := lsl_ (lo_ (N / 2 ^ (k + 1) / 3)) (nI 1)) hx hb dd_M_findThird_64 (rfl) ?_
        refine lv_iload hx hb dd_M_findThird_65 (lv_at hl 1 rfl) ?_
        refine lv_iconst (v := nI 3) hx hb dd_M_findThird_67 (by decide) ?_
        refine lv_icmp_lt (tgt := 75) hx hb dd_M_findThird_68 rfl (fun h68 => ?_) (fun h68 => ?_)
        · skip
          have hc0 : ((2 * (N / 2 ^ (k + 1) % 3) + N / 2 ^ k % 2) / 3) = 0 := by
            have h := (nI_ltI (by omega) (by decide)).mp h68
            omega
          refine lv_lconst (v := lN 0) hx hb dd_M_findThird_75 rfl ?_
          refine lv_lor hx hb dd_M_findThird_76 ?_
          refine mr_vl (x' := lo_ (2 * (N / 2 ^ (k + 1) / 3) + ((2 * (N / 2 ^ (k + 1) % 3) + N / 2 ^ k % 2) / 3))) ((congrArg (fun z => lsl_ (lo_ (N / 2 ^ (k + 1) / 3)) (nI 1) ||| lN z) hc0.symm).trans (ft_lo hcc)) ?_
          refine lv_lstore_n (lv' := [(3, .long (lo_ (2 * (N / 2 ^ (k + 1) / 3) + ((2 * (N / 2 ^ (k + 1) % 3) + N / 2 ^ k % 2) / 3)))), (1, .long (hi_ (2 * (N / 2 ^ (k + 1) / 3) + ((2 * (N / 2 ^ (k + 1) % 3) + N / 2 ^ k % 2) / 3)))), (5, .int (nI ((2 * (N / 2 ^ (k + 1) % 3)) + (N / 2 ^ k % 2)))), (0, .ref m0), (6, .int (nI k))]) hx hb dd_M_findThird_77 rfl hl (by decide) rfl (fun ls hl => ?_)
          refine lv_iload hx hb dd_M_findThird_78 (lv_at hl 2 rfl) ?_
          refine lv_iconst (v := nI 3) hx hb dd_M_findThird_80 (by decide) ?_
          refine lv_irem hx hb dd_M_findThird_81 (by decide) ?_
          refine mr_vi (x' := nI ((2 * (N / 2 ^ (k + 1) % 3) + N / 2 ^ k % 2) % 3)) (pk_rem (d := 3) (by omega) (by decide) (by decide)) ?_
          refine lv_istore (lv' := [(5, .int (nI ((2 * (N / 2 ^ (k + 1) % 3) + N / 2 ^ k % 2) % 3))), (3, .long (lo_ (2 * (N / 2 ^ (k + 1) / 3) + ((2 * (N / 2 ^ (k + 1) % 3) + N / 2 ^ k % 2) / 3)))), (1, .long (hi_ (2 * (N / 2 ^ (k + 1) / 3) + ((2 * (N / 2 ^ (k + 1) % 3) + N / 2 ^ k % 2) / 3)))), (0, .ref m0), (6, .int (nI k))]) hx hb dd_M_findThird_82 hl (by decide) rfl (fun ls hl => ?_)
          refine lv_iinc (k := 4) (v := nI k + (-1 : Int32)) (lv' := [(6, .int (nI k + (-1 : Int32))), (5, .int (nI ((2 * (N / 2 ^ (k + 1) % 3) + N / 2 ^ k % 2) % 3))), (3, .long (lo_ (2 * (N / 2 ^ (k + 1) / 3) + ((2 * (N / 2 ^ (k + 1) % 3) + N / 2 ^ k % 2) / 3)))), (1, .long (hi_ (2 * (N / 2 ^ (k + 1) / 3) + ((2 * (N / 2 ^ (k + 1) % 3) + N / 2 ^ k % 2) / 3)))), (0, .ref m0)]) hx hb dd_M_findThird_84 hl rfl (rfl) (by decide) rfl (fun ls hl => ?_)
          refine lv_goto (tgt := 11) hx hb dd_M_findThird_87 rfl ?_
          exact ih  _ _ _ (by omega) hM hS (by rw [ft_q N k, ft_r N k]; exact lv_sub hl [4, 3, 2, 1, 0] rfl)
        · skip
          have hc0 : ((2 * (N / 2 ^ (k + 1) % 3) + N / 2 ^ k % 2) / 3) = 1 := by
            have h := mt (nI_ltI (by omega) (by decide)).mpr h68
            omega
          refine lv_lconst (v := lN 1) hx hb dd_M_findThird_71 rfl ?_
          refine lv_goto (tgt := 76) hx hb dd_M_findThird_72 rfl ?_
          refine lv_lor hx hb dd_M_findThird_76 ?_
          refine mr_vl (x' := lo_ (2 * (N / 2 ^ (k + 1) / 3) + ((2 * (N / 2 ^ (k + 1) % 3) + N / 2 ^ k % 2) / 3))) ((congrArg (fun z => lsl_ (lo_ (N / 2 ^ (k + 1) / 3)) (nI 1) ||| lN z) hc0.symm).trans (ft_lo hcc)) ?_
          refine lv_lstore_n (lv' := [(3, .long (lo_ (2 * (N / 2 ^ (k + 1) / 3) + ((2 * (N / 2 ^ (k + 1) % 3) + N / 2 ^ k % 2) / 3)))), (1, .long (hi_ (2 * (N / 2 ^ (k + 1) / 3) + ((2 * (N / 2 ^ (k + 1) % 3) + N / 2 ^ k % 2) / 3)))), (5, .int (nI ((2 * (N / 2 ^ (k + 1) % 3)) + (N / 2 ^ k % 2)))), (0, .ref m0), (6, .int (nI k))]) hx hb dd_M_findThird_77 rfl hl (by decide) rfl (fun ls hl => ?_)
          refine lv_iload hx hb dd_M_findThird_78 (lv_at hl 2 rfl) ?_
          refine lv_iconst (v := nI 3) hx hb dd_M_findThird_80 (by decide) ?_
          refine lv_irem hx hb dd_M_findThird_81 (by decide) ?_
          refine mr_vi (x' := nI ((2 * (N / 2 ^ (k + 1) % 3) + N / 2 ^ k % 2) % 3)) (pk_rem (d := 3) (by omega) (by decide) (by decide)) ?_
          refine lv_istore (lv' := [(5, .int (nI ((2 * (N / 2 ^ (k + 1) % 3) + N / 2 ^ k % 2) % 3))), (3, .long (lo_ (2 * (N / 2 ^ (k + 1) / 3) + ((2 * (N / 2 ^ (k + 1) % 3) + N / 2 ^ k % 2) / 3)))), (1, .long (hi_ (2 * (N / 2 ^ (k + 1) / 3) + ((2 * (N / 2 ^ (k + 1) % 3) + N / 2 ^ k % 2) / 3)))), (0, .ref m0), (6, .int (nI k))]) hx hb dd_M_findThird_82 hl (by decide) rfl (fun ls hl => ?_)
          refine lv_iinc (k := 4) (v := nI k + (-1 : Int32)) (lv' := [(6, .int (nI k + (-1 : Int32))), (5, .int (nI ((2 * (N / 2 ^ (k + 1) % 3) + N / 2 ^ k % 2) % 3))), (3, .long (lo_ (2 * (N / 2 ^ (k + 1) / 3) + ((2 * (N / 2 ^ (k + 1) % 3) + N / 2 ^ k % 2) / 3)))), (1, .long (hi_ (2 * (N / 2 ^ (k + 1) / 3) + ((2 * (N / 2 ^ (k + 1) % 3) + N / 2 ^ k % 2) / 3)))), (0, .ref m0)]) hx hb dd_M_findThird_84 hl rfl (rfl) (by decide) rfl (fun ls hl => ?_)
          refine lv_goto (tgt := 11) hx hb dd_M_findThird_87 rfl ?_
          exact ih  _ _ _ (by omega) hM hS (by rw [ft_q N k, ft_r N k]; exact lv_sub hl [4, 3, 2, 1, 0] rfl)
      · skip
        have hk64 : k < 64 := by
          have h := mt (nI_leI (by decide) (by omega)).mpr h24
          omega
        refine lv_aload_n hx hb dd_M_findThird_27 rfl (lv_at hl 0 rfl) ?_
        refine mr_get C0 hM fk_M_148 h_m (v := .long (lo_ N)) rfl dd_M_findThird_28 ?_
        refine lv_iload hx hb dd_M_findThird_31 (lv_at hl 4 rfl) ?_
        refine lv_lshr (v := lsr_ (lo_ N) (nI k)) hx hb dd_M_findThird_33 (rfl) ?_
        refine lv_goto (tgt := 47) hx hb dd_M_findThird_34 rfl ?_
        refine lv_lconst (v := lN 1) hx hb dd_M_findThird_47 rfl ?_
        refine lv_land hx hb dd_M_findThird_48 ?_
        refine mr_vl (x' := lN (N / 2 ^ k % 2)) ((lsr_bit hNl (by omega)).trans (congrArg lN (bit_lo hk64))) ?_
        refine lv_l2i (v := nI (N / 2 ^ k % 2)) hx hb dd_M_findThird_49 (lN_i _) ?_
        refine lv_iadd hx hb dd_M_findThird_50 ?_
        refine mr_vi (nI_add (2 * (N / 2 ^ (k + 1) % 3)) (N / 2 ^ k % 2)) ?_
        refine lv_istore (lv' := [(5, .int (nI ((2 * (N / 2 ^ (k + 1) % 3)) + (N / 2 ^ k % 2)))), (0, .ref m0), (1, .long (hi_ (N / 2 ^ (k + 1) / 3))), (3, .long (lo_ (N / 2 ^ (k + 1) / 3))), (6, .int (nI k))]) hx hb dd_M_findThird_51 hl (by decide) rfl (fun ls hl => ?_)
        refine lv_lload_n hx hb dd_M_findThird_53 rfl (lv_at hl 2 rfl) ?_
        refine lv_iconst (v := nI 1) hx hb dd_M_findThird_54 (by decide) ?_
        refine lv_lshl (v := lsl_ (hi_ (N / 2 ^ (k + 1) / 3)) (nI 1)) hx hb dd_M_findThird_55 (rfl) ?_
        refine lv_lload_n hx hb dd_M_findThird_56 rfl (lv_at hl 3 rfl) ?_
        refine lv_bipush (v := nI 63) hx hb dd_M_findThird_57 (by decide) ?_
        refine lv_lushr (v := lus_ (lo_ (N / 2 ^ (k + 1) / 3)) (nI 63)) hx hb dd_M_findThird_59 (rfl) ?_
        refine lv_lor hx hb dd_M_findThird_60 ?_
        refine mr_vl (x' := hi_ (2 * (N / 2 ^ (k + 1) / 3) + ((2 * (N / 2 ^ (k + 1) % 3) + N / 2 ^ k % 2) / 3))) (ft_hi hQ hcc) ?_
        refine lv_lstore_n (lv' := [(1, .long (hi_ (2 * (N / 2 ^ (k + 1) / 3) + ((2 * (N / 2 ^ (k + 1) % 3) + N / 2 ^ k % 2) / 3)))), (5, .int (nI ((2 * (N / 2 ^ (k + 1) % 3)) + (N / 2 ^ k % 2)))), (0, .ref m0), (3, .long (lo_ (N / 2 ^ (k + 1) / 3))), (6, .int (nI k))]) hx hb dd_M_findThird_61 rfl hl (by decide) rfl (fun ls hl => ?_)
        refine lv_lload_n hx hb dd_M_findThird_62 rfl (lv_at hl 3 rfl) ?_
        refine lv_iconst (v := nI 1) hx hb dd_M_findThird_63 (by decide) ?_
        refine lv_lshl (v := lsl_ (lo_ (N / 2 ^ (k + 1) / 3)) (nI 1)) hx hb dd_M_findThird_64 (rfl) ?_
        refine lv_iload hx hb dd_M_findThird_65 (lv_at hl 1 rfl) ?_
        refine lv_iconst (v := nI 3) hx hb dd_M_findThird_67 (by decide) ?_
        refine lv_icmp_lt (tgt := 75) hx hb dd_M_findThird_68 rfl (fun h68 => ?_) (fun h68 => ?_)
        · skip
          have hc0 : ((2 * (N / 2 ^ (k + 1) % 3) + N / 2 ^ k % 2) / 3) = 0 := by
            have h := (nI_ltI (by omega) (by decide)).mp h68
            omega
          refine lv_lconst (v := lN 0) hx hb dd_M_findThird_75 rfl ?_
          refine lv_lor hx hb dd_M_findThird_76 ?_
          refine mr_vl (x' := lo_ (2 * (N / 2 ^ (k + 1) / 3) + ((2 * (N / 2 ^ (k + 1) % 3) + N / 2 ^ k % 2) / 3))) ((congrArg (fun z => lsl_ (lo_ (N / 2 ^ (k + 1) / 3)) (nI 1) ||| lN z) hc0.symm).trans (ft_lo hcc)) ?_
          refine lv_lstore_n (lv' := [(3, .long (lo_ (2 * (N / 2 ^ (k + 1) / 3) + ((2 * (N / 2 ^ (k + 1) % 3) + N / 2 ^ k % 2) / 3)))), (1, .long (hi_ (2 * (N / 2 ^ (k + 1) / 3) + ((2 * (N / 2 ^ (k + 1) % 3) + N / 2 ^ k % 2) / 3)))), (5, .int (nI ((2 * (N / 2 ^ (k + 1) % 3)) + (N / 2 ^ k % 2)))), (0, .ref m0), (6, .int (nI k))]) hx hb dd_M_findThird_77 rfl hl (by decide) rfl (fun ls hl => ?_)
          refine lv_iload hx hb dd_M_findThird_78 (lv_at hl 2 rfl) ?_
          refine lv_iconst (v := nI 3) hx hb dd_M_findThird_80 (by decide) ?_
          refine lv_irem hx hb dd_M_findThird_81 (by decide) ?_
          refine mr_vi (x' := nI ((2 * (N / 2 ^ (k + 1) % 3) + N / 2 ^ k % 2) % 3)) (pk_rem (d := 3) (by omega) (by decide) (by decide)) ?_
          refine lv_istore (lv' := [(5, .int (nI ((2 * (N / 2 ^ (k + 1) % 3) + N / 2 ^ k % 2) % 3))), (3, .long (lo_ (2 * (N / 2 ^ (k + 1) / 3) + ((2 * (N / 2 ^ (k + 1) % 3) + N / 2 ^ k % 2) / 3)))), (1, .long (hi_ (2 * (N / 2 ^ (k + 1) / 3) + ((2 * (N / 2 ^ (k + 1) % 3) + N / 2 ^ k % 2) / 3)))), (0, .ref m0), (6, .int (nI k))]) hx hb dd_M_findThird_82 hl (by decide) rfl (fun ls hl => ?_)
          refine lv_iinc (k := 4) (v := nI k + (-1 : Int32)) (lv' := [(6, .int (nI k + (-1 : Int32))), (5, .int (nI ((2 * (N / 2 ^ (k + 1) % 3) + N / 2 ^ k % 2) % 3))), (3, .long (lo_ (2 * (N / 2 ^ (k + 1) / 3) + ((2 * (N / 2 ^ (k + 1) % 3) + N / 2 ^ k % 2) / 3)))), (1, .long (hi_ (2 * (N / 2 ^ (k + 1) / 3) + ((2 * (N / 2 ^ (k + 1) % 3) + N / 2 ^ k % 2) / 3)))), (0, .ref m0)]) hx hb dd_M_findThird_84 hl rfl (rfl) (by decide) rfl (fun ls hl => ?_)
          refine lv_goto (tgt := 11) hx hb dd_M_findThird_87 rfl ?_
          exact ih  _ _ _ (by omega) hM hS (by rw [ft_q N k, ft_r N k]; exact lv_sub hl [4, 3, 2, 1, 0] rfl)
        · skip
          have hc0 : ((2 * (N / 2 ^ (k + 1) % 3) + N / 2 ^ k % 2) / 3) = 1 := by
            have h := mt (nI_ltI (by omega) (by decide)).mpr h68
            omega
          refine lv_lconst (v := lN 1) hx hb dd_M_findThird_71 rfl ?_
          refine lv_goto (tgt := 76) hx hb dd_M_findThird_72 rfl ?_
          refine lv_lor hx hb dd_M_findThird_76 ?_
          refine mr_vl (x' := lo_ (2 * (N / 2 ^ (k + 1) / 3) + ((2 * (N / 2 ^ (k + 1) % 3) + N / 2 ^ k % 2) / 3))) ((congrArg (fun z => lsl_ (lo_ (N / 2 ^ (k + 1) / 3)) (nI 1) ||| lN z) hc0.symm).trans (ft_lo hcc)) ?_
          refine lv_lstore_n (lv' := [(3, .long (lo_ (2 * (N / 2 ^ (k + 1) / 3) + ((2 * (N / 2 ^ (k + 1) % 3) + N / 2 ^ k % 2) / 3)))), (1, .long (hi_ (2 * (N / 2 ^ (k + 1) / 3) + ((2 * (N / 2 ^ (k + 1) % 3) + N / 2 ^ k % 2) / 3)))), (5, .int (nI ((2 * (N / 2 ^ (k + 1) % 3)) + (N / 2 ^ k % 2)))), (0, .ref m0), (6, .int (nI k))]) hx hb dd_M_findThird_77 rfl hl (by decide) rfl (fun ls hl => ?_)
          refine lv_iload hx hb dd_M_findThird_78 (lv_at hl 2 rfl) ?_
          refine lv_iconst (v := nI 3) hx hb dd_M_findThird_80 (by decide) ?_
          refine lv_irem hx hb dd_M_findThird_81 (by decide) ?_
          refine mr_vi (x' := nI ((2 * (N / 2 ^ (k + 1) % 3) + N / 2 ^ k % 2) % 3)) (pk_rem (d := 3) (by omega) (by decide) (by decide)) ?_
          refine lv_istore (lv' := [(5, .int (nI ((2 * (N / 2 ^ (k + 1) % 3) + N / 2 ^ k % 2) % 3))), (3, .long (lo_ (2 * (N / 2 ^ (k + 1) / 3) + ((2 * (N / 2 ^ (k + 1) % 3) + N / 2 ^ k % 2) / 3)))), (1, .long (hi_ (2 * (N / 2 ^ (k + 1) / 3) + ((2 * (N / 2 ^ (k + 1) % 3) + N / 2 ^ k % 2) / 3)))), (0, .ref m0), (6, .int (nI k))]) hx hb dd_M_findThird_82 hl (by decide) rfl (fun ls hl => ?_)
          refine lv_iinc (k := 4) (v := nI k + (-1 : Int32)) (lv' := [(6, .int (nI k + (-1 : Int32))), (5, .int (nI ((2 * (N / 2 ^ (k + 1) % 3) + N / 2 ^ k % 2) % 3))), (3, .long (lo_ (2 * (N / 2 ^ (k + 1) / 3) + ((2 * (N / 2 ^ (k + 1) % 3) + N / 2 ^ k % 2) / 3)))), (1, .long (hi_ (2 * (N / 2 ^ (k + 1) / 3) + ((2 * (N / 2 ^ (k + 1) % 3) + N / 2 ^ k % 2) / 3)))), (0, .ref m0)]) hx hb dd_M_findThird_84 hl rfl (rfl) (by decide) rfl (fun ls hl => ?_)
          refine lv_goto (tgt := 11) hx hb dd_M_findThird_87 rfl ?_
          exact ih  _ _ _ (by omega) hM hS (by rw [ft_q N k, ft_r N k]; exact lv_sub hl [4, 3, 2, 1, 0] rfl)
  exact loop_11 128  _ _ _ (Nat.le_refl _) hM hS (by rw [show nI 128 + (-1 : Int32) = nI 127 from by decide, show N / 2 ^ 128 = 0 from Nat.div_eq_of_lt hN, Nat.zero_div, Nat.zero_mod, hi_0, lo_0]; exact lv_sub hl [4, 3, 2, 1, 0] rfl)

set_option maxHeartbeats 4000000 in
set_option maxRecDepth 100000 in
theorem c_M_pendingAt (l : Launch) {G : mg_} {M : mw_} {m0 kA wA psA ppA cA sA pA uA lA xA : Nat} {has now fac : Int32} {n1 n0 v1 v0 h1 h0 r1 r0 : Int64} {L : rl_} {f : Nat → Int64} {sx : Int64} (h_m : M m0 = some (ob_ 6 [.ref kA, .ref wA, .int has, .long n1, .long n0, .long v1, .long v0, .int (nI L.length), .ref psA, .ref ppA, .int now, .ref cA, .ref sA, .ref pA, .ref uA, .ref lA, .long h1, .long h0, .int fac, .long r1, .long r0, .ref xA])) (h_psA : M psA = some (la_ G 10 f))  (hf : ∀ j, j < L.length → f j = sr_ L j) (hn : L.length ≤ 10) : dt_ l my_M_pendingAt cd_M_pendingAt 4 (some .int) { frames := 0, cells := 0, slots := 0, locals := 0 } G [.ref m0, .long sx] M (some (.int (pz_ L sx))) (M) 0 0 := by
  refine ct_.intro2 (by decide) (Nat.le_of_ble_eq_true rfl) ?_
  intro p e s m args below meth c ls R Q hR hQ C0 hl hM hS
  have hx := C0.1
  have hb := C0.2.1
  have hl : lv_has ls 4 [(0, .ref m0), (1, .long sx)] := hl
  refine lv_iconst (v := nI 0) hx hb dd_M_pendingAt_0 (by decide) ?_
  refine lv_istore_n (lv' := [(3, .int (nI 0)), (0, .ref m0), (1, .long sx)]) hx hb dd_M_pendingAt_1 rfl hl (by decide) rfl (fun ls hl => ?_)
  have loop_2 : ∀ (k : Nat) (i : Nat) (H : Heap) (locs : List Loc) (ls : Array Slot), i + k = L.length → (∀ j, j < i → sr_ L j ≠ sx) → mm_ G (M) H → va_S (fz_ G) s.heap H locs → lv_has ls 4 [(0, .ref m0), (1, .long sx), (3, .int (nI i))] → W p l e R s m args below meth c H locs 0 0 Q (F0 m 2 ls []) := by
    intro k
    induction k with
    | zero =>
      intro i H locs ls hi hb0 hM hS hl
      refine lv_iload_n hx hb dd_M_pendingAt_2 rfl (lv_at hl 2 rfl) ?_
      refine lv_aload_n hx hb dd_M_pendingAt_3 rfl (lv_at hl 0 rfl) ?_
      refine mr_get C0 hM fk_M_198 h_m (v := .int (nI L.length)) rfl dd_M_pendingAt_4 ?_
      refine lv_icmp_ge (tgt := 29) hx hb dd_M_pendingAt_7 rfl (fun _ => ?_) (fun hc => absurd (le_nI (a := L.length) (b := i) (by omega) (by omega) (by omega)) hc)
      refine lv_iconst (v := (-1 : Int32)) hx hb dd_M_pendingAt_29 (by decide) ?_
      exact mr_ret hQ (mr_iret C0 hM hS (rfl) (⟨by rw [pz_, px_none (fun j hj => hb0 j (by omega))], rfl⟩) dd_M_pendingAt_30)
    | succ k ih =>
      intro i H locs ls hi hb0 hM hS hl
      refine lv_iload_n hx hb dd_M_pendingAt_2 rfl (lv_at hl 2 rfl) ?_
      refine lv_aload_n hx hb dd_M_pendingAt_3 rfl (lv_at hl 0 rfl) ?_
      refine mr_get C0 hM fk_M_198 h_m (v := .int (nI L.length)) rfl dd_M_pendingAt_4 ?_
      refine lv_icmp_ge (tgt := 29) hx hb dd_M_pendingAt_7 rfl (fun hc => absurd hc (nle_nI (a := L.length) (b := i) (by omega) (by omega) (by omega))) (fun _ => ?_)
      refine lv_aload_n hx hb dd_M_pendingAt_10 rfl (lv_at hl 0 rfl) ?_
      refine mr_get C0 hM fk_M_81 h_m (v := .ref psA) rfl dd_M_pendingAt_11 ?_
      refine lv_iload_n hx hb dd_M_pendingAt_14 rfl (lv_at hl 2 rfl) ?_
      refine mr_lald C0 hM h_psA (i) (rfl) (by omega) (by decide) dd_M_pendingAt_15 ?_
      refine lv_lload_n hx hb dd_M_pendingAt_16 rfl (lv_at hl 1 rfl) ?_
      refine mr_lif_ne (tgt := 23) hx hb dd_M_pendingAt_17 dd_M_pendingAt_18 rfl (fun h17 => ?_) (fun h17 => ?_)
      · skip
        refine lv_iinc (k := 2) (v := nI (i + 1)) (lv' := [(3, .int (nI (i + 1))), (0, .ref m0), (1, .long sx)]) hx hb dd_M_pendingAt_23 hl rfl (inc_ i) (by decide) rfl (fun ls hl => ?_)
        refine lv_goto (tgt := 2) hx hb dd_M_pendingAt_26 rfl ?_
        exact ih (i + 1) _ _ _ (by omega) (fun j hj => by rcases (show j < i ∨ j = i by omega) with h | h; exact hb0 j h; subst h; rw [← hf j (by omega)]; exact h17) hM hS (lv_sub hl [1, 2, 0] rfl)
      · skip
        refine lv_iload_n hx hb dd_M_pendingAt_21 rfl (lv_at hl 2 rfl) ?_
        exact mr_ret hQ (mr_iret C0 hM hS (rfl) (⟨by rw [pz_, px_some (by omega) (by rw [← hf i (by omega)]; exact h17) hb0], rfl⟩) dd_M_pendingAt_22)
  exact loop_2 L.length 0 _ _ _ (Nat.zero_add _) (fun j h => absurd h (Nat.not_lt_zero j)) hM hS (lv_sub hl [1, 2, 0] rfl)

set_option maxHeartbeats 4000000 in
set_option maxRecDepth 100000 in
theorem c_M_placeIn (l : Launch) {G : mg_} {M : mw_} {m0 kA wA psA ppA cA sA pA uA lA xA : Nat} {has pend now fac : Int32} {n1 n0 v1 v0 h1 h0 r1 r0 : Int64} {e0 : Nat} {L : rl_} {cf : Nat → Int32} {sf : Nat → Int64} {sx : Int64} (h_m : M m0 = some (ob_ 6 [.ref kA, .ref wA, .int has, .long n1, .long n0, .long v1, .long v0, .int pend, .ref psA, .ref ppA, .int now, .ref cA, .ref sA, .ref pA, .ref uA, .ref lA, .long h1, .long h0, .int fac, .long r1, .long r0, .ref xA])) (h_cA : M cA = some (ia_ G 17 cf)) (h_sA : M sA = some (la_ G 170 sf))  (he : e0 < 17) (hcf : cf e0 = nI L.length) (hn : L.length ≤ 10) (hsf : ∀ j, j < L.length → sf (10 * e0 + j) = sr_ L j) : dt_ l my_M_placeIn cd_M_placeIn 5 (some .int) { frames := 0, cells := 0, slots := 0, locals := 0 } G [.ref m0, .int (nI e0), .long sx] M (some (.int (mz_ L e0 sx))) (M) 0 0 := by
  refine ct_.intro2 (by decide) (Nat.le_of_ble_eq_true rfl) ?_
  intro p e s m args below meth c ls R Q hR hQ C0 hl hM hS
  have hx := C0.1
  have hb := C0.2.1
  have hl : lv_has ls 5 [(0, .ref m0), (1, .int (nI e0)), (2, .long sx)] := hl
  refine lv_bipush (v := nI 10) hx hb dd_M_placeIn_0 (by decide) ?_
  refine lv_iload_n hx hb dd_M_placeIn_2 rfl (lv_at hl 1 rfl) ?_
  refine lv_imul hx hb dd_M_placeIn_3 ?_
  refine mr_vi (pk_mul 10 e0) ?_
  refine lv_istore (lv' := [(4, .int (nI (10 * e0))), (0, .ref m0), (1, .int (nI e0)), (2, .long sx)]) hx hb dd_M_placeIn_4 hl (by decide) rfl (fun ls hl => ?_)
  have loop_6 : ∀ (k : Nat) (i : Nat) (H : Heap) (locs : List Loc) (ls : Array Slot), i + k = L.length → (∀ j, j < i → sr_ L j ≠ sx) → mm_ G (M) H → va_S (fz_ G) s.heap H locs → lv_has ls 5 [(0, .ref m0), (1, .int (nI e0)), (2, .long sx), (4, .int (nI (10 * e0 + i)))] → W p l e R s m args below meth c H locs 0 0 Q (F0 m 6 ls []) := by
    intro k
    induction k with
    | zero =>
      intro i H locs ls hi hb0 hM hS hl
      refine lv_iload hx hb dd_M_placeIn_6 (lv_at hl 3 rfl) ?_
      refine lv_bipush (v := nI 10) hx hb dd_M_placeIn_8 (by decide) ?_
      refine lv_iload_n hx hb dd_M_placeIn_10 rfl (lv_at hl 1 rfl) ?_
      refine lv_imul hx hb dd_M_placeIn_11 ?_
      refine mr_vi (pk_mul 10 e0) ?_
      refine lv_aload_n hx hb dd_M_placeIn_12 rfl (lv_at hl 0 rfl) ?_
      refine mr_get C0 hM fk_M_87 h_m (v := .ref cA) rfl dd_M_placeIn_13 ?_
      refine lv_iload_n hx hb dd_M_placeIn_16 rfl (lv_at hl 1 rfl) ?_
      refine mr_iald C0 hM h_cA (e0) (rfl) (by omega) (by decide) dd_M_placeIn_17 ?_
      refine mr_vi (x' := nI L.length) (hcf) ?_
      refine lv_iadd hx hb dd_M_placeIn_18 ?_
      refine mr_vi (nI_add (10 * e0) L.length) ?_
      refine lv_icmp_ge (tgt := 43) hx hb dd_M_placeIn_19 rfl (fun _ => ?_) (fun hc => absurd (le_nI (a := ((10 * e0) + L.length)) (b := (10 * e0 + i)) (by omega) (by omega) (by omega)) hc)
      refine lv_iconst (v := (-1 : Int32)) hx hb dd_M_placeIn_43 (by decide) ?_
      exact mr_ret hQ (mr_iret C0 hM hS (rfl) (⟨by rw [mz_, px_none (fun j hj => hb0 j (by omega))], rfl⟩) dd_M_placeIn_44)
    | succ k ih =>
      intro i H locs ls hi hb0 hM hS hl
      refine lv_iload hx hb dd_M_placeIn_6 (lv_at hl 3 rfl) ?_
      refine lv_bipush (v := nI 10) hx hb dd_M_placeIn_8 (by decide) ?_
      refine lv_iload_n hx hb dd_M_placeIn_10 rfl (lv_at hl 1 rfl) ?_
      refine lv_imul hx hb dd_M_placeIn_11 ?_
      refine mr_vi (pk_mul 10 e0) ?_
      refine lv_aload_n hx hb dd_M_placeIn_12 rfl (lv_at hl 0 rfl) ?_
      refine mr_get C0 hM fk_M_87 h_m (v := .ref cA) rfl dd_M_placeIn_13 ?_
      refine lv_iload_n hx hb dd_M_placeIn_16 rfl (lv_at hl 1 rfl) ?_
      refine mr_iald C0 hM h_cA (e0) (rfl) (by omega) (by decide) dd_M_placeIn_17 ?_
      refine mr_vi (x' := nI L.length) (hcf) ?_
      refine lv_iadd hx hb dd_M_placeIn_18 ?_
      refine mr_vi (nI_add (10 * e0) L.length) ?_
      refine lv_icmp_ge (tgt := 43) hx hb dd_M_placeIn_19 rfl (fun hc => absurd hc (nle_nI (a := ((10 * e0) + L.length)) (b := (10 * e0 + i)) (by omega) (by omega) (by omega))) (fun _ => ?_)
      refine lv_aload_n hx hb dd_M_placeIn_22 rfl (lv_at hl 0 rfl) ?_
      refine mr_get C0 hM fk_M_90 h_m (v := .ref sA) rfl dd_M_placeIn_23 ?_
      refine lv_iload hx hb dd_M_placeIn_26 (lv_at hl 3 rfl) ?_
      refine mr_lald C0 hM h_sA ((10 * e0 + i)) (rfl) (by omega) (by decide) dd_M_placeIn_28 ?_
      refine lv_lload_n hx hb dd_M_placeIn_29 rfl (lv_at hl 2 rfl) ?_
      refine mr_lif_ne (tgt := 37) hx hb dd_M_placeIn_30 dd_M_placeIn_31 rfl (fun h30 => ?_) (fun h30 => ?_)
      · skip
        refine lv_iinc (k := 3) (v := nI ((10 * e0 + i) + 1)) (lv' := [(4, .int (nI ((10 * e0 + i) + 1))), (0, .ref m0), (1, .int (nI e0)), (2, .long sx)]) hx hb dd_M_placeIn_37 hl rfl (inc_ (10 * e0 + i)) (by decide) rfl (fun ls hl => ?_)
        refine lv_goto (tgt := 6) hx hb dd_M_placeIn_40 rfl ?_
        exact ih (i + 1) _ _ _ (by omega) (fun j hj => by rcases (show j < i ∨ j = i by omega) with h | h; exact hb0 j h; subst h; rw [← hsf j (by omega)]; exact h30) hM hS (lv_sub hl [1, 2, 3, 0] rfl)
      · skip
        refine lv_iload hx hb dd_M_placeIn_34 (lv_at hl 3 rfl) ?_
        exact mr_ret hQ (mr_iret C0 hM hS (rfl) (⟨by rw [mz_, px_some (by omega) (by rw [← hsf i (by omega)]; exact h30) hb0], rfl⟩) dd_M_placeIn_36)
  exact loop_6 L.length 0 _ _ _ (Nat.zero_add _) (fun j h => absurd h (Nat.not_lt_zero j)) hM hS (lv_sub hl [1, 2, 3, 0] rfl)

set_option maxHeartbeats 4000000 in
set_option maxRecDepth 100000 in
theorem c_M_isEpoch (l : Launch) {G : mg_} {M : mw_} {m0 kA wA psA ppA cA sA pA uA lA xA : Nat} {has pend fac : Int32} {n1 n0 v1 v0 h1 h0 r1 r0 : Int64} {ev : Int32} {nw : Nat} (h_m : M m0 = some (ob_ 6 [.ref kA, .ref wA, .int has, .long n1, .long n0, .long v1, .long v0, .int pend, .ref psA, .ref ppA, .int (nI nw), .ref cA, .ref sA, .ref pA, .ref uA, .ref lA, .long h1, .long h0, .int fac, .long r1, .long r0, .ref xA]))  (hnw : nw ≤ 16) : dt_ l my_M_isEpoch cd_M_isEpoch 2 (some .boolean) { frames := 0, cells := 0, slots := 0, locals := 0 } G [.ref m0, .int ev] M (some (.int (ie_ ev nw))) (M) 0 0 := by
  refine ct_.intro2 (by decide) (Nat.le_of_ble_eq_true rfl) ?_
  intro p e s m args below meth c ls R Q hR hQ C0 hl hM hS
  have hx := C0.1
  have hb := C0.2.1
  have hl : lv_has ls 2 [(0, .ref m0), (1, .int ev)] := hl
  refine lv_iload_n hx hb dd_M_isEpoch_0 rfl (lv_at hl 1 rfl) ?_
  refine lv_if_lt (tgt := 16) hx hb dd_M_isEpoch_1 rfl (fun h1 => ?_) (fun h1 => ?_)
  · skip
    refine lv_iconst (v := nI 0) hx hb dd_M_isEpoch_16 (by decide) ?_
    exact mr_ret hQ (mr_iret C0 hM hS (rfl) (⟨by first | rw [ie_n (ep_neg hnw h1)] | rw [ie_n (ep_big hnw h9)] | rw [ie_y (ep_in hnw h1 h9)], rfl⟩) dd_M_isEpoch_17)
  · skip
    refine lv_iload_n hx hb dd_M_isEpoch_4 rfl (lv_at hl 1 rfl) ?_
    refine lv_aload_n hx hb dd_M_isEpoch_5 rfl (lv_at hl 0 rfl) ?_
    refine mr_get C0 hM fk_M_209 h_m (v := .int (nI nw)) rfl dd_M_isEpoch_6 ?_
    refine lv_icmp_gt (tgt := 16) hx hb dd_M_isEpoch_9 rfl (fun h9 => ?_) (fun h9 => ?_)
    · skip
      refine lv_iconst (v := nI 0) hx hb dd_M_isEpoch_16 (by decide) ?_
      exact mr_ret hQ (mr_iret C0 hM hS (rfl) (⟨by first | rw [ie_n (ep_neg hnw h1)] | rw [ie_n (ep_big hnw h9)] | rw [ie_y (ep_in hnw h1 h9)], rfl⟩) dd_M_isEpoch_17)
    · skip
      refine lv_iconst (v := nI 1) hx hb dd_M_isEpoch_12 (by decide) ?_
      refine lv_goto (tgt := 17) hx hb dd_M_isEpoch_13 rfl ?_
      exact mr_ret hQ (mr_iret C0 hM hS (rfl) (⟨by first | rw [ie_n (ep_neg hnw h1)] | rw [ie_n (ep_big hnw h9)] | rw [ie_y (ep_in hnw h1 h9)], rfl⟩) dd_M_isEpoch_17)

set_option maxHeartbeats 4000000 in
set_option maxRecDepth 100000 in
theorem c_M_issued (l : Launch) {G : mg_} {M : mw_} {m0 kA wA psA ppA cA sA pA uA lA xA : Nat} {has pend fac : Int32} {v1 v0 h1 h0 r1 r0 : Int64} {N nw q : Nat} {L : rl_} {cf qf : Nat → Int32} (h_m : M m0 = some (ob_ 6 [.ref kA, .ref wA, .int has, .long (hi_ N), .long (lo_ N), .long v1, .long v0, .int pend, .ref psA, .ref ppA, .int (nI nw), .ref cA, .ref sA, .ref pA, .ref uA, .ref lA, .long h1, .long h0, .int fac, .long r1, .long r0, .ref xA])) (h_cA : M cA = some (ia_ G 17 cf)) (h_pA : M pA = some (ia_ G 170 qf))  (hN : N < 340282366920938463463374607431768211456) (hN4 : 3 < N) (hnw : nw ≤ 16) (hcf : cf nw = nI L.length) (hn : L.length ≤ 10) (hqf : ∀ j, j < L.length → qf (10 * nw + j) = nI (pr_ L j)) (hp : ∀ x ∈ L, x.2 < 2147483648) (hq : q < 10) : dt_ l my_M_issued cd_M_issued 3 none { frames := 5, cells := 0, slots := 0, locals := 143 } G [.ref m0, .int (nI (10 * nw + q))] M none (mu_ M m0 (ob_ 6 [.ref kA, .ref wA, .int has, .long (hi_ N), .long (lo_ N), .long v1, .long v0, .int pend, .ref psA, .ref ppA, .int (nI nw), .ref cA, .ref sA, .ref pA, .ref uA, .ref lA, .long h1, .long h0, .int fac, .long (hi_ (3 ^ pe_ L q L.length % N)), .long (lo_ (3 ^ pe_ L q L.length % N)), .ref xA])) 0 0 := by
  refine ct_.intro2 (by decide) (Nat.le_of_ble_eq_true rfl) ?_
  intro p e s m args below meth c ls R Q hR hQ C0 hl hM hS
  have hx := C0.1
  have hb := C0.2.1
  have hl : lv_has ls 3 [(0, .ref m0), (1, .int (nI (10 * nw + q)))] := hl
  have hN0 : 0 < N := by omega
  refine lv_aload_n hx hb dd_M_issued_0 rfl (lv_at hl 0 rfl) ?_
  refine lv_lconst (v := lN 0) hx hb dd_M_issued_1 rfl ?_
  refine mr_put C0 hM hS fk_M_154 fp_M_154 h_m rfl (rfl) (rfl) (Nat.le_of_ble_eq_true rfl) dd_M_issued_2 (fun H locs hM hS => ?_)
  have hM : mm_ G (mu_ M m0 (ob_ 6 [.ref kA, .ref wA, .int has, .long (hi_ N), .long (lo_ N), .long v1, .long v0, .int pend, .ref psA, .ref ppA, .int (nI nw), .ref cA, .ref sA, .ref pA, .ref uA, .ref lA, .long h1, .long h0, .int fac, .long (lN 0), .long r0, .ref xA])) H := hM
  refine lv_aload_n hx hb dd_M_issued_5 rfl (lv_at hl 0 rfl) ?_
  refine mr_ldc2 (v := lN 3) C0 tw_591 dd_M_issued_6 ?_
  refine mr_put C0 hM hS fk_M_151 fp_M_151 mu_s rfl (rfl) (rfl) (Nat.le_of_ble_eq_true rfl) dd_M_issued_9 (fun H locs hM hS => ?_)
  have hM := mr_M mu_mu hM
  have hM : mm_ G (mu_ M m0 (ob_ 6 [.ref kA, .ref wA, .int has, .long (hi_ N), .long (lo_ N), .long v1, .long v0, .int pend, .ref psA, .ref ppA, .int (nI nw), .ref cA, .ref sA, .ref pA, .ref uA, .ref lA, .long h1, .long h0, .int fac, .long (lN 0), .long (lN 3), .ref xA])) H := hM
  refine lv_bipush (v := nI 10) hx hb dd_M_issued_12 (by decide) ?_
  refine lv_aload_n hx hb dd_M_issued_14 rfl (lv_at hl 0 rfl) ?_
  refine mr_get C0 hM fk_M_209 mu_s (v := .int (nI nw)) rfl dd_M_issued_15 ?_
  refine lv_imul hx hb dd_M_issued_18 ?_
  refine mr_vi (pk_mul 10 nw) ?_
  refine lv_istore_n (lv' := [(2, .int (nI (10 * nw))), (0, .ref m0), (1, .int (nI (10 * nw + q)))]) hx hb dd_M_issued_19 rfl hl (by decide) rfl (fun ls hl => ?_)
  have loop_20 : ∀ (k : Nat) (i : Nat) (H : Heap) (locs : List Loc) (ls : Array Slot), i + k = L.length → mm_ G (mu_ M m0 (ob_ 6 [.ref kA, .ref wA, .int has, .long (hi_ N), .long (lo_ N), .long v1, .long v0, .int pend, .ref psA, .ref ppA, .int (nI nw), .ref cA, .ref sA, .ref pA, .ref uA, .ref lA, .long h1, .long h0, .int fac, .long (hi_ (3 ^ pe_ L q i % N)), .long (lo_ (3 ^ pe_ L q i % N)), .ref xA])) H → va_S (fz_ G) s.heap H locs → lv_has ls 3 [(0, .ref m0), (1, .int (nI (10 * nw + q))), (2, .int (nI (10 * nw + i)))] → W p l e R s m args below meth c H locs 0 0 Q (F0 m 20 ls []) := by
    intro k
    induction k with
    | zero =>
      intro i H locs ls hi hM hS hl
      refine lv_iload_n hx hb dd_M_issued_20 rfl (lv_at hl 2 rfl) ?_
      refine lv_bipush (v := nI 10) hx hb dd_M_issued_21 (by decide) ?_
      refine lv_aload_n hx hb dd_M_issued_23 rfl (lv_at hl 0 rfl) ?_
      refine mr_get C0 hM fk_M_209 mu_s (v := .int (nI nw)) rfl dd_M_issued_24 ?_
      refine lv_imul hx hb dd_M_issued_27 ?_
      refine mr_vi (pk_mul 10 nw) ?_
      refine lv_aload_n hx hb dd_M_issued_28 rfl (lv_at hl 0 rfl) ?_
      refine mr_get C0 hM fk_M_87 mu_s (v := .ref cA) rfl dd_M_issued_29 ?_
      refine lv_aload_n hx hb dd_M_issued_32 rfl (lv_at hl 0 rfl) ?_
      refine mr_get C0 hM fk_M_209 mu_s (v := .int (nI nw)) rfl dd_M_issued_33 ?_
      refine mr_iald C0 hM (mu_n' (ne_k h_cA h_m (fun q => by cases q)) h_cA) (nw) (rfl) (by omega) (by decide) dd_M_issued_36 ?_
      refine mr_vi (x' := nI L.length) (hcf) ?_
      refine lv_iadd hx hb dd_M_issued_37 ?_
      refine mr_vi (nI_add (10 * nw) L.length) ?_
      refine lv_icmp_ge (tgt := 70) hx hb dd_M_issued_38 rfl (fun _ => ?_) (fun hc => absurd (le_nI (a := ((10 * nw) + L.length)) (b := (10 * nw + i)) (by omega) (by omega) (by omega)) hc)
      rw [show i = L.length by omega] at hM
      exact mr_ret hQ (mr_vret C0 hM hS (⟨rfl, rfl⟩) dd_M_issued_70)
    | succ k ih =>
      intro i H locs ls hi hM hS hl
      have hil : i < L.length := by omega
      have hp0 : pr_ L i < 2147483648 := by rw [pr_at hil]; exact hp _ (List.getElem_mem hil)
      refine lv_iload_n hx hb dd_M_issued_20 rfl (lv_at hl 2 rfl) ?_
      refine lv_bipush (v := nI 10) hx hb dd_M_issued_21 (by decide) ?_
      refine lv_aload_n hx hb dd_M_issued_23 rfl (lv_at hl 0 rfl) ?_
      refine mr_get C0 hM fk_M_209 mu_s (v := .int (nI nw)) rfl dd_M_issued_24 ?_
      refine lv_imul hx hb dd_M_issued_27 ?_
      refine mr_vi (pk_mul 10 nw) ?_
      refine lv_aload_n hx hb dd_M_issued_28 rfl (lv_at hl 0 rfl) ?_
      refine mr_get C0 hM fk_M_87 mu_s (v := .ref cA) rfl dd_M_issued_29 ?_
      refine lv_aload_n hx hb dd_M_issued_32 rfl (lv_at hl 0 rfl) ?_
      refine mr_get C0 hM fk_M_209 mu_s (v := .int (nI nw)) rfl dd_M_issued_33 ?_
      refine mr_iald C0 hM (mu_n' (ne_k h_cA h_m (fun q => by cases q)) h_cA) (nw) (rfl) (by omega) (by decide) dd_M_issued_36 ?_
      refine mr_vi (x' := nI L.length) (hcf) ?_
      refine lv_iadd hx hb dd_M_issued_37 ?_
      refine mr_vi (nI_add (10 * nw) L.length) ?_
      refine lv_icmp_ge (tgt := 70) hx hb dd_M_issued_38 rfl (fun hc => absurd hc (nle_nI (a := ((10 * nw) + L.length)) (b := (10 * nw + i)) (by omega) (by omega) (by omega))) (fun _ => ?_)
      refine lv_iload_n hx hb dd_M_issued_41 rfl (lv_at hl 2 rfl) ?_
      refine lv_iload_n hx hb dd_M_issued_42 rfl (lv_at hl 1 rfl) ?_
      refine lv_icmp_eq (tgt := 64) hx hb dd_M_issued_43 rfl (fun h43 => ?_) (fun h43 => ?_)
      · skip
        have hiq : i = q := by
          have h := (nI_eq (by omega) (by omega)).mp h43
          omega
        rw [show pe_ L q i = pe_ L q (i + 1) by rw [pe_, if_pos hiq]] at hM
        have hM : mm_ G (mu_ M m0 (ob_ 6 [.ref kA, .ref wA, .int has, .long (hi_ N), .long (lo_ N), .long v1, .long v0, .int pend, .ref psA, .ref ppA, .int (nI nw), .ref cA, .ref sA, .ref pA, .ref uA, .ref lA, .long h1, .long h0, .int fac, .long (hi_ (3 ^ pe_ L q (i + 1) % N)), .long (lo_ (3 ^ pe_ L q (i + 1) % N)), .ref xA])) H := hM
        refine lv_iinc (k := 2) (v := nI ((10 * nw + i) + 1)) (lv' := [(2, .int (nI ((10 * nw + i) + 1))), (0, .ref m0), (1, .int (nI (10 * nw + q)))]) hx hb dd_M_issued_64 hl rfl (inc_ (10 * nw + i)) (by decide) rfl (fun ls hl => ?_)
        refine lv_goto (tgt := 20) hx hb dd_M_issued_67 rfl ?_
        exact ih (i + 1) _ _ _ (by omega) hM hS (lv_sub hl [1, 2, 0] rfl)
      · skip
        have hiq : i ≠ q := fun z => h43 (by rw [z])
        refine lv_aload_n hx hb dd_M_issued_46 rfl (lv_at hl 0 rfl) ?_
        refine lv_aload_n hx hb dd_M_issued_47 rfl (lv_at hl 0 rfl) ?_
        refine mr_get C0 hM fk_M_154 mu_s (v := .long (hi_ (3 ^ pe_ L q i % N))) rfl dd_M_issued_48 ?_
        refine lv_aload_n hx hb dd_M_issued_51 rfl (lv_at hl 0 rfl) ?_
        refine mr_get C0 hM fk_M_151 mu_s (v := .long (lo_ (3 ^ pe_ L q i % N))) rfl dd_M_issued_52 ?_
        refine lv_aload_n hx hb dd_M_issued_55 rfl (lv_at hl 0 rfl) ?_
        refine mr_get C0 hM fk_M_93 mu_s (v := .ref pA) rfl dd_M_issued_56 ?_
        refine lv_iload_n hx hb dd_M_issued_59 rfl (lv_at hl 2 rfl) ?_
        refine mr_iald C0 hM (mu_n' (ne_k h_pA h_m (fun q => by cases q)) h_pA) ((10 * nw + i)) (rfl) (by omega) (by decide) dd_M_issued_60 ?_
        refine mr_vi (x' := nI (pr_ L i)) (hqf i hil) ?_
        refine mr_callV (As := [.long (hi_ (3 ^ pe_ L q i % N)), .long (lo_ (3 ^ pe_ L q i % N)), .int (nI (pr_ L i))]) (rest := []) C0 hM hS vk_M_212 mu_s rfl (c_M_power l mu_s hN (Nat.mod_lt _ hN0) (by omega) hp0) rfl rfl hl.1 (Nat.le_of_ble_eq_true rfl) rfl rfl (by subst hR; exact ⟨Nat.le_of_ble_eq_true rfl, Nat.le_of_ble_eq_true rfl⟩) (by subst hR; exact ⟨Nat.le_of_ble_eq_true rfl, Nat.le_of_ble_eq_true rfl⟩) dd_M_issued_61 (fun v1 M1 H locs hp hM hS => ?_)
        obtain ⟨ev1, eM1⟩ := hp
        subst ev1
        rw [eM1] at hM
        have hM := mr_M mu_mu hM
        have hM : mm_ G (mu_ M m0 (ob_ 6 [.ref kA, .ref wA, .int has, .long (hi_ N), .long (lo_ N), .long v1, .long v0, .int pend, .ref psA, .ref ppA, .int (nI nw), .ref cA, .ref sA, .ref pA, .ref uA, .ref lA, .long h1, .long h0, .int fac, .long (hi_ ((3 ^ pe_ L q i % N) ^ pr_ L i % N)), .long (lo_ ((3 ^ pe_ L q i % N) ^ pr_ L i % N)), .ref xA])) H := hM
        refine W.eq (g2 := F0 m 64 ls []) rfl ?_
        rw [pw_pw, show pe_ L q i * pr_ L i = pe_ L q (i + 1) by rw [pe_, if_neg hiq]] at hM
        have hM : mm_ G (mu_ M m0 (ob_ 6 [.ref kA, .ref wA, .int has, .long (hi_ N), .long (lo_ N), .long v1, .long v0, .int pend, .ref psA, .ref ppA, .int (nI nw), .ref cA, .ref sA, .ref pA, .ref uA, .ref lA, .long h1, .long h0, .int fac, .long (hi_ (3 ^ pe_ L q (i + 1) % N)), .long (lo_ (3 ^ pe_ L q (i + 1) % N)), .ref xA])) H := hM
        refine lv_iinc (k := 2) (v := nI ((10 * nw + i) + 1)) (lv' := [(2, .int (nI ((10 * nw + i) + 1))), (0, .ref m0), (1, .int (nI (10 * nw + q)))]) hx hb dd_M_issued_64 hl rfl (inc_ (10 * nw + i)) (by decide) rfl (fun ls hl => ?_)
        refine lv_goto (tgt := 20) hx hb dd_M_issued_67 rfl ?_
        exact ih (i + 1) _ _ _ (by omega) hM hS (lv_sub hl [1, 2, 0] rfl)
  rw [show lN 0 = hi_ (3 ^ pe_ L q 0 % N) by rw [pe_, Nat.pow_one, Nat.mod_eq_of_lt hN4]; rfl, show lN 3 = lo_ (3 ^ pe_ L q 0 % N) by rw [pe_, Nat.pow_one, Nat.mod_eq_of_lt hN4]; rfl] at hM
  exact loop_20 L.length 0 _ _ _ (Nat.zero_add _) hM hS (lv_sub hl [1, 2, 0] rfl)

set_option maxHeartbeats 4000000 in
set_option maxRecDepth 100000 in
theorem c_M_isWitness (l : Launch) {G : mg_} {M : mw_} {m0 kA wA psA ppA cA sA pA uA lA xA : Nat} {has pend now fac : Int32} {v1 v0 r1 r0 : Int64} {N Hd p0 e0 Ac : Nat} {uf lf : Nat → Int64} (h_m : M m0 = some (ob_ 6 [.ref kA, .ref wA, .int has, .long (hi_ N), .long (lo_ N), .long v1, .long v0, .int pend, .ref psA, .ref ppA, .int now, .ref cA, .ref sA, .ref pA, .ref uA, .ref lA, .long (hi_ Hd), .long (lo_ Hd), .int fac, .long r1, .long r0, .ref xA])) (h_uA : M uA = some (la_ G 17 uf)) (h_lA : M lA = some (la_ G 17 lf))  (hN : N < 340282366920938463463374607431768211456) (hHd : Hd < N) (hN1 : 1 < N) (hp0 : p0 < 2147483648) (he : e0 < 17) (hAc : Ac < N) (huf : uf e0 = hi_ Ac) (hlf : lf e0 = lo_ Ac) : dt_ l my_M_isWitness cd_M_isWitness 3 (some .boolean) { frames := 5, cells := 0, slots := 0, locals := 143 } G [.ref m0, .int (nI p0), .int (nI e0)] M (some (.int (nI (if (Hd ^ p0 % N) = Ac then 1 else 0)))) (mu_ M m0 (ob_ 6 [.ref kA, .ref wA, .int has, .long (hi_ N), .long (lo_ N), .long v1, .long v0, .int pend, .ref psA, .ref ppA, .int now, .ref cA, .ref sA, .ref pA, .ref uA, .ref lA, .long (hi_ Hd), .long (lo_ Hd), .int fac, .long (hi_ (Hd ^ p0 % N)), .long (lo_ (Hd ^ p0 % N)), .ref xA])) 0 0 := by
  refine ct_.intro2 (by decide) (Nat.le_of_ble_eq_true rfl) ?_
  intro p e s m args below meth c ls R Q hR hQ C0 hl hM hS
  have hx := C0.1
  have hb := C0.2.1
  have hl : lv_has ls 3 [(0, .ref m0), (1, .int (nI p0)), (2, .int (nI e0))] := hl
  have hX : (Hd ^ p0 % N) < N := Nat.mod_lt _ (by omega)
  have hX1 : (Hd ^ p0 % N) / 18446744073709551616 < 18446744073709551616 := by omega
  have hX0 : (Hd ^ p0 % N) % 18446744073709551616 < 18446744073709551616 := by omega
  have hA1 : Ac / 18446744073709551616 < 18446744073709551616 := by omega
  have hA0 : Ac % 18446744073709551616 < 18446744073709551616 := by omega
  refine lv_aload_n hx hb dd_M_isWitness_0 rfl (lv_at hl 0 rfl) ?_
  refine lv_aload_n hx hb dd_M_isWitness_1 rfl (lv_at hl 0 rfl) ?_
  refine mr_get C0 hM fk_M_226 h_m (v := .long (hi_ Hd)) rfl dd_M_isWitness_2 ?_
  refine lv_aload_n hx hb dd_M_isWitness_5 rfl (lv_at hl 0 rfl) ?_
  refine mr_get C0 hM fk_M_229 h_m (v := .long (lo_ Hd)) rfl dd_M_isWitness_6 ?_
  refine lv_iload_n hx hb dd_M_isWitness_9 rfl (lv_at hl 1 rfl) ?_
  refine mr_callV (As := [.long (hi_ Hd), .long (lo_ Hd), .int (nI p0)]) (rest := []) C0 hM hS vk_M_212 h_m rfl (c_M_power l h_m hN hHd hN1 hp0) rfl rfl hl.1 (Nat.le_of_ble_eq_true rfl) rfl rfl (by subst hR; exact ⟨Nat.le_of_ble_eq_true rfl, Nat.le_of_ble_eq_true rfl⟩) (by subst hR; exact ⟨Nat.le_of_ble_eq_true rfl, Nat.le_of_ble_eq_true rfl⟩) dd_M_isWitness_10 (fun v1 M1 H locs hp hM hS => ?_)
  obtain ⟨ev1, eM1⟩ := hp
  subst ev1
  rw [eM1] at hM
  have hM : mm_ G (mu_ M m0 (ob_ 6 [.ref kA, .ref wA, .int has, .long (hi_ N), .long (lo_ N), .long v1, .long v0, .int pend, .ref psA, .ref ppA, .int now, .ref cA, .ref sA, .ref pA, .ref uA, .ref lA, .long (hi_ Hd), .long (lo_ Hd), .int fac, .long (hi_ (Hd ^ p0 % N)), .long (lo_ (Hd ^ p0 % N)), .ref xA])) H := hM
  refine W.eq (g2 := F0 m 13 ls []) rfl ?_
  refine lv_aload_n hx hb dd_M_isWitness_13 rfl (lv_at hl 0 rfl) ?_
  refine mr_get C0 hM fk_M_154 mu_s (v := .long (hi_ (Hd ^ p0 % N))) rfl dd_M_isWitness_14 ?_
  refine lv_aload_n hx hb dd_M_isWitness_17 rfl (lv_at hl 0 rfl) ?_
  refine mr_get C0 hM fk_M_96 mu_s (v := .ref uA) rfl dd_M_isWitness_18 ?_
  refine lv_iload_n hx hb dd_M_isWitness_21 rfl (lv_at hl 2 rfl) ?_
  refine mr_lald C0 hM (mu_n' (ne_k h_uA h_m (fun q => by cases q)) h_uA) (e0) (rfl) (by omega) (by decide) dd_M_isWitness_22 ?_
  refine mr_vl (x' := hi_ Ac) (huf) ?_
  refine mr_lif_ne (tgt := 45) hx hb dd_M_isWitness_23 dd_M_isWitness_24 rfl (fun h23 => ?_) (fun h23 => ?_)
  · skip
    have hv : (Hd ^ p0 % N) ≠ Ac := fun q => h23 (by rw [q])
    refine lv_iconst (v := nI 0) hx hb dd_M_isWitness_45 (by decide) ?_
    exact mr_ret hQ (mr_iret C0 hM hS (rfl) (⟨by simp [hv], rfl⟩) dd_M_isWitness_46)
  · skip
    have hv1 : (Hd ^ p0 % N) / 18446744073709551616 = Ac / 18446744073709551616 := (lE_ hX1 hA1).mp h23
    refine lv_aload_n hx hb dd_M_isWitness_27 rfl (lv_at hl 0 rfl) ?_
    refine mr_get C0 hM fk_M_151 mu_s (v := .long (lo_ (Hd ^ p0 % N))) rfl dd_M_isWitness_28 ?_
    refine lv_aload_n hx hb dd_M_isWitness_31 rfl (lv_at hl 0 rfl) ?_
    refine mr_get C0 hM fk_M_99 mu_s (v := .ref lA) rfl dd_M_isWitness_32 ?_
    refine lv_iload_n hx hb dd_M_isWitness_35 rfl (lv_at hl 2 rfl) ?_
    refine mr_lald C0 hM (mu_n' (ne_k h_lA h_m (fun q => by cases q)) h_lA) (e0) (rfl) (by omega) (by decide) dd_M_isWitness_36 ?_
    refine mr_vl (x' := lo_ Ac) (hlf) ?_
    refine mr_lif_ne (tgt := 45) hx hb dd_M_isWitness_37 dd_M_isWitness_38 rfl (fun h37 => ?_) (fun h37 => ?_)
    · skip
      have hv : (Hd ^ p0 % N) ≠ Ac := fun q => h37 (by rw [q])
      refine lv_iconst (v := nI 0) hx hb dd_M_isWitness_45 (by decide) ?_
      exact mr_ret hQ (mr_iret C0 hM hS (rfl) (⟨by simp [hv], rfl⟩) dd_M_isWitness_46)
    · skip
      have hv : (Hd ^ p0 % N) = Ac := by
        have h0 : (Hd ^ p0 % N) % 18446744073709551616 = Ac % 18446744073709551616 := (lE_ hX0 hA0).mp h37
        rw [← Nat.div_add_mod (Hd ^ p0 % N) 18446744073709551616, ← Nat.div_add_mod Ac 18446744073709551616, hv1, h0]
      refine lv_iconst (v := nI 1) hx hb dd_M_isWitness_41 (by decide) ?_
      refine lv_goto (tgt := 46) hx hb dd_M_isWitness_42 rfl ?_
      exact mr_ret hQ (mr_iret C0 hM hS (rfl) (⟨by simp [hv], rfl⟩) dd_M_isWitness_46)
