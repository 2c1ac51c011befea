
theorem bit_lo {B k : Nat} (hk : k < 64) : B % 18446744073709551616 / 2 ^ k % 2 = B / 2 ^ k % 2 := by
  have h := Nat.testBit_mod_two_pow B 64 k
  rw [decide_eq_true hk, Bool.true_and] at h
  have h2 := congrArg Bool.toNat h
  rw [Nat.toNat_testBit, Nat.toNat_testBit] at h2
  exact h2
theorem bit_hi {B k : Nat} (hk : 64 ≤ k) : B / 18446744073709551616 / 2 ^ (k - 64) % 2 = B / 2 ^ k % 2 := by
  rw [show (18446744073709551616 : Nat) = 2 ^ 64 from rfl, Nat.div_div_eq_div_mul, ← Nat.pow_add, show 64 + (k - 64) = k by omega]
theorem mb_0 {A B N k : Nat} (h : B / 2 ^ k % 2 = 0) : A * (B / 2 ^ k) % N = (A * (B / 2 ^ (k + 1)) % N + A * (B / 2 ^ (k + 1)) % N) % N := by
  rw [← Nat.add_mod, ← Nat.mul_add]
  congr 2
  have := bit_s B k
  omega
theorem mb_1 {A B N k : Nat} (h : B / 2 ^ k % 2 = 1) : A * (B / 2 ^ k) % N = ((A * (B / 2 ^ (k + 1)) % N + A * (B / 2 ^ (k + 1)) % N) % N + A) % N := by
  rw [← Nat.add_mod, ← Nat.mul_add, Nat.mod_add_mod]
  congr 1
  have h2 := bit_s B k
  rw [show B / 2 ^ k = B / 2 ^ (k + 1) + B / 2 ^ (k + 1) + 1 by omega, Nat.mul_add, Nat.mul_one]
theorem mp_0 {A e N k : Nat} (h : e / 2 ^ k % 2 = 0) : A ^ (e / 2 ^ k) % N = A ^ (e / 2 ^ (k + 1)) % N * (A ^ (e / 2 ^ (k + 1)) % N) % N := (pm_0 h).symm
theorem mp_1 {A e N k : Nat} (h : e / 2 ^ k % 2 = 1) : A ^ (e / 2 ^ k) % N = A ^ (e / 2 ^ (k + 1)) % N * (A ^ (e / 2 ^ (k + 1)) % N) % N * A % N := (pm_1 h).symm
theorem nI_shr {n k : Nat} (hn : n < 2147483648) (hk : k < 32) : isr_ (nI n) (nI k) = nI (n / 2 ^ k) := by
  refine pk_shrN hn _ k ?_
  have : ∀ k, k < 32 → ((nI k &&& 31).toBitVec.smod 32).toNat = k := by decide +kernel
  exact this k hk
theorem hi_0 : hi_ 0 = lN 0 := rfl
theorem lo_0 : lo_ 0 = lN 0 := rfl
theorem hi_1 : hi_ 1 = lN 0 := rfl
theorem lo_1 : lo_ 1 = lN 1 := rfl
/-! the model's prime of a serial -/
noncomputable def pfT_ (s : Int64) : Nat → Nat → Int32
  | 0, _ => (-2)
  | k + 1, c => @ite _ (TD_ (xn_ (hash_ s (nI c)))) (Classical.propDecidable _) (nI (xn_ (hash_ s (nI c)))) (pfT_ s k (c + 1))
noncomputable def primeT_ (s : Int64) : Int32 := @ite _ (s < 0 ∨ (1099511627776 : Int64) ≤ s) (Classical.propDecidable _) (-2) (pfT_ s 256 0)
theorem pfT_y {s : Int64} {k c : Nat} (h : TD_ (xn_ (hash_ s (nI c)))) : pfT_ s (k + 1) c = nI (xn_ (hash_ s (nI c))) := by rw [pfT_]; exact if_pos h
theorem pfT_n {s : Int64} {k c : Nat} (h : ¬ TD_ (xn_ (hash_ s (nI c)))) : pfT_ s (k + 1) c = pfT_ s k (c + 1) := by rw [pfT_]; exact if_neg h
theorem primeT_b {s : Int64} (h : s < 0 ∨ (1099511627776 : Int64) ≤ s) : primeT_ s = (-2) := by unfold primeT_; exact if_pos h
theorem primeT_g {s : Int64} (h : ¬ (s < 0 ∨ (1099511627776 : Int64) ≤ s)) : primeT_ s = pfT_ s 256 0 := by unfold primeT_; exact if_neg h
def is_ (s : Int64) : Prop := ¬ (s < 0 ∨ (1099511627776 : Int64) ≤ s)
noncomputable def isi_ (s : Int64) : Int32 := @ite _ (is_ s) (Classical.propDecidable _) (nI 1) (nI 0)
theorem isi_y {s : Int64} (h : is_ s) : isi_ s = nI 1 := by unfold isi_; exact if_pos h
theorem isi_n {s : Int64} (h : ¬ is_ s) : isi_ s = nI 0 := by unfold isi_; exact if_neg h

set_option maxHeartbeats 4000000 in
set_option maxRecDepth 100000 in
theorem c_M_multiply (l : Launch) {G : mg_} {M : mw_} {m0 kA wA psA ppA cA sA pA uA lA xA : Nat} {has pend now fac : Int32} {v1 v0 h1 h0 r1 r0 : Int64} {A B N : Nat} (h_m : M m0 = some (ob_ 6 [.ref kA, .ref wA, .int has, .long (hi_ N), .long (lo_ N), .long v1, .long v0, .int pend, .ref psA, .ref ppA, .int now, .ref cA, .ref sA, .ref pA, .ref uA, .ref lA, .long h1, .long h0, .int fac, .long r1, .long r0, .ref xA]))  (hN : N < 340282366920938463463374607431768211456) (hA : A < N) (hB : B < 340282366920938463463374607431768211456) : dt_ l my_M_multiply cd_M_multiply 14 none { frames := 3, cells := 0, slots := 0, locals := 80 } G [.ref m0, .long (hi_ A), .long (lo_ A), .long (hi_ B), .long (lo_ B)] M none (mu_ M m0 (ob_ 6 [.ref kA, .ref wA, .int has, .long (hi_ N), .long (lo_ N), .long v1, .long v0, .int pend, .ref psA, .ref ppA, .int now, .ref cA, .ref sA, .ref pA, .ref uA, .ref lA, .long h1, .long h0, .int fac, .long (hi_ (A * B % N)), .long (lo_ (A * B % N)), .ref xA])) 0 0 := by
  refine ct_.intro2 (by decide) (Nat.le_of_ble_eq_true rfl) ?_
  intro p e s m args below meth c ls R Q hR hQ C0 hl hM hS
  have hx := C0.1
  have hb := C0.2.1
  have hl : lv_has ls 14 [(0, .ref m0), (1, .long (hi_ A)), (3, .long (lo_ A)), (5, .long (hi_ B)), (7, .long (lo_ B))] := hl
  have hN0 : 0 < N := by omega
  have hB1 : B / 18446744073709551616 < 18446744073709551616 := by omega
  have hB0 : B % 18446744073709551616 < 18446744073709551616 := by omega
  refine lv_lconst (v := lN 0) hx hb dd_M_multiply_0 rfl ?_
  refine lv_lstore (lv' := [(9, .long (lN 0)), (0, .ref m0), (1, .long (hi_ A)), (3, .long (lo_ A)), (5, .long (hi_ B)), (7, .long (lo_ B))]) hx hb dd_M_multiply_1 hl (by decide) rfl (fun ls hl => ?_)
  refine lv_lconst (v := lN 0) hx hb dd_M_multiply_3 rfl ?_
  refine lv_lstore (lv' := [(11, .long (lN 0)), (9, .long (lN 0)), (0, .ref m0), (1, .long (hi_ A)), (3, .long (lo_ A)), (5, .long (hi_ B)), (7, .long (lo_ B))]) hx hb dd_M_multiply_4 hl (by decide) rfl (fun ls hl => ?_)
  refine lv_bipush (v := nI 127) hx hb dd_M_multiply_6 (by decide) ?_
  refine lv_istore (lv' := [(13, .int (nI 127)), (11, .long (lN 0)), (9, .long (lN 0)), (0, .ref m0), (1, .long (hi_ A)), (3, .long (lo_ A)), (5, .long (hi_ B)), (7, .long (lo_ B))]) hx hb dd_M_multiply_8 hl (by decide) rfl (fun ls hl => ?_)
  have loop_10 : ∀ (k : Nat) (x1 : Int64) (x0 : Int64) (H : Heap) (locs : List Loc) (ls : Array Slot), k ≤ 128 → mm_ G (mu_ M m0 (ob_ 6 [.ref kA, .ref wA, .int has, .long (hi_ N), .long (lo_ N), .long v1, .long v0, .int pend, .ref psA, .ref ppA, .int now, .ref cA, .ref sA, .ref pA, .ref uA, .ref lA, .long h1, .long h0, .int fac, .long x1, .long x0, .ref xA])) H → va_S (fz_ G) s.heap H locs → lv_has ls 14 [(0, .ref m0), (1, .long (hi_ A)), (3, .long (lo_ A)), (5, .long (hi_ B)), (7, .long (lo_ B)), (9, .long (hi_ (A * (B / 2 ^ k) % N))), (11, .long (lo_ (A * (B / 2 ^ k) % N))), (13, .int (nI k + (-1 : Int32)))] → W p l e R s m args below meth c H locs 0 0 Q (F0 m 10 ls []) := by
    intro k
    induction k with
    | zero =>
      intro x1 x0 H locs ls hk hM hS hl
      have hl : lv_has ls 14 [(0, .ref m0), (1, .long (hi_ A)), (3, .long (lo_ A)), (5, .long (hi_ B)), (7, .long (lo_ B)), (9, .long (hi_ (A * (B / 2 ^ 0) % N))), (11, .long (lo_ (A * (B / 2 ^ 0) % N))), (13, .int (nI 0 + (-1 : Int32)))] := by exact hl
      refine lv_iload hx hb dd_M_multiply_10 (lv_at hl 7 rfl) ?_
      refine lv_if_lt (tgt := 97) hx hb dd_M_multiply_12 rfl (fun _ => ?_) (fun hc => absurd (by decide) hc)
      refine lv_aload_n hx hb dd_M_multiply_97 rfl (lv_at hl 0 rfl) ?_
      refine lv_lload hx hb dd_M_multiply_98 (lv_at hl 5 rfl) ?_
      refine mr_put C0 hM hS fk_M_154 fp_M_154 mu_s rfl (rfl) (rfl) (Nat.le_of_ble_eq_true rfl) dd_M_multiply_100 (fun H locs hM hS => ?_)
      have hM := mr_M mu_mu hM
      have hM : mm_ G (mu_ M m0 (ob_ 6 [.ref kA, .ref wA, .int has, .long (hi_ N), .long (lo_ N), .long v1, .long v0, .int pend, .ref psA, .ref ppA, .int now, .ref cA, .ref sA, .ref pA, .ref uA, .ref lA, .long h1, .long h0, .int fac, .long (hi_ (A * (B / 2 ^ 0) % N)), .long x0, .ref xA])) H := hM
      refine lv_aload_n hx hb dd_M_multiply_103 rfl (lv_at hl 0 rfl) ?_
      refine lv_lload hx hb dd_M_multiply_104 (lv_at hl 6 rfl) ?_
      refine mr_put C0 hM hS fk_M_151 fp_M_151 mu_s rfl (rfl) (rfl) (Nat.le_of_ble_eq_true rfl) dd_M_multiply_106 (fun H locs hM hS => ?_)
      have hM := mr_M mu_mu hM
      have hM : mm_ G (mu_ M m0 (ob_ 6 [.ref kA, .ref wA, .int has, .long (hi_ N), .long (lo_ N), .long v1, .long v0, .int pend, .ref psA, .ref ppA, .int now, .ref cA, .ref sA, .ref pA, .ref uA, .ref lA, .long h1, .long h0, .int fac, .long (hi_ (A * (B / 2 ^ 0) % N)), .long (lo_ (A * (B / 2 ^ 0) % N)), .ref xA])) H := hM
      rw [Nat.pow_zero, Nat.div_one] at hM
      exact mr_ret hQ (mr_vret C0 hM hS (⟨rfl, rfl⟩) dd_M_multiply_109)
    | succ k ih =>
      intro x1 x0 H locs ls hk hM hS hl
      have hk10 : k < 128 := by omega
      have hp1 : (A * (B / 2 ^ (k + 1)) % N) < N := Nat.mod_lt _ hN0
      have hp2 : (((A * (B / 2 ^ (k + 1)) % N) + (A * (B / 2 ^ (k + 1)) % N)) % N) < N := Nat.mod_lt _ hN0
      have hl : lv_has ls 14 [(0, .ref m0), (1, .long (hi_ A)), (3, .long (lo_ A)), (5, .long (hi_ B)), (7, .long (lo_ B)), (9, .long (hi_ (A * (B / 2 ^ (k + 1)) % N))), (11, .long (lo_ (A * (B / 2 ^ (k + 1)) % N))), (13, .int (nI k))] := by rw [pk_m1] at hl; exact hl
      refine lv_iload hx hb dd_M_multiply_10 (lv_at hl 7 rfl) ?_
      refine lv_if_lt (tgt := 97) hx hb dd_M_multiply_12 rfl (fun hc => absurd hc (z_nlt (by omega))) (fun _ => ?_)
      refine lv_aload_n hx hb dd_M_multiply_15 rfl (lv_at hl 0 rfl) ?_
      refine lv_lload hx hb dd_M_multiply_16 (lv_at hl 5 rfl) ?_
      refine lv_lload hx hb dd_M_multiply_18 (lv_at hl 6 rfl) ?_
      refine lv_lload hx hb dd_M_multiply_20 (lv_at hl 5 rfl) ?_
      refine lv_lload hx hb dd_M_multiply_22 (lv_at hl 6 rfl) ?_
      refine mr_callV (As := [.long (hi_ (A * (B / 2 ^ (k + 1)) % N)), .long (lo_ (A * (B / 2 ^ (k + 1)) % N)), .long (hi_ (A * (B / 2 ^ (k + 1)) % N)), .long (lo_ (A * (B / 2 ^ (k + 1)) % N))]) (rest := []) C0 hM hS vk_M_160 mu_s rfl (c_M_plus l mu_s hN hp1 hp1) rfl rfl hl.1 (Nat.le_of_ble_eq_true rfl) rfl rfl (by subst hR; exact ⟨Nat.le_of_ble_eq_true rfl, Nat.le_of_ble_eq_true rfl⟩) (by subst hR; exact ⟨Nat.le_of_ble_eq_true rfl, Nat.le_of_ble_eq_true rfl⟩) dd_M_multiply_24 (fun v1 M1 H locs hp hM hS => ?_)
      obtain ⟨ev1, eM1⟩ := hp
      subst ev1
      rw [eM1] at hM
      have hM := mr_M mu_mu hM
      have hM : mm_ G (mu_ M m0 (ob_ 6 [.ref kA, .ref wA, .int has, .long (hi_ N), .long (lo_ N), .long v1, .long v0, .int pend, .ref psA, .ref ppA, .int now, .ref cA, .ref sA, .ref pA, .ref uA, .ref lA, .long h1, .long h0, .int fac, .long (hi_ (((A * (B / 2 ^ (k + 1)) % N) + (A * (B / 2 ^ (k + 1)) % N)) % N)), .long (lo_ (((A * (B / 2 ^ (k + 1)) % N) + (A * (B / 2 ^ (k + 1)) % N)) % N)), .ref xA])) H := hM
      refine W.eq (g2 := F0 m 27 ls []) rfl ?_
      refine lv_aload_n hx hb dd_M_multiply_27 rfl (lv_at hl 0 rfl) ?_
      refine mr_get C0 hM fk_M_154 mu_s (v := .long (hi_ (((A * (B / 2 ^ (k + 1)) % N) + (A * (B / 2 ^ (k + 1)) % N)) % N))) rfl dd_M_multiply_28 ?_
      refine lv_lstore (lv' := [(9, .long (hi_ (((A * (B / 2 ^ (k + 1)) % N) + (A * (B / 2 ^ (k + 1)) % N)) % N))), (0, .ref m0), (1, .long (hi_ A)), (3, .long (lo_ A)), (5, .long (hi_ B)), (7, .long (lo_ B)), (11, .long (lo_ (A * (B / 2 ^ (k + 1)) % N))), (13, .int (nI k))]) hx hb dd_M_multiply_31 hl (by decide) rfl (fun ls hl => ?_)
      refine lv_aload_n hx hb dd_M_multiply_33 rfl (lv_at hl 1 rfl) ?_
      refine mr_get C0 hM fk_M_151 mu_s (v := .long (lo_ (((A * (B / 2 ^ (k + 1)) % N) + (A * (B / 2 ^ (k + 1)) % N)) % N))) rfl dd_M_multiply_34 ?_
      refine lv_lstore (lv' := [(11, .long (lo_ (((A * (B / 2 ^ (k + 1)) % N) + (A * (B / 2 ^ (k + 1)) % N)) % N))), (9, .long (hi_ (((A * (B / 2 ^ (k + 1)) % N) + (A * (B / 2 ^ (k + 1)) % N)) % N))), (0, .ref m0), (1, .long (hi_ A)), (3, .long (lo_ A)), (5, .long (hi_ B)), (7, .long (lo_ B)), (13, .int (nI k))]) hx hb dd_M_multiply_37 hl (by decide) rfl (fun ls hl => ?_)
      refine lv_iload hx hb dd_M_multiply_39 (lv_at hl 7 rfl) ?_
      refine lv_bipush (v := nI 64) hx hb dd_M_multiply_41 (by decide) ?_
      refine lv_icmp_ge (tgt := 54) hx hb dd_M_multiply_43 rfl (fun h43 => ?_) (fun h43 => ?_)
      · skip
        have hk64 : 64 ≤ k := (nI_leI (by decide) (by omega)).mp h43
        refine lv_lload hx hb dd_M_multiply_54 (lv_at hl 5 rfl) ?_
        refine lv_iload hx hb dd_M_multiply_56 (lv_at hl 7 rfl) ?_
        refine lv_bipush (v := nI 64) hx hb dd_M_multiply_58 (by decide) ?_
        refine lv_isub hx hb dd_M_multiply_60 ?_
        refine mr_vi (pk_sub (a := k) (b := 64) (by omega)) ?_
        refine lv_lshr (v := lsr_ (hi_ B) (nI (k - 64))) hx hb dd_M_multiply_61 (rfl) ?_
        refine lv_lconst (v := lN 1) hx hb dd_M_multiply_62 rfl ?_
        refine lv_land hx hb dd_M_multiply_63 ?_
        refine mr_vl (x' := lN (B / 2 ^ k % 2)) ((lsr_bit hB1 (by omega)).trans (congrArg lN (bit_hi hk64))) ?_
        refine lv_lconst (v := lN 1) hx hb dd_M_multiply_64 rfl ?_
        refine mr_lif_ne (tgt := 91) hx hb dd_M_multiply_65 dd_M_multiply_66 rfl (fun h65 => ?_) (fun h65 => ?_)
        · skip
          have hv : B / 2 ^ k % 2 = 0 := by
            have h2 : B / 2 ^ k % 2 ≠ 1 := fun q => h65 (congrArg lN q)
            omega
          have hbk := mb_0 (A := A) (N := N) hv
          refine lv_iinc (k := 7) (v := nI k + (-1 : Int32)) (lv' := [(13, .int (nI k + (-1 : Int32))), (11, .long (lo_ (((A * (B / 2 ^ (k + 1)) % N) + (A * (B / 2 ^ (k + 1)) % N)) % N))), (9, .long (hi_ (((A * (B / 2 ^ (k + 1)) % N) + (A * (B / 2 ^ (k + 1)) % N)) % N))), (0, .ref m0), (1, .long (hi_ A)), (3, .long (lo_ A)), (5, .long (hi_ B)), (7, .long (lo_ B))]) hx hb dd_M_multiply_91 hl rfl (rfl) (by decide) rfl (fun ls hl => ?_)
          refine lv_goto (tgt := 10) hx hb dd_M_multiply_94 rfl ?_
          exact ih _ _ _ _ _ (by omega) hM hS (by rw [hbk]; exact lv_sub hl [3, 4, 5, 6, 7, 2, 1, 0] rfl)
        · skip
          have hv : B / 2 ^ k % 2 = 1 := (lE_ (by omega) (by decide)).mp h65
          have hbk := mb_1 (A := A) (N := N) hv
          refine lv_aload_n hx hb dd_M_multiply_69 rfl (lv_at hl 2 rfl) ?_
          refine lv_lload hx hb dd_M_multiply_70 (lv_at hl 1 rfl) ?_
          refine lv_lload hx hb dd_M_multiply_72 (lv_at hl 0 rfl) ?_
          refine lv_lload_n hx hb dd_M_multiply_74 rfl (lv_at hl 3 rfl) ?_
          refine lv_lload_n hx hb dd_M_multiply_75 rfl (lv_at hl 4 rfl) ?_
          refine mr_callV (As := [.long (hi_ (((A * (B / 2 ^ (k + 1)) % N) + (A * (B / 2 ^ (k + 1)) % N)) % N)), .long (lo_ (((A * (B / 2 ^ (k + 1)) % N) + (A * (B / 2 ^ (k + 1)) % N)) % N)), .long (hi_ A), .long (lo_ A)]) (rest := []) C0 hM hS vk_M_160 mu_s rfl (c_M_plus l mu_s hN hp2 hA) rfl rfl hl.1 (Nat.le_of_ble_eq_true rfl) rfl rfl (by subst hR; exact ⟨Nat.le_of_ble_eq_true rfl, Nat.le_of_ble_eq_true rfl⟩) (by subst hR; exact ⟨Nat.le_of_ble_eq_true rfl, Nat.le_of_ble_eq_true rfl⟩) dd_M_multiply_76 (fun v1 M1 H locs hp hM hS => ?_)
          obtain ⟨ev1, eM1⟩ := hp
          subst ev1
          rw [eM1] at hM
          have hM := mr_M mu_mu hM
          have hM : mm_ G (mu_ M m0 (ob_ 6 [.ref kA, .ref wA, .int has, .long (hi_ N), .long (lo_ N), .long v1, .long v0, .int pend, .ref psA, .ref ppA, .int now, .ref cA, .ref sA, .ref pA, .ref uA, .ref lA, .long h1, .long h0, .int fac, .long (hi_ (((((A * (B / 2 ^ (k + 1)) % N) + (A * (B / 2 ^ (k + 1)) % N)) % N) + A) % N)), .long (lo_ (((((A * (B / 2 ^ (k + 1)) % N) + (A * (B / 2 ^ (k + 1)) % N)) % N) + A) % N)), .ref xA])) H := hM
          refine W.eq (g2 := F0 m 79 ls []) rfl ?_
          refine lv_aload_n hx hb dd_M_multiply_79 rfl (lv_at hl 2 rfl) ?_
          refine mr_get C0 hM fk_M_154 mu_s (v := .long (hi_ (((((A * (B / 2 ^ (k + 1)) % N) + (A * (B / 2 ^ (k + 1)) % N)) % N) + A) % N))) rfl dd_M_multiply_80 ?_
          refine lv_lstore (lv' := [(9, .long (hi_ (((((A * (B / 2 ^ (k + 1)) % N) + (A * (B / 2 ^ (k + 1)) % N)) % N) + A) % N))), (11, .long (lo_ (((A * (B / 2 ^ (k + 1)) % N) + (A * (B / 2 ^ (k + 1)) % N)) % N))), (0, .ref m0), (1, .long (hi_ A)), (3, .long (lo_ A)), (5, .long (hi_ B)), (7, .long (lo_ B)), (13, .int (nI k))]) hx hb dd_M_multiply_83 hl (by decide) rfl (fun ls hl => ?_)
          refine lv_aload_n hx hb dd_M_multiply_85 rfl (lv_at hl 2 rfl) ?_
          refine mr_get C0 hM fk_M_151 mu_s (v := .long (lo_ (((((A * (B / 2 ^ (k + 1)) % N) + (A * (B / 2 ^ (k + 1)) % N)) % N) + A) % N))) rfl dd_M_multiply_86 ?_
          refine lv_lstore (lv' := [(11, .long (lo_ (((((A * (B / 2 ^ (k + 1)) % N) + (A * (B / 2 ^ (k + 1)) % N)) % N) + A) % N))), (9, .long (hi_ (((((A * (B / 2 ^ (k + 1)) % N) + (A * (B / 2 ^ (k + 1)) % N)) % N) + A) % N))), (0, .ref m0), (1, .long (hi_ A)), (3, .long (lo_ A)), (5, .long (hi_ B)), (7, .long (lo_ B)), (13, .int (nI k))]) hx hb dd_M_multiply_89 hl (by decide) rfl (fun ls hl => ?_)
          refine lv_iinc (k := 7) (v := nI k + (-1 : Int32)) (lv' := [(13, .int (nI k + (-1 : Int32))), (11, .long (lo_ (((((A * (B / 2 ^ (k + 1)) % N) + (A * (B / 2 ^ (k + 1)) % N)) % N) + A) % N))), (9, .long (hi_ (((((A * (B / 2 ^ (k + 1)) % N) + (A * (B / 2 ^ (k + 1)) % N)) % N) + A) % N))), (0, .ref m0), (1, .long (hi_ A)), (3, .long (lo_ A)), (5, .long (hi_ B)), (7, .long (lo_ B))]) hx hb dd_M_multiply_91 hl rfl (rfl) (by decide) rfl (fun ls hl => ?_)
          refine lv_goto (tgt := 10) hx hb dd_M_multiply_94 rfl ?_
          exact ih _ _ _ _ _ (by omega) hM hS (by rw [hbk]; exact lv_sub hl [3, 4, 5, 6, 7, 2, 1, 0] rfl)
      · skip
        have hk64 : k < 64 := by
          have h := mt (nI_leI (by decide) (by omega)).mpr h43
          omega
        refine lv_lload hx hb dd_M_multiply_46 (lv_at hl 6 rfl) ?_
        refine lv_iload hx hb dd_M_multiply_48 (lv_at hl 7 rfl) ?_
        refine lv_lshr (v := lsr_ (lo_ B) (nI k)) hx hb dd_M_multiply_50 (rfl) ?_
        refine lv_goto (tgt := 62) hx hb dd_M_multiply_51 rfl ?_
        refine lv_lconst (v := lN 1) hx hb dd_M_multiply_62 rfl ?_
        refine lv_land hx hb dd_M_multiply_63 ?_
        refine mr_vl (x' := lN (B / 2 ^ k % 2)) ((lsr_bit hB0 (by omega)).trans (congrArg lN (bit_lo hk64))) ?_
        refine lv_lconst (v := lN 1) hx hb dd_M_multiply_64 rfl ?_
        refine mr_lif_ne (tgt := 91) hx hb dd_M_multiply_65 dd_M_multiply_66 rfl (fun h65 => ?_) (fun h65 => ?_)
        · skip
          have hv : B / 2 ^ k % 2 = 0 := by
            have h2 : B / 2 ^ k % 2 ≠ 1 := fun q => h65 (congrArg lN q)
            omega
          have hbk := mb_0 (A := A) (N := N) hv
          refine lv_iinc (k := 7) (v := nI k + (-1 : Int32)) (lv' := [(13, .int (nI k + (-1 : Int32))), (11, .long (lo_ (((A * (B / 2 ^ (k + 1)) % N) + (A * (B / 2 ^ (k + 1)) % N)) % N))), (9, .long (hi_ (((A * (B / 2 ^ (k + 1)) % N) + (A * (B / 2 ^ (k + 1)) % N)) % N))), (0, .ref m0), (1, .long (hi_ A)), (3, .long (lo_ A)), (5, .long (hi_ B)), (7, .long (lo_ B))]) hx hb dd_M_multiply_91 hl rfl (rfl) (by decide) rfl (fun ls hl => ?_)
          refine lv_goto (tgt := 10) hx hb dd_M_multiply_94 rfl ?_
          exact ih _ _ _ _ _ (by omega) hM hS (by rw [hbk]; exact lv_sub hl [3, 4, 5, 6, 7, 2, 1, 0] rfl)
        · skip
          have hv : B / 2 ^ k % 2 = 1 := (lE_ (by omega) (by decide)).mp h65
          have hbk := mb_1 (A := A) (N := N) hv
          refine lv_aload_n hx hb dd_M_multiply_69 rfl (lv_at hl 2 rfl) ?_
          refine lv_lload hx hb dd_M_multiply_70 (lv_at hl 1 rfl) ?_
          refine lv_lload hx hb dd_M_multiply_72 (lv_at hl 0 rfl) ?_
          refine lv_lload_n hx hb dd_M_multiply_74 rfl (lv_at hl 3 rfl) ?_
          refine lv_lload_n hx hb dd_M_multiply_75 rfl (lv_at hl 4 rfl) ?_
          refine mr_callV (As := [.long (hi_ (((A * (B / 2 ^ (k + 1)) % N) + (A * (B / 2 ^ (k + 1)) % N)) % N)), .long (lo_ (((A * (B / 2 ^ (k + 1)) % N) + (A * (B / 2 ^ (k + 1)) % N)) % N)), .long (hi_ A), .long (lo_ A)]) (rest := []) C0 hM hS vk_M_160 mu_s rfl (c_M_plus l mu_s hN hp2 hA) rfl rfl hl.1 (Nat.le_of_ble_eq_true rfl) rfl rfl (by subst hR; exact ⟨Nat.le_of_ble_eq_true rfl, Nat.le_of_ble_eq_true rfl⟩) (by subst hR; exact ⟨Nat.le_of_ble_eq_true rfl, Nat.le_of_ble_eq_true rfl⟩) dd_M_multiply_76 (fun v1 M1 H locs hp hM hS => ?_)
          obtain ⟨ev1, eM1⟩ := hp
          subst ev1
          rw [eM1] at hM
          have hM := mr_M mu_mu hM
          have hM : mm_ G (mu_ M m0 (ob_ 6 [.ref kA, .ref wA, .int has, .long (hi_ N), .long (lo_ N), .long v1, .long v0, .int pend, .ref psA, .ref ppA, .int now, .ref cA, .ref sA, .ref pA, .ref uA, .ref lA, .long h1, .long h0, .int fac, .long (hi_ (((((A * (B / 2 ^ (k + 1)) % N) + (A * (B / 2 ^ (k + 1)) % N)) % N) + A) % N)), .long (lo_ (((((A * (B / 2 ^ (k + 1)) % N) + (A * (B / 2 ^ (k + 1)) % N)) % N) + A) % N)), .ref xA])) H := hM
          refine W.eq (g2 := F0 m 79 ls []) rfl ?_
          refine lv_aload_n hx hb dd_M_multiply_79 rfl (lv_at hl 2 rfl) ?_
          refine mr_get C0 hM fk_M_154 mu_s (v := .long (hi_ (((((A * (B / 2 ^ (k + 1)) % N) + (A * (B / 2 ^ (k + 1)) % N)) % N) + A) % N))) rfl dd_M_multiply_80 ?_
          refine lv_lstore (lv' := [(9, .long (hi_ (((((A * (B / 2 ^ (k + 1)) % N) + (A * (B / 2 ^ (k + 1)) % N)) % N) + A) % N))), (11, .long (lo_ (((A * (B / 2 ^ (k + 1)) % N) + (A * (B / 2 ^ (k + 1)) % N)) % N))), (0, .ref m0), (1, .long (hi_ A)), (3, .long (lo_ A)), (5, .long (hi_ B)), (7, .long (lo_ B)), (13, .int (nI k))]) hx hb dd_M_multiply_83 hl (by decide) rfl (fun ls hl => ?_)
          refine lv_aload_n hx hb dd_M_multiply_85 rfl (lv_at hl 2 rfl) ?_
          refine mr_get C0 hM fk_M_151 mu_s (v := .long (lo_ (((((A * (B / 2 ^ (k + 1)) % N) + (A * (B / 2 ^ (k + 1)) % N)) % N) + A) % N))) rfl dd_M_multiply_86 ?_
          refine lv_lstore (lv' := [(11, .long (lo_ (((((A * (B / 2 ^ (k + 1)) % N) + (A * (B / 2 ^ (k + 1)) % N)) % N) + A) % N))), (9, .long (hi_ (((((A * (B / 2 ^ (k + 1)) % N) + (A * (B / 2 ^ (k + 1)) % N)) % N) + A) % N))), (0, .ref m0), (1, .long (hi_ A)), (3, .long (lo_ A)), (5, .long (hi_ B)), (7, .long (lo_ B)), (13, .int (nI k))]) hx hb dd_M_multiply_89 hl (by decide) rfl (fun ls hl => ?_)
          refine lv_iinc (k := 7) (v := nI k + (-1 : Int32)) (lv' := [(13, .int (nI k + (-1 : Int32))), (11, .long (lo_ (((((A * (B / 2 ^ (k + 1)) % N) + (A * (B / 2 ^ (k + 1)) % N)) % N) + A) % N))), (9, .long (hi_ (((((A * (B / 2 ^ (k + 1)) % N) + (A * (B / 2 ^ (k + 1)) % N)) % N) + A) % N))), (0, .ref m0), (1, .long (hi_ A)), (3, .long (lo_ A)), (5, .long (hi_ B)), (7, .long (lo_ B))]) hx hb dd_M_multiply_91 hl rfl (rfl) (by decide) rfl (fun ls hl => ?_)
          refine lv_goto (tgt := 10) hx hb dd_M_multiply_94 rfl ?_
          exact ih _ _ _ _ _ (by omega) hM hS (by rw [hbk]; exact lv_sub hl [3, 4, 5, 6, 7, 2, 1, 0] rfl)
  have hM := mr_M (mu_id h_m).symm hM
  exact loop_10 128 r1 r0 _ _ _ (Nat.le_refl _) hM hS (by rw [show nI 128 + (-1 : Int32) = nI 127 from by decide, show A * (B / 2 ^ 128) % N = 0 by rw [Nat.div_eq_of_lt (show B < 2 ^ 128 from hB), Nat.mul_zero, Nat.zero_mod], hi_0, lo_0]; exact lv_sub hl [3, 4, 5, 6, 7, 2, 1, 0] rfl)

set_option maxHeartbeats 4000000 in
set_option maxRecDepth 100000 in
theorem c_M_power (l : Launch) {G : mg_} {M : mw_} {m0 kA wA psA ppA cA sA pA uA lA xA : Nat} {has pend now fac : Int32} {v1 v0 h1 h0 r1 r0 : Int64} {A e0 N : Nat} (h_m : M m0 = some (ob_ 6 [.ref kA, .ref wA, .int has, .long (hi_ N), .long (lo_ N), .long v1, .long v0, .int pend, .ref psA, .ref ppA, .int now, .ref cA, .ref sA, .ref pA, .ref uA, .ref lA, .long h1, .long h0, .int fac, .long r1, .long r0, .ref xA]))  (hN : N < 340282366920938463463374607431768211456) (hA : A < N) (hN1 : 1 < N) (he : e0 < 2147483648) : dt_ l my_M_power cd_M_power 11 none { frames := 4, cells := 0, slots := 0, locals := 113 } G [.ref m0, .long (hi_ A), .long (lo_ A), .int (nI e0)] M none (mu_ M m0 (ob_ 6 [.ref kA, .ref wA, .int has, .long (hi_ N), .long (lo_ N), .long v1, .long v0, .int pend, .ref psA, .ref ppA, .int now, .ref cA, .ref sA, .ref pA, .ref uA, .ref lA, .long h1, .long h0, .int fac, .long (hi_ (A ^ e0 % N)), .long (lo_ (A ^ e0 % N)), .ref xA])) 0 0 := by
  refine ct_.intro2 (by decide) (Nat.le_of_ble_eq_true rfl) ?_
  intro p e s m args below meth c ls R Q hR hQ C0 hl hM hS
  have hx := C0.1
  have hb := C0.2.1
  have hl : lv_has ls 11 [(0, .ref m0), (1, .long (hi_ A)), (3, .long (lo_ A)), (5, .int (nI e0))] := hl
  have hN0 : 0 < N := by omega
  refine lv_lconst (v := lN 0) hx hb dd_M_power_0 rfl ?_
  refine lv_lstore (lv' := [(6, .long (lN 0)), (0, .ref m0), (1, .long (hi_ A)), (3, .long (lo_ A)), (5, .int (nI e0))]) hx hb dd_M_power_1 hl (by decide) rfl (fun ls hl => ?_)
  refine lv_lconst (v := lN 1) hx hb dd_M_power_3 rfl ?_
  refine lv_lstore (lv' := [(8, .long (lN 1)), (6, .long (lN 0)), (0, .ref m0), (1, .long (hi_ A)), (3, .long (lo_ A)), (5, .int (nI e0))]) hx hb dd_M_power_4 hl (by decide) rfl (fun ls hl => ?_)
  refine lv_bipush (v := nI 30) hx hb dd_M_power_6 (by decide) ?_
  refine lv_istore (lv' := [(10, .int (nI 30)), (8, .long (lN 1)), (6, .long (lN 0)), (0, .ref m0), (1, .long (hi_ A)), (3, .long (lo_ A)), (5, .int (nI e0))]) hx hb dd_M_power_8 hl (by decide) rfl (fun ls hl => ?_)
  have loop_10 : ∀ (k : Nat) (x1 : Int64) (x0 : Int64) (H : Heap) (locs : List Loc) (ls : Array Slot), k ≤ 31 → mm_ G (mu_ M m0 (ob_ 6 [.ref kA, .ref wA, .int has, .long (hi_ N), .long (lo_ N), .long v1, .long v0, .int pend, .ref psA, .ref ppA, .int now, .ref cA, .ref sA, .ref pA, .ref uA, .ref lA, .long h1, .long h0, .int fac, .long x1, .long x0, .ref xA])) H → va_S (fz_ G) s.heap H locs → lv_has ls 11 [(0, .ref m0), (1, .long (hi_ A)), (3, .long (lo_ A)), (5, .int (nI e0)), (6, .long (hi_ (A ^ (e0 / 2 ^ k) % N))), (8, .long (lo_ (A ^ (e0 / 2 ^ k) % N))), (10, .int (nI k + (-1 : Int32)))] → W p l e R s m args below meth c H locs 0 0 Q (F0 m 10 ls []) := by
    intro k
    induction k with
    | zero =>
      intro x1 x0 H locs ls hk hM hS hl
      have hl : lv_has ls 11 [(0, .ref m0), (1, .long (hi_ A)), (3, .long (lo_ A)), (5, .int (nI e0)), (6, .long (hi_ (A ^ (e0 / 2 ^ 0) % N))), (8, .long (lo_ (A ^ (e0 / 2 ^ 0) % N))), (10, .int (nI 0 + (-1 : Int32)))] := by exact hl
      refine lv_iload hx hb dd_M_power_10 (lv_at hl 6 rfl) ?_
      refine lv_if_lt (tgt := 78) hx hb dd_M_power_12 rfl (fun _ => ?_) (fun hc => absurd (by decide) hc)
      refine lv_aload_n hx hb dd_M_power_78 rfl (lv_at hl 0 rfl) ?_
      refine lv_lload hx hb dd_M_power_79 (lv_at hl 4 rfl) ?_
      refine mr_put C0 hM hS fk_M_154 fp_M_154 mu_s rfl (rfl) (rfl) (Nat.le_of_ble_eq_true rfl) dd_M_power_81 (fun H locs hM hS => ?_)
      have hM := mr_M mu_mu hM
      have hM : mm_ G (mu_ M m0 (ob_ 6 [.ref kA, .ref wA, .int has, .long (hi_ N), .long (lo_ N), .long v1, .long v0, .int pend, .ref psA, .ref ppA, .int now, .ref cA, .ref sA, .ref pA, .ref uA, .ref lA, .long h1, .long h0, .int fac, .long (hi_ (A ^ (e0 / 2 ^ 0) % N)), .long x0, .ref xA])) H := hM
      refine lv_aload_n hx hb dd_M_power_84 rfl (lv_at hl 0 rfl) ?_
      refine lv_lload hx hb dd_M_power_85 (lv_at hl 5 rfl) ?_
      refine mr_put C0 hM hS fk_M_151 fp_M_151 mu_s rfl (rfl) (rfl) (Nat.le_of_ble_eq_true rfl) dd_M_power_87 (fun H locs hM hS => ?_)
      have hM := mr_M mu_mu hM
      have hM : mm_ G (mu_ M m0 (ob_ 6 [.ref kA, .ref wA, .int has, .long (hi_ N), .long (lo_ N), .long v1, .long v0, .int pend, .ref psA, .ref ppA, .int now, .ref cA, .ref sA, .ref pA, .ref uA, .ref lA, .long h1, .long h0, .int fac, .long (hi_ (A ^ (e0 / 2 ^ 0) % N)), .long (lo_ (A ^ (e0 / 2 ^ 0) % N)), .ref xA])) H := hM
      rw [Nat.pow_zero, Nat.div_one] at hM
      exact mr_ret hQ (mr_vret C0 hM hS (⟨rfl, rfl⟩) dd_M_power_90)
    | succ k ih =>
      intro x1 x0 H locs ls hk hM hS hl
      have hk10 : k < 31 := by omega
      have hp1 : (A ^ (e0 / 2 ^ (k + 1)) % N) < N := Nat.mod_lt _ hN0
      have hp2 : ((A ^ (e0 / 2 ^ (k + 1)) % N) * (A ^ (e0 / 2 ^ (k + 1)) % N) % N) < N := Nat.mod_lt _ hN0
      have hl : lv_has ls 11 [(0, .ref m0), (1, .long (hi_ A)), (3, .long (lo_ A)), (5, .int (nI e0)), (6, .long (hi_ (A ^ (e0 / 2 ^ (k + 1)) % N))), (8, .long (lo_ (A ^ (e0 / 2 ^ (k + 1)) % N))), (10, .int (nI k))] := by rw [pk_m1] at hl; exact hl
      refine lv_iload hx hb dd_M_power_10 (lv_at hl 6 rfl) ?_
      refine lv_if_lt (tgt := 78) hx hb dd_M_power_12 rfl (fun hc => absurd hc (z_nlt (by omega))) (fun _ => ?_)
      refine lv_aload_n hx hb dd_M_power_15 rfl (lv_at hl 0 rfl) ?_
      refine lv_lload hx hb dd_M_power_16 (lv_at hl 4 rfl) ?_
      refine lv_lload hx hb dd_M_power_18 (lv_at hl 5 rfl) ?_
      refine lv_lload hx hb dd_M_power_20 (lv_at hl 4 rfl) ?_
      refine lv_lload hx hb dd_M_power_22 (lv_at hl 5 rfl) ?_
      refine mr_callV (As := [.long (hi_ (A ^ (e0 / 2 ^ (k + 1)) % N)), .long (lo_ (A ^ (e0 / 2 ^ (k + 1)) % N)), .long (hi_ (A ^ (e0 / 2 ^ (k + 1)) % N)), .long (lo_ (A ^ (e0 / 2 ^ (k + 1)) % N))]) (rest := []) C0 hM hS vk_M_164 mu_s rfl (c_M_multiply l mu_s hN hp1 (Nat.lt_trans hp1 hN)) rfl rfl hl.1 (Nat.le_of_ble_eq_true rfl) rfl rfl (by subst hR; exact ⟨Nat.le_of_ble_eq_true rfl, Nat.le_of_ble_eq_true rfl⟩) (by subst hR; exact ⟨Nat.le_of_ble_eq_true rfl, Nat.le_of_ble_eq_true rfl⟩) dd_M_power_24 (fun v1 M1 H locs hp hM hS => ?_)
      obtain ⟨ev1, eM1⟩ := hp
      subst ev1
      rw [eM1] at hM
      have hM := mr_M mu_mu hM
      have hM : mm_ G (mu_ M m0 (ob_ 6 [.ref kA, .ref wA, .int has, .long (hi_ N), .long (lo_ N), .long v1, .long v0, .int pend, .ref psA, .ref ppA, .int now, .ref cA, .ref sA, .ref pA, .ref uA, .ref lA, .long h1, .long h0, .int fac, .long (hi_ ((A ^ (e0 / 2 ^ (k + 1)) % N) * (A ^ (e0 / 2 ^ (k + 1)) % N) % N)), .long (lo_ ((A ^ (e0 / 2 ^ (k + 1)) % N) * (A ^ (e0 / 2 ^ (k + 1)) % N) % N)), .ref xA])) H := hM
      refine W.eq (g2 := F0 m 27 ls []) rfl ?_
      refine lv_aload_n hx hb dd_M_power_27 rfl (lv_at hl 0 rfl) ?_
      refine mr_get C0 hM fk_M_154 mu_s (v := .long (hi_ ((A ^ (e0 / 2 ^ (k + 1)) % N) * (A ^ (e0 / 2 ^ (k + 1)) % N) % N))) rfl dd_M_power_28 ?_
      refine lv_lstore (lv' := [(6, .long (hi_ ((A ^ (e0 / 2 ^ (k + 1)) % N) * (A ^ (e0 / 2 ^ (k + 1)) % N) % N))), (0, .ref m0), (1, .long (hi_ A)), (3, .long (lo_ A)), (5, .int (nI e0)), (8, .long (lo_ (A ^ (e0 / 2 ^ (k + 1)) % N))), (10, .int (nI k))]) hx hb dd_M_power_31 hl (by decide) rfl (fun ls hl => ?_)
      refine lv_aload_n hx hb dd_M_power_33 rfl (lv_at hl 1 rfl) ?_
      refine mr_get C0 hM fk_M_151 mu_s (v := .long (lo_ ((A ^ (e0 / 2 ^ (k + 1)) % N) * (A ^ (e0 / 2 ^ (k + 1)) % N) % N))) rfl dd_M_power_34 ?_
      refine lv_lstore (lv' := [(8, .long (lo_ ((A ^ (e0 / 2 ^ (k + 1)) % N) * (A ^ (e0 / 2 ^ (k + 1)) % N) % N))), (6, .long (hi_ ((A ^ (e0 / 2 ^ (k + 1)) % N) * (A ^ (e0 / 2 ^ (k + 1)) % N) % N))), (0, .ref m0), (1, .long (hi_ A)), (3, .long (lo_ A)), (5, .int (nI e0)), (10, .int (nI k))]) hx hb dd_M_power_37 hl (by decide) rfl (fun ls hl => ?_)
      refine lv_iload hx hb dd_M_power_39 (lv_at hl 5 rfl) ?_
      refine lv_iload hx hb dd_M_power_41 (lv_at hl 6 rfl) ?_
      refine lv_ishr hx hb dd_M_power_43 ?_
      refine mr_vi (x' := nI (e0 / 2 ^ k)) (nI_shr he (by omega)) ?_
      refine lv_iconst (v := nI 1) hx hb dd_M_power_44 (by decide) ?_
      refine lv_iand hx hb dd_M_power_45 ?_
      refine mr_vi (x' := nI (e0 / 2 ^ k % 2)) (pk_andN (Nat.lt_of_le_of_lt (Nat.div_le_self _ _) (by omega)) 1 (by decide)) ?_
      refine lv_iconst (v := nI 1) hx hb dd_M_power_46 (by decide) ?_
      refine lv_icmp_ne (tgt := 72) hx hb dd_M_power_47 rfl (fun h47 => ?_) (fun h47 => ?_)
      · skip
        have hv : e0 / 2 ^ k % 2 = 0 := by
          have h2 : e0 / 2 ^ k % 2 ≠ 1 := fun q => h47 (congrArg nI q)
          omega
        have hbk := mp_0 (A := A) (N := N) hv
        refine lv_iinc (k := 6) (v := nI k + (-1 : Int32)) (lv' := [(10, .int (nI k + (-1 : Int32))), (8, .long (lo_ ((A ^ (e0 / 2 ^ (k + 1)) % N) * (A ^ (e0 / 2 ^ (k + 1)) % N) % N))), (6, .long (hi_ ((A ^ (e0 / 2 ^ (k + 1)) % N) * (A ^ (e0 / 2 ^ (k + 1)) % N) % N))), (0, .ref m0), (1, .long (hi_ A)), (3, .long (lo_ A)), (5, .int (nI e0))]) hx hb dd_M_power_72 hl rfl (rfl) (by decide) rfl (fun ls hl => ?_)
        refine lv_goto (tgt := 10) hx hb dd_M_power_75 rfl ?_
        exact ih _ _ _ _ _ (by omega) hM hS (by rw [hbk]; exact lv_sub hl [3, 4, 5, 6, 2, 1, 0] rfl)
      · skip
        have hv : e0 / 2 ^ k % 2 = 1 := (nI_eq (by omega) (by decide)).mp h47
        have hbk := mp_1 (A := A) (N := N) hv
        refine lv_aload_n hx hb dd_M_power_50 rfl (lv_at hl 2 rfl) ?_
        refine lv_lload hx hb dd_M_power_51 (lv_at hl 1 rfl) ?_
        refine lv_lload hx hb dd_M_power_53 (lv_at hl 0 rfl) ?_
        refine lv_lload_n hx hb dd_M_power_55 rfl (lv_at hl 3 rfl) ?_
        refine lv_lload_n hx hb dd_M_power_56 rfl (lv_at hl 4 rfl) ?_
        refine mr_callV (As := [.long (hi_ ((A ^ (e0 / 2 ^ (k + 1)) % N) * (A ^ (e0 / 2 ^ (k + 1)) % N) % N)), .long (lo_ ((A ^ (e0 / 2 ^ (k + 1)) % N) * (A ^ (e0 / 2 ^ (k + 1)) % N) % N)), .long (hi_ A), .long (lo_ A)]) (rest := []) C0 hM hS vk_M_164 mu_s rfl (c_M_multiply l mu_s hN hp2 (Nat.lt_trans hA hN)) rfl rfl hl.1 (Nat.le_of_ble_eq_true rfl) rfl rfl (by subst hR; exact ⟨Nat.le_of_ble_eq_true rfl, Nat.le_of_ble_eq_true rfl⟩) (by subst hR; exact ⟨Nat.le_of_ble_eq_true rfl, Nat.le_of_ble_eq_true rfl⟩) dd_M_power_57 (fun v1 M1 H locs hp hM hS => ?_)
        obtain ⟨ev1, eM1⟩ := hp
        subst ev1
        rw [eM1] at hM
        have hM := mr_M mu_mu hM
        have hM : mm_ G (mu_ M m0 (ob_ 6 [.ref kA, .ref wA, .int has, .long (hi_ N), .long (lo_ N), .long v1, .long v0, .int pend, .ref psA, .ref ppA, .int now, .ref cA, .ref sA, .ref pA, .ref uA, .ref lA, .long h1, .long h0, .int fac, .long (hi_ (((A ^ (e0 / 2 ^ (k + 1)) % N) * (A ^ (e0 / 2 ^ (k + 1)) % N) % N) * A % N)), .long (lo_ (((A ^ (e0 / 2 ^ (k + 1)) % N) * (A ^ (e0 / 2 ^ (k + 1)) % N) % N) * A % N)), .ref xA])) H := hM
        refine W.eq (g2 := F0 m 60 ls []) rfl ?_
        refine lv_aload_n hx hb dd_M_power_60 rfl (lv_at hl 2 rfl) ?_
        refine mr_get C0 hM fk_M_154 mu_s (v := .long (hi_ (((A ^ (e0 / 2 ^ (k + 1)) % N) * (A ^ (e0 / 2 ^ (k + 1)) % N) % N) * A % N))) rfl dd_M_power_61 ?_
        refine lv_lstore (lv' := [(6, .long (hi_ (((A ^ (e0 / 2 ^ (k + 1)) % N) * (A ^ (e0 / 2 ^ (k + 1)) % N) % N) * A % N))), (8, .long (lo_ ((A ^ (e0 / 2 ^ (k + 1)) % N) * (A ^ (e0 / 2 ^ (k + 1)) % N) % N))), (0, .ref m0), (1, .long (hi_ A)), (3, .long (lo_ A)), (5, .int (nI e0)), (10, .int (nI k))]) hx hb dd_M_power_64 hl (by decide) rfl (fun ls hl => ?_)
        refine lv_aload_n hx hb dd_M_power_66 rfl (lv_at hl 2 rfl) ?_
        refine mr_get C0 hM fk_M_151 mu_s (v := .long (lo_ (((A ^ (e0 / 2 ^ (k + 1)) % N) * (A ^ (e0 / 2 ^ (k + 1)) % N) % N) * A % N))) rfl dd_M_power_67 ?_
        refine lv_lstore (lv' := [(8, .long (lo_ (((A ^ (e0 / 2 ^ (k + 1)) % N) * (A ^ (e0 / 2 ^ (k + 1)) % N) % N) * A % N))), (6, .long (hi_ (((A ^ (e0 / 2 ^ (k + 1)) % N) * (A ^ (e0 / 2 ^ (k + 1)) % N) % N) * A % N))), (0, .ref m0), (1, .long (hi_ A)), (3, .long (lo_ A)), (5, .int (nI e0)), (10, .int (nI k))]) hx hb dd_M_power_70 hl (by decide) rfl (fun ls hl => ?_)
        refine lv_iinc (k := 6) (v := nI k + (-1 : Int32)) (lv' := [(10, .int (nI k + (-1 : Int32))), (8, .long (lo_ (((A ^ (e0 / 2 ^ (k + 1)) % N) * (A ^ (e0 / 2 ^ (k + 1)) % N) % N) * A % N))), (6, .long (hi_ (((A ^ (e0 / 2 ^ (k + 1)) % N) * (A ^ (e0 / 2 ^ (k + 1)) % N) % N) * A % N))), (0, .ref m0), (1, .long (hi_ A)), (3, .long (lo_ A)), (5, .int (nI e0))]) hx hb dd_M_power_72 hl rfl (rfl) (by decide) rfl (fun ls hl => ?_)
        refine lv_goto (tgt := 10) hx hb dd_M_power_75 rfl ?_
        exact ih _ _ _ _ _ (by omega) hM hS (by rw [hbk]; exact lv_sub hl [3, 4, 5, 6, 2, 1, 0] rfl)
  have hM := mr_M (mu_id h_m).symm hM
  exact loop_10 31 r1 r0 _ _ _ (Nat.le_refl _) hM hS (by rw [show nI 31 + (-1 : Int32) = nI 30 from by decide, show A ^ (e0 / 2 ^ 31) % N = 1 by rw [Nat.div_eq_of_lt he, Nat.pow_zero, Nat.mod_eq_of_lt hN1], hi_1, lo_1]; exact lv_sub hl [3, 4, 5, 6, 2, 1, 0] rfl)

set_option maxHeartbeats 4000000 in
set_option maxRecDepth 100000 in
theorem c_M_isPrime (l : Launch) {G : mg_} {M : mw_} {n0 : Nat}   (hn31 : n0 < 2147483648) : dt_ l my_M_isPrime cd_M_isPrime 3 (some .boolean) { frames := 0, cells := 0, slots := 0, locals := 0 } G [.int (nI n0)] M (some (.int (td_ n0))) (M) 0 0 := by
  refine ct_.intro2 (by decide) (Nat.le_of_ble_eq_true rfl) ?_
  intro p e s m args below meth c ls R Q hR hQ C0 hl hM hS
  have hx := C0.1
  have hb := C0.2.1
  have hl : lv_has ls 3 [(0, .int (nI n0))] := hl
  refine mr_ldc2 (v := lN 3) C0 tw_591 dd_M_isPrime_0 ?_
  refine lv_lstore_n (lv' := [(1, .long (lN 3)), (0, .int (nI n0))]) hx hb dd_M_isPrime_3 rfl hl (by decide) rfl (fun ls hl => ?_)
  have loop_4 : ∀ (k : Nat) (i : Nat) (H : Heap) (locs : List Loc) (ls : Array Slot), i + k = 23200 → (∀ d, d % 2 = 1 → 3 ≤ d → d < 2 * i + 3 → n0 % d ≠ 0) → mm_ G (M) H → va_S (fz_ G) s.heap H locs → lv_has ls 3 [(0, .int (nI n0)), (1, .long (lN (2 * i + 3)))] → W p l e R s m args below meth c H locs 0 0 Q (F0 m 4 ls []) := by
    intro k
    induction k with
    | zero =>
      intro i H locs ls hi hno hM hS hl
      have hv : n0 < (2 * i + 3) * (2 * i + 3) := by rw [show i = 23200 by omega]; omega
      have hsq : (2 * i + 3) * (2 * i + 3) < 4611686018427387904 := by rw [show i = 23200 by omega]; omega
      have hgt : lN n0 < lN ((2 * i + 3) * (2 * i + 3)) := (pk_lLT (by omega) (by omega)).mpr hv
      refine lv_lload_n hx hb dd_M_isPrime_4 rfl (lv_at hl 1 rfl) ?_
      refine lv_lload_n hx hb dd_M_isPrime_5 rfl (lv_at hl 1 rfl) ?_
      refine lv_lmul hx hb dd_M_isPrime_6 ?_
      refine mr_vl (x' := lN ((2 * i + 3) * (2 * i + 3))) (lN_mul _ _) ?_
      refine lv_iload_n hx hb dd_M_isPrime_7 rfl (lv_at hl 0 rfl) ?_
      refine lv_i2l (v := lN n0) hx hb dd_M_isPrime_8 (nI_l hn31) ?_
      refine mr_lif_gt (tgt := 33) hx hb dd_M_isPrime_9 dd_M_isPrime_10 rfl (fun _ => ?_) (fun hc => absurd (hgt) hc)
      refine lv_iconst (v := nI 1) hx hb dd_M_isPrime_33 (by decide) ?_
      exact mr_ret hQ (mr_iret C0 hM hS (rfl) (⟨by rw [td_y (fun d ho h3 h4 => hno d ho h3 (Nat.lt_of_not_le (fun q => absurd (Nat.lt_of_lt_of_le hv (sq_le q)) (Nat.not_lt.mpr h4))))], rfl⟩) dd_M_isPrime_34)
    | succ k ih =>
      intro i H locs ls hi hno hM hS hl
      have hsq : (2 * i + 3) * (2 * i + 3) < 4611686018427387904 := by
        have := sq_le (show (2 * i + 3) ≤ 46403 by omega)
        omega
      refine lv_lload_n hx hb dd_M_isPrime_4 rfl (lv_at hl 1 rfl) ?_
      refine lv_lload_n hx hb dd_M_isPrime_5 rfl (lv_at hl 1 rfl) ?_
      refine lv_lmul hx hb dd_M_isPrime_6 ?_
      refine mr_vl (x' := lN ((2 * i + 3) * (2 * i + 3))) (lN_mul _ _) ?_
      refine lv_iload_n hx hb dd_M_isPrime_7 rfl (lv_at hl 0 rfl) ?_
      refine lv_i2l (v := lN n0) hx hb dd_M_isPrime_8 (nI_l hn31) ?_
      refine mr_lif_gt (tgt := 33) hx hb dd_M_isPrime_9 dd_M_isPrime_10 rfl (fun h9 => ?_) (fun h9 => ?_)
      · skip
        have hv : n0 < (2 * i + 3) * (2 * i + 3) := (pk_lLT (by omega) (by omega)).mp h9
        refine lv_iconst (v := nI 1) hx hb dd_M_isPrime_33 (by decide) ?_
        exact mr_ret hQ (mr_iret C0 hM hS (rfl) (⟨by rw [td_y (fun d ho h3 h4 => hno d ho h3 (Nat.lt_of_not_le (fun q => absurd (Nat.lt_of_lt_of_le hv (sq_le q)) (Nat.not_lt.mpr h4))))], rfl⟩) dd_M_isPrime_34)
      · skip
        have hv : ¬ n0 < (2 * i + 3) * (2 * i + 3) := fun q => h9 ((pk_lLT (by omega) (by omega)).mpr q)
        refine lv_iload_n hx hb dd_M_isPrime_13 rfl (lv_at hl 0 rfl) ?_
        refine lv_i2l (v := lN n0) hx hb dd_M_isPrime_14 (nI_l hn31) ?_
        refine lv_lload_n hx hb dd_M_isPrime_15 rfl (lv_at hl 1 rfl) ?_
        refine lv_lrem hx hb dd_M_isPrime_16 (ln0_ (by omega) (by omega)) ?_
        refine mr_vl (x' := lN (n0 % (2 * i + 3))) (pk_lRem (by omega) (by omega) (by omega)) ?_
        refine lv_lconst (v := lN 0) hx hb dd_M_isPrime_17 rfl ?_
        refine mr_lif_ne (tgt := 24) hx hb dd_M_isPrime_18 dd_M_isPrime_19 rfl (fun h18 => ?_) (fun h18 => ?_)
        · skip
          have hx3 : n0 % (2 * i + 3) ≠ 0 := fun q => h18 (congrArg lN q)
          refine lv_lload_n hx hb dd_M_isPrime_24 rfl (lv_at hl 1 rfl) ?_
          refine mr_ldc2 (v := lN 2) C0 tw_592 dd_M_isPrime_25 ?_
          refine lv_ladd hx hb dd_M_isPrime_28 ?_
          refine mr_vl (x' := lN (2 * (i + 1) + 3)) ((lN_add _ _).trans (congrArg lN (by omega))) ?_
          refine lv_lstore_n (lv' := [(1, .long (lN (2 * (i + 1) + 3))), (0, .int (nI n0))]) hx hb dd_M_isPrime_29 rfl hl (by decide) rfl (fun ls hl => ?_)
          refine lv_goto (tgt := 4) hx hb dd_M_isPrime_30 rfl ?_
          exact ih (i + 1) _ _ _ (by omega) (fun d ho h3 h4 => by rcases (show d < 2 * i + 3 ∨ d = 2 * i + 3 by omega) with h | h; exact hno d ho h3 h; rw [h]; exact hx3) hM hS (lv_sub hl [1, 0] rfl)
        · skip
          have hx3 : n0 % (2 * i + 3) = 0 := (lE_ (Nat.lt_trans (Nat.mod_lt _ (by omega)) (by omega)) (by decide)).mp h18
          refine lv_iconst (v := nI 0) hx hb dd_M_isPrime_22 (by decide) ?_
          exact mr_ret hQ (mr_iret C0 hM hS (rfl) (⟨by rw [td_n (fun q => q (2 * i + 3) (by omega) (by omega) (Nat.le_of_not_lt hv) hx3)], rfl⟩) dd_M_isPrime_23)
  exact loop_4 23200 0 _ _ _ (rfl) (fun d _ h3 h4 => by omega) hM hS (lv_sub hl [1, 0] rfl)

set_option maxHeartbeats 4000000 in
set_option maxRecDepth 100000 in
theorem c_M_isSerial (l : Launch) {G : mg_} {M : mw_} {sx : Int64}    : dt_ l my_M_isSerial cd_M_isSerial 2 (some .boolean) { frames := 0, cells := 0, slots := 0, locals := 0 } G [.long sx] M (some (.int (isi_ sx))) (M) 0 0 := by
  refine ct_.intro2 (by decide) (Nat.le_of_ble_eq_true rfl) ?_
  intro p e s m args below meth c ls R Q hR hQ C0 hl hM hS
  have hx := C0.1
  have hb := C0.2.1
  have hl : lv_has ls 2 [(0, .long sx)] := hl
  refine lv_lload_n hx hb dd_M_isSerial_0 rfl (lv_at hl 0 rfl) ?_
  refine lv_lconst (v := lN 0) hx hb dd_M_isSerial_1 rfl ?_
  refine mr_lif_lt (tgt := 18) hx hb dd_M_isSerial_2 dd_M_isSerial_3 rfl (fun h2 => ?_) (fun h2 => ?_)
  · skip
    refine lv_iconst (v := nI 0) hx hb dd_M_isSerial_18 (by decide) ?_
    exact mr_ret hQ (mr_iret C0 hM hS (rfl) (⟨by first | rw [isi_n (fun q => q (Or.inl h2))] | rw [isi_n (fun q => q (Or.inr h10))] | rw [isi_y (fun q => q.elim h2 h10)], rfl⟩) dd_M_isSerial_19)
  · skip
    refine lv_lload_n hx hb dd_M_isSerial_6 rfl (lv_at hl 0 rfl) ?_
    refine mr_ldc2 (v := lN 1099511627776) C0 tw_569 dd_M_isSerial_7 ?_
    refine mr_lif_ge (tgt := 18) hx hb dd_M_isSerial_10 dd_M_isSerial_11 rfl (fun h10 => ?_) (fun h10 => ?_)
    · skip
      refine lv_iconst (v := nI 0) hx hb dd_M_isSerial_18 (by decide) ?_
      exact mr_ret hQ (mr_iret C0 hM hS (rfl) (⟨by first | rw [isi_n (fun q => q (Or.inl h2))] | rw [isi_n (fun q => q (Or.inr h10))] | rw [isi_y (fun q => q.elim h2 h10)], rfl⟩) dd_M_isSerial_19)
    · skip
      refine lv_iconst (v := nI 1) hx hb dd_M_isSerial_14 (by decide) ?_
      refine lv_goto (tgt := 19) hx hb dd_M_isSerial_15 rfl ?_
      exact mr_ret hQ (mr_iret C0 hM hS (rfl) (⟨by first | rw [isi_n (fun q => q (Or.inl h2))] | rw [isi_n (fun q => q (Or.inr h10))] | rw [isi_y (fun q => q.elim h2 h10)], rfl⟩) dd_M_isSerial_19)

set_option maxHeartbeats 4000000 in
set_option maxRecDepth 100000 in
theorem c_M_prime (l : Launch) {G : mg_} {M : mw_} {m0 kA wA psA ppA cA sA pA uA lA xA : Nat} {has pend now fac : Int32} {n1 n0 v1 v0 h1 h0 r1 r0 : Int64} {w0 : Nat → Int32} {sx : Int64} (h_m : M m0 = some (ob_ 6 [.ref kA, .ref wA, .int has, .long n1, .long n0, .long v1, .long v0, .int pend, .ref psA, .ref ppA, .int now, .ref cA, .ref sA, .ref pA, .ref uA, .ref lA, .long h1, .long h0, .int fac, .long r1, .long r0, .ref xA])) (h_kA : M kA = some (la_ G 32 mk_)) (h_wA : M wA = some (ia_ G 64 w0))   : ct_ l my_M_prime cd_M_prime 5 (some .int) { frames := 2, cells := 0, slots := 0, locals := 55 } G [.ref m0, .long sx] M (fun v0 M' => v0 = (some (.int (primeT_ sx))) ∧ ∃ (w : Nat → Int32), M' = mu_ M wA (ia_ G 64 w)) 0 0 := by
  refine ct_.intro2 (by decide) (Nat.le_of_ble_eq_true rfl) ?_
  intro p e s m args below meth c ls R Q hR hQ C0 hl hM hS
  have hx := C0.1
  have hb := C0.2.1
  have hl : lv_has ls 5 [(0, .ref m0), (1, .long sx)] := hl
  refine lv_iconst (v := nI 0) hx hb dd_M_prime_0 (by decide) ?_
  refine lv_istore_n (lv' := [(3, .int (nI 0)), (0, .ref m0), (1, .long sx)]) hx hb dd_M_prime_1 rfl hl (by decide) rfl (fun ls hl => ?_)
  have loop_2 : ∀ (k : Nat) (ct : Nat) (w : Nat → Int32) (H : Heap) (locs : List Loc) (ls : Array Slot), ct + k = 256 → (is_ sx → pfT_ sx k ct = primeT_ sx) → mm_ G (mu_ M wA (ia_ G 64 w)) H → va_S (fz_ G) s.heap H locs → lv_has ls 5 [(0, .ref m0), (1, .long sx), (3, .int (nI ct))] → W p l e R s m args below meth c H locs 0 0 Q (F0 m 2 ls []) := by
    intro k
    induction k with
    | zero =>
      intro ct w H locs ls hi hF hM hS hl
      refine lv_iload_n hx hb dd_M_prime_2 rfl (lv_at hl 2 rfl) ?_
      refine lv_sipush (v := nI 256) hx hb dd_M_prime_3 (by decide) ?_
      refine lv_icmp_ge (tgt := 49) hx hb dd_M_prime_6 rfl (fun _ => ?_) (fun hc => absurd (le_nI (a := 256) (b := ct) (by omega) (by omega) (by omega)) hc)
      refine lv_bipush (v := (-2 : Int32)) hx hb dd_M_prime_49 (by decide) ?_
      exact mr_ret hQ (mr_iret C0 hM hS (rfl) (⟨by first | rw [primeT_b (Classical.byContradiction hns)] | (by_cases hq : is_ sx; rw [← hF hq]; rfl; rw [primeT_b (Classical.byContradiction hq)]), _, rfl⟩) dd_M_prime_51)
    | succ k ih =>
      intro ct w H locs ls hi hF hM hS hl
      have hxi := xn_in (hash_ sx (nI ct))
      refine lv_iload_n hx hb dd_M_prime_2 rfl (lv_at hl 2 rfl) ?_
      refine lv_sipush (v := nI 256) hx hb dd_M_prime_3 (by decide) ?_
      refine lv_icmp_ge (tgt := 49) hx hb dd_M_prime_6 rfl (fun hc => absurd hc (nle_nI (a := 256) (b := ct) (by omega) (by omega) (by omega))) (fun _ => ?_)
      refine lv_lload_n hx hb dd_M_prime_9 rfl (lv_at hl 1 rfl) ?_
      refine mr_callS (As := [.long sx]) (rest := []) C0 hM hS sk_M_124 (c_M_isSerial l) rfl rfl hl.1 (Nat.le_of_ble_eq_true rfl) rfl rfl (by subst hR; exact ⟨Nat.le_of_ble_eq_true rfl, Nat.le_of_ble_eq_true rfl⟩) (by subst hR; exact ⟨Nat.le_of_ble_eq_true rfl, Nat.le_of_ble_eq_true rfl⟩) dd_M_prime_10 (fun v1 M1 H locs hp hM hS => ?_)
      obtain ⟨ev1, eM1⟩ := hp
      subst ev1
      rw [eM1] at hM
      refine W.eq (g2 := F0 m 13 ls [.int (isi_ sx)]) rfl ?_
      refine lv_if_eq (tgt := 49) hx hb dd_M_prime_13 rfl (fun h13 => ?_) (fun h13 => ?_)
      · skip
        have hns : ¬ is_ sx := fun q => absurd ((isi_y q).symm.trans h13) (by decide)
        refine lv_bipush (v := (-2 : Int32)) hx hb dd_M_prime_49 (by decide) ?_
        exact mr_ret hQ (mr_iret C0 hM hS (rfl) (⟨by first | rw [primeT_b (Classical.byContradiction hns)] | (by_cases hq : is_ sx; rw [← hF hq]; rfl; rw [primeT_b (Classical.byContradiction hq)]), _, rfl⟩) dd_M_prime_51)
      · skip
        have hss : is_ sx := Classical.byContradiction (fun q => h13 (isi_n q))
        refine lv_aload_n hx hb dd_M_prime_16 rfl (lv_at hl 0 rfl) ?_
        refine lv_lload_n hx hb dd_M_prime_17 rfl (lv_at hl 1 rfl) ?_
        refine lv_iload_n hx hb dd_M_prime_18 rfl (lv_at hl 2 rfl) ?_
        refine mr_callV (As := [.long sx, .int (nI ct)]) (rest := []) C0 hM hS vk_M_128 (mu_n' (ne_k h_m h_wA (fun q => by cases q)) h_m) rfl (c_M_hash l (mu_n' (ne_k h_m h_wA (fun q => by cases q)) h_m) (mu_n' (Ne.symm (ne_il h_wA h_kA)) h_kA) mu_s  ) rfl rfl hl.1 (Nat.le_of_ble_eq_true rfl) rfl rfl (by subst hR; exact ⟨Nat.le_of_ble_eq_true rfl, Nat.le_of_ble_eq_true rfl⟩) (by subst hR; exact ⟨Nat.le_of_ble_eq_true rfl, Nat.le_of_ble_eq_true rfl⟩) dd_M_prime_19 (fun v1 M1 H locs hp hM hS => ?_)
        obtain ⟨ev1, w1, eM1⟩ := hp
        subst ev1
        rw [eM1] at hM
        have hM := mr_M mu_mu hM
        have hM : mm_ G (mu_ M wA (ia_ G 64 w1)) H := hM
        refine W.eq (g2 := F0 m 22 ls [.int (hash_ sx (nI ct))]) rfl ?_
        refine mr_ldc (v := (2147483647 : Int32)) C0 tw_586 dd_M_prime_22 ?_
        refine lv_iand hx hb dd_M_prime_24 ?_
        refine mr_ldc (v := (1073741824 : Int32)) C0 tw_587 dd_M_prime_25 ?_
        refine lv_ior hx hb dd_M_prime_27 ?_
        refine lv_iconst (v := nI 1) hx hb dd_M_prime_28 (by decide) ?_
        refine lv_ior hx hb dd_M_prime_29 ?_
        refine mr_vi (x' := nI (xn_ (hash_ sx (nI ct)))) (xn_m _) ?_
        refine lv_istore (lv' := [(4, .int (nI (xn_ (hash_ sx (nI ct))))), (0, .ref m0), (1, .long sx), (3, .int (nI ct))]) hx hb dd_M_prime_30 hl (by decide) rfl (fun ls hl => ?_)
        refine lv_iload hx hb dd_M_prime_32 (lv_at hl 0 rfl) ?_
        refine mr_callS (As := [.int (nI (xn_ (hash_ sx (nI ct))))]) (rest := []) C0 hM hS sk_M_134 (c_M_isPrime l (n0 := (xn_ (hash_ sx (nI ct)))) hxi.2.1) rfl rfl hl.1 (Nat.le_of_ble_eq_true rfl) rfl rfl (by subst hR; exact ⟨Nat.le_of_ble_eq_true rfl, Nat.le_of_ble_eq_true rfl⟩) (by subst hR; exact ⟨Nat.le_of_ble_eq_true rfl, Nat.le_of_ble_eq_true rfl⟩) dd_M_prime_34 (fun v1 M1 H locs hp hM hS => ?_)
        obtain ⟨ev1, eM1⟩ := hp
        subst ev1
        rw [eM1] at hM
        refine W.eq (g2 := F0 m 37 ls [.int (td_ (xn_ (hash_ sx (nI ct))))]) rfl ?_
        refine lv_if_eq (tgt := 43) hx hb dd_M_prime_37 rfl (fun h37 => ?_) (fun h37 => ?_)
        · skip
          have hnp : ¬ TD_ (xn_ (hash_ sx (nI ct))) := fun q => absurd ((td_y q).symm.trans h37) (by decide)
          refine lv_iinc (k := 3) (v := nI (ct + 1)) (lv' := [(3, .int (nI (ct + 1))), (4, .int (nI (xn_ (hash_ sx (nI ct))))), (0, .ref m0), (1, .long sx)]) hx hb dd_M_prime_43 hl rfl (inc_ ct) (by decide) rfl (fun ls hl => ?_)
          refine lv_goto (tgt := 2) hx hb dd_M_prime_46 rfl ?_
          exact ih (ct + 1) _ _ _ _ (by omega) (fun q => (pfT_n hnp).symm.trans (hF q)) hM hS (lv_sub hl [2, 3, 0] rfl)
        · skip
          have hpp : TD_ (xn_ (hash_ sx (nI ct))) := Classical.byContradiction (fun q => h37 (td_n q))
          refine lv_iload hx hb dd_M_prime_40 (lv_at hl 0 rfl) ?_
          exact mr_ret hQ (mr_iret C0 hM hS (rfl) (⟨by rw [← hF hss, pfT_y hpp], _, rfl⟩) dd_M_prime_42)
  have hM := mr_M (mu_id h_wA).symm hM
  exact loop_2 256 0 _ _ _ _ (rfl) (fun q => (primeT_g q).symm) hM hS (lv_sub hl [1, 2, 0] rfl)
