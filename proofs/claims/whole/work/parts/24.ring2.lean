
theorem mw_lt {N : Nat} (hN : N < 4294967296 ^ 4) {T m : Nat} (hT : T < 4294967296 ^ 5 + 4294967296 ^ 5) (hm : m < 4294967296) : T + N * m < 4294967296 ^ 6 := by
  have h : N * m ≤ 4294967296 ^ 4 * 4294967296 := Nat.mul_le_mul (Nat.le_of_lt hN) (Nat.le_of_lt hm)
  have h2 : (4294967296 : Nat) ^ 4 * 4294967296 = 4294967296 ^ 5 := rfl
  have h3 : (4294967296 : Nat) ^ 5 + 4294967296 ^ 5 + 4294967296 ^ 5 ≤ 4294967296 ^ 6 := by decide
  omega
theorem nz4 {N : Nat} (hN : N < 4294967296 ^ 4) : dg_ N 4 = 0 := db_big (by decide) hN (Nat.le_refl _)
theorem t5_lt {T N : Nat} (hN : N < 4294967296 ^ 4) (hT : T < 2 * N) : T < 4294967296 ^ 5 := by
  have h3 : (4294967296 : Nat) ^ 4 + 4294967296 ^ 4 ≤ 4294967296 ^ 5 := by decide
  omega
theorem dg_4 {T : Nat} (h : T < 4294967296 ^ 5) : dg_ T 4 = T / 4294967296 ^ 4 := db_last (n := 4) (by decide) h
theorem dg_5 {T : Nat} (h : T < 4294967296 ^ 6) : dg_ T 5 = T / 4294967296 ^ 5 := db_last (n := 5) (by decide) h
theorem m2_lt {a b : Nat} (ha : a < 4294967296) (hb : b < 4294967296) : a * b < 18446744073709551616 := by
  have h : a * b ≤ 4294967295 * 4294967295 := Nat.mul_le_mul (by omega) (by omega)
  omega
theorem red4 {T N : Nat} (hN : N < 4294967296 ^ 4) (hT : T < 2 * N) : (if dg_ T 4 < bo_ 4294967296 T N 4 then T else (T % 4294967296 ^ 4 + 4294967296 ^ 4 - N) % 4294967296 ^ 4) = T % N := by
  rw [dg_4 (t5_lt hN hT), bo_, Nat.mod_eq_of_lt hN]
  exact red_val hN hT

set_option maxHeartbeats 4000000 in
set_option maxRecDepth 100000 in
theorem c_R_addProduct (l : Launch) {G : mg_} {M : mw_} {r th td un mn mo mq tt dd bb rr : Nat} {ni : Int64} {x T X lb : Nat} {f : Nat → Int64} (h_r : M r = some (ob_ 2 [.ref th, .ref td, .ref un, .ref mn, .ref mo, .ref mq, .ref tt, .ref dd, .ref bb, .ref rr, .long ni])) (h_tt : M tt = some (la_ G 6 f)) (h_x : M x = some (la_ G 4 (nl_ X))) (ne_x_tt : x ≠ tt) (hf : ∀ j, j < 5 → f j = lN (dg_ T j)) (hT : T < 4294967296 ^ 5) (hX : X < 4294967296 ^ 4) (hl0 : lb < 4294967296) : dt_ l my_R_addProduct cd_R_addProduct 9 none { frames := 0, cells := 0, slots := 0, locals := 0 } G [.ref r, .ref x, .long (lN lb)] M none (mu_ M tt (la_ G 6 (nl_ (T + X * lb)))) 0 0 := by
  refine ct_.intro2 (by decide) (Nat.le_of_ble_eq_true rfl) ?_
  intro p e s m args below meth c ls R Q hR hQ C0 hl hM hS
  have hx := C0.1
  have hb := C0.2.1
  have hl : lv_has ls 9 [(0, .ref r), (1, .ref x), (2, .long (lN lb))] := hl
  have hW4 : (T + X * lb) / 4294967296 ^ 4 < 18446744073709551616 := w64 (ap_lt hT hX hl0)
  refine lv_lconst (v := lN 0) hx hb dd_R_addProduct_0 rfl ?_
  refine lv_lstore (lv' := [(4, .long (lN 0)), (0, .ref r), (1, .ref x), (2, .long (lN lb))]) hx hb dd_R_addProduct_1 hl (by decide) rfl (fun ls hl => ?_)
  refine lv_iconst (v := nI 0) hx hb dd_R_addProduct_3 (by decide) ?_
  refine lv_istore (lv' := [(6, .int (nI 0)), (4, .long (lN 0)), (0, .ref r), (1, .ref x), (2, .long (lN lb))]) hx hb dd_R_addProduct_4 hl (by decide) rfl (fun ls hl => ?_)
  have loop_6 : ∀ (k : Nat) (i : Nat) (H : Heap) (locs : List Loc) (ls : Array Slot), i + k = 4 → mm_ G (mu_ M tt (la_ G 6 (nu_ f (T + X * lb) i))) H → va_S (fz_ G) s.heap H locs → lv_has ls 9 [(0, .ref r), (1, .ref x), (2, .long (lN lb)), (4, .long (lN (ca_ 4294967296 T X lb i))), (6, .int (nI i))] → W p l e R s m args below meth c H locs 0 0 Q (F0 m 6 ls []) := by
    intro k
    induction k with
    | zero =>
      intro i H locs ls hi hM hS hl
      refine lv_iload hx hb dd_R_addProduct_6 (lv_at hl 4 rfl) ?_
      refine lv_iconst (v := nI 4) hx hb dd_R_addProduct_8 (by decide) ?_
      refine lv_icmp_ge (tgt := 57) hx hb dd_R_addProduct_9 rfl (fun _ => ?_) (fun hc => absurd (le_nI (a := 4) (b := i) (by omega) (by omega) (by omega)) hc)
      refine lv_aload_n hx hb dd_R_addProduct_57 rfl (lv_at hl 0 rfl) ?_
      refine mr_get C0 hM fk_R_30 (mu_n' (ne_k h_r h_tt (fun q => by cases q)) h_r) (v := .ref tt) rfl dd_R_addProduct_58 ?_
      refine lv_iconst (v := nI 4) hx hb dd_R_addProduct_61 (by decide) ?_
      refine mr_lald C0 hM mu_s (4) (rfl) (by omega) (by decide) dd_R_addProduct_62 ?_
      refine lv_lload hx hb dd_R_addProduct_63 (lv_at hl 3 rfl) ?_
      refine lv_ladd hx hb dd_R_addProduct_65 ?_
      refine mr_vl (x' := lN ((T + X * lb) / 4294967296 ^ 4)) (by rw [nu_a (by omega), hf 4 (by omega), show i = 4 from by omega, lN_add, ca_top (by decide) hX hT]) ?_
      refine lv_lstore (lv' := [(6, .long (lN ((T + X * lb) / 4294967296 ^ 4))), (0, .ref r), (1, .ref x), (2, .long (lN lb)), (4, .long (lN (ca_ 4294967296 T X lb i)))]) hx hb dd_R_addProduct_66 hl (by decide) rfl (fun ls hl => ?_)
      refine lv_aload_n hx hb dd_R_addProduct_68 rfl (lv_at hl 1 rfl) ?_
      refine mr_get C0 hM fk_R_30 (mu_n' (ne_k h_r h_tt (fun q => by cases q)) h_r) (v := .ref tt) rfl dd_R_addProduct_69 ?_
      refine lv_iconst (v := nI 4) hx hb dd_R_addProduct_72 (by decide) ?_
      refine lv_lload hx hb dd_R_addProduct_73 (lv_at hl 0 rfl) ?_
      refine mr_ldc2 (v := lN 4294967295) C0 tw_163 dd_R_addProduct_75 ?_
      refine lv_land hx hb dd_R_addProduct_78 ?_
      refine mr_vl (x' := lN (dg_ (T + X * lb) 4)) (lm_ hW4) ?_
      refine mr_last C0 hM hS mu_s (4) (rfl) (by omega) (by decide) dd_R_addProduct_79 (fun H locs hM hS => ?_)
      have hM := mr_M mu_mu hM
      have hM := mr_M (congrArg (fun z__ => mu_ M tt (la_ G 6 z__)) (show (vp_updL (nu_ f (T + X * lb) i) 4 (lN (dg_ (T + X * lb) 4)) : Nat → Int64) = (nu_ f (T + X * lb) 5) from by rw [show i = 4 from by omega]; exact nu_s f (T + X * lb) 4)) hM
      have hM : mm_ G (mu_ M tt (la_ G 6 (nu_ f (T + X * lb) 5))) H := hM
      refine lv_aload_n hx hb dd_R_addProduct_80 rfl (lv_at hl 1 rfl) ?_
      refine mr_get C0 hM fk_R_30 (mu_n' (ne_k h_r h_tt (fun q => by cases q)) h_r) (v := .ref tt) rfl dd_R_addProduct_81 ?_
      refine lv_iconst (v := nI 5) hx hb dd_R_addProduct_84 (by decide) ?_
      refine lv_lload hx hb dd_R_addProduct_85 (lv_at hl 0 rfl) ?_
      refine lv_bipush (v := nI 32) hx hb dd_R_addProduct_87 (by decide) ?_
      refine lv_lushr (v := lN (dg_ (T + X * lb) 5)) hx hb dd_R_addProduct_89 ((lh_ hW4).trans (congrArg lN (by rw [dg_5 (ap_lt hT hX hl0), Nat.div_div_eq_div_mul, ← Nat.pow_succ]))) ?_
      refine mr_last C0 hM hS mu_s (5) (rfl) (by omega) (by decide) dd_R_addProduct_90 (fun H locs hM hS => ?_)
      have hM := mr_M mu_mu hM
      have hM := mr_M (congrArg (fun z__ => mu_ M tt (la_ G 6 z__)) (show (vp_updL (nu_ f (T + X * lb) 5) 5 (lN (dg_ (T + X * lb) 5)) : Nat → Int64) = (nu_ f (T + X * lb) 6) from nu_s f (T + X * lb) 5)) hM
      have hM : mm_ G (mu_ M tt (la_ G 6 (nu_ f (T + X * lb) 6))) H := hM
      have hM := mr_lext (g := nl_ (T + X * lb)) (fun j hj => nu_b hj) hM
      exact mr_ret hQ (mr_vret C0 hM hS (⟨rfl, rfl⟩) dd_R_addProduct_91)
    | succ k ih =>
      intro i H locs ls hi hM hS hl
      have h64 : dg_ T i + dg_ X i * lb + ca_ 4294967296 T X lb i < 18446744073709551616 := s3_lt (db_lt (by decide)) (db_lt (by decide)) hl0 (ca_le (by decide) T X lb i)
      refine lv_iload hx hb dd_R_addProduct_6 (lv_at hl 4 rfl) ?_
      refine lv_iconst (v := nI 4) hx hb dd_R_addProduct_8 (by decide) ?_
      refine lv_icmp_ge (tgt := 57) hx hb dd_R_addProduct_9 rfl (fun hc => absurd hc (nle_nI (a := 4) (b := i) (by omega) (by omega) (by omega))) (fun _ => ?_)
      refine lv_aload_n hx hb dd_R_addProduct_12 rfl (lv_at hl 0 rfl) ?_
      refine mr_get C0 hM fk_R_30 (mu_n' (ne_k h_r h_tt (fun q => by cases q)) h_r) (v := .ref tt) rfl dd_R_addProduct_13 ?_
      refine lv_iload hx hb dd_R_addProduct_16 (lv_at hl 4 rfl) ?_
      refine mr_lald C0 hM mu_s (i) (rfl) (by omega) (by decide) dd_R_addProduct_18 ?_
      refine lv_aload_n hx hb dd_R_addProduct_19 rfl (lv_at hl 1 rfl) ?_
      refine lv_iload hx hb dd_R_addProduct_20 (lv_at hl 4 rfl) ?_
      refine mr_lald C0 hM (mu_n' ne_x_tt h_x) (i) (rfl) (by omega) (by decide) dd_R_addProduct_22 ?_
      refine lv_lload_n hx hb dd_R_addProduct_23 rfl (lv_at hl 2 rfl) ?_
      refine lv_lmul hx hb dd_R_addProduct_24 ?_
      refine mr_vl (x' := lN (dg_ X i * lb)) (lN_mul _ _) ?_
      refine lv_ladd hx hb dd_R_addProduct_25 ?_
      refine mr_vl (x' := lN (dg_ T i + dg_ X i * lb)) ((congrArg (· + lN (dg_ X i * lb)) ((nu_at f (T + X * lb) i).trans (hf i (by omega)))).trans (lN_add _ _)) ?_
      refine lv_lload hx hb dd_R_addProduct_26 (lv_at hl 3 rfl) ?_
      refine lv_ladd hx hb dd_R_addProduct_28 ?_
      refine mr_vl (x' := lN (dg_ T i + dg_ X i * lb + ca_ 4294967296 T X lb i)) (lN_add _ _) ?_
      refine lv_lstore (lv' := [(7, .long (lN (dg_ T i + dg_ X i * lb + ca_ 4294967296 T X lb i))), (0, .ref r), (1, .ref x), (2, .long (lN lb)), (4, .long (lN (ca_ 4294967296 T X lb i))), (6, .int (nI i))]) hx hb dd_R_addProduct_29 hl (by decide) rfl (fun ls hl => ?_)
      refine lv_aload_n hx hb dd_R_addProduct_31 rfl (lv_at hl 1 rfl) ?_
      refine mr_get C0 hM fk_R_30 (mu_n' (ne_k h_r h_tt (fun q => by cases q)) h_r) (v := .ref tt) rfl dd_R_addProduct_32 ?_
      refine lv_iload hx hb dd_R_addProduct_35 (lv_at hl 5 rfl) ?_
      refine lv_lload hx hb dd_R_addProduct_37 (lv_at hl 0 rfl) ?_
      refine mr_ldc2 (v := lN 4294967295) C0 tw_163 dd_R_addProduct_39 ?_
      refine lv_land hx hb dd_R_addProduct_42 ?_
      refine mr_vl (x' := lN (dg_ (T + X * lb) i)) ((lm_ h64).trans (congrArg lN (by rw [ca_step (by decide), ca_dig]))) ?_
      refine mr_last C0 hM hS mu_s (i) (rfl) (by omega) (by decide) dd_R_addProduct_43 (fun H locs hM hS => ?_)
      have hM := mr_M mu_mu hM
      have hM := mr_M (congrArg (fun z__ => mu_ M tt (la_ G 6 z__)) (show (vp_updL (nu_ f (T + X * lb) i) i (lN (dg_ (T + X * lb) i)) : Nat → Int64) = (nu_ f (T + X * lb) (i + 1)) from nu_s f (T + X * lb) i)) hM
      have hM : mm_ G (mu_ M tt (la_ G 6 (nu_ f (T + X * lb) (i + 1)))) H := hM
      refine lv_lload hx hb dd_R_addProduct_44 (lv_at hl 0 rfl) ?_
      refine lv_bipush (v := nI 32) hx hb dd_R_addProduct_46 (by decide) ?_
      refine lv_lushr (v := lN (ca_ 4294967296 T X lb (i + 1))) hx hb dd_R_addProduct_48 ((lh_ h64).trans (congrArg lN (by rw [ca_step (by decide), ca_next]))) ?_
      refine lv_lstore (lv' := [(4, .long (lN (ca_ 4294967296 T X lb (i + 1)))), (7, .long (lN (dg_ T i + dg_ X i * lb + ca_ 4294967296 T X lb i))), (0, .ref r), (1, .ref x), (2, .long (lN lb)), (6, .int (nI i))]) hx hb dd_R_addProduct_49 hl (by decide) rfl (fun ls hl => ?_)
      refine lv_iinc (k := 5) (v := nI (i + 1)) (lv' := [(6, .int (nI (i + 1))), (4, .long (lN (ca_ 4294967296 T X lb (i + 1)))), (7, .long (lN (dg_ T i + dg_ X i * lb + ca_ 4294967296 T X lb i))), (0, .ref r), (1, .ref x), (2, .long (lN lb))]) hx hb dd_R_addProduct_51 hl rfl (inc_ i) (by decide) rfl (fun ls hl => ?_)
      refine lv_goto (tgt := 6) hx hb dd_R_addProduct_54 rfl ?_
      exact ih _ _ _ _ (by omega) hM hS (lv_sub hl [3, 4, 5, 1, 0] rfl)
  have hM := mr_M (mu_id h_tt).symm hM
  have hM := mr_M (congrArg (fun z => mu_ M tt (la_ G 6 z)) (nu_0 f (T + X * lb))) hM
  exact loop_6 4 0 _ _ _ (rfl) hM hS (by rw [ca_0]; exact lv_sub hl [2, 3, 4, 1, 0] rfl)

set_option maxHeartbeats 4000000 in
set_option maxRecDepth 100000 in
theorem c_R_dropLowestLimb (l : Launch) {G : mg_} {M : mw_} {r th td un mn mo mq tt dd bb rr : Nat} {n1 T N mm : Nat} (h_r : M r = some (ob_ 2 [.ref th, .ref td, .ref un, .ref mn, .ref mo, .ref mq, .ref tt, .ref dd, .ref bb, .ref rr, .long (lN n1)])) (h_tt : M tt = some (la_ G 6 (nl_ T))) (h_mn : M mn = some (la_ G 4 (nl_ N))) (ne_mn_tt : mn ≠ tt) (hm : mm = mq_ T n1) (hT : T < 4294967296 ^ 5 + 4294967296 ^ 5) (hN : N < 4294967296 ^ 4) (hn1 : n1 < 4294967296) : dt_ l my_R_dropLowestLimb cd_R_dropLowestLimb 8 none { frames := 0, cells := 0, slots := 0, locals := 0 } G [.ref r] M none (mu_ M tt (la_ G 6 (ds_ T (T + N * mm) 6))) 0 0 := by
  refine ct_.intro2 (by decide) (Nat.le_of_ble_eq_true rfl) ?_
  intro p e s m args below meth c ls R Q hR hQ C0 hl hM hS
  have hx := C0.1
  have hb := C0.2.1
  have hl : lv_has ls 8 [(0, .ref r)] := hl
  have hmB : mm < 4294967296 := by rw [hm]; exact mq_lt
  have hT6 : T < 4294967296 ^ 6 := Nat.lt_trans hT (by decide)
  have hW6 : (T + N * mm) < 4294967296 ^ 6 := mw_lt hN hT hmB
  have h640 : dg_ T 0 + dg_ N 0 * mm < 18446744073709551616 := s3_lt (c := 0) (db_lt (by decide)) (db_lt (by decide)) hmB (Nat.zero_le _)
  have h644 : dg_ T 4 + ca_ 4294967296 T N mm 4 < 18446744073709551616 := by
    have h1 : dg_ T 4 < 4294967296 := db_lt (by decide)
    have h2 := ca_le (b := 4294967296) (by decide) T N mm 4
    omega
  have e4 : dg_ T 4 + ca_ 4294967296 T N mm 4 = (T % 4294967296 ^ 5 + N % 4294967296 ^ 5 * mm) / 4294967296 ^ 4 := by
    rw [← ca_step (b := 4294967296) (by decide) T N mm 4]
    have h1 : db_ 4294967296 N 4 = 0 := nz4 hN
    rw [h1, Nat.zero_mul, Nat.add_zero]
  refine lv_aload_n hx hb dd_R_dropLowestLimb_0 rfl (lv_at hl 0 rfl) ?_
  refine mr_get C0 hM fk_R_30 h_r (v := .ref tt) rfl dd_R_dropLowestLimb_1 ?_
  refine lv_iconst (v := nI 0) hx hb dd_R_dropLowestLimb_4 (by decide) ?_
  refine mr_lald C0 hM h_tt (0) (rfl) (by omega) (by decide) dd_R_dropLowestLimb_5 ?_
  refine lv_aload_n hx hb dd_R_dropLowestLimb_6 rfl (lv_at hl 0 rfl) ?_
  refine mr_get C0 hM fk_R_92 h_r (v := .long (lN n1)) rfl dd_R_dropLowestLimb_7 ?_
  refine lv_lmul hx hb dd_R_dropLowestLimb_10 ?_
  refine mr_vl (x' := lN (dg_ T 0 * n1)) (lN_mul _ _) ?_
  refine mr_ldc2 (v := lN 4294967295) C0 tw_163 dd_R_dropLowestLimb_11 ?_
  refine lv_land hx hb dd_R_dropLowestLimb_14 ?_
  refine mr_vl (x' := lN mm) ((lm_ (a := dg_ T 0 * n1) (m2_lt (db_lt (by decide)) hn1)).trans (congrArg lN (by rw [hm, mq_, dg_0]))) ?_
  refine lv_lstore_n (lv' := [(1, .long (lN mm)), (0, .ref r)]) hx hb dd_R_dropLowestLimb_15 rfl hl (by decide) rfl (fun ls hl => ?_)
  refine lv_aload_n hx hb dd_R_dropLowestLimb_16 rfl (lv_at hl 1 rfl) ?_
  refine mr_get C0 hM fk_R_30 h_r (v := .ref tt) rfl dd_R_dropLowestLimb_17 ?_
  refine lv_iconst (v := nI 0) hx hb dd_R_dropLowestLimb_20 (by decide) ?_
  refine mr_lald C0 hM h_tt (0) (rfl) (by omega) (by decide) dd_R_dropLowestLimb_21 ?_
  refine lv_lload_n hx hb dd_R_dropLowestLimb_22 rfl (lv_at hl 0 rfl) ?_
  refine lv_aload_n hx hb dd_R_dropLowestLimb_23 rfl (lv_at hl 1 rfl) ?_
  refine mr_get C0 hM fk_R_21 h_r (v := .ref mn) rfl dd_R_dropLowestLimb_24 ?_
  refine lv_iconst (v := nI 0) hx hb dd_R_dropLowestLimb_27 (by decide) ?_
  refine mr_lald C0 hM h_mn (0) (rfl) (by omega) (by decide) dd_R_dropLowestLimb_28 ?_
  refine lv_lmul hx hb dd_R_dropLowestLimb_29 ?_
  refine mr_vl (x' := lN (dg_ N 0 * mm)) ((lN_mul _ _).trans (congrArg lN (Nat.mul_comm _ _))) ?_
  refine lv_ladd hx hb dd_R_dropLowestLimb_30 ?_
  refine mr_vl (x' := lN (dg_ T 0 + dg_ N 0 * mm)) (lN_add _ _) ?_
  refine lv_bipush (v := nI 32) hx hb dd_R_dropLowestLimb_31 (by decide) ?_
  refine lv_lushr (v := lN (ca_ 4294967296 T N mm 1)) hx hb dd_R_dropLowestLimb_33 ((lh_ h640).trans (congrArg lN (by have h := ca_step (b := 4294967296) (by decide) T N mm 0; rw [ca_0, Nat.add_zero] at h; rw [h, ca_next]))) ?_
  refine lv_lstore_n (lv' := [(3, .long (lN (ca_ 4294967296 T N mm 1))), (1, .long (lN mm)), (0, .ref r)]) hx hb dd_R_dropLowestLimb_34 rfl hl (by decide) rfl (fun ls hl => ?_)
  refine lv_iconst (v := nI 1) hx hb dd_R_dropLowestLimb_35 (by decide) ?_
  refine lv_istore (lv' := [(5, .int (nI 1)), (3, .long (lN (ca_ 4294967296 T N mm 1))), (1, .long (lN mm)), (0, .ref r)]) hx hb dd_R_dropLowestLimb_36 hl (by decide) rfl (fun ls hl => ?_)
  have loop_38 : ∀ (k : Nat) (i : Nat) (H : Heap) (locs : List Loc) (ls : Array Slot), i + k = 4 → 0 < i → mm_ G (mu_ M tt (la_ G 6 (ds_ T (T + N * mm) i))) H → va_S (fz_ G) s.heap H locs → lv_has ls 8 [(0, .ref r), (1, .long (lN mm)), (3, .long (lN (ca_ 4294967296 T N mm i))), (5, .int (nI i))] → W p l e R s m args below meth c H locs 0 0 Q (F0 m 38 ls []) := by
    intro k
    induction k with
    | zero =>
      intro i H locs ls hi hi1 hM hS hl
      refine lv_iload hx hb dd_R_dropLowestLimb_38 (lv_at hl 3 rfl) ?_
      refine lv_iconst (v := nI 4) hx hb dd_R_dropLowestLimb_40 (by decide) ?_
      refine lv_icmp_ge (tgt := 92) hx hb dd_R_dropLowestLimb_41 rfl (fun _ => ?_) (fun hc => absurd (le_nI (a := 4) (b := i) (by omega) (by omega) (by omega)) hc)
      refine lv_aload_n hx hb dd_R_dropLowestLimb_92 rfl (lv_at hl 0 rfl) ?_
      refine mr_get C0 hM fk_R_30 (mu_n' (ne_k h_r h_tt (fun q => by cases q)) h_r) (v := .ref tt) rfl dd_R_dropLowestLimb_93 ?_
      refine lv_iconst (v := nI 4) hx hb dd_R_dropLowestLimb_96 (by decide) ?_
      refine mr_lald C0 hM mu_s (4) (rfl) (by omega) (by decide) dd_R_dropLowestLimb_97 ?_
      refine lv_lload_n hx hb dd_R_dropLowestLimb_98 rfl (lv_at hl 2 rfl) ?_
      refine lv_ladd hx hb dd_R_dropLowestLimb_99 ?_
      refine mr_vl (x' := lN (dg_ T 4 + ca_ 4294967296 T N mm 4)) (by rw [ds_a (by omega), show i = 4 from by omega, lN_add]) ?_
      refine lv_lstore (lv' := [(5, .long (lN (dg_ T 4 + ca_ 4294967296 T N mm 4))), (0, .ref r), (1, .long (lN mm)), (3, .long (lN (ca_ 4294967296 T N mm i)))]) hx hb dd_R_dropLowestLimb_100 hl (by decide) rfl (fun ls hl => ?_)
      refine lv_aload_n hx hb dd_R_dropLowestLimb_102 rfl (lv_at hl 1 rfl) ?_
      refine mr_get C0 hM fk_R_30 (mu_n' (ne_k h_r h_tt (fun q => by cases q)) h_r) (v := .ref tt) rfl dd_R_dropLowestLimb_103 ?_
      refine lv_iconst (v := nI 3) hx hb dd_R_dropLowestLimb_106 (by decide) ?_
      refine lv_lload hx hb dd_R_dropLowestLimb_107 (lv_at hl 0 rfl) ?_
      refine mr_ldc2 (v := lN 4294967295) C0 tw_163 dd_R_dropLowestLimb_109 ?_
      refine lv_land hx hb dd_R_dropLowestLimb_112 ?_
      refine mr_vl (x' := lN (dg_ (T + N * mm) 4)) ((lm_ h644).trans (congrArg lN (by rw [e4, ca_dig]))) ?_
      refine mr_last C0 hM hS mu_s (3) (rfl) (by omega) (by decide) dd_R_dropLowestLimb_113 (fun H locs hM hS => ?_)
      have hM := mr_M mu_mu hM
      have hM := mr_M (congrArg (fun z__ => mu_ M tt (la_ G 6 z__)) (show (vp_updL (ds_ T (T + N * mm) i) 3 (lN (dg_ (T + N * mm) 4)) : Nat → Int64) = (ds_ T (T + N * mm) 5) from by rw [show i = 4 from by omega]; exact ds_s (j := 4) (by decide))) hM
      have hM : mm_ G (mu_ M tt (la_ G 6 (ds_ T (T + N * mm) 5))) H := hM
      refine lv_aload_n hx hb dd_R_dropLowestLimb_114 rfl (lv_at hl 1 rfl) ?_
      refine mr_get C0 hM fk_R_30 (mu_n' (ne_k h_r h_tt (fun q => by cases q)) h_r) (v := .ref tt) rfl dd_R_dropLowestLimb_115 ?_
      refine lv_iconst (v := nI 4) hx hb dd_R_dropLowestLimb_118 (by decide) ?_
      refine lv_aload_n hx hb dd_R_dropLowestLimb_119 rfl (lv_at hl 1 rfl) ?_
      refine mr_get C0 hM fk_R_30 (mu_n' (ne_k h_r h_tt (fun q => by cases q)) h_r) (v := .ref tt) rfl dd_R_dropLowestLimb_120 ?_
      refine lv_iconst (v := nI 5) hx hb dd_R_dropLowestLimb_123 (by decide) ?_
      refine mr_lald C0 hM mu_s (5) (rfl) (by omega) (by decide) dd_R_dropLowestLimb_124 ?_
      refine lv_lload hx hb dd_R_dropLowestLimb_125 (lv_at hl 0 rfl) ?_
      refine lv_bipush (v := nI 32) hx hb dd_R_dropLowestLimb_127 (by decide) ?_
      refine lv_lushr (v := lN (ca_ 4294967296 T N mm 5)) hx hb dd_R_dropLowestLimb_129 ((lh_ h644).trans (congrArg lN (by rw [e4, ca_next]))) ?_
      refine lv_ladd hx hb dd_R_dropLowestLimb_130 ?_
      refine mr_vl (x' := lN (dg_ (T + N * mm) 5)) (by rw [ds_a (by omega), lN_add, ca_top (by decide) (Nat.lt_trans hN (by decide)) hT6, dg_5 hW6]) ?_
      refine mr_last C0 hM hS mu_s (4) (rfl) (by omega) (by decide) dd_R_dropLowestLimb_131 (fun H locs hM hS => ?_)
      have hM := mr_M mu_mu hM
      have hM := mr_M (congrArg (fun z__ => mu_ M tt (la_ G 6 z__)) (show (vp_updL (ds_ T (T + N * mm) 5) 4 (lN (dg_ (T + N * mm) 5)) : Nat → Int64) = (ds_ T (T + N * mm) 6) from ds_s (j := 5) (by decide))) hM
      have hM : mm_ G (mu_ M tt (la_ G 6 (ds_ T (T + N * mm) 6))) H := hM
      exact mr_ret hQ (mr_vret C0 hM hS (⟨rfl, rfl⟩) dd_R_dropLowestLimb_132)
    | succ k ih =>
      intro i H locs ls hi hi1 hM hS hl
      have h64 : dg_ T i + dg_ N i * mm + ca_ 4294967296 T N mm i < 18446744073709551616 := s3_lt (db_lt (by decide)) (db_lt (by decide)) hmB (ca_le (by decide) T N mm i)
      refine lv_iload hx hb dd_R_dropLowestLimb_38 (lv_at hl 3 rfl) ?_
      refine lv_iconst (v := nI 4) hx hb dd_R_dropLowestLimb_40 (by decide) ?_
      refine lv_icmp_ge (tgt := 92) hx hb dd_R_dropLowestLimb_41 rfl (fun hc => absurd hc (nle_nI (a := 4) (b := i) (by omega) (by omega) (by omega))) (fun _ => ?_)
      refine lv_aload_n hx hb dd_R_dropLowestLimb_44 rfl (lv_at hl 0 rfl) ?_
      refine mr_get C0 hM fk_R_30 (mu_n' (ne_k h_r h_tt (fun q => by cases q)) h_r) (v := .ref tt) rfl dd_R_dropLowestLimb_45 ?_
      refine lv_iload hx hb dd_R_dropLowestLimb_48 (lv_at hl 3 rfl) ?_
      refine mr_lald C0 hM mu_s (i) (rfl) (by omega) (by decide) dd_R_dropLowestLimb_50 ?_
      refine lv_lload_n hx hb dd_R_dropLowestLimb_51 rfl (lv_at hl 1 rfl) ?_
      refine lv_aload_n hx hb dd_R_dropLowestLimb_52 rfl (lv_at hl 0 rfl) ?_
      refine mr_get C0 hM fk_R_21 (mu_n' (ne_k h_r h_tt (fun q => by cases q)) h_r) (v := .ref mn) rfl dd_R_dropLowestLimb_53 ?_
      refine lv_iload hx hb dd_R_dropLowestLimb_56 (lv_at hl 3 rfl) ?_
      refine mr_lald C0 hM (mu_n' ne_mn_tt h_mn) (i) (rfl) (by omega) (by decide) dd_R_dropLowestLimb_58 ?_
      refine lv_lmul hx hb dd_R_dropLowestLimb_59 ?_
      refine mr_vl (x' := lN (dg_ N i * mm)) ((lN_mul _ _).trans (congrArg lN (Nat.mul_comm _ _))) ?_
      refine lv_ladd hx hb dd_R_dropLowestLimb_60 ?_
      refine mr_vl (x' := lN (dg_ T i + dg_ N i * mm)) ((congrArg (· + lN (dg_ N i * mm)) ds_at).trans (lN_add _ _)) ?_
      refine lv_lload_n hx hb dd_R_dropLowestLimb_61 rfl (lv_at hl 2 rfl) ?_
      refine lv_ladd hx hb dd_R_dropLowestLimb_62 ?_
      refine mr_vl (x' := lN (dg_ T i + dg_ N i * mm + ca_ 4294967296 T N mm i)) (lN_add _ _) ?_
      refine lv_lstore (lv' := [(6, .long (lN (dg_ T i + dg_ N i * mm + ca_ 4294967296 T N mm i))), (0, .ref r), (1, .long (lN mm)), (3, .long (lN (ca_ 4294967296 T N mm i))), (5, .int (nI i))]) hx hb dd_R_dropLowestLimb_63 hl (by decide) rfl (fun ls hl => ?_)
      refine lv_aload_n hx hb dd_R_dropLowestLimb_65 rfl (lv_at hl 1 rfl) ?_
      refine mr_get C0 hM fk_R_30 (mu_n' (ne_k h_r h_tt (fun q => by cases q)) h_r) (v := .ref tt) rfl dd_R_dropLowestLimb_66 ?_
      refine lv_iload hx hb dd_R_dropLowestLimb_69 (lv_at hl 4 rfl) ?_
      refine lv_iconst (v := nI 1) hx hb dd_R_dropLowestLimb_71 (by decide) ?_
      refine lv_isub hx hb dd_R_dropLowestLimb_72 ?_
      refine mr_vi (pk_sub (a := i) (b := 1) (by omega)) ?_
      refine lv_lload hx hb dd_R_dropLowestLimb_73 (lv_at hl 0 rfl) ?_
      refine mr_ldc2 (v := lN 4294967295) C0 tw_163 dd_R_dropLowestLimb_75 ?_
      refine lv_land hx hb dd_R_dropLowestLimb_78 ?_
      refine mr_vl (x' := lN (dg_ (T + N * mm) i)) ((lm_ h64).trans (congrArg lN (by rw [ca_step (by decide), ca_dig]))) ?_
      refine mr_last C0 hM hS mu_s ((i - 1)) (rfl) (by omega) (by decide) dd_R_dropLowestLimb_79 (fun H locs hM hS => ?_)
      have hM := mr_M mu_mu hM
      have hM := mr_M (congrArg (fun z__ => mu_ M tt (la_ G 6 z__)) (show (vp_updL (ds_ T (T + N * mm) i) (i - 1) (lN (dg_ (T + N * mm) i)) : Nat → Int64) = (ds_ T (T + N * mm) (i + 1)) from ds_s hi1)) hM
      have hM : mm_ G (mu_ M tt (la_ G 6 (ds_ T (T + N * mm) (i + 1)))) H := hM
      refine lv_lload hx hb dd_R_dropLowestLimb_80 (lv_at hl 0 rfl) ?_
      refine lv_bipush (v := nI 32) hx hb dd_R_dropLowestLimb_82 (by decide) ?_
      refine lv_lushr (v := lN (ca_ 4294967296 T N mm (i + 1))) hx hb dd_R_dropLowestLimb_84 ((lh_ h64).trans (congrArg lN (by rw [ca_step (by decide), ca_next]))) ?_
      refine lv_lstore_n (lv' := [(3, .long (lN (ca_ 4294967296 T N mm (i + 1)))), (6, .long (lN (dg_ T i + dg_ N i * mm + ca_ 4294967296 T N mm i))), (0, .ref r), (1, .long (lN mm)), (5, .int (nI i))]) hx hb dd_R_dropLowestLimb_85 rfl hl (by decide) rfl (fun ls hl => ?_)
      refine lv_iinc (k := 4) (v := nI (i + 1)) (lv' := [(5, .int (nI (i + 1))), (3, .long (lN (ca_ 4294967296 T N mm (i + 1)))), (6, .long (lN (dg_ T i + dg_ N i * mm + ca_ 4294967296 T N mm i))), (0, .ref r), (1, .long (lN mm))]) hx hb dd_R_dropLowestLimb_86 hl rfl (inc_ i) (by decide) rfl (fun ls hl => ?_)
      refine lv_goto (tgt := 38) hx hb dd_R_dropLowestLimb_89 rfl ?_
      exact ih _ _ _ _ (by omega) (by omega) hM hS (lv_sub hl [3, 4, 1, 0] rfl)
  have hM := mr_M (mu_id h_tt).symm hM
  have hM := mr_M (congrArg (fun z => mu_ M tt (la_ G 6 z)) (ds_1 T (T + N * mm))) hM
  exact loop_38 3 1 _ _ _ (rfl) (Nat.one_pos) hM hS (lv_sub hl [3, 2, 1, 0] rfl)

set_option maxHeartbeats 4000000 in
set_option maxRecDepth 100000 in
theorem c_R_reduceTotal (l : Launch) {G : mg_} {M : mw_} {r th td un mn mo mq tt dd bb rr : Nat} {ni : Int64} {out T N : Nat} {f d0 o0 : Nat → Int64} (h_r : M r = some (ob_ 2 [.ref th, .ref td, .ref un, .ref mn, .ref mo, .ref mq, .ref tt, .ref dd, .ref bb, .ref rr, .long ni])) (h_tt : M tt = some (la_ G 6 f)) (h_mn : M mn = some (la_ G 4 (nl_ N))) (h_dd : M dd = some (la_ G 4 d0)) (h_out : M out = some (la_ G 4 o0)) (ne_mn_dd : mn ≠ dd) (ne_out_dd : out ≠ dd) (ne_tt_dd : tt ≠ dd) (hf : ∀ j, j < 5 → f j = lN (dg_ T j)) (hT : T < 2 * N) (hN : N < 4294967296 ^ 4) : ct_ l my_R_reduceTotal cd_R_reduceTotal 7 none { frames := 1, cells := 0, slots := 0, locals := 35 } G [.ref r, .ref out] M (fun v0 M' => v0 = none ∧ ∃ (d : Nat → Int64), M' = mu_ (mu_ M dd (la_ G 4 d)) out (la_ G 4 (nl_ (T % N)))) 0 0 := by
  refine ct_.intro2 (by decide) (Nat.le_of_ble_eq_true rfl) ?_
  intro p e s m args below meth c ls R Q hR hQ C0 hl hM hS
  have hx := C0.1
  have hb := C0.2.1
  have hl : lv_has ls 7 [(0, .ref r), (1, .ref out)] := hl
  refine lv_lconst (v := lN 0) hx hb dd_R_reduceTotal_0 rfl ?_
  refine lv_lstore_n (lv' := [(2, .long (lN 0)), (0, .ref r), (1, .ref out)]) hx hb dd_R_reduceTotal_1 rfl hl (by decide) rfl (fun ls hl => ?_)
  refine lv_iconst (v := nI 0) hx hb dd_R_reduceTotal_2 (by decide) ?_
  refine lv_istore (lv' := [(4, .int (nI 0)), (2, .long (lN 0)), (0, .ref r), (1, .ref out)]) hx hb dd_R_reduceTotal_3 hl (by decide) rfl (fun ls hl => ?_)
  have loop_5 : ∀ (k : Nat) (i : Nat) (H : Heap) (locs : List Loc) (ls : Array Slot), i + k = 4 → mm_ G (mu_ M dd (la_ G 4 (nu_ d0 (T % 4294967296 ^ 4 + 4294967296 ^ 4 - N) i))) H → va_S (fz_ G) s.heap H locs → lv_has ls 7 [(0, .ref r), (1, .ref out), (2, .long (lN (bo_ 4294967296 T N i))), (4, .int (nI i))] → W p l e R s m args below meth c H locs 0 0 Q (F0 m 5 ls []) := by
    intro k
    induction k with
    | zero =>
      intro i H locs ls hi hM hS hl
      refine lv_iload hx hb dd_R_reduceTotal_5 (lv_at hl 3 rfl) ?_
      refine lv_iconst (v := nI 4) hx hb dd_R_reduceTotal_7 (by decide) ?_
      refine lv_icmp_ge (tgt := 55) hx hb dd_R_reduceTotal_8 rfl (fun _ => ?_) (fun hc => absurd (le_nI (a := 4) (b := i) (by omega) (by omega) (by omega)) hc)
      refine lv_lload_n hx hb dd_R_reduceTotal_55 rfl (lv_at hl 2 rfl) ?_
      refine lv_aload_n hx hb dd_R_reduceTotal_56 rfl (lv_at hl 0 rfl) ?_
      refine mr_get C0 hM fk_R_30 (mu_n' (ne_k h_r h_dd (fun q => by cases q)) h_r) (v := .ref tt) rfl dd_R_reduceTotal_57 ?_
      refine lv_iconst (v := nI 4) hx hb dd_R_reduceTotal_60 (by decide) ?_
      refine mr_lald C0 hM (mu_n' ne_tt_dd h_tt) (4) (rfl) (by omega) (by decide) dd_R_reduceTotal_61 ?_
      refine mr_vl (x' := lN (dg_ T 4)) (hf 4 (by decide)) ?_
      have hi4 : i = 4 := by omega
      have hb4 : bo_ 4294967296 T N i ≤ 1 := bo_le _ _ _ _
      have hg4 : dg_ T 4 < 4294967296 := db_lt (by decide)
      refine mr_lif_le (tgt := 73) hx hb dd_R_reduceTotal_62 dd_R_reduceTotal_63 rfl (fun h62 => ?_) (fun h62 => ?_)
      · skip
        have hv : T % N = (T % 4294967296 ^ 4 + 4294967296 ^ 4 - N) % 4294967296 ^ 4 := by rw [← red4 hN hT, if_neg (Nat.not_lt.mpr (by rw [hi4] at h62; exact (pk_lLE (by rw [← hi4]; omega) (by omega)).mp h62))]
        refine lv_aload_n hx hb dd_R_reduceTotal_73 rfl (lv_at hl 0 rfl) ?_
        refine mr_get C0 hM fk_R_33 (mu_n' (ne_k h_r h_dd (fun q => by cases q)) h_r) (v := .ref dd) rfl dd_R_reduceTotal_74 ?_
        refine lv_iconst (v := nI 0) hx hb dd_R_reduceTotal_77 (by decide) ?_
        refine lv_aload_n hx hb dd_R_reduceTotal_78 rfl (lv_at hl 1 rfl) ?_
        refine lv_iconst (v := nI 0) hx hb dd_R_reduceTotal_79 (by decide) ?_
        refine lv_iconst (v := nI 4) hx hb dd_R_reduceTotal_80 (by decide) ?_
        refine mr_copyl C0 hl.1 tw_180 hM hS mu_s (mu_n' ne_out_dd h_out) (0) (0) (4) rfl rfl rfl (by decide) (by decide) (by decide) (by decide) (by subst hR; decide) (by subst hR; decide) dd_R_reduceTotal_81 (fun H locs hM hS => ?_)
        have hM := mr_lext (g := nl_ (T % N)) (fun j hj => by rw [pk_cpy_in (by omega) (by omega), Nat.zero_add, Nat.sub_zero, nu_b (by omega), hv]; exact congrArg lN (dg_mod hj).symm) hM
        exact mr_ret hQ (mr_vret C0 hM hS (⟨rfl, _, rfl⟩) dd_R_reduceTotal_84)
      · skip
        have hv : T % N = T := by rw [← red4 hN hT, if_pos (Nat.lt_of_not_le (fun q => h62 (by rw [hi4]; exact (pk_lLE (by rw [← hi4]; omega) (by omega)).mpr q)))]
        refine lv_aload_n hx hb dd_R_reduceTotal_66 rfl (lv_at hl 0 rfl) ?_
        refine mr_get C0 hM fk_R_30 (mu_n' (ne_k h_r h_dd (fun q => by cases q)) h_r) (v := .ref tt) rfl dd_R_reduceTotal_67 ?_
        refine lv_goto (tgt := 77) hx hb dd_R_reduceTotal_70 rfl ?_
        refine lv_iconst (v := nI 0) hx hb dd_R_reduceTotal_77 (by decide) ?_
        refine lv_aload_n hx hb dd_R_reduceTotal_78 rfl (lv_at hl 1 rfl) ?_
        refine lv_iconst (v := nI 0) hx hb dd_R_reduceTotal_79 (by decide) ?_
        refine lv_iconst (v := nI 4) hx hb dd_R_reduceTotal_80 (by decide) ?_
        refine mr_copyl C0 hl.1 tw_180 hM hS (mu_n' ne_tt_dd h_tt) (mu_n' ne_out_dd h_out) (0) (0) (4) rfl rfl rfl (by decide) (by decide) (by decide) (by decide) (by subst hR; decide) (by subst hR; decide) dd_R_reduceTotal_81 (fun H locs hM hS => ?_)
        have hM := mr_lext (g := nl_ (T % N)) (fun j hj => by rw [pk_cpy_in (by omega) (by omega), Nat.zero_add, Nat.sub_zero, hv]; exact hf j (by omega)) hM
        exact mr_ret hQ (mr_vret C0 hM hS (⟨rfl, _, rfl⟩) dd_R_reduceTotal_84)
    | succ k ih =>
      intro i H locs ls hi hM hS hl
      refine lv_iload hx hb dd_R_reduceTotal_5 (lv_at hl 3 rfl) ?_
      refine lv_iconst (v := nI 4) hx hb dd_R_reduceTotal_7 (by decide) ?_
      refine lv_icmp_ge (tgt := 55) hx hb dd_R_reduceTotal_8 rfl (fun hc => absurd hc (nle_nI (a := 4) (b := i) (by omega) (by omega) (by omega))) (fun _ => ?_)
      refine lv_aload_n hx hb dd_R_reduceTotal_11 rfl (lv_at hl 0 rfl) ?_
      refine mr_get C0 hM fk_R_30 (mu_n' (ne_k h_r h_dd (fun q => by cases q)) h_r) (v := .ref tt) rfl dd_R_reduceTotal_12 ?_
      refine lv_iload hx hb dd_R_reduceTotal_15 (lv_at hl 3 rfl) ?_
      refine mr_lald C0 hM (mu_n' ne_tt_dd h_tt) (i) (rfl) (by omega) (by decide) dd_R_reduceTotal_17 ?_
      refine lv_aload_n hx hb dd_R_reduceTotal_18 rfl (lv_at hl 0 rfl) ?_
      refine mr_get C0 hM fk_R_21 (mu_n' (ne_k h_r h_dd (fun q => by cases q)) h_r) (v := .ref mn) rfl dd_R_reduceTotal_19 ?_
      refine lv_iload hx hb dd_R_reduceTotal_22 (lv_at hl 3 rfl) ?_
      refine mr_lald C0 hM (mu_n' ne_mn_dd h_mn) (i) (rfl) (by omega) (by decide) dd_R_reduceTotal_24 ?_
      refine lv_lsub hx hb dd_R_reduceTotal_25 ?_
      refine lv_lload_n hx hb dd_R_reduceTotal_26 rfl (lv_at hl 2 rfl) ?_
      refine lv_lsub hx hb dd_R_reduceTotal_27 ?_
      refine mr_vl (x' := lN (dg_ T i) - lN (dg_ N i) - lN (bo_ 4294967296 T N i)) (by rw [hf i (by omega)]; rfl) ?_
      refine lv_lstore (lv' := [(5, .long (lN (dg_ T i) - lN (dg_ N i) - lN (bo_ 4294967296 T N i))), (0, .ref r), (1, .ref out), (2, .long (lN (bo_ 4294967296 T N i))), (4, .int (nI i))]) hx hb dd_R_reduceTotal_28 hl (by decide) rfl (fun ls hl => ?_)
      refine lv_aload_n hx hb dd_R_reduceTotal_30 rfl (lv_at hl 1 rfl) ?_
      refine mr_get C0 hM fk_R_33 (mu_n' (ne_k h_r h_dd (fun q => by cases q)) h_r) (v := .ref dd) rfl dd_R_reduceTotal_31 ?_
      refine lv_iload hx hb dd_R_reduceTotal_34 (lv_at hl 4 rfl) ?_
      refine lv_lload hx hb dd_R_reduceTotal_36 (lv_at hl 0 rfl) ?_
      refine mr_ldc2 (v := lN 4294967295) C0 tw_163 dd_R_reduceTotal_38 ?_
      refine lv_land hx hb dd_R_reduceTotal_41 ?_
      refine mr_vl (x' := lN (dg_ (T % 4294967296 ^ 4 + 4294967296 ^ 4 - N) i)) ((lsb_m (db_lt (by decide)) (db_lt (by decide)) (bo_le _ _ _ _)).trans (congrArg lN (bo_dig (by decide) hN (by omega)))) ?_
      refine mr_last C0 hM hS mu_s (i) (rfl) (by omega) (by decide) dd_R_reduceTotal_42 (fun H locs hM hS => ?_)
      have hM := mr_M mu_mu hM
      have hM := mr_M (congrArg (fun z__ => mu_ M dd (la_ G 4 z__)) (show (vp_updL (nu_ d0 (T % 4294967296 ^ 4 + 4294967296 ^ 4 - N) i) i (lN (dg_ (T % 4294967296 ^ 4 + 4294967296 ^ 4 - N) i)) : Nat → Int64) = (nu_ d0 (T % 4294967296 ^ 4 + 4294967296 ^ 4 - N) (i + 1)) from nu_s d0 (T % 4294967296 ^ 4 + 4294967296 ^ 4 - N) i)) hM
      have hM : mm_ G (mu_ M dd (la_ G 4 (nu_ d0 (T % 4294967296 ^ 4 + 4294967296 ^ 4 - N) (i + 1)))) H := hM
      refine lv_lload hx hb dd_R_reduceTotal_43 (lv_at hl 0 rfl) ?_
      refine lv_bipush (v := nI 63) hx hb dd_R_reduceTotal_45 (by decide) ?_
      refine lv_lushr (v := lN (bo_ 4294967296 T N (i + 1))) hx hb dd_R_reduceTotal_47 ((lsb_s (db_lt (by decide)) (db_lt (by decide)) (bo_le _ _ _ _)).trans (congrArg lN (bo_s (by decide) T N i).symm)) ?_
      refine lv_lstore_n (lv' := [(2, .long (lN (bo_ 4294967296 T N (i + 1)))), (5, .long (lN (dg_ T i) - lN (dg_ N i) - lN (bo_ 4294967296 T N i))), (0, .ref r), (1, .ref out), (4, .int (nI i))]) hx hb dd_R_reduceTotal_48 rfl hl (by decide) rfl (fun ls hl => ?_)
      refine lv_iinc (k := 4) (v := nI (i + 1)) (lv' := [(4, .int (nI (i + 1))), (2, .long (lN (bo_ 4294967296 T N (i + 1)))), (5, .long (lN (dg_ T i) - lN (dg_ N i) - lN (bo_ 4294967296 T N i))), (0, .ref r), (1, .ref out)]) hx hb dd_R_reduceTotal_49 hl rfl (inc_ i) (by decide) rfl (fun ls hl => ?_)
      refine lv_goto (tgt := 5) hx hb dd_R_reduceTotal_52 rfl ?_
      exact ih _ _ _ _ (by omega) hM hS (lv_sub hl [3, 4, 1, 0] rfl)
  have hM := mr_M (mu_id h_dd).symm hM
  have hM := mr_M (congrArg (fun z => mu_ M dd (la_ G 4 z)) (nu_0 d0 (T % 4294967296 ^ 4 + 4294967296 ^ 4 - N))) hM
  exact loop_5 4 0 _ _ _ (rfl) hM hS (by rw [bo_0]; exact lv_sub hl [2, 3, 1, 0] rfl)

set_option maxHeartbeats 4000000 in
set_option maxRecDepth 100000 in
theorem c_R_montgomery (l : Launch) {G : mg_} {M : mw_} {r th td un mn mo mq tt dd bb rr : Nat} {n1 N Bi X Y x y out : Nat} {t0 d0 o0 : Nat → Int64} (h_r : M r = some (ob_ 2 [.ref th, .ref td, .ref un, .ref mn, .ref mo, .ref mq, .ref tt, .ref dd, .ref bb, .ref rr, .long (lN n1)])) (h_tt : M tt = some (la_ G 6 t0)) (h_dd : M dd = some (la_ G 4 d0)) (h_mn : M mn = some (la_ G 4 (nl_ N))) (h_x : M x = some (la_ G 4 (nl_ X))) (h_y : M y = some (la_ G 4 (nl_ Y))) (h_out : M out = some (la_ G 4 o0)) (ne_mn_dd : mn ≠ dd) (ne_mn_tt : mn ≠ tt) (ne_out_dd : out ≠ dd) (ne_out_tt : out ≠ tt) (ne_tt_dd : tt ≠ dd) (ne_x_tt : x ≠ tt) (ne_y_tt : y ≠ tt) (hX : X < N) (hY : Y < N) (hN : N < 4294967296 ^ 4) (hn1 : n1 < 4294967296) (hinv : (n1 * N + 1) % 4294967296 = 0) (hBi : 4294967296 ^ 4 * Bi % N = 1 % N) : ct_ l my_R_montgomery cd_R_montgomery 5 none { frames := 2, cells := 0, slots := 0, locals := 61 } G [.ref r, .ref x, .ref y, .ref out] M (fun v0 M' => v0 = none ∧ ∃ (t : Nat → Int64) (d : Nat → Int64), M' = mu_ (mu_ (mu_ M tt (la_ G 6 t)) dd (la_ G 4 d)) out (la_ G 4 (nl_ (X * Y * Bi % N)))) 0 0 := by
  refine ct_.intro2 (by decide) (Nat.le_of_ble_eq_true rfl) ?_
  intro p e s m args below meth c ls R Q hR hQ C0 hl hM hS
  have hx := C0.1
  have hb := C0.2.1
  have hl : lv_has ls 5 [(0, .ref r), (1, .ref x), (2, .ref y), (3, .ref out)] := hl
  refine lv_aload_n hx hb dd_R_montgomery_0 rfl (lv_at hl 0 rfl) ?_
  refine mr_get C0 hM fk_R_30 h_r (v := .ref tt) rfl dd_R_montgomery_1 ?_
  refine lv_lconst (v := lN 0) hx hb dd_R_montgomery_4 rfl ?_
  refine mr_callS (As := [.ref tt, .long (lN 0)]) (rest := []) C0 hM hS sk_R_99 (c_A_fill_aJJ l h_tt (by decide)) rfl rfl hl.1 (by decide) rfl rfl (by subst hR; exact ⟨Nat.le_of_ble_eq_true rfl, Nat.le_of_ble_eq_true rfl⟩) (by subst hR; exact ⟨Nat.le_of_ble_eq_true rfl, Nat.le_of_ble_eq_true rfl⟩) dd_R_montgomery_5 (fun v1 M1 H locs hp hM hS => ?_)
  obtain ⟨ev1, eM1⟩ := hp
  subst ev1
  rw [eM1] at hM
  have hM : mm_ G (mu_ M tt (la_ G 6 (fun _ => lN 0))) H := hM
  refine W.eq (g2 := F0 m 8 ls []) rfl ?_
  refine lv_iconst (v := nI 0) hx hb dd_R_montgomery_8 (by decide) ?_
  refine lv_istore (lv' := [(4, .int (nI 0)), (0, .ref r), (1, .ref x), (2, .ref y), (3, .ref out)]) hx hb dd_R_montgomery_9 hl (by decide) rfl (fun ls hl => ?_)
  have loop_11 : ∀ (k : Nat) (i : Nat) (T : Nat) (f : Nat → Int64) (H : Heap) (locs : List Loc) (ls : Array Slot), i + k = 4 → (∀ j, j < 5 → f j = lN (dg_ T j)) → T < 2 * N → T * 4294967296 ^ i % N = X * (Y % 4294967296 ^ i) % N → mm_ G (mu_ M tt (la_ G 6 f)) H → va_S (fz_ G) s.heap H locs → lv_has ls 5 [(0, .ref r), (1, .ref x), (2, .ref y), (3, .ref out), (4, .int (nI i))] → W p l e R s m args below meth c H locs 0 0 Q (F0 m 11 ls []) := by
    intro k
    induction k with
    | zero =>
      intro i T f H locs ls hi hf hT hm hM hS hl
      have hTN : T % N = X * Y * Bi % N := mg_end hBi (by rw [show i = 4 from by omega, Nat.mod_eq_of_lt (Nat.lt_trans hY hN)] at hm; exact hm)
      refine lv_iload hx hb dd_R_montgomery_11 (lv_at hl 4 rfl) ?_
      refine lv_iconst (v := nI 4) hx hb dd_R_montgomery_13 (by decide) ?_
      refine lv_icmp_ge (tgt := 36) hx hb dd_R_montgomery_14 rfl (fun _ => ?_) (fun hc => absurd (le_nI (a := 4) (b := i) (by omega) (by omega) (by omega)) hc)
      refine lv_aload_n hx hb dd_R_montgomery_36 rfl (lv_at hl 0 rfl) ?_
      refine lv_aload_n hx hb dd_R_montgomery_37 rfl (lv_at hl 3 rfl) ?_
      refine mr_callV (As := [.ref out]) (rest := []) C0 hM hS vk_R_96 (mu_n' (ne_k h_r h_tt (fun q => by cases q)) h_r) rfl (c_R_reduceTotal l (mu_n' (ne_k h_r h_tt (fun q => by cases q)) h_r) mu_s (mu_n' ne_mn_tt h_mn) (mu_n' (Ne.symm ne_tt_dd) h_dd) (mu_n' ne_out_tt h_out) ne_mn_dd ne_out_dd ne_tt_dd hf hT hN) rfl rfl hl.1 (by decide) rfl rfl (by subst hR; exact ⟨Nat.le_of_ble_eq_true rfl, Nat.le_of_ble_eq_true rfl⟩) (by subst hR; exact ⟨Nat.le_of_ble_eq_true rfl, Nat.le_of_ble_eq_true rfl⟩) dd_R_montgomery_38 (fun v1 M1 H locs hp hM hS => ?_)
      obtain ⟨ev1, d1, eM1⟩ := hp
      subst ev1
      rw [eM1] at hM
      have hM : mm_ G (mu_ (mu_ (mu_ M tt (la_ G 6 f)) dd (la_ G 4 d1)) out (la_ G 4 (nl_ (T % N)))) H := hM
      refine W.eq (g2 := F0 m 41 ls []) rfl ?_
      rw [hTN] at hM
      exact mr_ret hQ (mr_vret C0 hM hS (⟨rfl, _, _, rfl⟩) dd_R_montgomery_41)
    | succ k ih =>
      intro i T f H locs ls hi hf hT hm hM hS hl
      have hTT : (T + X * dg_ Y i) < 4294967296 ^ 5 + 4294967296 ^ 5 := by
        have h1 := t5_lt hN hT
        have h2 : X * dg_ Y i ≤ 4294967296 ^ 4 * 4294967296 := Nat.mul_le_mul (Nat.le_of_lt (Nat.lt_trans hX hN)) (Nat.le_of_lt (db_lt (by decide)))
        have h3 : (4294967296 : Nat) ^ 4 * 4294967296 = 4294967296 ^ 5 := rfl
        omega
      refine lv_iload hx hb dd_R_montgomery_11 (lv_at hl 4 rfl) ?_
      refine lv_iconst (v := nI 4) hx hb dd_R_montgomery_13 (by decide) ?_
      refine lv_icmp_ge (tgt := 36) hx hb dd_R_montgomery_14 rfl (fun hc => absurd hc (nle_nI (a := 4) (b := i) (by omega) (by omega) (by omega))) (fun _ => ?_)
      refine lv_aload_n hx hb dd_R_montgomery_17 rfl (lv_at hl 0 rfl) ?_
      refine lv_aload_n hx hb dd_R_montgomery_18 rfl (lv_at hl 1 rfl) ?_
      refine lv_aload_n hx hb dd_R_montgomery_19 rfl (lv_at hl 2 rfl) ?_
      refine lv_iload hx hb dd_R_montgomery_20 (lv_at hl 4 rfl) ?_
      refine mr_lald C0 hM (mu_n' ne_y_tt h_y) (i) (rfl) (by omega) (by decide) dd_R_montgomery_22 ?_
      refine mr_vl (x' := lN (dg_ Y i)) (rfl) ?_
      refine mr_callV (As := [.ref x, .long (lN (dg_ Y i))]) (rest := []) C0 hM hS vk_R_105 (mu_n' (ne_k h_r h_tt (fun q => by cases q)) h_r) rfl (c_R_addProduct l (mu_n' (ne_k h_r h_tt (fun q => by cases q)) h_r) mu_s (mu_n' ne_x_tt h_x) ne_x_tt hf (t5_lt hN hT) (Nat.lt_trans hX hN) (db_lt (by decide))) rfl rfl hl.1 (by decide) rfl rfl (by subst hR; exact ⟨Nat.le_of_ble_eq_true rfl, Nat.le_of_ble_eq_true rfl⟩) (by subst hR; exact ⟨Nat.le_of_ble_eq_true rfl, Nat.le_of_ble_eq_true rfl⟩) dd_R_montgomery_23 (fun v1 M1 H locs hp hM hS => ?_)
      obtain ⟨ev1, eM1⟩ := hp
      subst ev1
      rw [eM1] at hM
      have hM := mr_M mu_mu hM
      have hM : mm_ G (mu_ M tt (la_ G 6 (nl_ (T + X * dg_ Y i)))) H := hM
      refine W.eq (g2 := F0 m 26 ls []) rfl ?_
      refine lv_aload_n hx hb dd_R_montgomery_26 rfl (lv_at hl 0 rfl) ?_
      refine mr_callV (As := []) (rest := []) C0 hM hS vk_R_108 (mu_n' (ne_k h_r h_tt (fun q => by cases q)) h_r) rfl (c_R_dropLowestLimb l (mu_n' (ne_k h_r h_tt (fun q => by cases q)) h_r) mu_s (mu_n' ne_mn_tt h_mn) ne_mn_tt (mm := mq_ (T + X * dg_ Y i) n1) rfl hTT hN hn1) rfl rfl hl.1 (by decide) rfl rfl (by subst hR; exact ⟨Nat.le_of_ble_eq_true rfl, Nat.le_of_ble_eq_true rfl⟩) (by subst hR; exact ⟨Nat.le_of_ble_eq_true rfl, Nat.le_of_ble_eq_true rfl⟩) dd_R_montgomery_27 (fun v1 M1 H locs hp hM hS => ?_)
      obtain ⟨ev1, eM1⟩ := hp
      subst ev1
      rw [eM1] at hM
      have hM := mr_M mu_mu hM
      have hM : mm_ G (mu_ M tt (la_ G 6 (ds_ (T + X * dg_ Y i) ((T + X * dg_ Y i) + N * mq_ (T + X * dg_ Y i) n1) 6))) H := hM
      refine W.eq (g2 := F0 m 30 ls []) rfl ?_
      refine lv_iinc (k := 4) (v := nI (i + 1)) (lv' := [(4, .int (nI (i + 1))), (0, .ref r), (1, .ref x), (2, .ref y), (3, .ref out)]) hx hb dd_R_montgomery_30 hl rfl (inc_ i) (by decide) rfl (fun ls hl => ?_)
      refine lv_goto (tgt := 11) hx hb dd_R_montgomery_33 rfl ?_
      exact ih (i + 1) (((T + X * dg_ Y i) + N * mq_ (T + X * dg_ Y i) n1) / 4294967296) _ _ _ _ (by omega) (fun j hj => (ds_b (by omega)).trans (congrArg lN (db_div 4294967296 _ j).symm)) (mg_lt (by decide) hT hX (db_lt (by decide)) mq_lt) (mg_step (by decide) (mg_zero hinv) rfl hm) hM hS (lv_sub hl [1, 2, 3, 4, 0] rfl)
  exact loop_11 4 0 0 (fun _ => lN 0) _ _ _ (rfl) (fun j _ => congrArg lN (show 0 = dg_ 0 j by simp [db_])) (by omega) (by simp [Nat.mod_one]) hM hS (lv_sub hl [1, 2, 3, 4, 0] rfl)

set_option maxHeartbeats 4000000 in
set_option maxRecDepth 100000 in
theorem c_R_shiftBy128 (l : Launch) {G : mg_} {M : mw_} {r th td un mn mo mq tt dd bb rr : Nat} {ni : Int64} {N X x : Nat} {t0 d0 : Nat → Int64} (h_r : M r = some (ob_ 2 [.ref th, .ref td, .ref un, .ref mn, .ref mo, .ref mq, .ref tt, .ref dd, .ref bb, .ref rr, .long ni])) (h_tt : M tt = some (la_ G 6 t0)) (h_dd : M dd = some (la_ G 4 d0)) (h_mn : M mn = some (la_ G 4 (nl_ N))) (h_x : M x = some (la_ G 4 (nl_ X))) (ne_mn_dd : mn ≠ dd) (ne_mn_tt : mn ≠ tt) (ne_mn_x : mn ≠ x) (ne_tt_dd : tt ≠ dd) (ne_x_dd : x ≠ dd) (ne_x_tt : x ≠ tt) (hX : X < N) (hN : N < 4294967296 ^ 4) : ct_ l my_R_shiftBy128 cd_R_shiftBy128 8 none { frames := 2, cells := 0, slots := 0, locals := 61 } G [.ref r, .ref x] M (fun v0 M' => v0 = none ∧ ∃ (t : Nat → Int64) (d : Nat → Int64), M' = mu_ (mu_ (mu_ M tt (la_ G 6 t)) dd (la_ G 4 d)) x (la_ G 4 (nl_ (X * 2 ^ 128 % N)))) 0 0 := by
  refine ct_.intro2 (by decide) (Nat.le_of_ble_eq_true rfl) ?_
  intro p e s m args below meth c ls R Q hR hQ C0 hl hM hS
  have hx := C0.1
  have hb := C0.2.1
  have hl : lv_has ls 8 [(0, .ref r), (1, .ref x)] := hl
  refine lv_iconst (v := nI 0) hx hb dd_R_shiftBy128_0 (by decide) ?_
  refine lv_istore_n (lv' := [(2, .int (nI 0)), (0, .ref r), (1, .ref x)]) hx hb dd_R_shiftBy128_1 rfl hl (by decide) rfl (fun ls hl => ?_)
  have loop_2 : ∀ (k : Nat) (s0 : Nat) (t : Nat → Int64) (d : Nat → Int64) (H : Heap) (locs : List Loc) (ls : Array Slot), s0 + k = 128 → mm_ G (mu_ (mu_ (mu_ M tt (la_ G 6 t)) dd (la_ G 4 d)) x (la_ G 4 (nl_ (X * 2 ^ s0 % N)))) H → va_S (fz_ G) s.heap H locs → lv_has ls 8 [(0, .ref r), (1, .ref x), (2, .int (nI s0))] → W p l e R s m args below meth c H locs 0 0 Q (F0 m 2 ls []) := by
    intro k
    induction k with
    | zero =>
      intro s0 t d H locs ls hs hM hS hl
      refine lv_iload_n hx hb dd_R_shiftBy128_2 rfl (lv_at hl 2 rfl) ?_
      refine lv_sipush (v := nI 128) hx hb dd_R_shiftBy128_3 (by decide) ?_
      refine lv_icmp_ge (tgt := 73) hx hb dd_R_shiftBy128_6 rfl (fun _ => ?_) (fun hc => absurd (le_nI (a := 128) (b := s0) (by omega) (by omega) (by omega)) hc)
      rw [show s0 = 128 by omega] at hM
      exact mr_ret hQ (mr_vret C0 hM hS (⟨rfl, _, _, rfl⟩) dd_R_shiftBy128_73)
    | succ k ih =>
      intro s0 t d H locs ls hs hM hS hl
      have hZ : (X * 2 ^ s0 % N) < N := Nat.mod_lt _ (by omega)
      refine lv_iload_n hx hb dd_R_shiftBy128_2 rfl (lv_at hl 2 rfl) ?_
      refine lv_sipush (v := nI 128) hx hb dd_R_shiftBy128_3 (by decide) ?_
      refine lv_icmp_ge (tgt := 73) hx hb dd_R_shiftBy128_6 rfl (fun hc => absurd hc (nle_nI (a := 128) (b := s0) (by omega) (by omega) (by omega))) (fun _ => ?_)
      refine lv_lconst (v := lN 0) hx hb dd_R_shiftBy128_9 rfl ?_
      refine lv_lstore_n (lv' := [(3, .long (lN 0)), (0, .ref r), (1, .ref x), (2, .int (nI s0))]) hx hb dd_R_shiftBy128_10 rfl hl (by decide) rfl (fun ls hl => ?_)
      refine lv_iconst (v := nI 0) hx hb dd_R_shiftBy128_11 (by decide) ?_
      refine lv_istore (lv' := [(5, .int (nI 0)), (3, .long (lN 0)), (0, .ref r), (1, .ref x), (2, .int (nI s0))]) hx hb dd_R_shiftBy128_12 hl (by decide) rfl (fun ls hl => ?_)
      have loop_14 : ∀ (q : Nat) (i : Nat) (H : Heap) (locs : List Loc) (ls : Array Slot), i + q = 4 → mm_ G (mu_ (mu_ (mu_ M tt (la_ G 6 (nu_ t ((X * 2 ^ s0 % N) * 2) i))) dd (la_ G 4 d)) x (la_ G 4 (nl_ (X * 2 ^ s0 % N)))) H → va_S (fz_ G) s.heap H locs → lv_has ls 8 [(0, .ref r), (1, .ref x), (2, .int (nI s0)), (3, .long (lN (cm_ 4294967296 (X * 2 ^ s0 % N) 2 i))), (5, .int (nI i))] → W p l e R s m args below meth c H locs 0 0 Q (F0 m 14 ls []) := by
        intro q
        induction q with
        | zero =>
          intro i H locs ls hi hM hS hl
          refine lv_iload hx hb dd_R_shiftBy128_14 (lv_at hl 4 rfl) ?_
          refine lv_iconst (v := nI 4) hx hb dd_R_shiftBy128_16 (by decide) ?_
          refine lv_icmp_ge (tgt := 55) hx hb dd_R_shiftBy128_17 rfl (fun _ => ?_) (fun hc => absurd (le_nI (a := 4) (b := i) (by omega) (by omega) (by omega)) hc)
          refine lv_aload_n hx hb dd_R_shiftBy128_55 rfl (lv_at hl 0 rfl) ?_
          refine mr_get C0 hM fk_R_30 (mu_n' (ne_k h_r h_x (fun q => by cases q)) (mu_n' (ne_k h_r h_dd (fun q => by cases q)) (mu_n' (ne_k h_r h_tt (fun q => by cases q)) h_r))) (v := .ref tt) rfl dd_R_shiftBy128_56 ?_
          refine lv_iconst (v := nI 4) hx hb dd_R_shiftBy128_59 (by decide) ?_
          refine lv_lload_n hx hb dd_R_shiftBy128_60 rfl (lv_at hl 3 rfl) ?_
          refine mr_vl (x' := lN (dg_ ((X * 2 ^ s0 % N) * 2) 4)) (congrArg lN (by rw [show i = 4 from by omega, cm_, Nat.mod_eq_of_lt (Nat.lt_trans hZ hN), dg_4 (t5_lt (T := (X * 2 ^ s0 % N) * 2) hN (by omega))])) ?_
          refine mr_last C0 hM hS (mu_n' (Ne.symm ne_x_tt) (mu_n' ne_tt_dd mu_s)) (4) (rfl) (by omega) (by decide) dd_R_shiftBy128_61 (fun H locs hM hS => ?_)
          have hM := mr_M (mu_c3 ne_tt_dd (Ne.symm ne_x_tt)) hM
          have hM := mr_M (congrArg (fun z__ => mu_ (mu_ (mu_ M tt (la_ G 6 z__)) dd (la_ G 4 d)) x (la_ G 4 (nl_ (X * 2 ^ s0 % N)))) (show (vp_updL (nu_ t ((X * 2 ^ s0 % N) * 2) i) 4 (lN (dg_ ((X * 2 ^ s0 % N) * 2) 4)) : Nat → Int64) = (nu_ t ((X * 2 ^ s0 % N) * 2) 5) from by rw [show i = 4 from by omega]; exact nu_s t ((X * 2 ^ s0 % N) * 2) 4)) hM
          have hM : mm_ G (mu_ (mu_ (mu_ M tt (la_ G 6 (nu_ t ((X * 2 ^ s0 % N) * 2) 5))) dd (la_ G 4 d)) x (la_ G 4 (nl_ (X * 2 ^ s0 % N)))) H := hM
          refine lv_aload_n hx hb dd_R_shiftBy128_62 rfl (lv_at hl 0 rfl) ?_
          refine lv_aload_n hx hb dd_R_shiftBy128_63 rfl (lv_at hl 1 rfl) ?_
          refine mr_callV (As := [.ref x]) (rest := []) C0 hM hS vk_R_96 (mu_n' (ne_k h_r h_x (fun q => by cases q)) (mu_n' (ne_k h_r h_dd (fun q => by cases q)) (mu_n' (ne_k h_r h_tt (fun q => by cases q)) h_r))) rfl (c_R_reduceTotal l (mu_n' (ne_k h_r h_x (fun q => by cases q)) (mu_n' (ne_k h_r h_dd (fun q => by cases q)) (mu_n' (ne_k h_r h_tt (fun q => by cases q)) h_r))) (mu_n' (Ne.symm ne_x_tt) (mu_n' ne_tt_dd mu_s)) (mu_n' ne_mn_x (mu_n' ne_mn_dd (mu_n' ne_mn_tt h_mn))) (mu_n' (Ne.symm ne_x_dd) mu_s) mu_s ne_mn_dd ne_x_dd ne_tt_dd (T := (X * 2 ^ s0 % N) * 2) (fun j hj => nu_b hj) (by omega) hN) rfl rfl hl.1 (by decide) rfl rfl (by subst hR; exact ⟨Nat.le_of_ble_eq_true rfl, Nat.le_of_ble_eq_true rfl⟩) (by subst hR; exact ⟨Nat.le_of_ble_eq_true rfl, Nat.le_of_ble_eq_true rfl⟩) dd_R_shiftBy128_64 (fun v1 M1 H locs hp hM hS => ?_)
          obtain ⟨ev1, d1, eM1⟩ := hp
          subst ev1
          rw [eM1] at hM
          have hM := mr_M ((congrArg (fun X__ => mu_ X__ x (la_ G 4 (nl_ ((X * 2 ^ s0 % N) * 2 % N)))) (mu_c2 (Ne.symm ne_x_dd))).trans mu_mu) hM
          have hM : mm_ G (mu_ (mu_ (mu_ M tt (la_ G 6 (nu_ t ((X * 2 ^ s0 % N) * 2) 5))) dd (la_ G 4 d1)) x (la_ G 4 (nl_ ((X * 2 ^ s0 % N) * 2 % N)))) H := hM
          refine W.eq (g2 := F0 m 67 ls []) rfl ?_
          refine lv_iinc (k := 2) (v := nI (s0 + 1)) (lv' := [(2, .int (nI (s0 + 1))), (0, .ref r), (1, .ref x), (3, .long (lN (cm_ 4294967296 (X * 2 ^ s0 % N) 2 i))), (5, .int (nI i))]) hx hb dd_R_shiftBy128_67 hl rfl (inc_ s0) (by decide) rfl (fun ls hl => ?_)
          refine lv_goto (tgt := 2) hx hb dd_R_shiftBy128_70 rfl ?_
          rw [show (X * 2 ^ s0 % N) * 2 % N = X * 2 ^ (s0 + 1) % N by rw [Nat.pow_succ, ← Nat.mul_assoc, Nat.mod_mul_mod]] at hM
          exact ih (s0 + 1) _ _ _ _ _ (by omega) hM hS (lv_sub hl [1, 2, 0] rfl)
        | succ q ih2 =>
          intro i H locs ls hi hM hS hl
          have hc : cm_ 4294967296 (X * 2 ^ s0 % N) 2 i < 2 := cm_lt (by decide) _ (by decide) i
          have hg : dg_ (X * 2 ^ s0 % N) i < 4294967296 := db_lt (by decide)
          have h64 : dg_ (X * 2 ^ s0 % N) i * 2 + cm_ 4294967296 (X * 2 ^ s0 % N) 2 i < 18446744073709551616 := by omega
          refine lv_iload hx hb dd_R_shiftBy128_14 (lv_at hl 4 rfl) ?_
          refine lv_iconst (v := nI 4) hx hb dd_R_shiftBy128_16 (by decide) ?_
          refine lv_icmp_ge (tgt := 55) hx hb dd_R_shiftBy128_17 rfl (fun hc => absurd hc (nle_nI (a := 4) (b := i) (by omega) (by omega) (by omega))) (fun _ => ?_)
          refine lv_aload_n hx hb dd_R_shiftBy128_20 rfl (lv_at hl 1 rfl) ?_
          refine lv_iload hx hb dd_R_shiftBy128_21 (lv_at hl 4 rfl) ?_
          refine mr_lald C0 hM mu_s (i) (rfl) (by omega) (by decide) dd_R_shiftBy128_23 ?_
          refine lv_iconst (v := nI 1) hx hb dd_R_shiftBy128_24 (by decide) ?_
          refine lv_lshl (v := lN (dg_ (X * 2 ^ s0 % N) i * 2)) hx hb dd_R_shiftBy128_25 (wb_shl _ (by decide)) ?_
          refine lv_lload_n hx hb dd_R_shiftBy128_26 rfl (lv_at hl 3 rfl) ?_
          refine lv_lor hx hb dd_R_shiftBy128_27 ?_
          refine mr_vl (x' := lN (dg_ (X * 2 ^ s0 % N) i * 2 + cm_ 4294967296 (X * 2 ^ s0 % N) 2 i)) (g_or (k := 1) rfl hc h64) ?_
          refine lv_lstore (lv' := [(6, .long (lN (dg_ (X * 2 ^ s0 % N) i * 2 + cm_ 4294967296 (X * 2 ^ s0 % N) 2 i))), (0, .ref r), (1, .ref x), (2, .int (nI s0)), (3, .long (lN (cm_ 4294967296 (X * 2 ^ s0 % N) 2 i))), (5, .int (nI i))]) hx hb dd_R_shiftBy128_28 hl (by decide) rfl (fun ls hl => ?_)
          refine lv_aload_n hx hb dd_R_shiftBy128_30 rfl (lv_at hl 1 rfl) ?_
          refine mr_get C0 hM fk_R_30 (mu_n' (ne_k h_r h_x (fun q => by cases q)) (mu_n' (ne_k h_r h_dd (fun q => by cases q)) (mu_n' (ne_k h_r h_tt (fun q => by cases q)) h_r))) (v := .ref tt) rfl dd_R_shiftBy128_31 ?_
          refine lv_iload hx hb dd_R_shiftBy128_34 (lv_at hl 5 rfl) ?_
          refine lv_lload hx hb dd_R_shiftBy128_36 (lv_at hl 0 rfl) ?_
          refine mr_ldc2 (v := lN 4294967295) C0 tw_163 dd_R_shiftBy128_38 ?_
          refine lv_land hx hb dd_R_shiftBy128_41 ?_
          refine mr_vl (x' := lN (dg_ ((X * 2 ^ s0 % N) * 2) i)) ((lm_ h64).trans (congrArg lN (by rw [cm_step (by decide), cm_dig]))) ?_
          refine mr_last C0 hM hS (mu_n' (Ne.symm ne_x_tt) (mu_n' ne_tt_dd mu_s)) (i) (rfl) (by omega) (by decide) dd_R_shiftBy128_42 (fun H locs hM hS => ?_)
          have hM := mr_M (mu_c3 ne_tt_dd (Ne.symm ne_x_tt)) hM
          have hM := mr_M (congrArg (fun z__ => mu_ (mu_ (mu_ M tt (la_ G 6 z__)) dd (la_ G 4 d)) x (la_ G 4 (nl_ (X * 2 ^ s0 % N)))) (show (vp_updL (nu_ t ((X * 2 ^ s0 % N) * 2) i) i (lN (dg_ ((X * 2 ^ s0 % N) * 2) i)) : Nat → Int64) = (nu_ t ((X * 2 ^ s0 % N) * 2) (i + 1)) from nu_s t ((X * 2 ^ s0 % N) * 2) i)) hM
          have hM : mm_ G (mu_ (mu_ (mu_ M tt (la_ G 6 (nu_ t ((X * 2 ^ s0 % N) * 2) (i + 1)))) dd (la_ G 4 d)) x (la_ G 4 (nl_ (X * 2 ^ s0 % N)))) H := hM
          refine lv_lload hx hb dd_R_shiftBy128_43 (lv_at hl 0 rfl) ?_
          refine lv_bipush (v := nI 32) hx hb dd_R_shiftBy128_45 (by decide) ?_
          refine lv_lushr (v := lN (cm_ 4294967296 (X * 2 ^ s0 % N) 2 (i + 1))) hx hb dd_R_shiftBy128_47 ((lh_ h64).trans (congrArg lN (by rw [cm_step (by decide), cm_next]))) ?_
          refine lv_lstore_n (lv' := [(3, .long (lN (cm_ 4294967296 (X * 2 ^ s0 % N) 2 (i + 1)))), (6, .long (lN (dg_ (X * 2 ^ s0 % N) i * 2 + cm_ 4294967296 (X * 2 ^ s0 % N) 2 i))), (0, .ref r), (1, .ref x), (2, .int (nI s0)), (5, .int (nI i))]) hx hb dd_R_shiftBy128_48 rfl hl (by decide) rfl (fun ls hl => ?_)
          refine lv_iinc (k := 5) (v := nI (i + 1)) (lv' := [(5, .int (nI (i + 1))), (3, .long (lN (cm_ 4294967296 (X * 2 ^ s0 % N) 2 (i + 1)))), (6, .long (lN (dg_ (X * 2 ^ s0 % N) i * 2 + cm_ 4294967296 (X * 2 ^ s0 % N) 2 i))), (0, .ref r), (1, .ref x), (2, .int (nI s0))]) hx hb dd_R_shiftBy128_49 hl rfl (inc_ i) (by decide) rfl (fun ls hl => ?_)
          refine lv_goto (tgt := 14) hx hb dd_R_shiftBy128_52 rfl ?_
          exact ih2 _ _ _ _ (by omega) hM hS (lv_sub hl [3, 4, 5, 1, 0] rfl)
      have hM := mr_M (congrArg (fun z => mu_ (mu_ (mu_ M tt (la_ G 6 z)) dd (la_ G 4 d)) x (la_ G 4 (nl_ (X * 2 ^ s0 % N)))) (nu_0 t ((X * 2 ^ s0 % N) * 2))) hM
      exact loop_14 4 0 _ _ _ (rfl) hM hS (by rw [cm_0]; exact lv_sub hl [2, 3, 4, 1, 0] rfl)
  have hM := mr_M (mu_id h_tt).symm hM
  have hM := mr_M (mu_id (mu_n' (Ne.symm ne_tt_dd) h_dd)).symm hM
  have hM := mr_M (mu_id (mu_n' ne_x_dd (mu_n' ne_x_tt h_x))).symm hM
  have hM := mr_M (congrArg (fun z => mu_ (mu_ (mu_ M tt (la_ G 6 t0)) dd (la_ G 4 d0)) x (la_ G 4 (nl_ z))) (show X = X * 2 ^ 0 % N by rw [Nat.pow_zero, Nat.mul_one, Nat.mod_eq_of_lt hX])) hM
  exact loop_2 128 0 _ _ _ _ _ (rfl) hM hS (lv_sub hl [1, 2, 0] rfl)
