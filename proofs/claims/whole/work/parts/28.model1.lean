
/-! the model: numbers in two longs -/
def hi_ (X : Nat) : Int64 := lN (X / 18446744073709551616)
def lo_ (X : Nat) : Int64 := lN (X % 18446744073709551616)
theorem lsub_ {a b : Nat} (ha : a < 18446744073709551616) (hb : b < 18446744073709551616) : lN a - lN b = lN ((a + 18446744073709551616 - b) % 18446744073709551616) := by
  have e : lN a = lN (a + 18446744073709551616) := by
    rw [wb_mod (a + 18446744073709551616), wb_mod a, show (a + 18446744073709551616) % 2 ^ 64 = a % 2 ^ 64 by omega]
  rw [e, lN_sub (by omega), wb_mod]
theorem ladd_ (a b : Nat) : lN a + lN b = lN ((a + b) % 18446744073709551616) := by rw [lN_add, wb_mod]
theorem lsr_bit {x i : Nat} (hx : x < 18446744073709551616) (hi : i < 64) : lsr_ (lN x) (nI i) &&& lN 1 = lN (x / 2 ^ i % 2) := by
  show (lN x >>> ((nI i).toInt64 &&& 63)) &&& lN 1 = _
  rw [wb_c i hi]
  apply wb_inj
  rw [Int64.toBitVec_and, Int64.toBitVec_shiftRight, wb_tb, wb_tb, wb_tb, wb_tb, wb_sm i hi]
  apply BitVec.eq_of_getLsbD_eq
  intro j hj
  have hik : (BitVec.ofNat 64 i).toNat = i := by rw [BitVec.toNat_ofNat, Nat.mod_eq_of_lt (by omega)]
  rw [BitVec.getLsbD_and, BitVec.sshiftRight_eq', hik, BitVec.getLsbD_sshiftRight]
  simp only [BitVec.getLsbD_ofNat]
  by_cases h0 : j = 0
  · subst h0
    have e1 : Nat.testBit 1 0 = true := by decide
    have e2 : (x / 2 ^ i % 2).testBit 0 = x.testBit i := by
      have h := Nat.toNat_testBit x i
      rw [← h]
      cases x.testBit i <;> rfl
    rw [e1, e2]
    simp [hi]
  · have e1 : Nat.testBit 1 j = false := by
      rw [show (1 : Nat) = 2 ^ 0 from rfl, Nat.testBit_two_pow]
      exact decide_eq_false (by omega)
    have e2 : (x / 2 ^ i % 2).testBit j = false := by
      apply Nat.testBit_lt_two_pow
      have : x / 2 ^ i % 2 < 2 := Nat.mod_lt _ (by decide)
      have h2 : 2 ^ 1 ≤ 2 ^ j := Nat.pow_le_pow_right (by decide) (by omega)
      omega
    rw [e1, e2]
    simp
theorem xn_m (h : Int32) : ((h &&& 2147483647) ||| 1073741824) ||| nI 1 = nI (xn_ h) := by
  rw [← xn_i, Int32.or_assoc]
  rfl
theorem s32 (s : Int64) : (lsr_ s (nI 32)).toInt32 = (lus_ s (nI 32)).toInt32 := by
  have e1 : ((nI 32).toInt64 &&& 63) = lN 32 := wb_c 32 (by decide)
  have e2 : ((nI 32).toInt64.toUInt64 &&& Int64.toUInt64 63) = UInt64.ofNat 32 := wb_cu 32 (by decide)
  show (s >>> ((nI 32).toInt64 &&& 63)).toInt32 = ((s.toUInt64 >>> ((nI 32).toInt64.toUInt64 &&& Int64.toUInt64 63)).toInt64).toInt32
  rw [e1, e2]
  apply Int32.toBitVec_inj.mp
  show ((s >>> lN 32).toBitVec).signExtend 32 = ((s.toUInt64 >>> UInt64.ofNat 32).toBitVec).signExtend 32
  rw [Int64.toBitVec_shiftRight, UInt64.toBitVec_shiftRight, wb_tb, wb_sm 32 (by decide)]
  have e3 : (UInt64.ofNat 32).toBitVec % 64 = BitVec.ofNat 64 32 := by decide
  rw [e3]
  show (s.toBitVec.sshiftRight' (BitVec.ofNat 64 32)).signExtend 32 = (s.toBitVec >>> (BitVec.ofNat 64 32)).signExtend 32
  apply BitVec.eq_of_getLsbD_eq
  intro j hj
  rw [BitVec.getLsbD_signExtend, BitVec.getLsbD_signExtend, if_pos (show j < 64 by omega), if_pos (show j < 64 by omega), BitVec.sshiftRight_eq', BitVec.getLsbD_sshiftRight, BitVec.ushiftRight_eq', BitVec.getLsbD_ushiftRight]
  have : (BitVec.ofNat 64 32).toNat = 32 := by decide
  rw [this]
  simp [hj, show 32 + j < 64 by omega, show ¬ 64 ≤ j by omega]
/-- the model's table of constants -/
def mk_ (j : Nat) : Int64 := ([4794697085070296209, (-5349999486918337627), 4131703405765792241, (-7908458776882290987), (-2880145866557793535), 2608012711741390275, 8268148720858477054, (-7215885185376849548), (-1973867730000001146), 1135362055407968716, 3308224257782482090, 6679025011744409818, (-7476448915937442195), (-5763719354946846777), (-4116276917527146169), 489312709404862823, 2861767655337697592, 5560940570391088403, 7280758554198936251, (-9096487095472345979), (-6719396338005809589), (-4446306890599870045), (-3345356375510677980), (-860691633158840208), 1847814047869135880, 2830643534987574453, 4115178123771292234, 6601373596217405427, 8399075790807196527, (-8878714635704401400), (-8016688834709263125), (-4685533652720715534)] : List Int64).getD j 0

theorem mk_e : ∀ j, j < 32 → (lsr_ (mk_ j) (nI 32)).toInt32 = kt_ (2 * j) ∧ (lsr_ (mk_ j) (nI 0)).toInt32 = kt_ (2 * j + 1) := by decide +kernel
theorem wf_eq {v w : Nat → Int32} (h : ∀ j, j < 16 → v j = w j) : ∀ k j, j < 16 + k → wf_ v k j = wf_ w k j
  | 0, j, hj => h j hj
  | k + 1, j, hj => by
    have ih := wf_eq h k
    show upd (wf_ v k) (16 + k) (sg_ (wf_ v k) (16 + k)) j = upd (wf_ w k) (16 + k) (sg_ (wf_ w k) (16 + k)) j
    unfold upd
    by_cases hq : j = 16 + k
    · rw [if_pos hq, if_pos hq]
      unfold sg_
      rw [ih _ (by omega), ih _ (by omega), ih _ (by omega), ih _ (by omega)]
    · rw [if_neg hq, if_neg hq]
      exact ih j (by omega)
theorem sb_eq {v w : Nat → Int32} (h : ∀ j, j < 16 → v j = w j) (a b c : Int32) : ∀ j, j < 16 → sb0_ v a b c j = sb0_ w a b c j := by
  intro j hj
  unfold sb0_ upd
  simp only [h j hj]
theorem hl_eq {v w : Nat → Int32} : ∀ k i a b c d e f g h, (∀ j, j < i + k → v j = w j) → hl_ v k i a b c d e f g h = hl_ w k i a b c d e f g h
  | 0, _, _, _, _, _, _, _, _, _, _ => rfl
  | k + 1, i, a, b, c, d, e, f, g, h, hh => by
    show hl_ v k (i + 1) _ _ _ _ _ _ _ _ = hl_ w k (i + 1) _ _ _ _ _ _ _ _
    rw [hh i (by omega)]
    exact hl_eq k (i + 1) _ _ _ _ _ _ _ _ (fun j hj => hh j (by omega))
theorem hash_m {v : Nat → Int32} (h : ∀ j, j < 16 → v j = nI 0) (s : Int64) (c : Int32) : hl_ (wf_ (sb0_ v ((lsr_ s (nI 32)).toInt32) (s.toInt32) c) 48) 64 0 1779033703 (-1150833019) 1013904242 (-1521486534) 1359893119 (-1694144372) 528734635 1541459225 + 1779033703 = hash_ s c := by
  have e : ∀ j, j < 64 → wf_ (sb0_ v ((lsr_ s (nI 32)).toInt32) (s.toInt32) c) 48 j = wf_ (sb0_ (fun _ => nI 0) ((lus_ s (nI 32)).toInt32) (s.toInt32) c) 48 j := by
    intro j hj
    rw [s32]
    exact wf_eq (sb_eq (w := fun _ => nI 0) h _ _ _) 48 j (by omega)
  rw [hl_eq 64 0 1779033703 (-1150833019) 1013904242 (-1521486534) 1359893119 (-1694144372) 528734635 1541459225 (fun j hj => e j (by omega))]
  unfold hash_ hs0_
  rfl
theorem wb_or0 : True := trivial
def TD_ (n : Nat) : Prop := ∀ d, d % 2 = 1 → 3 ≤ d → d * d ≤ n → n % d ≠ 0
noncomputable def td_ (n : Nat) : Int32 := @ite _ (TD_ n) (Classical.propDecidable _) (nI 1) (nI 0)
theorem td_y {n : Nat} (h : TD_ n) : td_ n = nI 1 := by unfold td_; exact if_pos h
theorem td_n {n : Nat} (h : ¬ TD_ n) : td_ n = nI 0 := by unfold td_; exact if_neg h
theorem sq_le {a b : Nat} (h : a ≤ b) : a * a ≤ b * b := Nat.mul_le_mul h h

set_option maxHeartbeats 4000000 in
set_option maxRecDepth 100000 in
theorem c_M_right (l : Launch) {G : mg_} {M : mw_} {x k0 : Int32}    : dt_ l my_M_right cd_M_right 2 (some .int) { frames := 0, cells := 0, slots := 0, locals := 0 } G [.int x, .int k0] M (some (.int (rt_ x k0))) (M) 0 0 := by
  refine ct_.intro2 (by decide) (Nat.le_of_ble_eq_true rfl) ?_
  intro p e s m args below meth c ls R Q hR hQ C0 hl hM hS
  have hx := C0.1
  have hb := C0.2.1
  have hl : lv_has ls 2 [(0, .int x), (1, .int k0)] := hl
  refine lv_iload_n hx hb dd_M_right_0 rfl (lv_at hl 0 rfl) ?_
  refine lv_iload_n hx hb dd_M_right_1 rfl (lv_at hl 1 rfl) ?_
  refine lv_iushr (v := ius_ x k0) hx hb dd_M_right_2 (rfl) ?_
  refine lv_iload_n hx hb dd_M_right_3 rfl (lv_at hl 0 rfl) ?_
  refine lv_bipush (v := nI 32) hx hb dd_M_right_4 (by decide) ?_
  refine lv_iload_n hx hb dd_M_right_6 rfl (lv_at hl 1 rfl) ?_
  refine lv_isub hx hb dd_M_right_7 ?_
  refine lv_ishl hx hb dd_M_right_8 ?_
  refine lv_ior hx hb dd_M_right_9 ?_
  exact mr_ret hQ (mr_iret C0 hM hS (rfl) (⟨rfl, rfl⟩) dd_M_right_10)

set_option maxHeartbeats 4000000 in
set_option maxRecDepth 100000 in
theorem c_M_hash (l : Launch) {G : mg_} {M : mw_} {m0 kA wA psA ppA cA sA pA uA lA xA : Nat} {has pend now fac : Int32} {n1 n0 v1 v0 h1 h0 r1 r0 : Int64} {w0 : Nat → Int32} {sx : Int64} {c0 : Int32} (h_m : M m0 = some (ob_ 6 [.ref kA, .ref wA, .int has, .long n1, .long n0, .long v1, .long v0, .int pend, .ref psA, .ref ppA, .int now, .ref cA, .ref sA, .ref pA, .ref uA, .ref lA, .long h1, .long h0, .int fac, .long r1, .long r0, .ref xA])) (h_kA : M kA = some (la_ G 32 mk_)) (h_wA : M wA = some (ia_ G 64 w0))   : ct_ l my_M_hash cd_M_hash 15 (some .int) { frames := 1, cells := 0, slots := 0, locals := 21 } G [.ref m0, .long sx, .int c0] M (fun v0 M' => v0 = (some (.int (hash_ sx c0))) ∧ ∃ (w : Nat → Int32), M' = mu_ M wA (ia_ G 64 w)) 0 0 := by
  refine ct_.intro2 (by decide) (Nat.le_of_ble_eq_true rfl) ?_
  intro p e s m args below meth c ls R Q hR hQ C0 hl hM hS
  have hx := C0.1
  have hb := C0.2.1
  have hl : lv_has ls 15 [(0, .ref m0), (1, .long sx), (3, .int c0)] := hl
  refine lv_iconst (v := nI 0) hx hb dd_M_hash_0 (by decide) ?_
  refine lv_istore (lv' := [(4, .int (nI 0)), (0, .ref m0), (1, .long sx), (3, .int c0)]) hx hb dd_M_hash_1 hl (by decide) rfl (fun ls hl => ?_)
  have loop_3 : ∀ (k : Nat) (i : Nat) (H : Heap) (locs : List Loc) (ls : Array Slot), i + k = 16 → mm_ G (mu_ M wA (ia_ G 64 (fun j => if j < i then nI 0 else w0 j))) H → va_S (fz_ G) s.heap H locs → lv_has ls 15 [(0, .ref m0), (1, .long sx), (3, .int c0), (4, .int (nI i))] → W p l e R s m args below meth c H locs 0 0 Q (F0 m 3 ls []) := by
    intro k
    induction k with
    | zero =>
      intro i H locs ls hi hM hS hl
      refine lv_iload hx hb dd_M_hash_3 (lv_at hl 3 rfl) ?_
      refine lv_bipush (v := nI 16) hx hb dd_M_hash_5 (by decide) ?_
      refine lv_icmp_ge (tgt := 24) hx hb dd_M_hash_7 rfl (fun _ => ?_) (fun hc => absurd (le_nI (a := 16) (b := i) (by omega) (by omega) (by omega)) hc)
      refine lv_aload_n hx hb dd_M_hash_24 rfl (lv_at hl 0 rfl) ?_
      refine mr_get C0 hM fk_M_77 (mu_n' (ne_k h_m h_wA (fun q => by cases q)) h_m) (v := .ref wA) rfl dd_M_hash_25 ?_
      refine lv_iconst (v := nI 0) hx hb dd_M_hash_28 (by decide) ?_
      refine lv_lload_n hx hb dd_M_hash_29 rfl (lv_at hl 1 rfl) ?_
      refine lv_bipush (v := nI 32) hx hb dd_M_hash_30 (by decide) ?_
      refine lv_lshr (v := lsr_ sx (nI 32)) hx hb dd_M_hash_32 (rfl) ?_
      refine lv_l2i (v := (lsr_ sx (nI 32)).toInt32) hx hb dd_M_hash_33 (rfl) ?_
      refine mr_iast C0 hM hS mu_s (0) (rfl) (by omega) (by decide) dd_M_hash_34 (fun H locs hM hS => ?_)
      have hM := mr_M mu_mu hM
      refine lv_aload_n hx hb dd_M_hash_35 rfl (lv_at hl 0 rfl) ?_
      refine mr_get C0 hM fk_M_77 (mu_n' (ne_k h_m h_wA (fun q => by cases q)) h_m) (v := .ref wA) rfl dd_M_hash_36 ?_
      refine lv_iconst (v := nI 1) hx hb dd_M_hash_39 (by decide) ?_
      refine lv_lload_n hx hb dd_M_hash_40 rfl (lv_at hl 1 rfl) ?_
      refine lv_l2i (v := sx.toInt32) hx hb dd_M_hash_41 (rfl) ?_
      refine mr_iast C0 hM hS mu_s (1) (rfl) (by omega) (by decide) dd_M_hash_42 (fun H locs hM hS => ?_)
      have hM := mr_M mu_mu hM
      refine lv_aload_n hx hb dd_M_hash_43 rfl (lv_at hl 0 rfl) ?_
      refine mr_get C0 hM fk_M_77 (mu_n' (ne_k h_m h_wA (fun q => by cases q)) h_m) (v := .ref wA) rfl dd_M_hash_44 ?_
      refine lv_iconst (v := nI 3) hx hb dd_M_hash_47 (by decide) ?_
      refine lv_iload_n hx hb dd_M_hash_48 rfl (lv_at hl 2 rfl) ?_
      refine mr_iast C0 hM hS mu_s (3) (rfl) (by omega) (by decide) dd_M_hash_49 (fun H locs hM hS => ?_)
      have hM := mr_M mu_mu hM
      refine lv_aload_n hx hb dd_M_hash_50 rfl (lv_at hl 0 rfl) ?_
      refine mr_get C0 hM fk_M_77 (mu_n' (ne_k h_m h_wA (fun q => by cases q)) h_m) (v := .ref wA) rfl dd_M_hash_51 ?_
      refine lv_iconst (v := nI 4) hx hb dd_M_hash_54 (by decide) ?_
      refine mr_ldc (v := (-2147483648 : Int32)) C0 tw_574 dd_M_hash_55 ?_
      refine mr_iast C0 hM hS mu_s (4) (rfl) (by omega) (by decide) dd_M_hash_57 (fun H locs hM hS => ?_)
      have hM := mr_M mu_mu hM
      refine lv_aload_n hx hb dd_M_hash_58 rfl (lv_at hl 0 rfl) ?_
      refine mr_get C0 hM fk_M_77 (mu_n' (ne_k h_m h_wA (fun q => by cases q)) h_m) (v := .ref wA) rfl dd_M_hash_59 ?_
      refine lv_bipush (v := nI 15) hx hb dd_M_hash_62 (by decide) ?_
      refine lv_sipush (v := nI 128) hx hb dd_M_hash_64 (by decide) ?_
      refine mr_iast C0 hM hS mu_s (15) (rfl) (by omega) (by decide) dd_M_hash_67 (fun H locs hM hS => ?_)
      have hM := mr_M mu_mu hM
      rw [show i = 16 by omega] at hM
      have hM : mm_ G (mu_ M wA (ia_ G 64 (sb0_ (fun j => if j < 16 then nI 0 else w0 j) ((lsr_ sx (nI 32)).toInt32) (sx.toInt32) c0))) H := hM
      refine lv_bipush (v := nI 16) hx hb dd_M_hash_68 (by decide) ?_
      refine lv_istore (lv' := [(4, .int (nI 16)), (0, .ref m0), (1, .long sx), (3, .int c0)]) hx hb dd_M_hash_70 hl (by decide) rfl (fun ls hl => ?_)
      have loop_72 : ∀ (q : Nat) (j : Nat) (H : Heap) (locs : List Loc) (ls : Array Slot), j + q = 48 → mm_ G (mu_ M wA (ia_ G 64 (wf_ (sb0_ (fun j => if j < 16 then nI 0 else w0 j) ((lsr_ sx (nI 32)).toInt32) (sx.toInt32) c0) j))) H → va_S (fz_ G) s.heap H locs → lv_has ls 15 [(0, .ref m0), (1, .long sx), (3, .int c0), (4, .int (nI (16 + j)))] → W p l e R s m args below meth c H locs 0 0 Q (F0 m 72 ls []) := by
        intro q
        induction q with
        | zero =>
          intro j H locs ls hi2 hM hS hl
          refine lv_iload hx hb dd_M_hash_72 (lv_at hl 3 rfl) ?_
          refine lv_bipush (v := nI 64) hx hb dd_M_hash_74 (by decide) ?_
          refine lv_icmp_ge (tgt := 179) hx hb dd_M_hash_76 rfl (fun _ => ?_) (fun hc => absurd (le_nI (a := 64) (b := (16 + j)) (by omega) (by omega) (by omega)) hc)
          rw [show j = 48 by omega] at hM
          have hM : mm_ G (mu_ M wA (ia_ G 64 (wf_ (sb0_ (fun j => if j < 16 then nI 0 else w0 j) ((lsr_ sx (nI 32)).toInt32) (sx.toInt32) c0) 48))) H := hM
          refine mr_ldc (v := (1779033703 : Int32)) C0 tw_578 dd_M_hash_179 ?_
          refine lv_istore (lv' := [(4, .int (1779033703 : Int32)), (0, .ref m0), (1, .long sx), (3, .int c0)]) hx hb dd_M_hash_181 hl (by decide) rfl (fun ls hl => ?_)
          refine mr_ldc (v := (-1150833019 : Int32)) C0 tw_579 dd_M_hash_183 ?_
          refine lv_istore (lv' := [(5, .int (-1150833019 : Int32)), (4, .int (1779033703 : Int32)), (0, .ref m0), (1, .long sx), (3, .int c0)]) hx hb dd_M_hash_185 hl (by decide) rfl (fun ls hl => ?_)
          refine mr_ldc (v := (-1521486534 : Int32)) C0 tw_580 dd_M_hash_187 ?_
          refine lv_istore (lv' := [(6, .int (-1521486534 : Int32)), (5, .int (-1150833019 : Int32)), (4, .int (1779033703 : Int32)), (0, .ref m0), (1, .long sx), (3, .int c0)]) hx hb dd_M_hash_189 hl (by decide) rfl (fun ls hl => ?_)
          refine mr_ldc (v := (1359893119 : Int32)) C0 tw_581 dd_M_hash_191 ?_
          refine lv_istore (lv' := [(7, .int (1359893119 : Int32)), (6, .int (-1521486534 : Int32)), (5, .int (-1150833019 : Int32)), (4, .int (1779033703 : Int32)), (0, .ref m0), (1, .long sx), (3, .int c0)]) hx hb dd_M_hash_193 hl (by decide) rfl (fun ls hl => ?_)
          refine mr_ldc (v := (-1694144372 : Int32)) C0 tw_582 dd_M_hash_195 ?_
          refine lv_istore (lv' := [(8, .int (-1694144372 : Int32)), (7, .int (1359893119 : Int32)), (6, .int (-1521486534 : Int32)), (5, .int (-1150833019 : Int32)), (4, .int (1779033703 : Int32)), (0, .ref m0), (1, .long sx), (3, .int c0)]) hx hb dd_M_hash_197 hl (by decide) rfl (fun ls hl => ?_)
          refine mr_ldc (v := (528734635 : Int32)) C0 tw_583 dd_M_hash_199 ?_
          refine lv_istore (lv' := [(9, .int (528734635 : Int32)), (8, .int (-1694144372 : Int32)), (7, .int (1359893119 : Int32)), (6, .int (-1521486534 : Int32)), (5, .int (-1150833019 : Int32)), (4, .int (1779033703 : Int32)), (0, .ref m0), (1, .long sx), (3, .int c0)]) hx hb dd_M_hash_201 hl (by decide) rfl (fun ls hl => ?_)
          refine mr_ldc (v := (1541459225 : Int32)) C0 tw_584 dd_M_hash_203 ?_
          refine lv_istore (lv' := [(10, .int (1541459225 : Int32)), (9, .int (528734635 : Int32)), (8, .int (-1694144372 : Int32)), (7, .int (1359893119 : Int32)), (6, .int (-1521486534 : Int32)), (5, .int (-1150833019 : Int32)), (4, .int (1779033703 : Int32)), (0, .ref m0), (1, .long sx), (3, .int c0)]) hx hb dd_M_hash_205 hl (by decide) rfl (fun ls hl => ?_)
          refine mr_ldc (v := (1013904242 : Int32)) C0 tw_585 dd_M_hash_207 ?_
          refine lv_istore (lv' := [(11, .int (1013904242 : Int32)), (10, .int (1541459225 : Int32)), (9, .int (528734635 : Int32)), (8, .int (-1694144372 : Int32)), (7, .int (1359893119 : Int32)), (6, .int (-1521486534 : Int32)), (5, .int (-1150833019 : Int32)), (4, .int (1779033703 : Int32)), (0, .ref m0), (1, .long sx), (3, .int c0)]) hx hb dd_M_hash_209 hl (by decide) rfl (fun ls hl => ?_)
          refine lv_iconst (v := nI 0) hx hb dd_M_hash_211 (by decide) ?_
          refine lv_istore (lv' := [(12, .int (nI 0)), (11, .int (1013904242 : Int32)), (10, .int (1541459225 : Int32)), (9, .int (528734635 : Int32)), (8, .int (-1694144372 : Int32)), (7, .int (1359893119 : Int32)), (6, .int (-1521486534 : Int32)), (5, .int (-1150833019 : Int32)), (4, .int (1779033703 : Int32)), (0, .ref m0), (1, .long sx), (3, .int c0)]) hx hb dd_M_hash_212 hl (by decide) rfl (fun ls hl => ?_)
          have loop_214 : ∀ (z : Nat) (i : Nat) (a1 : Int32) (b1 : Int32) (c1 : Int32) (d1 : Int32) (e1 : Int32) (f1 : Int32) (g1 : Int32) (h1 : Int32) (H : Heap) (locs : List Loc) (ls : Array Slot), i + z = 64 → hl_ (wf_ (sb0_ (fun j => if j < 16 then nI 0 else w0 j) ((lsr_ sx (nI 32)).toInt32) (sx.toInt32) c0) 48) z i a1 b1 c1 d1 e1 f1 g1 h1 + 1779033703 = hash_ sx c0 → mm_ G (mu_ M wA (ia_ G 64 (wf_ (sb0_ (fun j => if j < 16 then nI 0 else w0 j) ((lsr_ sx (nI 32)).toInt32) (sx.toInt32) c0) 48))) H → va_S (fz_ G) s.heap H locs → lv_has ls 15 [(0, .ref m0), (4, .int a1), (5, .int b1), (6, .int d1), (7, .int e1), (8, .int f1), (9, .int g1), (10, .int h1), (11, .int c1), (12, .int (nI i))] → W p l e R s m args below meth c H locs 0 0 Q (F0 m 214 ls []) := by
            intro z
            induction z with
            | zero =>
              intro i a1 b1 c1 d1 e1 f1 g1 h1 H locs ls hi3 hF hM hS hl
              refine lv_iload hx hb dd_M_hash_214 (lv_at hl 9 rfl) ?_
              refine lv_bipush (v := nI 64) hx hb dd_M_hash_216 (by decide) ?_
              refine lv_icmp_ge (tgt := 382) hx hb dd_M_hash_218 rfl (fun _ => ?_) (fun hc => absurd (le_nI (a := 64) (b := i) (by omega) (by omega) (by omega)) hc)
              refine lv_iload hx hb dd_M_hash_382 (lv_at hl 1 rfl) ?_
              refine mr_ldc (v := (1779033703 : Int32)) C0 tw_578 dd_M_hash_384 ?_
              refine lv_iadd hx hb dd_M_hash_386 ?_
              exact mr_ret hQ (mr_iret C0 hM hS (rfl) (⟨by rw [← hF]; rfl, _, rfl⟩) dd_M_hash_387)
            | succ z ih3 =>
              intro i a1 b1 c1 d1 e1 f1 g1 h1 H locs ls hi3 hF hM hS hl
              refine lv_iload hx hb dd_M_hash_214 (lv_at hl 9 rfl) ?_
              refine lv_bipush (v := nI 64) hx hb dd_M_hash_216 (by decide) ?_
              refine lv_icmp_ge (tgt := 382) hx hb dd_M_hash_218 rfl (fun hc => absurd hc (nle_nI (a := 64) (b := i) (by omega) (by omega) (by omega))) (fun _ => ?_)
              refine lv_iload hx hb dd_M_hash_221 (lv_at hl 7 rfl) ?_
              refine lv_iload hx hb dd_M_hash_223 (lv_at hl 4 rfl) ?_
              refine lv_bipush (v := nI 6) hx hb dd_M_hash_225 (by decide) ?_
              refine mr_callS (As := [.int e1, .int (nI 6)]) (rest := [.int h1]) C0 hM hS sk_M_106 (c_M_right l) rfl rfl hl.1 (Nat.le_of_ble_eq_true rfl) rfl rfl (by subst hR; exact ⟨Nat.le_of_ble_eq_true rfl, Nat.le_of_ble_eq_true rfl⟩) (by subst hR; exact ⟨Nat.le_of_ble_eq_true rfl, Nat.le_of_ble_eq_true rfl⟩) dd_M_hash_227 (fun v1 M1 H locs hp hM hS => ?_)
              obtain ⟨ev1, eM1⟩ := hp
              subst ev1
              rw [eM1] at hM
              refine W.eq (g2 := F0 m 230 ls [.int (rt_ e1 (nI 6)), .int h1]) rfl ?_
              refine lv_iload hx hb dd_M_hash_230 (lv_at hl 4 rfl) ?_
              refine lv_bipush (v := nI 11) hx hb dd_M_hash_232 (by decide) ?_
              refine mr_callS (As := [.int e1, .int (nI 11)]) (rest := [.int (rt_ e1 (nI 6)), .int h1]) C0 hM hS sk_M_106 (c_M_right l) rfl rfl hl.1 (Nat.le_of_ble_eq_true rfl) rfl rfl (by subst hR; exact ⟨Nat.le_of_ble_eq_true rfl, Nat.le_of_ble_eq_true rfl⟩) (by subst hR; exact ⟨Nat.le_of_ble_eq_true rfl, Nat.le_of_ble_eq_true rfl⟩) dd_M_hash_234 (fun v1 M1 H locs hp hM hS => ?_)
              obtain ⟨ev1, eM1⟩ := hp
              subst ev1
              rw [eM1] at hM
              refine W.eq (g2 := F0 m 237 ls [.int (rt_ e1 (nI 11)), .int (rt_ e1 (nI 6)), .int h1]) rfl ?_
              refine lv_ixor hx hb dd_M_hash_237 ?_
              refine lv_iload hx hb dd_M_hash_238 (lv_at hl 4 rfl) ?_
              refine lv_bipush (v := nI 25) hx hb dd_M_hash_240 (by decide) ?_
              refine mr_callS (As := [.int e1, .int (nI 25)]) (rest := [.int ((rt_ e1 (nI 6)) ^^^ (rt_ e1 (nI 11))), .int h1]) C0 hM hS sk_M_106 (c_M_right l) rfl rfl hl.1 (Nat.le_of_ble_eq_true rfl) rfl rfl (by subst hR; exact ⟨Nat.le_of_ble_eq_true rfl, Nat.le_of_ble_eq_true rfl⟩) (by subst hR; exact ⟨Nat.le_of_ble_eq_true rfl, Nat.le_of_ble_eq_true rfl⟩) dd_M_hash_242 (fun v1 M1 H locs hp hM hS => ?_)
              obtain ⟨ev1, eM1⟩ := hp
              subst ev1
              rw [eM1] at hM
              refine W.eq (g2 := F0 m 245 ls [.int (rt_ e1 (nI 25)), .int ((rt_ e1 (nI 6)) ^^^ (rt_ e1 (nI 11))), .int h1]) rfl ?_
              refine lv_ixor hx hb dd_M_hash_245 ?_
              refine lv_iadd hx hb dd_M_hash_246 ?_
              refine lv_iload hx hb dd_M_hash_247 (lv_at hl 4 rfl) ?_
              refine lv_iload hx hb dd_M_hash_249 (lv_at hl 5 rfl) ?_
              refine lv_iand hx hb dd_M_hash_251 ?_
              refine lv_iload hx hb dd_M_hash_252 (lv_at hl 4 rfl) ?_
              refine lv_iconst (v := (-1 : Int32)) hx hb dd_M_hash_254 (by decide) ?_
              refine lv_ixor hx hb dd_M_hash_255 ?_
              refine lv_iload hx hb dd_M_hash_256 (lv_at hl 6 rfl) ?_
              refine lv_iand hx hb dd_M_hash_258 ?_
              refine lv_ixor hx hb dd_M_hash_259 ?_
              refine lv_iadd hx hb dd_M_hash_260 ?_
              refine lv_aload_n hx hb dd_M_hash_261 rfl (lv_at hl 0 rfl) ?_
              refine mr_get C0 hM fk_M_71 (mu_n' (ne_k h_m h_wA (fun q => by cases q)) h_m) (v := .ref kA) rfl dd_M_hash_262 ?_
              refine lv_iload hx hb dd_M_hash_265 (lv_at hl 9 rfl) ?_
              refine lv_iconst (v := nI 2) hx hb dd_M_hash_267 (by decide) ?_
              refine lv_idiv hx hb dd_M_hash_268 (by decide) ?_
              refine mr_vi (x' := nI (i / 2)) (pk_div (d := 2) (by omega) (by decide) (by decide)) ?_
              refine mr_lald C0 hM (mu_n' (Ne.symm (ne_il h_wA h_kA)) h_kA) ((i / 2)) (rfl) (by omega) (by decide) dd_M_hash_269 ?_
              refine lv_iload hx hb dd_M_hash_270 (lv_at hl 9 rfl) ?_
              refine lv_iconst (v := nI 2) hx hb dd_M_hash_272 (by decide) ?_
              refine lv_irem hx hb dd_M_hash_273 (by decide) ?_
              refine mr_vi (x' := nI (i % 2)) (pk_rem (d := 2) (by omega) (by decide) (by decide)) ?_
              refine lv_if_ne (tgt := 282) hx hb dd_M_hash_274 rfl (fun h274 => ?_) (fun h274 => ?_)
              · skip
                have hpar : i = 2 * (i / 2) + 1 := by
                  have h2 : i % 2 ≠ 0 := fun q => h274 (by rw [q]; rfl)
                  omega
                refine lv_iconst (v := nI 0) hx hb dd_M_hash_282 (by decide) ?_
                refine lv_lshr (v := lsr_ (mk_ (i / 2)) (nI 0)) hx hb dd_M_hash_283 (rfl) ?_
                refine lv_l2i (v := kt_ i) hx hb dd_M_hash_284 ((mk_e (i / 2) (by omega)).2.trans (congrArg kt_ hpar.symm)) ?_
                refine lv_iadd hx hb dd_M_hash_285 ?_
                refine lv_aload_n hx hb dd_M_hash_286 rfl (lv_at hl 0 rfl) ?_
                refine mr_get C0 hM fk_M_77 (mu_n' (ne_k h_m h_wA (fun q => by cases q)) h_m) (v := .ref wA) rfl dd_M_hash_287 ?_
                refine lv_iload hx hb dd_M_hash_290 (lv_at hl 9 rfl) ?_
                refine mr_iald C0 hM mu_s (i) (rfl) (by omega) (by decide) dd_M_hash_292 ?_
                refine lv_iadd hx hb dd_M_hash_293 ?_
                refine lv_topi (fun v1 e2 => ?_)
                refine lv_istore (lv' := [(13, .int v1), (0, .ref m0), (4, .int a1), (5, .int b1), (6, .int d1), (7, .int e1), (8, .int f1), (9, .int g1), (10, .int h1), (11, .int c1), (12, .int (nI i))]) hx hb dd_M_hash_294 hl (by decide) rfl (fun ls hl => ?_)
                refine lv_iload hx hb dd_M_hash_296 (lv_at hl 2 rfl) ?_
                refine lv_iconst (v := nI 2) hx hb dd_M_hash_298 (by decide) ?_
                refine mr_callS (As := [.int a1, .int (nI 2)]) (rest := []) C0 hM hS sk_M_106 (c_M_right l) rfl rfl hl.1 (Nat.le_of_ble_eq_true rfl) rfl rfl (by subst hR; exact ⟨Nat.le_of_ble_eq_true rfl, Nat.le_of_ble_eq_true rfl⟩) (by subst hR; exact ⟨Nat.le_of_ble_eq_true rfl, Nat.le_of_ble_eq_true rfl⟩) dd_M_hash_299 (fun v1 M1 H locs hp hM hS => ?_)
                obtain ⟨ev1, eM1⟩ := hp
                subst ev1
                rw [eM1] at hM
                refine W.eq (g2 := F0 m 302 ls [.int (rt_ a1 (nI 2))]) rfl ?_
                refine lv_iload hx hb dd_M_hash_302 (lv_at hl 2 rfl) ?_
                refine lv_bipush (v := nI 13) hx hb dd_M_hash_304 (by decide) ?_
                refine mr_callS (As := [.int a1, .int (nI 13)]) (rest := [.int (rt_ a1 (nI 2))]) C0 hM hS sk_M_106 (c_M_right l) rfl rfl hl.1 (Nat.le_of_ble_eq_true rfl) rfl rfl (by subst hR; exact ⟨Nat.le_of_ble_eq_true rfl, Nat.le_of_ble_eq_true rfl⟩) (by subst hR; exact ⟨Nat.le_of_ble_eq_true rfl, Nat.le_of_ble_eq_true rfl⟩) dd_M_hash_306 (fun v1 M1 H locs hp hM hS => ?_)
                obtain ⟨ev1, eM1⟩ := hp
                subst ev1
                rw [eM1] at hM
                refine W.eq (g2 := F0 m 309 ls [.int (rt_ a1 (nI 13)), .int (rt_ a1 (nI 2))]) rfl ?_
                refine lv_ixor hx hb dd_M_hash_309 ?_
                refine lv_iload hx hb dd_M_hash_310 (lv_at hl 2 rfl) ?_
                refine lv_bipush (v := nI 22) hx hb dd_M_hash_312 (by decide) ?_
                refine mr_callS (As := [.int a1, .int (nI 22)]) (rest := [.int ((rt_ a1 (nI 2)) ^^^ (rt_ a1 (nI 13)))]) C0 hM hS sk_M_106 (c_M_right l) rfl rfl hl.1 (Nat.le_of_ble_eq_true rfl) rfl rfl (by subst hR; exact ⟨Nat.le_of_ble_eq_true rfl, Nat.le_of_ble_eq_true rfl⟩) (by subst hR; exact ⟨Nat.le_of_ble_eq_true rfl, Nat.le_of_ble_eq_true rfl⟩) dd_M_hash_314 (fun v1 M1 H locs hp hM hS => ?_)
                obtain ⟨ev1, eM1⟩ := hp
                subst ev1
                rw [eM1] at hM
                refine W.eq (g2 := F0 m 317 ls [.int (rt_ a1 (nI 22)), .int ((rt_ a1 (nI 2)) ^^^ (rt_ a1 (nI 13)))]) rfl ?_
                refine lv_ixor hx hb dd_M_hash_317 ?_
                refine lv_iload hx hb dd_M_hash_318 (lv_at hl 2 rfl) ?_
                refine lv_iload hx hb dd_M_hash_320 (lv_at hl 3 rfl) ?_
                refine lv_iand hx hb dd_M_hash_322 ?_
                refine lv_iload hx hb dd_M_hash_323 (lv_at hl 2 rfl) ?_
                refine lv_iload hx hb dd_M_hash_325 (lv_at hl 9 rfl) ?_
                refine lv_iand hx hb dd_M_hash_327 ?_
                refine lv_ixor hx hb dd_M_hash_328 ?_
                refine lv_iload hx hb dd_M_hash_329 (lv_at hl 3 rfl) ?_
                refine lv_iload hx hb dd_M_hash_331 (lv_at hl 9 rfl) ?_
                refine lv_iand hx hb dd_M_hash_333 ?_
                refine lv_ixor hx hb dd_M_hash_334 ?_
                refine lv_iadd hx hb dd_M_hash_335 ?_
                refine lv_topi (fun v3 e4 => ?_)
                refine lv_istore (lv' := [(14, .int v3), (13, .int v1), (0, .ref m0), (4, .int a1), (5, .int b1), (6, .int d1), (7, .int e1), (8, .int f1), (9, .int g1), (10, .int h1), (11, .int c1), (12, .int (nI i))]) hx hb dd_M_hash_336 hl (by decide) rfl (fun ls hl => ?_)
                refine lv_iload hx hb dd_M_hash_338 (lv_at hl 8 rfl) ?_
                refine lv_istore (lv' := [(10, .int g1), (14, .int v3), (13, .int v1), (0, .ref m0), (4, .int a1), (5, .int b1), (6, .int d1), (7, .int e1), (8, .int f1), (9, .int g1), (11, .int c1), (12, .int (nI i))]) hx hb dd_M_hash_340 hl (by decide) rfl (fun ls hl => ?_)
                refine lv_iload hx hb dd_M_hash_342 (lv_at hl 8 rfl) ?_
                refine lv_istore (lv' := [(9, .int f1), (10, .int g1), (14, .int v3), (13, .int v1), (0, .ref m0), (4, .int a1), (5, .int b1), (6, .int d1), (7, .int e1), (8, .int f1), (11, .int c1), (12, .int (nI i))]) hx hb dd_M_hash_344 hl (by decide) rfl (fun ls hl => ?_)
                refine lv_iload hx hb dd_M_hash_346 (lv_at hl 8 rfl) ?_
                refine lv_istore (lv' := [(8, .int e1), (9, .int f1), (10, .int g1), (14, .int v3), (13, .int v1), (0, .ref m0), (4, .int a1), (5, .int b1), (6, .int d1), (7, .int e1), (11, .int c1), (12, .int (nI i))]) hx hb dd_M_hash_348 hl (by decide) rfl (fun ls hl => ?_)
                refine lv_iload hx hb dd_M_hash_350 (lv_at hl 8 rfl) ?_
                refine lv_iload hx hb dd_M_hash_352 (lv_at hl 4 rfl) ?_
                refine lv_iadd hx hb dd_M_hash_354 ?_
                refine lv_topi (fun v5 e6 => ?_)
                refine lv_istore (lv' := [(7, .int v5), (8, .int e1), (9, .int f1), (10, .int g1), (14, .int v3), (13, .int v1), (0, .ref m0), (4, .int a1), (5, .int b1), (6, .int d1), (11, .int c1), (12, .int (nI i))]) hx hb dd_M_hash_355 hl (by decide) rfl (fun ls hl => ?_)
                refine lv_iload hx hb dd_M_hash_357 (lv_at hl 10 rfl) ?_
                refine lv_istore (lv' := [(6, .int c1), (7, .int v5), (8, .int e1), (9, .int f1), (10, .int g1), (14, .int v3), (13, .int v1), (0, .ref m0), (4, .int a1), (5, .int b1), (11, .int c1), (12, .int (nI i))]) hx hb dd_M_hash_359 hl (by decide) rfl (fun ls hl => ?_)
                refine lv_iload hx hb dd_M_hash_361 (lv_at hl 9 rfl) ?_
                refine lv_istore (lv' := [(11, .int b1), (6, .int c1), (7, .int v5), (8, .int e1), (9, .int f1), (10, .int g1), (14, .int v3), (13, .int v1), (0, .ref m0), (4, .int a1), (5, .int b1), (12, .int (nI i))]) hx hb dd_M_hash_363 hl (by decide) rfl (fun ls hl => ?_)
                refine lv_iload hx hb dd_M_hash_365 (lv_at hl 9 rfl) ?_
                refine lv_istore (lv' := [(5, .int a1), (11, .int b1), (6, .int c1), (7, .int v5), (8, .int e1), (9, .int f1), (10, .int g1), (14, .int v3), (13, .int v1), (0, .ref m0), (4, .int a1), (12, .int (nI i))]) hx hb dd_M_hash_367 hl (by decide) rfl (fun ls hl => ?_)
                refine lv_iload hx hb dd_M_hash_369 (lv_at hl 8 rfl) ?_
                refine lv_iload hx hb dd_M_hash_371 (lv_at hl 7 rfl) ?_
                refine lv_iadd hx hb dd_M_hash_373 ?_
                refine lv_topi (fun v7 e8 => ?_)
                refine lv_istore (lv' := [(4, .int v7), (5, .int a1), (11, .int b1), (6, .int c1), (7, .int v5), (8, .int e1), (9, .int f1), (10, .int g1), (14, .int v3), (13, .int v1), (0, .ref m0), (12, .int (nI i))]) hx hb dd_M_hash_374 hl (by decide) rfl (fun ls hl => ?_)
                refine lv_iinc (k := 11) (v := nI (i + 1)) (lv' := [(12, .int (nI (i + 1))), (4, .int v7), (5, .int a1), (11, .int b1), (6, .int c1), (7, .int v5), (8, .int e1), (9, .int f1), (10, .int g1), (14, .int v3), (13, .int v1), (0, .ref m0)]) hx hb dd_M_hash_376 hl rfl (inc_ i) (by decide) rfl (fun ls hl => ?_)
                refine lv_goto (tgt := 214) hx hb dd_M_hash_379 rfl ?_
                subst e8 e6 e4 e2
                exact ih3 (i + 1) _ _ _ _ _ _ _ _ _ _ _ (by omega) (hF) hM hS (lv_sub hl [11, 1, 2, 4, 5, 6, 7, 8, 3, 0] rfl)
              · skip
                have hpar : i = 2 * (i / 2) := by
                  have h2 : i % 2 = 0 := (nI_eq (by omega) (by decide)).mp h274
                  omega
                refine lv_bipush (v := nI 32) hx hb dd_M_hash_277 (by decide) ?_
                refine lv_goto (tgt := 283) hx hb dd_M_hash_279 rfl ?_
                refine lv_lshr (v := lsr_ (mk_ (i / 2)) (nI 32)) hx hb dd_M_hash_283 (rfl) ?_
                refine lv_l2i (v := kt_ i) hx hb dd_M_hash_284 ((mk_e (i / 2) (by omega)).1.trans (congrArg kt_ hpar.symm)) ?_
                refine lv_iadd hx hb dd_M_hash_285 ?_
                refine lv_aload_n hx hb dd_M_hash_286 rfl (lv_at hl 0 rfl) ?_
                refine mr_get C0 hM fk_M_77 (mu_n' (ne_k h_m h_wA (fun q => by cases q)) h_m) (v := .ref wA) rfl dd_M_hash_287 ?_
                refine lv_iload hx hb dd_M_hash_290 (lv_at hl 9 rfl) ?_
                refine mr_iald C0 hM mu_s (i) (rfl) (by omega) (by decide) dd_M_hash_292 ?_
                refine lv_iadd hx hb dd_M_hash_293 ?_
                refine lv_topi (fun v9 e10 => ?_)
                refine lv_istore (lv' := [(13, .int v9), (0, .ref m0), (4, .int a1), (5, .int b1), (6, .int d1), (7, .int e1), (8, .int f1), (9, .int g1), (10, .int h1), (11, .int c1), (12, .int (nI i))]) hx hb dd_M_hash_294 hl (by decide) rfl (fun ls hl => ?_)
                refine lv_iload hx hb dd_M_hash_296 (lv_at hl 2 rfl) ?_
                refine lv_iconst (v := nI 2) hx hb dd_M_hash_298 (by decide) ?_
                refine mr_callS (As := [.int a1, .int (nI 2)]) (rest := []) C0 hM hS sk_M_106 (c_M_right l) rfl rfl hl.1 (Nat.le_of_ble_eq_true rfl) rfl rfl (by subst hR; exact ⟨Nat.le_of_ble_eq_true rfl, Nat.le_of_ble_eq_true rfl⟩) (by subst hR; exact ⟨Nat.le_of_ble_eq_true rfl, Nat.le_of_ble_eq_true rfl⟩) dd_M_hash_299 (fun v1 M1 H locs hp hM hS => ?_)
                obtain ⟨ev1, eM1⟩ := hp
                subst ev1
                rw [eM1] at hM
                refine W.eq (g2 := F0 m 302 ls [.int (rt_ a1 (nI 2))]) rfl ?_
                refine lv_iload hx hb dd_M_hash_302 (lv_at hl 2 rfl) ?_
                refine lv_bipush (v := nI 13) hx hb dd_M_hash_304 (by decide) ?_
                refine mr_callS (As := [.int a1, .int (nI 13)]) (rest := [.int (rt_ a1 (nI 2))]) C0 hM hS sk_M_106 (c_M_right l) rfl rfl hl.1 (Nat.le_of_ble_eq_true rfl) rfl rfl (by subst hR; exact ⟨Nat.le_of_ble_eq_true rfl, Nat.le_of_ble_eq_true rfl⟩) (by subst hR; exact ⟨Nat.le_of_ble_eq_true rfl, Nat.le_of_ble_eq_true rfl⟩) dd_M_hash_306 (fun v1 M1 H locs hp hM hS => ?_)
                obtain ⟨ev1, eM1⟩ := hp
                subst ev1
                rw [eM1] at hM
                refine W.eq (g2 := F0 m 309 ls [.int (rt_ a1 (nI 13)), .int (rt_ a1 (nI 2))]) rfl ?_
                refine lv_ixor hx hb dd_M_hash_309 ?_
                refine lv_iload hx hb dd_M_hash_310 (lv_at hl 2 rfl) ?_
                refine lv_bipush (v := nI 22) hx hb dd_M_hash_312 (by decide) ?_
                refine mr_callS (As := [.int a1, .int (nI 22)]) (rest := [.int ((rt_ a1 (nI 2)) ^^^ (rt_ a1 (nI 13)))]) C0 hM hS sk_M_106 (c_M_right l) rfl rfl hl.1 (Nat.le_of_ble_eq_true rfl) rfl rfl (by subst hR; exact ⟨Nat.le_of_ble_eq_true rfl, Nat.le_of_ble_eq_true rfl⟩) (by subst hR; exact ⟨Nat.le_of_ble_eq_true rfl, Nat.le_of_ble_eq_true rfl⟩) dd_M_hash_314 (fun v1 M1 H locs hp hM hS => ?_)
                obtain ⟨ev1, eM1⟩ := hp
                subst ev1
                rw [eM1] at hM
                refine W.eq (g2 := F0 m 317 ls [.int (rt_ a1 (nI 22)), .int ((rt_ a1 (nI 2)) ^^^ (rt_ a1 (nI 13)))]) rfl ?_
                refine lv_ixor hx hb dd_M_hash_317 ?_
                refine lv_iload hx hb dd_M_hash_318 (lv_at hl 2 rfl) ?_
                refine lv_iload hx hb dd_M_hash_320 (lv_at hl 3 rfl) ?_
                refine lv_iand hx hb dd_M_hash_322 ?_
                refine lv_iload hx hb dd_M_hash_323 (lv_at hl 2 rfl) ?_
                refine lv_iload hx hb dd_M_hash_325 (lv_at hl 9 rfl) ?_
                refine lv_iand hx hb dd_M_hash_327 ?_
                refine lv_ixor hx hb dd_M_hash_328 ?_
                refine lv_iload hx hb dd_M_hash_329 (lv_at hl 3 rfl) ?_
                refine lv_iload hx hb dd_M_hash_331 (lv_at hl 9 rfl) ?_
                refine lv_iand hx hb dd_M_hash_333 ?_
                refine lv_ixor hx hb dd_M_hash_334 ?_
                refine lv_iadd hx hb dd_M_hash_335 ?_
                refine lv_topi (fun v11 e12 => ?_)
                refine lv_istore (lv' := [(14, .int v11), (13, .int v9), (0, .ref m0), (4, .int a1), (5, .int b1), (6, .int d1), (7, .int e1), (8, .int f1), (9, .int g1), (10, .int h1), (11, .int c1), (12, .int (nI i))]) hx hb dd_M_hash_336 hl (by decide) rfl (fun ls hl => ?_)
                refine lv_iload hx hb dd_M_hash_338 (lv_at hl 8 rfl) ?_
                refine lv_istore (lv' := [(10, .int g1), (14, .int v11), (13, .int v9), (0, .ref m0), (4, .int a1), (5, .int b1), (6, .int d1), (7, .int e1), (8, .int f1), (9, .int g1), (11, .int c1), (12, .int (nI i))]) hx hb dd_M_hash_340 hl (by decide) rfl (fun ls hl => ?_)
                refine lv_iload hx hb dd_M_hash_342 (lv_at hl 8 rfl) ?_
                refine lv_istore (lv' := [(9, .int f1), (10, .int g1), (14, .int v11), (13, .int v9), (0, .ref m0), (4, .int a1), (5, .int b1), (6, .int d1), (7, .int e1), (8, .int f1), (11, .int c1), (12, .int (nI i))]) hx hb dd_M_hash_344 hl (by decide) rfl (fun ls hl => ?_)
                refine lv_iload hx hb dd_M_hash_346 (lv_at hl 8 rfl) ?_
                refine lv_istore (lv' := [(8, .int e1), (9, .int f1), (10, .int g1), (14, .int v11), (13, .int v9), (0, .ref m0), (4, .int a1), (5, .int b1), (6, .int d1), (7, .int e1), (11, .int c1), (12, .int (nI i))]) hx hb dd_M_hash_348 hl (by decide) rfl (fun ls hl => ?_)
                refine lv_iload hx hb dd_M_hash_350 (lv_at hl 8 rfl) ?_
                refine lv_iload hx hb dd_M_hash_352 (lv_at hl 4 rfl) ?_
                refine lv_iadd hx hb dd_M_hash_354 ?_
                refine lv_topi (fun v13 e14 => ?_)
                refine lv_istore (lv' := [(7, .int v13), (8, .int e1), (9, .int f1), (10, .int g1), (14, .int v11), (13, .int v9), (0, .ref m0), (4, .int a1), (5, .int b1), (6, .int d1), (11, .int c1), (12, .int (nI i))]) hx hb dd_M_hash_355 hl (by decide) rfl (fun ls hl => ?_)
                refine lv_iload hx hb dd_M_hash_357 (lv_at hl 10 rfl) ?_
                refine lv_istore (lv' := [(6, .int c1), (7, .int v13), (8, .int e1), (9, .int f1), (10, .int g1), (14, .int v11), (13, .int v9), (0, .ref m0), (4, .int a1), (5, .int b1), (11, .int c1), (12, .int (nI i))]) hx hb dd_M_hash_359 hl (by decide) rfl (fun ls hl => ?_)
                refine lv_iload hx hb dd_M_hash_361 (lv_at hl 9 rfl) ?_
                refine lv_istore (lv' := [(11, .int b1), (6, .int c1), (7, .int v13), (8, .int e1), (9, .int f1), (10, .int g1), (14, .int v11), (13, .int v9), (0, .ref m0), (4, .int a1), (5, .int b1), (12, .int (nI i))]) hx hb dd_M_hash_363 hl (by decide) rfl (fun ls hl => ?_)
                refine lv_iload hx hb dd_M_hash_365 (lv_at hl 9 rfl) ?_
                refine lv_istore (lv' := [(5, .int a1), (11, .int b1), (6, .int c1), (7, .int v13), (8, .int e1), (9, .int f1), (10, .int g1), (14, .int v11), (13, .int v9), (0, .ref m0), (4, .int a1), (12, .int (nI i))]) hx hb dd_M_hash_367 hl (by decide) rfl (fun ls hl => ?_)
                refine lv_iload hx hb dd_M_hash_369 (lv_at hl 8 rfl) ?_
                refine lv_iload hx hb dd_M_hash_371 (lv_at hl 7 rfl) ?_
                refine lv_iadd hx hb dd_M_hash_373 ?_
                refine lv_topi (fun v15 e16 => ?_)
                refine lv_istore (lv' := [(4, .int v15), (5, .int a1), (11, .int b1), (6, .int c1), (7, .int v13), (8, .int e1), (9, .int f1), (10, .int g1), (14, .int v11), (13, .int v9), (0, .ref m0), (12, .int (nI i))]) hx hb dd_M_hash_374 hl (by decide) rfl (fun ls hl => ?_)
                refine lv_iinc (k := 11) (v := nI (i + 1)) (lv' := [(12, .int (nI (i + 1))), (4, .int v15), (5, .int a1), (11, .int b1), (6, .int c1), (7, .int v13), (8, .int e1), (9, .int f1), (10, .int g1), (14, .int v11), (13, .int v9), (0, .ref m0)]) hx hb dd_M_hash_376 hl rfl (inc_ i) (by decide) rfl (fun ls hl => ?_)
                refine lv_goto (tgt := 214) hx hb dd_M_hash_379 rfl ?_
                subst e16 e14 e12 e10
                exact ih3 (i + 1) _ _ _ _ _ _ _ _ _ _ _ (by omega) (hF) hM hS (lv_sub hl [11, 1, 2, 4, 5, 6, 7, 8, 3, 0] rfl)
          exact loop_214 64 0 1779033703 (-1150833019) 1013904242 (-1521486534) 1359893119 (-1694144372) 528734635 1541459225 _ _ _ (rfl) (hash_m (fun j hj => if_pos hj) sx c0) hM hS (lv_sub hl [9, 8, 7, 6, 5, 4, 3, 2, 1, 0] rfl)
        | succ q ih2 =>
          intro j H locs ls hi2 hM hS hl
          refine lv_iload hx hb dd_M_hash_72 (lv_at hl 3 rfl) ?_
          refine lv_bipush (v := nI 64) hx hb dd_M_hash_74 (by decide) ?_
          refine lv_icmp_ge (tgt := 179) hx hb dd_M_hash_76 rfl (fun hc => absurd hc (nle_nI (a := 64) (b := (16 + j)) (by omega) (by omega) (by omega))) (fun _ => ?_)
          refine lv_aload_n hx hb dd_M_hash_79 rfl (lv_at hl 0 rfl) ?_
          refine mr_get C0 hM fk_M_77 (mu_n' (ne_k h_m h_wA (fun q => by cases q)) h_m) (v := .ref wA) rfl dd_M_hash_80 ?_
          refine lv_iload hx hb dd_M_hash_83 (lv_at hl 3 rfl) ?_
          refine lv_iconst (v := nI 2) hx hb dd_M_hash_85 (by decide) ?_
          refine lv_isub hx hb dd_M_hash_86 ?_
          refine mr_vi (pk_sub (a := (16 + j)) (b := 2) (by omega)) ?_
          refine mr_iald C0 hM mu_s (((16 + j) - 2)) (rfl) (by omega) (by decide) dd_M_hash_87 ?_
          refine lv_istore (lv' := [(5, .int ((wf_ (sb0_ (fun j => if j < 16 then nI 0 else w0 j) ((lsr_ sx (nI 32)).toInt32) (sx.toInt32) c0) j) ((16 + j) - 2))), (0, .ref m0), (1, .long sx), (3, .int c0), (4, .int (nI (16 + j)))]) hx hb dd_M_hash_88 hl (by decide) rfl (fun ls hl => ?_)
          refine lv_aload_n hx hb dd_M_hash_90 rfl (lv_at hl 1 rfl) ?_
          refine mr_get C0 hM fk_M_77 (mu_n' (ne_k h_m h_wA (fun q => by cases q)) h_m) (v := .ref wA) rfl dd_M_hash_91 ?_
          refine lv_iload hx hb dd_M_hash_94 (lv_at hl 4 rfl) ?_
          refine lv_bipush (v := nI 15) hx hb dd_M_hash_96 (by decide) ?_
          refine lv_isub hx hb dd_M_hash_98 ?_
          refine mr_vi (pk_sub (a := (16 + j)) (b := 15) (by omega)) ?_
          refine mr_iald C0 hM mu_s (((16 + j) - 15)) (rfl) (by omega) (by decide) dd_M_hash_99 ?_
          refine lv_istore (lv' := [(6, .int ((wf_ (sb0_ (fun j => if j < 16 then nI 0 else w0 j) ((lsr_ sx (nI 32)).toInt32) (sx.toInt32) c0) j) ((16 + j) - 15))), (5, .int ((wf_ (sb0_ (fun j => if j < 16 then nI 0 else w0 j) ((lsr_ sx (nI 32)).toInt32) (sx.toInt32) c0) j) ((16 + j) - 2))), (0, .ref m0), (1, .long sx), (3, .int c0), (4, .int (nI (16 + j)))]) hx hb dd_M_hash_100 hl (by decide) rfl (fun ls hl => ?_)
          refine lv_aload_n hx hb dd_M_hash_102 rfl (lv_at hl 2 rfl) ?_
          refine mr_get C0 hM fk_M_77 (mu_n' (ne_k h_m h_wA (fun q => by cases q)) h_m) (v := .ref wA) rfl dd_M_hash_103 ?_
          refine lv_iload hx hb dd_M_hash_106 (lv_at hl 5 rfl) ?_
          refine lv_iload hx hb dd_M_hash_108 (lv_at hl 1 rfl) ?_
          refine lv_bipush (v := nI 17) hx hb dd_M_hash_110 (by decide) ?_
          refine mr_callS (As := [.int ((wf_ (sb0_ (fun j => if j < 16 then nI 0 else w0 j) ((lsr_ sx (nI 32)).toInt32) (sx.toInt32) c0) j) ((16 + j) - 2)), .int (nI 17)]) (rest := [.int (nI (16 + j)), .ref wA]) C0 hM hS sk_M_106 (c_M_right l) rfl rfl hl.1 (Nat.le_of_ble_eq_true rfl) rfl rfl (by subst hR; exact ⟨Nat.le_of_ble_eq_true rfl, Nat.le_of_ble_eq_true rfl⟩) (by subst hR; exact ⟨Nat.le_of_ble_eq_true rfl, Nat.le_of_ble_eq_true rfl⟩) dd_M_hash_112 (fun v1 M1 H locs hp hM hS => ?_)
          obtain ⟨ev1, eM1⟩ := hp
          subst ev1
          rw [eM1] at hM
          refine W.eq (g2 := F0 m 115 ls [.int (rt_ (wf_ (sb0_ (fun j => if j < 16 then nI 0 else w0 j) ((lsr_ sx (nI 32)).toInt32) (sx.toInt32) c0) j (16 + j - 2)) (nI 17)), .int (nI (16 + j)), .ref wA]) rfl ?_
          refine lv_iload hx hb dd_M_hash_115 (lv_at hl 1 rfl) ?_
          refine lv_bipush (v := nI 19) hx hb dd_M_hash_117 (by decide) ?_
          refine mr_callS (As := [.int ((wf_ (sb0_ (fun j => if j < 16 then nI 0 else w0 j) ((lsr_ sx (nI 32)).toInt32) (sx.toInt32) c0) j) ((16 + j) - 2)), .int (nI 19)]) (rest := [.int (rt_ (wf_ (sb0_ (fun j => if j < 16 then nI 0 else w0 j) ((lsr_ sx (nI 32)).toInt32) (sx.toInt32) c0) j (16 + j - 2)) (nI 17)), .int (nI (16 + j)), .ref wA]) C0 hM hS sk_M_106 (c_M_right l) rfl rfl hl.1 (Nat.le_of_ble_eq_true rfl) rfl rfl (by subst hR; exact ⟨Nat.le_of_ble_eq_true rfl, Nat.le_of_ble_eq_true rfl⟩) (by subst hR; exact ⟨Nat.le_of_ble_eq_true rfl, Nat.le_of_ble_eq_true rfl⟩) dd_M_hash_119 (fun v1 M1 H locs hp hM hS => ?_)
          obtain ⟨ev1, eM1⟩ := hp
          subst ev1
          rw [eM1] at hM
          refine W.eq (g2 := F0 m 122 ls [.int (rt_ (wf_ (sb0_ (fun j => if j < 16 then nI 0 else w0 j) ((lsr_ sx (nI 32)).toInt32) (sx.toInt32) c0) j (16 + j - 2)) (nI 19)), .int (rt_ (wf_ (sb0_ (fun j => if j < 16 then nI 0 else w0 j) ((lsr_ sx (nI 32)).toInt32) (sx.toInt32) c0) j (16 + j - 2)) (nI 17)), .int (nI (16 + j)), .ref wA]) rfl ?_
          refine lv_ixor hx hb dd_M_hash_122 ?_
          refine lv_iload hx hb dd_M_hash_123 (lv_at hl 1 rfl) ?_
          refine lv_bipush (v := nI 10) hx hb dd_M_hash_125 (by decide) ?_
          refine lv_iushr (v := ius_ ((wf_ (sb0_ (fun j => if j < 16 then nI 0 else w0 j) ((lsr_ sx (nI 32)).toInt32) (sx.toInt32) c0) j) ((16 + j) - 2)) (nI 10)) hx hb dd_M_hash_127 (rfl) ?_
          refine lv_ixor hx hb dd_M_hash_128 ?_
          refine lv_aload_n hx hb dd_M_hash_129 rfl (lv_at hl 2 rfl) ?_
          refine mr_get C0 hM fk_M_77 (mu_n' (ne_k h_m h_wA (fun q => by cases q)) h_m) (v := .ref wA) rfl dd_M_hash_130 ?_
          refine lv_iload hx hb dd_M_hash_133 (lv_at hl 5 rfl) ?_
          refine lv_bipush (v := nI 7) hx hb dd_M_hash_135 (by decide) ?_
          refine lv_isub hx hb dd_M_hash_137 ?_
          refine mr_vi (pk_sub (a := (16 + j)) (b := 7) (by omega)) ?_
          refine mr_iald C0 hM mu_s (((16 + j) - 7)) (rfl) (by omega) (by decide) dd_M_hash_138 ?_
          refine lv_iadd hx hb dd_M_hash_139 ?_
          refine lv_iload hx hb dd_M_hash_140 (lv_at hl 0 rfl) ?_
          refine lv_bipush (v := nI 7) hx hb dd_M_hash_142 (by decide) ?_
          refine mr_callS (As := [.int ((wf_ (sb0_ (fun j => if j < 16 then nI 0 else w0 j) ((lsr_ sx (nI 32)).toInt32) (sx.toInt32) c0) j) ((16 + j) - 15)), .int (nI 7)]) (rest := [.int ((((rt_ (wf_ (sb0_ (fun j => if j < 16 then nI 0 else w0 j) ((lsr_ sx (nI 32)).toInt32) (sx.toInt32) c0) j (16 + j - 2)) (nI 17)) ^^^ (rt_ (wf_ (sb0_ (fun j => if j < 16 then nI 0 else w0 j) ((lsr_ sx (nI 32)).toInt32) (sx.toInt32) c0) j (16 + j - 2)) (nI 19))) ^^^ (ius_ ((wf_ (sb0_ (fun j => if j < 16 then nI 0 else w0 j) ((lsr_ sx (nI 32)).toInt32) (sx.toInt32) c0) j) ((16 + j) - 2)) (nI 10))) + ((wf_ (sb0_ (fun j => if j < 16 then nI 0 else w0 j) ((lsr_ sx (nI 32)).toInt32) (sx.toInt32) c0) j) ((16 + j) - 7))), .int (nI (16 + j)), .ref wA]) C0 hM hS sk_M_106 (c_M_right l) rfl rfl hl.1 (Nat.le_of_ble_eq_true rfl) rfl rfl (by subst hR; exact ⟨Nat.le_of_ble_eq_true rfl, Nat.le_of_ble_eq_true rfl⟩) (by subst hR; exact ⟨Nat.le_of_ble_eq_true rfl, Nat.le_of_ble_eq_true rfl⟩) dd_M_hash_144 (fun v1 M1 H locs hp hM hS => ?_)
          obtain ⟨ev1, eM1⟩ := hp
          subst ev1
          rw [eM1] at hM
          refine W.eq (g2 := F0 m 147 ls [.int (rt_ (wf_ (sb0_ (fun j => if j < 16 then nI 0 else w0 j) ((lsr_ sx (nI 32)).toInt32) (sx.toInt32) c0) j (16 + j - 15)) (nI 7)), .int ((((rt_ (wf_ (sb0_ (fun j => if j < 16 then nI 0 else w0 j) ((lsr_ sx (nI 32)).toInt32) (sx.toInt32) c0) j (16 + j - 2)) (nI 17)) ^^^ (rt_ (wf_ (sb0_ (fun j => if j < 16 then nI 0 else w0 j) ((lsr_ sx (nI 32)).toInt32) (sx.toInt32) c0) j (16 + j - 2)) (nI 19))) ^^^ (ius_ ((wf_ (sb0_ (fun j => if j < 16 then nI 0 else w0 j) ((lsr_ sx (nI 32)).toInt32) (sx.toInt32) c0) j) ((16 + j) - 2)) (nI 10))) + ((wf_ (sb0_ (fun j => if j < 16 then nI 0 else w0 j) ((lsr_ sx (nI 32)).toInt32) (sx.toInt32) c0) j) ((16 + j) - 7))), .int (nI (16 + j)), .ref wA]) rfl ?_
          refine lv_iload hx hb dd_M_hash_147 (lv_at hl 0 rfl) ?_
          refine lv_bipush (v := nI 18) hx hb dd_M_hash_149 (by decide) ?_
          refine mr_callS (As := [.int ((wf_ (sb0_ (fun j => if j < 16 then nI 0 else w0 j) ((lsr_ sx (nI 32)).toInt32) (sx.toInt32) c0) j) ((16 + j) - 15)), .int (nI 18)]) (rest := [.int (rt_ (wf_ (sb0_ (fun j => if j < 16 then nI 0 else w0 j) ((lsr_ sx (nI 32)).toInt32) (sx.toInt32) c0) j (16 + j - 15)) (nI 7)), .int ((((rt_ (wf_ (sb0_ (fun j => if j < 16 then nI 0 else w0 j) ((lsr_ sx (nI 32)).toInt32) (sx.toInt32) c0) j (16 + j - 2)) (nI 17)) ^^^ (rt_ (wf_ (sb0_ (fun j => if j < 16 then nI 0 else w0 j) ((lsr_ sx (nI 32)).toInt32) (sx.toInt32) c0) j (16 + j - 2)) (nI 19))) ^^^ (ius_ ((wf_ (sb0_ (fun j => if j < 16 then nI 0 else w0 j) ((lsr_ sx (nI 32)).toInt32) (sx.toInt32) c0) j) ((16 + j) - 2)) (nI 10))) + ((wf_ (sb0_ (fun j => if j < 16 then nI 0 else w0 j) ((lsr_ sx (nI 32)).toInt32) (sx.toInt32) c0) j) ((16 + j) - 7))), .int (nI (16 + j)), .ref wA]) C0 hM hS sk_M_106 (c_M_right l) rfl rfl hl.1 (Nat.le_of_ble_eq_true rfl) rfl rfl (by subst hR; exact ⟨Nat.le_of_ble_eq_true rfl, Nat.le_of_ble_eq_true rfl⟩) (by subst hR; exact ⟨Nat.le_of_ble_eq_true rfl, Nat.le_of_ble_eq_true rfl⟩) dd_M_hash_151 (fun v1 M1 H locs hp hM hS => ?_)
          obtain ⟨ev1, eM1⟩ := hp
          subst ev1
          rw [eM1] at hM
          refine W.eq (g2 := F0 m 154 ls [.int (rt_ (wf_ (sb0_ (fun j => if j < 16 then nI 0 else w0 j) ((lsr_ sx (nI 32)).toInt32) (sx.toInt32) c0) j (16 + j - 15)) (nI 18)), .int (rt_ (wf_ (sb0_ (fun j => if j < 16 then nI 0 else w0 j) ((lsr_ sx (nI 32)).toInt32) (sx.toInt32) c0) j (16 + j - 15)) (nI 7)), .int ((((rt_ (wf_ (sb0_ (fun j => if j < 16 then nI 0 else w0 j) ((lsr_ sx (nI 32)).toInt32) (sx.toInt32) c0) j (16 + j - 2)) (nI 17)) ^^^ (rt_ (wf_ (sb0_ (fun j => if j < 16 then nI 0 else w0 j) ((lsr_ sx (nI 32)).toInt32) (sx.toInt32) c0) j (16 + j - 2)) (nI 19))) ^^^ (ius_ ((wf_ (sb0_ (fun j => if j < 16 then nI 0 else w0 j) ((lsr_ sx (nI 32)).toInt32) (sx.toInt32) c0) j) ((16 + j) - 2)) (nI 10))) + ((wf_ (sb0_ (fun j => if j < 16 then nI 0 else w0 j) ((lsr_ sx (nI 32)).toInt32) (sx.toInt32) c0) j) ((16 + j) - 7))), .int (nI (16 + j)), .ref wA]) rfl ?_
          refine lv_ixor hx hb dd_M_hash_154 ?_
          refine lv_iload hx hb dd_M_hash_155 (lv_at hl 0 rfl) ?_
          refine lv_iconst (v := nI 3) hx hb dd_M_hash_157 (by decide) ?_
          refine lv_iushr (v := ius_ ((wf_ (sb0_ (fun j => if j < 16 then nI 0 else w0 j) ((lsr_ sx (nI 32)).toInt32) (sx.toInt32) c0) j) ((16 + j) - 15)) (nI 3)) hx hb dd_M_hash_158 (rfl) ?_
          refine lv_ixor hx hb dd_M_hash_159 ?_
          refine lv_iadd hx hb dd_M_hash_160 ?_
          refine lv_aload_n hx hb dd_M_hash_161 rfl (lv_at hl 2 rfl) ?_
          refine mr_get C0 hM fk_M_77 (mu_n' (ne_k h_m h_wA (fun q => by cases q)) h_m) (v := .ref wA) rfl dd_M_hash_162 ?_
          refine lv_iload hx hb dd_M_hash_165 (lv_at hl 5 rfl) ?_
          refine lv_bipush (v := nI 16) hx hb dd_M_hash_167 (by decide) ?_
          refine lv_isub hx hb dd_M_hash_169 ?_
          refine mr_vi (pk_sub (a := (16 + j)) (b := 16) (by omega)) ?_
          refine mr_iald C0 hM mu_s (((16 + j) - 16)) (rfl) (by omega) (by decide) dd_M_hash_170 ?_
          refine lv_iadd hx hb dd_M_hash_171 ?_
          refine mr_iast C0 hM hS mu_s ((16 + j)) (rfl) (by omega) (by decide) dd_M_hash_172 (fun H locs hM hS => ?_)
          have hM := mr_M mu_mu hM
          have hM := mr_M (congrArg (fun z__ => mu_ M wA (ia_ G 64 z__)) (show (upd (wf_ (sb0_ (fun j => if j < 16 then nI 0 else w0 j) ((lsr_ sx (nI 32)).toInt32) (sx.toInt32) c0) j) (16 + j) ((((((rt_ (wf_ (sb0_ (fun j => if j < 16 then nI 0 else w0 j) ((lsr_ sx (nI 32)).toInt32) (sx.toInt32) c0) j (16 + j - 2)) (nI 17)) ^^^ (rt_ (wf_ (sb0_ (fun j => if j < 16 then nI 0 else w0 j) ((lsr_ sx (nI 32)).toInt32) (sx.toInt32) c0) j (16 + j - 2)) (nI 19))) ^^^ (ius_ ((wf_ (sb0_ (fun j => if j < 16 then nI 0 else w0 j) ((lsr_ sx (nI 32)).toInt32) (sx.toInt32) c0) j) ((16 + j) - 2)) (nI 10))) + ((wf_ (sb0_ (fun j => if j < 16 then nI 0 else w0 j) ((lsr_ sx (nI 32)).toInt32) (sx.toInt32) c0) j) ((16 + j) - 7))) + (((rt_ (wf_ (sb0_ (fun j => if j < 16 then nI 0 else w0 j) ((lsr_ sx (nI 32)).toInt32) (sx.toInt32) c0) j (16 + j - 15)) (nI 7)) ^^^ (rt_ (wf_ (sb0_ (fun j => if j < 16 then nI 0 else w0 j) ((lsr_ sx (nI 32)).toInt32) (sx.toInt32) c0) j (16 + j - 15)) (nI 18))) ^^^ (ius_ ((wf_ (sb0_ (fun j => if j < 16 then nI 0 else w0 j) ((lsr_ sx (nI 32)).toInt32) (sx.toInt32) c0) j) ((16 + j) - 15)) (nI 3)))) + ((wf_ (sb0_ (fun j => if j < 16 then nI 0 else w0 j) ((lsr_ sx (nI 32)).toInt32) (sx.toInt32) c0) j) ((16 + j) - 16))) : Nat → Int32) = (wf_ (sb0_ (fun j => if j < 16 then nI 0 else w0 j) ((lsr_ sx (nI 32)).toInt32) (sx.toInt32) c0) (j + 1)) from rfl)) hM
          have hM : mm_ G (mu_ M wA (ia_ G 64 (wf_ (sb0_ (fun j => if j < 16 then nI 0 else w0 j) ((lsr_ sx (nI 32)).toInt32) (sx.toInt32) c0) (j + 1)))) H := hM
          refine lv_iinc (k := 5) (v := nI ((16 + j) + 1)) (lv' := [(4, .int (nI ((16 + j) + 1))), (6, .int ((wf_ (sb0_ (fun j => if j < 16 then nI 0 else w0 j) ((lsr_ sx (nI 32)).toInt32) (sx.toInt32) c0) j) ((16 + j) - 15))), (5, .int ((wf_ (sb0_ (fun j => if j < 16 then nI 0 else w0 j) ((lsr_ sx (nI 32)).toInt32) (sx.toInt32) c0) j) ((16 + j) - 2))), (0, .ref m0), (1, .long sx), (3, .int c0)]) hx hb dd_M_hash_173 hl rfl (inc_ (16 + j)) (by decide) rfl (fun ls hl => ?_)
          refine lv_goto (tgt := 72) hx hb dd_M_hash_176 rfl ?_
          exact ih2 (j + 1) _ _ _ (by omega) hM hS (lv_sub hl [3, 4, 5, 0] rfl)
      exact loop_72 48 0 _ _ _ (rfl) hM hS (lv_sub hl [1, 2, 3, 0] rfl)
    | succ k ih =>
      intro i H locs ls hi hM hS hl
      refine lv_iload hx hb dd_M_hash_3 (lv_at hl 3 rfl) ?_
      refine lv_bipush (v := nI 16) hx hb dd_M_hash_5 (by decide) ?_
      refine lv_icmp_ge (tgt := 24) hx hb dd_M_hash_7 rfl (fun hc => absurd hc (nle_nI (a := 16) (b := i) (by omega) (by omega) (by omega))) (fun _ => ?_)
      refine lv_aload_n hx hb dd_M_hash_10 rfl (lv_at hl 0 rfl) ?_
      refine mr_get C0 hM fk_M_77 (mu_n' (ne_k h_m h_wA (fun q => by cases q)) h_m) (v := .ref wA) rfl dd_M_hash_11 ?_
      refine lv_iload hx hb dd_M_hash_14 (lv_at hl 3 rfl) ?_
      refine lv_iconst (v := nI 0) hx hb dd_M_hash_16 (by decide) ?_
      refine mr_iast C0 hM hS mu_s (i) (rfl) (by omega) (by decide) dd_M_hash_17 (fun H locs hM hS => ?_)
      have hM := mr_M mu_mu hM
      have hM := mr_M (congrArg (fun z__ => mu_ M wA (ia_ G 64 z__)) (show (upd (fun j => if j < i then nI 0 else w0 j) i (nI 0) : Nat → Int32) = (fun j => if j < i + 1 then nI 0 else w0 j) from by funext j; simp only [upd]; by_cases h1 : j = i <;> by_cases h2 : j < i <;> simp [h1, h2] <;> first | omega | (intro; omega) | (rw [if_neg (by omega)]) | skip)) hM
      have hM : mm_ G (mu_ M wA (ia_ G 64 (fun j => if j < i + 1 then nI 0 else w0 j))) H := hM
      refine lv_iinc (k := 3) (v := nI (i + 1)) (lv' := [(4, .int (nI (i + 1))), (0, .ref m0), (1, .long sx), (3, .int c0)]) hx hb dd_M_hash_18 hl rfl (inc_ i) (by decide) rfl (fun ls hl => ?_)
      refine lv_goto (tgt := 3) hx hb dd_M_hash_21 rfl ?_
      exact ih (i + 1) _ _ _ (by omega) hM hS (lv_sub hl [1, 2, 3, 0] rfl)
  have hM := mr_M (mu_id h_wA).symm hM
  have hM := mr_iext (g := fun j => if j < 0 then nI 0 else w0 j) (fun j _ => by simp) hM
  exact loop_3 16 0 _ _ _ (rfl) hM hS (lv_sub hl [1, 2, 3, 0] rfl)

set_option maxHeartbeats 4000000 in
set_option maxRecDepth 100000 in
theorem c_M_isLess (l : Launch) {G : mg_} {M : mw_} {a b : Nat}   (ha : a < 18446744073709551616) (hb0 : b < 18446744073709551616) : dt_ l my_M_isLess cd_M_isLess 4 (some .boolean) { frames := 0, cells := 0, slots := 0, locals := 0 } G [.long (lN a), .long (lN b)] M (some (.int (nI (if a < b then 1 else 0)))) (M) 0 0 := by
  refine ct_.intro2 (by decide) (Nat.le_of_ble_eq_true rfl) ?_
  intro p e s m args below meth c ls R Q hR hQ C0 hl hM hS
  have hx := C0.1
  have hb := C0.2.1
  have hl : lv_has ls 4 [(0, .long (lN a)), (2, .long (lN b))] := hl
  refine lv_lload_n hx hb dd_M_isLess_0 rfl (lv_at hl 0 rfl) ?_
  refine mr_ldc2 (v := (-9223372036854775808 : Int64)) C0 tw_612 dd_M_isLess_1 ?_
  refine lv_ladd hx hb dd_M_isLess_4 ?_
  refine lv_lload_n hx hb dd_M_isLess_5 rfl (lv_at hl 1 rfl) ?_
  refine mr_ldc2 (v := (-9223372036854775808 : Int64)) C0 tw_612 dd_M_isLess_6 ?_
  refine lv_ladd hx hb dd_M_isLess_9 ?_
  refine mr_lif_ge (tgt := 18) hx hb dd_M_isLess_10 dd_M_isLess_11 rfl (fun h10 => ?_) (fun h10 => ?_)
  · skip
    have hv : ¬ a < b := Nat.not_lt.mpr ((ub_ ha hb0).mp h10)
    refine lv_iconst (v := nI 0) hx hb dd_M_isLess_18 (by decide) ?_
    exact mr_ret hQ (mr_iret C0 hM hS (rfl) (⟨by simp [hv], rfl⟩) dd_M_isLess_19)
  · skip
    have hv : a < b := Nat.lt_of_not_le (fun q => h10 ((ub_ ha hb0).mpr q))
    refine lv_iconst (v := nI 1) hx hb dd_M_isLess_14 (by decide) ?_
    refine lv_goto (tgt := 19) hx hb dd_M_isLess_15 rfl ?_
    exact mr_ret hQ (mr_iret C0 hM hS (rfl) (⟨by simp [hv], rfl⟩) dd_M_isLess_19)

set_option maxHeartbeats 4000000 in
set_option maxRecDepth 100000 in
theorem c_M_isBelowN (l : Launch) {G : mg_} {M : mw_} {m0 kA wA psA ppA cA sA pA uA lA xA : Nat} {has pend now fac : Int32} {v1 v0 h1 h0 r1 r0 : Int64} {V N : Nat} (h_m : M m0 = some (ob_ 6 [.ref kA, .ref wA, .int has, .long (hi_ N), .long (lo_ N), .long v1, .long v0, .int pend, .ref psA, .ref ppA, .int now, .ref cA, .ref sA, .ref pA, .ref uA, .ref lA, .long h1, .long h0, .int fac, .long r1, .long r0, .ref xA]))  (hN : N < 340282366920938463463374607431768211456) (hV : V < 340282366920938463463374607431768211456) : dt_ l my_M_isBelowN cd_M_isBelowN 5 (some .boolean) { frames := 1, cells := 0, slots := 0, locals := 23 } G [.ref m0, .long (hi_ V), .long (lo_ V)] M (some (.int (nI (if V < N then 1 else 0)))) (M) 0 0 := by
  refine ct_.intro2 (by decide) (Nat.le_of_ble_eq_true rfl) ?_
  intro p e s m args below meth c ls R Q hR hQ C0 hl hM hS
  have hx := C0.1
  have hb := C0.2.1
  have hl : lv_has ls 5 [(0, .ref m0), (1, .long (hi_ V)), (3, .long (lo_ V))] := hl
  have hV1 : V / 18446744073709551616 < 18446744073709551616 := by omega
  have hV0 : V % 18446744073709551616 < 18446744073709551616 := by omega
  have hN1 : N / 18446744073709551616 < 18446744073709551616 := by omega
  have hN0 : N % 18446744073709551616 < 18446744073709551616 := by omega
  refine lv_lload_n hx hb dd_M_isBelowN_0 rfl (lv_at hl 1 rfl) ?_
  refine lv_aload_n hx hb dd_M_isBelowN_1 rfl (lv_at hl 0 rfl) ?_
  refine mr_get C0 hM fk_M_140 h_m (v := .long (hi_ N)) rfl dd_M_isBelowN_2 ?_
  refine mr_callS (As := [.long (hi_ V), .long (hi_ N)]) (rest := []) C0 hM hS sk_M_144 (c_M_isLess l (a := V / 18446744073709551616) (b := N / 18446744073709551616) hV1 hN1) rfl rfl hl.1 (Nat.le_of_ble_eq_true rfl) rfl rfl (by subst hR; exact ⟨Nat.le_of_ble_eq_true rfl, Nat.le_of_ble_eq_true rfl⟩) (by subst hR; exact ⟨Nat.le_of_ble_eq_true rfl, Nat.le_of_ble_eq_true rfl⟩) dd_M_isBelowN_5 (fun v1 M1 H locs hp hM hS => ?_)
  obtain ⟨ev1, eM1⟩ := hp
  subst ev1
  rw [eM1] at hM
  refine W.eq (g2 := F0 m 8 ls [.int (nI (if V / 18446744073709551616 < N / 18446744073709551616 then 1 else 0))]) rfl ?_
  refine lv_if_ne (tgt := 31) hx hb dd_M_isBelowN_8 rfl (fun h8 => ?_) (fun h8 => ?_)
  · skip
    have hv8 : V / 18446744073709551616 < N / 18446744073709551616 := Classical.byContradiction (fun q => h8 (by rw [if_neg q]; rfl))
    refine lv_iconst (v := nI 1) hx hb dd_M_isBelowN_31 (by decide) ?_
    refine lv_goto (tgt := 36) hx hb dd_M_isBelowN_32 rfl ?_
    exact mr_ret hQ (mr_iret C0 hM hS (rfl) (⟨by rw [if_pos (show V < N by omega)], rfl⟩) dd_M_isBelowN_36)
  · skip
    have hv8 : ¬ V / 18446744073709551616 < N / 18446744073709551616 := fun q => absurd h8 (by rw [if_pos q]; decide)
    refine lv_lload_n hx hb dd_M_isBelowN_11 rfl (lv_at hl 1 rfl) ?_
    refine lv_aload_n hx hb dd_M_isBelowN_12 rfl (lv_at hl 0 rfl) ?_
    refine mr_get C0 hM fk_M_140 h_m (v := .long (hi_ N)) rfl dd_M_isBelowN_13 ?_
    refine mr_lif_ne (tgt := 35) hx hb dd_M_isBelowN_16 dd_M_isBelowN_17 rfl (fun h16 => ?_) (fun h16 => ?_)
    · skip
      have hv16 : V / 18446744073709551616 ≠ N / 18446744073709551616 := fun q => h16 (congrArg lN q)
      refine lv_iconst (v := nI 0) hx hb dd_M_isBelowN_35 (by decide) ?_
      exact mr_ret hQ (mr_iret C0 hM hS (rfl) (⟨by rw [if_neg (show ¬ V < N by omega)], rfl⟩) dd_M_isBelowN_36)
    · skip
      have hv16 : V / 18446744073709551616 = N / 18446744073709551616 := (lE_ hV1 hN1).mp h16
      refine lv_lload_n hx hb dd_M_isBelowN_20 rfl (lv_at hl 2 rfl) ?_
      refine lv_aload_n hx hb dd_M_isBelowN_21 rfl (lv_at hl 0 rfl) ?_
      refine mr_get C0 hM fk_M_148 h_m (v := .long (lo_ N)) rfl dd_M_isBelowN_22 ?_
      refine mr_callS (As := [.long (lo_ V), .long (lo_ N)]) (rest := []) C0 hM hS sk_M_144 (c_M_isLess l (a := V % 18446744073709551616) (b := N % 18446744073709551616) hV0 hN0) rfl rfl hl.1 (Nat.le_of_ble_eq_true rfl) rfl rfl (by subst hR; exact ⟨Nat.le_of_ble_eq_true rfl, Nat.le_of_ble_eq_true rfl⟩) (by subst hR; exact ⟨Nat.le_of_ble_eq_true rfl, Nat.le_of_ble_eq_true rfl⟩) dd_M_isBelowN_25 (fun v1 M1 H locs hp hM hS => ?_)
      obtain ⟨ev1, eM1⟩ := hp
      subst ev1
      rw [eM1] at hM
      refine W.eq (g2 := F0 m 28 ls [.int (nI (if V % 18446744073709551616 < N % 18446744073709551616 then 1 else 0))]) rfl ?_
      refine lv_if_eq (tgt := 35) hx hb dd_M_isBelowN_28 rfl (fun h28 => ?_) (fun h28 => ?_)
      · skip
        have hv28 : ¬ V % 18446744073709551616 < N % 18446744073709551616 := fun q => absurd h28 (by rw [if_pos q]; decide)
        refine lv_iconst (v := nI 0) hx hb dd_M_isBelowN_35 (by decide) ?_
        exact mr_ret hQ (mr_iret C0 hM hS (rfl) (⟨by rw [if_neg (show ¬ V < N by omega)], rfl⟩) dd_M_isBelowN_36)
      · skip
        have hv28 : V % 18446744073709551616 < N % 18446744073709551616 := Classical.byContradiction (fun q => h28 (by rw [if_neg q]; rfl))
        refine lv_iconst (v := nI 1) hx hb dd_M_isBelowN_31 (by decide) ?_
        refine lv_goto (tgt := 36) hx hb dd_M_isBelowN_32 rfl ?_
        exact mr_ret hQ (mr_iret C0 hM hS (rfl) (⟨by rw [if_pos (show V < N by omega)], rfl⟩) dd_M_isBelowN_36)


theorem pl_0 (A B : Nat) : (A % 18446744073709551616 + B % 18446744073709551616) % 18446744073709551616 = (A + B) % 18446744073709551616 := by omega
theorem pl_m1 (S : Nat) : S / 18446744073709551616 % 18446744073709551616 = S % 340282366920938463463374607431768211456 / 18446744073709551616 := by omega
theorem pl_m0 (S : Nat) : S % 18446744073709551616 = S % 340282366920938463463374607431768211456 % 18446744073709551616 := by omega
theorem pl_c1 {A B : Nat} (h : (A + B) % 18446744073709551616 < A % 18446744073709551616) : 1 = (A % 18446744073709551616 + B % 18446744073709551616) / 18446744073709551616 := by omega
theorem pl_c0 {A B : Nat} (h : ¬ (A + B) % 18446744073709551616 < A % 18446744073709551616) : 0 = (A % 18446744073709551616 + B % 18446744073709551616) / 18446744073709551616 := by omega
theorem pl_h {A B cy : Nat} (h : cy = (A % 18446744073709551616 + B % 18446744073709551616) / 18446744073709551616) : ((A / 18446744073709551616 + B / 18446744073709551616) % 18446744073709551616 + cy) % 18446744073709551616 = (A + B) / 18446744073709551616 % 18446744073709551616 := by omega
theorem pl_dv (A B : Nat) : (A + B) / 18446744073709551616 = A / 18446744073709551616 + B / 18446744073709551616 + (A % 18446744073709551616 + B % 18446744073709551616) / 18446744073709551616 := by omega
theorem pl_big {S : Nat} : 340282366920938463463374607431768211456 ≤ S ↔ 18446744073709551616 ≤ S / 18446744073709551616 := by omega
theorem pl_o1 {A B : Nat} (h : (A / 18446744073709551616 + B / 18446744073709551616) % 18446744073709551616 < A / 18446744073709551616) : 340282366920938463463374607431768211456 ≤ A + B := by
  rw [pl_big, pl_dv]
  generalize A / 18446744073709551616 = a at *
  generalize B / 18446744073709551616 = b at *
  omega
theorem pl_o2 {A B cy : Nat} (hc : cy = (A % 18446744073709551616 + B % 18446744073709551616) / 18446744073709551616) (h1 : cy = 1) (h2 : (A + B) / 18446744073709551616 % 18446744073709551616 = 0) : 340282366920938463463374607431768211456 ≤ A + B := by
  rw [pl_big]
  rw [pl_dv, ← hc] at h2 ⊢
  generalize A / 18446744073709551616 = a at *
  generalize B / 18446744073709551616 = b at *
  omega
theorem pl_o0 {A B cy : Nat} (hA : A / 18446744073709551616 < 18446744073709551616) (hB : B / 18446744073709551616 < 18446744073709551616) (hc : cy = (A % 18446744073709551616 + B % 18446744073709551616) / 18446744073709551616) (hcy : cy ≤ 1) (h : ¬ (A / 18446744073709551616 + B / 18446744073709551616) % 18446744073709551616 < A / 18446744073709551616) (h2 : cy = 1 → (A + B) / 18446744073709551616 % 18446744073709551616 ≠ 0) : ¬ 340282366920938463463374607431768211456 ≤ A + B := by
  rw [pl_big]
  rw [pl_dv, ← hc] at h2 ⊢
  generalize A / 18446744073709551616 = a at *
  generalize B / 18446744073709551616 = b at *
  rcases (show cy = 0 ∨ cy = 1 by omega) with rfl | rfl
  · omega
  · have := h2 rfl
    omega
theorem pl_s0 {S N : Nat} (h : N ≤ S) : (S % 18446744073709551616 + 18446744073709551616 - N % 18446744073709551616) % 18446744073709551616 = (S - N) % 18446744073709551616 := by omega
theorem pl_s1 {S N bw : Nat} (hN : N / 18446744073709551616 < 18446744073709551616) (h : N ≤ S) (h2 : S - N < 340282366920938463463374607431768211456) (hb : bw = if S % 18446744073709551616 < N % 18446744073709551616 then 1 else 0) : ((S / 18446744073709551616 % 18446744073709551616 + 18446744073709551616 - N / 18446744073709551616) % 18446744073709551616 + 18446744073709551616 - bw) % 18446744073709551616 = (S - N) / 18446744073709551616 := by
  split at hb <;> subst hb <;> omega
theorem pl_bb {S : Nat} (h : ¬ 340282366920938463463374607431768211456 ≤ S) : S % 340282366920938463463374607431768211456 = S := Nat.mod_eq_of_lt (by omega)

set_option maxHeartbeats 4000000 in
set_option maxRecDepth 100000 in
theorem c_M_plus (l : Launch) {G : mg_} {M : mw_} {m0 kA wA psA ppA cA sA pA uA lA xA : Nat} {has pend now fac : Int32} {v1 v0 h1 h0 r1 r0 : Int64} {A B N : Nat} (h_m : M m0 = some (ob_ 6 [.ref kA, .ref wA, .int has, .long (hi_ N), .long (lo_ N), .long v1, .long v0, .int pend, .ref psA, .ref ppA, .int now, .ref cA, .ref sA, .ref pA, .ref uA, .ref lA, .long h1, .long h0, .int fac, .long r1, .long r0, .ref xA]))  (hN : N < 340282366920938463463374607431768211456) (hA : A < N) (hB : B < N) : dt_ l my_M_plus cd_M_plus 14 none { frames := 2, cells := 0, slots := 0, locals := 47 } G [.ref m0, .long (hi_ A), .long (lo_ A), .long (hi_ B), .long (lo_ B)] M none (mu_ M m0 (ob_ 6 [.ref kA, .ref wA, .int has, .long (hi_ N), .long (lo_ N), .long v1, .long v0, .int pend, .ref psA, .ref ppA, .int now, .ref cA, .ref sA, .ref pA, .ref uA, .ref lA, .long h1, .long h0, .int fac, .long (hi_ ((A + B) % N)), .long (lo_ ((A + B) % N)), .ref xA])) 0 0 := by
  refine ct_.intro2 (by decide) (Nat.le_of_ble_eq_true rfl) ?_
  intro p e s m args below meth c ls R Q hR hQ C0 hl hM hS
  have hx := C0.1
  have hb := C0.2.1
  have hl : lv_has ls 14 [(0, .ref m0), (1, .long (hi_ A)), (3, .long (lo_ A)), (5, .long (hi_ B)), (7, .long (lo_ B))] := hl
  have hN1 : N / 18446744073709551616 < 18446744073709551616 := by omega
  have hN0 : N % 18446744073709551616 < 18446744073709551616 := by omega
  have hA1 : A / 18446744073709551616 < 18446744073709551616 := by omega
  have hB1 : B / 18446744073709551616 < 18446744073709551616 := by omega
  have hSN2 : A + B - N < N := by omega
  have hSN : A + B - N < 340282366920938463463374607431768211456 := by omega
  have hA0 : A % 18446744073709551616 < 18446744073709551616 := by omega
  have hS0 : (A + B) % 18446744073709551616 < 18446744073709551616 := by omega
  have hS1 : (A + B) / 18446744073709551616 % 18446744073709551616 < 18446744073709551616 := by omega
  refine lv_aload_n hx hb dd_M_plus_0 rfl (lv_at hl 0 rfl) ?_
  refine lv_lload_n hx hb dd_M_plus_1 rfl (lv_at hl 2 rfl) ?_
  refine lv_lload hx hb dd_M_plus_2 (lv_at hl 4 rfl) ?_
  refine lv_ladd hx hb dd_M_plus_4 ?_
  refine mr_vl (x' := lN ((A + B) % 18446744073709551616)) ((ladd_ _ _).trans (congrArg lN (pl_0 A B))) ?_
  refine mr_put C0 hM hS fk_M_151 fp_M_151 h_m rfl (rfl) (rfl) (Nat.le_of_ble_eq_true rfl) dd_M_plus_5 (fun H locs hM hS => ?_)
  have hM : mm_ G (mu_ M m0 (ob_ 6 [.ref kA, .ref wA, .int has, .long (hi_ N), .long (lo_ N), .long v1, .long v0, .int pend, .ref psA, .ref ppA, .int now, .ref cA, .ref sA, .ref pA, .ref uA, .ref lA, .long h1, .long h0, .int fac, .long r1, .long (lN ((A + B) % 18446744073709551616)), .ref xA])) H := hM
  refine lv_aload_n hx hb dd_M_plus_8 rfl (lv_at hl 0 rfl) ?_
  refine mr_get C0 hM fk_M_151 mu_s (v := .long (lN ((A + B) % 18446744073709551616))) rfl dd_M_plus_9 ?_
  refine lv_lload_n hx hb dd_M_plus_12 rfl (lv_at hl 2 rfl) ?_
  refine mr_callS (As := [.long (lN ((A + B) % 18446744073709551616)), .long (lo_ A)]) (rest := []) C0 hM hS sk_M_144 (c_M_isLess l (a := (A + B) % 18446744073709551616) (b := A % 18446744073709551616) hS0 hA0) rfl rfl hl.1 (Nat.le_of_ble_eq_true rfl) rfl rfl (by subst hR; exact ⟨Nat.le_of_ble_eq_true rfl, Nat.le_of_ble_eq_true rfl⟩) (by subst hR; exact ⟨Nat.le_of_ble_eq_true rfl, Nat.le_of_ble_eq_true rfl⟩) dd_M_plus_13 (fun v1 M1 H locs hp hM hS => ?_)
  obtain ⟨ev1, eM1⟩ := hp
  subst ev1
  rw [eM1] at hM
  refine W.eq (g2 := F0 m 16 ls [.int (nI (if (A + B) % 18446744073709551616 < A % 18446744073709551616 then 1 else 0))]) rfl ?_
  have join_24 : ∀ (cy : Nat) (H : Heap) (locs : List Loc) (ls : Array Slot), cy = (A % 18446744073709551616 + B % 18446744073709551616) / 18446744073709551616 → mm_ G (mu_ M m0 (ob_ 6 [.ref kA, .ref wA, .int has, .long (hi_ N), .long (lo_ N), .long v1, .long v0, .int pend, .ref psA, .ref ppA, .int now, .ref cA, .ref sA, .ref pA, .ref uA, .ref lA, .long h1, .long h0, .int fac, .long r1, .long (lN ((A + B) % 18446744073709551616)), .ref xA])) H → va_S (fz_ G) s.heap H locs → lv_has ls 14 [(0, .ref m0), (1, .long (hi_ A)), (3, .long (lo_ A)), (5, .long (hi_ B)), (7, .long (lo_ B))] → W p l e R s m args below meth c H locs 0 0 Q (F0 m 24 ls [.long (lN cy)]) := by
    intro cy H locs ls hcy hM hS hl
    have hcy1 : cy ≤ 1 := by rw [hcy]; omega
    refine lv_lstore (lv' := [(9, .long (lN cy)), (0, .ref m0), (1, .long (hi_ A)), (3, .long (lo_ A)), (5, .long (hi_ B)), (7, .long (lo_ B))]) hx hb dd_M_plus_24 hl (by decide) rfl (fun ls hl => ?_)
    refine lv_aload_n hx hb dd_M_plus_26 rfl (lv_at hl 1 rfl) ?_
    refine lv_lload_n hx hb dd_M_plus_27 rfl (lv_at hl 2 rfl) ?_
    refine lv_lload hx hb dd_M_plus_28 (lv_at hl 4 rfl) ?_
    refine lv_ladd hx hb dd_M_plus_30 ?_
    refine mr_vl (x' := lN ((A / 18446744073709551616 + B / 18446744073709551616) % 18446744073709551616)) (ladd_ _ _) ?_
    refine mr_put C0 hM hS fk_M_154 fp_M_154 mu_s rfl (rfl) (rfl) (Nat.le_of_ble_eq_true rfl) dd_M_plus_31 (fun H locs hM hS => ?_)
    have hM := mr_M mu_mu hM
    have hM : mm_ G (mu_ M m0 (ob_ 6 [.ref kA, .ref wA, .int has, .long (hi_ N), .long (lo_ N), .long v1, .long v0, .int pend, .ref psA, .ref ppA, .int now, .ref cA, .ref sA, .ref pA, .ref uA, .ref lA, .long h1, .long h0, .int fac, .long (lN ((A / 18446744073709551616 + B / 18446744073709551616) % 18446744073709551616)), .long (lN ((A + B) % 18446744073709551616)), .ref xA])) H := hM
    refine lv_aload_n hx hb dd_M_plus_34 rfl (lv_at hl 1 rfl) ?_
    refine mr_get C0 hM fk_M_154 mu_s (v := .long (lN ((A / 18446744073709551616 + B / 18446744073709551616) % 18446744073709551616))) rfl dd_M_plus_35 ?_
    refine lv_lload_n hx hb dd_M_plus_38 rfl (lv_at hl 2 rfl) ?_
    refine mr_callS (As := [.long (lN ((A / 18446744073709551616 + B / 18446744073709551616) % 18446744073709551616)), .long (hi_ A)]) (rest := []) C0 hM hS sk_M_144 (c_M_isLess l (a := (A / 18446744073709551616 + B / 18446744073709551616) % 18446744073709551616) (b := A / 18446744073709551616) (Nat.mod_lt _ (by decide)) hA1) rfl rfl hl.1 (Nat.le_of_ble_eq_true rfl) rfl rfl (by subst hR; exact ⟨Nat.le_of_ble_eq_true rfl, Nat.le_of_ble_eq_true rfl⟩) (by subst hR; exact ⟨Nat.le_of_ble_eq_true rfl, Nat.le_of_ble_eq_true rfl⟩) dd_M_plus_39 (fun v1 M1 H locs hp hM hS => ?_)
    obtain ⟨ev1, eM1⟩ := hp
    subst ev1
    rw [eM1] at hM
    refine W.eq (g2 := F0 m 42 ls [.int (nI (if (A / 18446744073709551616 + B / 18446744073709551616) % 18446744073709551616 < A / 18446744073709551616 then 1 else 0))]) rfl ?_
    refine lv_istore (lv' := [(11, .int (nI (if (A / 18446744073709551616 + B / 18446744073709551616) % 18446744073709551616 < A / 18446744073709551616 then 1 else 0))), (9, .long (lN cy)), (0, .ref m0), (1, .long (hi_ A)), (3, .long (lo_ A)), (5, .long (hi_ B)), (7, .long (lo_ B))]) hx hb dd_M_plus_42 hl (by decide) rfl (fun ls hl => ?_)
    refine lv_aload_n hx hb dd_M_plus_44 rfl (lv_at hl 2 rfl) ?_
    refine lv_aload_n hx hb dd_M_plus_45 rfl (lv_at hl 2 rfl) ?_
    refine mr_get C0 hM fk_M_154 mu_s (v := .long (lN ((A / 18446744073709551616 + B / 18446744073709551616) % 18446744073709551616))) rfl dd_M_plus_46 ?_
    refine lv_lload hx hb dd_M_plus_49 (lv_at hl 1 rfl) ?_
    refine lv_ladd hx hb dd_M_plus_51 ?_
    refine mr_vl (x' := lN ((A + B) / 18446744073709551616 % 18446744073709551616)) ((ladd_ _ _).trans (congrArg lN (pl_h hcy))) ?_
    refine mr_put C0 hM hS fk_M_154 fp_M_154 mu_s rfl (rfl) (rfl) (Nat.le_of_ble_eq_true rfl) dd_M_plus_52 (fun H locs hM hS => ?_)
    have hM := mr_M mu_mu hM
    have hM : mm_ G (mu_ M m0 (ob_ 6 [.ref kA, .ref wA, .int has, .long (hi_ N), .long (lo_ N), .long v1, .long v0, .int pend, .ref psA, .ref ppA, .int now, .ref cA, .ref sA, .ref pA, .ref uA, .ref lA, .long h1, .long h0, .int fac, .long (lN ((A + B) / 18446744073709551616 % 18446744073709551616)), .long (lN ((A + B) % 18446744073709551616)), .ref xA])) H := hM
    refine lv_iload hx hb dd_M_plus_55 (lv_at hl 0 rfl) ?_
    have join_81 : ∀ (ov : Nat) (H : Heap) (locs : List Loc) (ls : Array Slot), ov = (if 340282366920938463463374607431768211456 ≤ (A + B) then 1 else 0) → mm_ G (mu_ M m0 (ob_ 6 [.ref kA, .ref wA, .int has, .long (hi_ N), .long (lo_ N), .long v1, .long v0, .int pend, .ref psA, .ref ppA, .int now, .ref cA, .ref sA, .ref pA, .ref uA, .ref lA, .long h1, .long h0, .int fac, .long (lN ((A + B) / 18446744073709551616 % 18446744073709551616)), .long (lN ((A + B) % 18446744073709551616)), .ref xA])) H → va_S (fz_ G) s.heap H locs → lv_has ls 14 [(0, .ref m0), (1, .long (hi_ A)), (3, .long (lo_ A)), (5, .long (hi_ B)), (7, .long (lo_ B))] → W p l e R s m args below meth c H locs 0 0 Q (F0 m 81 ls [.int (nI ov)]) := by
      intro ov H locs ls hov hM hS hl
      refine lv_istore (lv' := [(11, .int (nI ov)), (0, .ref m0), (1, .long (hi_ A)), (3, .long (lo_ A)), (5, .long (hi_ B)), (7, .long (lo_ B))]) hx hb dd_M_plus_81 hl (by decide) rfl (fun ls hl => ?_)
      refine lv_iload hx hb dd_M_plus_83 (lv_at hl 0 rfl) ?_
      have join_103 : ∀  (H : Heap) (locs : List Loc) (ls : Array Slot), N ≤ (A + B) → mm_ G (mu_ M m0 (ob_ 6 [.ref kA, .ref wA, .int has, .long (hi_ N), .long (lo_ N), .long v1, .long v0, .int pend, .ref psA, .ref ppA, .int now, .ref cA, .ref sA, .ref pA, .ref uA, .ref lA, .long h1, .long h0, .int fac, .long (lN ((A + B) / 18446744073709551616 % 18446744073709551616)), .long (lN ((A + B) % 18446744073709551616)), .ref xA])) H → va_S (fz_ G) s.heap H locs → lv_has ls 14 [(0, .ref m0), (1, .long (hi_ A)), (3, .long (lo_ A)), (5, .long (hi_ B)), (7, .long (lo_ B))] → W p l e R s m args below meth c H locs 0 0 Q (F0 m 103 ls []) := by
        intro  H locs ls hge hM hS hl
        refine lv_aload_n hx hb dd_M_plus_103 rfl (lv_at hl 0 rfl) ?_
        refine mr_get C0 hM fk_M_151 mu_s (v := .long (lN ((A + B) % 18446744073709551616))) rfl dd_M_plus_104 ?_
        refine lv_aload_n hx hb dd_M_plus_107 rfl (lv_at hl 0 rfl) ?_
        refine mr_get C0 hM fk_M_148 mu_s (v := .long (lo_ N)) rfl dd_M_plus_108 ?_
        refine mr_callS (As := [.long (lN ((A + B) % 18446744073709551616)), .long (lo_ N)]) (rest := []) C0 hM hS sk_M_144 (c_M_isLess l (a := (A + B) % 18446744073709551616) (b := N % 18446744073709551616) hS0 hN0) rfl rfl hl.1 (Nat.le_of_ble_eq_true rfl) rfl rfl (by subst hR; exact ⟨Nat.le_of_ble_eq_true rfl, Nat.le_of_ble_eq_true rfl⟩) (by subst hR; exact ⟨Nat.le_of_ble_eq_true rfl, Nat.le_of_ble_eq_true rfl⟩) dd_M_plus_111 (fun v1 M1 H locs hp hM hS => ?_)
        obtain ⟨ev1, eM1⟩ := hp
        subst ev1
        rw [eM1] at hM
        refine W.eq (g2 := F0 m 114 ls [.int (nI (if (A + B) % 18446744073709551616 < N % 18446744073709551616 then 1 else 0))]) rfl ?_
        have join_122 : ∀ (bw : Nat) (H : Heap) (locs : List Loc) (ls : Array Slot), bw = (if (A + B) % 18446744073709551616 < N % 18446744073709551616 then 1 else 0) → mm_ G (mu_ M m0 (ob_ 6 [.ref kA, .ref wA, .int has, .long (hi_ N), .long (lo_ N), .long v1, .long v0, .int pend, .ref psA, .ref ppA, .int now, .ref cA, .ref sA, .ref pA, .ref uA, .ref lA, .long h1, .long h0, .int fac, .long (lN ((A + B) / 18446744073709551616 % 18446744073709551616)), .long (lN ((A + B) % 18446744073709551616)), .ref xA])) H → va_S (fz_ G) s.heap H locs → lv_has ls 14 [(0, .ref m0), (1, .long (hi_ A)), (3, .long (lo_ A)), (5, .long (hi_ B)), (7, .long (lo_ B))] → W p l e R s m args below meth c H locs 0 0 Q (F0 m 122 ls [.long (lN bw)]) := by
          intro bw H locs ls hbw hM hS hl
          refine lv_lstore (lv' := [(12, .long (lN bw)), (0, .ref m0), (1, .long (hi_ A)), (3, .long (lo_ A)), (5, .long (hi_ B)), (7, .long (lo_ B))]) hx hb dd_M_plus_122 hl (by decide) rfl (fun ls hl => ?_)
          refine lv_aload_n hx hb dd_M_plus_124 rfl (lv_at hl 1 rfl) ?_
          refine lv_aload_n hx hb dd_M_plus_125 rfl (lv_at hl 1 rfl) ?_
          refine mr_get C0 hM fk_M_151 mu_s (v := .long (lN ((A + B) % 18446744073709551616))) rfl dd_M_plus_126 ?_
          refine lv_aload_n hx hb dd_M_plus_129 rfl (lv_at hl 1 rfl) ?_
          refine mr_get C0 hM fk_M_148 mu_s (v := .long (lo_ N)) rfl dd_M_plus_130 ?_
          refine lv_lsub hx hb dd_M_plus_133 ?_
          refine mr_vl (x' := lo_ ((A + B) - N)) ((lsub_ hS0 hN0).trans (congrArg lN (pl_s0 hge))) ?_
          refine mr_put C0 hM hS fk_M_151 fp_M_151 mu_s rfl (rfl) (rfl) (Nat.le_of_ble_eq_true rfl) dd_M_plus_134 (fun H locs hM hS => ?_)
          have hM := mr_M mu_mu hM
          have hM : mm_ G (mu_ M m0 (ob_ 6 [.ref kA, .ref wA, .int has, .long (hi_ N), .long (lo_ N), .long v1, .long v0, .int pend, .ref psA, .ref ppA, .int now, .ref cA, .ref sA, .ref pA, .ref uA, .ref lA, .long h1, .long h0, .int fac, .long (lN ((A + B) / 18446744073709551616 % 18446744073709551616)), .long (lo_ ((A + B) - N)), .ref xA])) H := hM
          refine lv_aload_n hx hb dd_M_plus_137 rfl (lv_at hl 1 rfl) ?_
          refine lv_aload_n hx hb dd_M_plus_138 rfl (lv_at hl 1 rfl) ?_
          refine mr_get C0 hM fk_M_154 mu_s (v := .long (lN ((A + B) / 18446744073709551616 % 18446744073709551616))) rfl dd_M_plus_139 ?_
          refine lv_aload_n hx hb dd_M_plus_142 rfl (lv_at hl 1 rfl) ?_
          refine mr_get C0 hM fk_M_140 mu_s (v := .long (hi_ N)) rfl dd_M_plus_143 ?_
          refine lv_lsub hx hb dd_M_plus_146 ?_
          refine mr_vl (x' := lN (((A + B) / 18446744073709551616 % 18446744073709551616 + 18446744073709551616 - N / 18446744073709551616) % 18446744073709551616)) (lsub_ hS1 hN1) ?_
          refine lv_lload hx hb dd_M_plus_147 (lv_at hl 0 rfl) ?_
          refine lv_lsub hx hb dd_M_plus_149 ?_
          refine mr_vl (x' := hi_ ((A + B) - N)) ((lsub_ (Nat.mod_lt _ (by decide)) (by rw [hbw]; split <;> decide)).trans (congrArg lN (pl_s1 hN1 hge hSN hbw))) ?_
          refine mr_put C0 hM hS fk_M_154 fp_M_154 mu_s rfl (rfl) (rfl) (Nat.le_of_ble_eq_true rfl) dd_M_plus_150 (fun H locs hM hS => ?_)
          have hM := mr_M mu_mu hM
          have hM : mm_ G (mu_ M m0 (ob_ 6 [.ref kA, .ref wA, .int has, .long (hi_ N), .long (lo_ N), .long v1, .long v0, .int pend, .ref psA, .ref ppA, .int now, .ref cA, .ref sA, .ref pA, .ref uA, .ref lA, .long h1, .long h0, .int fac, .long (hi_ ((A + B) - N)), .long (lo_ ((A + B) - N)), .ref xA])) H := hM
          rw [show (A + B) - N = (A + B) % N by rw [Nat.mod_eq_sub_mod hge, Nat.mod_eq_of_lt hSN2]] at hM
          exact mr_ret hQ (mr_vret C0 hM hS (⟨rfl, rfl⟩) dd_M_plus_153)
        refine lv_if_eq (tgt := 121) hx hb dd_M_plus_114 rfl (fun h114 => ?_) (fun h114 => ?_)
        · skip
          have hv114 : ¬ (A + B) % 18446744073709551616 < N % 18446744073709551616 := fun q => absurd h114 (by rw [if_pos q]; decide)
          refine lv_lconst (v := lN 0) hx hb dd_M_plus_121 rfl ?_
          exact join_122 _ _ _ _ (by rw [if_neg hv114]) hM hS (lv_sub hl [0, 1, 2, 3, 4] rfl)
        · skip
          have hv114 : (A + B) % 18446744073709551616 < N % 18446744073709551616 := Classical.byContradiction (fun q => h114 (by rw [if_neg q]; rfl))
          refine lv_lconst (v := lN 1) hx hb dd_M_plus_117 rfl ?_
          refine lv_goto (tgt := 122) hx hb dd_M_plus_118 rfl ?_
          exact join_122 _ _ _ _ (by rw [if_pos hv114]) hM hS (lv_sub hl [0, 1, 2, 3, 4] rfl)
      refine lv_if_ne (tgt := 103) hx hb dd_M_plus_85 rfl (fun h85 => ?_) (fun h85 => ?_)
      · skip
        have hv85 : 340282366920938463463374607431768211456 ≤ (A + B) := by
          have h0 : ov ≠ 0 := fun q => h85 (by rw [q]; rfl)
          rw [hov] at h0
          exact Classical.byContradiction (fun q => h0 (if_neg q))
        have hge : N ≤ (A + B) := Nat.le_trans (Nat.le_of_lt hN) hv85
        exact join_103  _ _ _ (by first | exact hge | exact Nat.le_of_not_lt (fun q => hv100 (by rw [pl_bb hv85]; exact q))) hM hS (lv_sub hl [1, 2, 3, 4, 5] rfl)
      · skip
        have hv85 : ¬ 340282366920938463463374607431768211456 ≤ (A + B) := fun q => absurd h85 (by rw [hov, if_pos q]; decide)
        refine lv_aload_n hx hb dd_M_plus_88 rfl (lv_at hl 1 rfl) ?_
        refine lv_aload_n hx hb dd_M_plus_89 rfl (lv_at hl 1 rfl) ?_
        refine mr_get C0 hM fk_M_154 mu_s (v := .long (lN ((A + B) / 18446744073709551616 % 18446744073709551616))) rfl dd_M_plus_90 ?_
        refine mr_vl (x' := hi_ ((A + B) % 340282366920938463463374607431768211456)) (congrArg lN (pl_m1 _)) ?_
        refine lv_aload_n hx hb dd_M_plus_93 rfl (lv_at hl 1 rfl) ?_
        refine mr_get C0 hM fk_M_151 mu_s (v := .long (lN ((A + B) % 18446744073709551616))) rfl dd_M_plus_94 ?_
        refine mr_vl (x' := lo_ ((A + B) % 340282366920938463463374607431768211456)) (congrArg lN (pl_m0 _)) ?_
        refine mr_callV (As := [.long (hi_ ((A + B) % 340282366920938463463374607431768211456)), .long (lo_ ((A + B) % 340282366920938463463374607431768211456))]) (rest := []) C0 hM hS vk_M_157 mu_s rfl (c_M_isBelowN l mu_s hN (V := (A + B) % 340282366920938463463374607431768211456) (Nat.mod_lt _ (by decide))) rfl rfl hl.1 (Nat.le_of_ble_eq_true rfl) rfl rfl (by subst hR; exact ⟨Nat.le_of_ble_eq_true rfl, Nat.le_of_ble_eq_true rfl⟩) (by subst hR; exact ⟨Nat.le_of_ble_eq_true rfl, Nat.le_of_ble_eq_true rfl⟩) dd_M_plus_97 (fun v1 M1 H locs hp hM hS => ?_)
        obtain ⟨ev1, eM1⟩ := hp
        subst ev1
        rw [eM1] at hM
        refine W.eq (g2 := F0 m 100 ls [.int (nI (if (A + B) % 340282366920938463463374607431768211456 < N then 1 else 0))]) rfl ?_
        refine lv_if_ne (tgt := 153) hx hb dd_M_plus_100 rfl (fun h100 => ?_) (fun h100 => ?_)
        · skip
          have hv100 : (A + B) % 340282366920938463463374607431768211456 < N := Classical.byContradiction (fun q => h100 (by rw [if_neg q]; rfl))
          have hlt : (A + B) < N := by rw [pl_bb hv85] at hv100; exact hv100
          have e1 : (A + B) % N = (A + B) := Nat.mod_eq_of_lt hlt
          have e2 : lN ((A + B) / 18446744073709551616 % 18446744073709551616) = hi_ ((A + B) % N) := congrArg lN (by rw [e1]; exact Nat.mod_eq_of_lt (Nat.lt_of_not_le (fun q => hv85 (pl_big.mpr q))))
          have e3 : lN ((A + B) % 18446744073709551616) = lo_ ((A + B) % N) := congrArg lN (by rw [e1])
          rw [e2, e3] at hM
          exact mr_ret hQ (mr_vret C0 hM hS (⟨rfl, rfl⟩) dd_M_plus_153)
        · skip
          have hv100 : ¬ (A + B) % 340282366920938463463374607431768211456 < N := fun q => absurd h100 (by rw [if_pos q]; decide)
          exact join_103  _ _ _ (by first | exact hge | exact Nat.le_of_not_lt (fun q => hv100 (by rw [pl_bb hv85]; exact q))) hM hS (lv_sub hl [1, 2, 3, 4, 5] rfl)
    refine lv_if_ne (tgt := 76) hx hb dd_M_plus_57 rfl (fun h57 => ?_) (fun h57 => ?_)
    · skip
      have hv57 : (A / 18446744073709551616 + B / 18446744073709551616) % 18446744073709551616 < A / 18446744073709551616 := Classical.byContradiction (fun q => h57 (by rw [if_neg q]; rfl))
      refine lv_iconst (v := nI 1) hx hb dd_M_plus_76 (by decide) ?_
      refine lv_goto (tgt := 81) hx hb dd_M_plus_77 rfl ?_
      exact join_81 _ _ _ _ (by rw [if_pos (show 340282366920938463463374607431768211456 ≤ (A + B) by first | exact pl_o1 hv57 | exact pl_o2 hcy hv63 hv72)]) hM hS (lv_sub hl [2, 3, 4, 5, 6] rfl)
    · skip
      have hv57 : ¬ (A / 18446744073709551616 + B / 18446744073709551616) % 18446744073709551616 < A / 18446744073709551616 := fun q => absurd h57 (by rw [if_pos q]; decide)
      refine lv_lload hx hb dd_M_plus_60 (lv_at hl 1 rfl) ?_
      refine lv_lconst (v := lN 1) hx hb dd_M_plus_62 rfl ?_
      refine mr_lif_ne (tgt := 80) hx hb dd_M_plus_63 dd_M_plus_64 rfl (fun h63 => ?_) (fun h63 => ?_)
      · skip
        have hv63 : cy ≠ 1 := fun q => h63 (congrArg lN q)
        refine lv_iconst (v := nI 0) hx hb dd_M_plus_80 (by decide) ?_
        exact join_81 _ _ _ _ (by rw [if_neg (pl_o0 hA1 hB1 hcy hcy1 hv57 (by first | exact fun q => absurd q hv63 | exact fun _ => hv72))]) hM hS (lv_sub hl [2, 3, 4, 5, 6] rfl)
      · skip
        have hv63 : cy = 1 := (lE_ (Nat.lt_of_le_of_lt hcy1 (by decide)) (by decide)).mp h63
        refine lv_aload_n hx hb dd_M_plus_67 rfl (lv_at hl 2 rfl) ?_
        refine mr_get C0 hM fk_M_154 mu_s (v := .long (lN ((A + B) / 18446744073709551616 % 18446744073709551616))) rfl dd_M_plus_68 ?_
        refine lv_lconst (v := lN 0) hx hb dd_M_plus_71 rfl ?_
        refine mr_lif_ne (tgt := 80) hx hb dd_M_plus_72 dd_M_plus_73 rfl (fun h72 => ?_) (fun h72 => ?_)
        · skip
          have hv72 : (A + B) / 18446744073709551616 % 18446744073709551616 ≠ 0 := fun q => h72 (congrArg lN q)
          refine lv_iconst (v := nI 0) hx hb dd_M_plus_80 (by decide) ?_
          exact join_81 _ _ _ _ (by rw [if_neg (pl_o0 hA1 hB1 hcy hcy1 hv57 (by first | exact fun q => absurd q hv63 | exact fun _ => hv72))]) hM hS (lv_sub hl [2, 3, 4, 5, 6] rfl)
        · skip
          have hv72 : (A + B) / 18446744073709551616 % 18446744073709551616 = 0 := (lE_ hS1 (by decide)).mp h72
          refine lv_iconst (v := nI 1) hx hb dd_M_plus_76 (by decide) ?_
          refine lv_goto (tgt := 81) hx hb dd_M_plus_77 rfl ?_
          exact join_81 _ _ _ _ (by rw [if_pos (show 340282366920938463463374607431768211456 ≤ (A + B) by first | exact pl_o1 hv57 | exact pl_o2 hcy hv63 hv72)]) hM hS (lv_sub hl [2, 3, 4, 5, 6] rfl)
  refine lv_if_eq (tgt := 23) hx hb dd_M_plus_16 rfl (fun h16 => ?_) (fun h16 => ?_)
  · skip
    have hv16 : ¬ (A + B) % 18446744073709551616 < A % 18446744073709551616 := fun q => absurd h16 (by rw [if_pos q]; decide)
    refine lv_lconst (v := lN 0) hx hb dd_M_plus_23 rfl ?_
    exact join_24 _ _ _ _ (pl_c0 hv16) hM hS (lv_sub hl [0, 1, 2, 3, 4] rfl)
  · skip
    have hv16 : (A + B) % 18446744073709551616 < A % 18446744073709551616 := Classical.byContradiction (fun q => h16 (by rw [if_neg q]; rfl))
    refine lv_lconst (v := lN 1) hx hb dd_M_plus_19 rfl ?_
    refine lv_goto (tgt := 24) hx hb dd_M_plus_20 rfl ?_
    exact join_24 _ _ _ _ (pl_c1 hv16) hM hS (lv_sub hl [0, 1, 2, 3, 4] rfl)
