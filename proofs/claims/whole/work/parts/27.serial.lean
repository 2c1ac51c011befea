
/-! the hash -/
def rt_ (x k : Int32) : Int32 := ius_ x k ||| isl_ x (nI 32 - k)
def sg_ (w : Nat → Int32) (i : Nat) : Int32 := ((rt_ (w (i - 2)) (nI 17) ^^^ rt_ (w (i - 2)) (nI 19)) ^^^ ius_ (w (i - 2)) (nI 10)) + w (i - 7) + ((rt_ (w (i - 15)) (nI 7) ^^^ rt_ (w (i - 15)) (nI 18)) ^^^ ius_ (w (i - 15)) (nI 3)) + w (i - 16)
def wf_ (w : Nat → Int32) : Nat → (Nat → Int32)
  | 0 => w
  | k + 1 => upd (wf_ w k) (16 + k) (sg_ (wf_ w k) (16 + k))
def sb0_ (w : Nat → Int32) (hi lo c : Int32) : Nat → Int32 := upd (upd (upd (upd (upd w 0 hi) 1 lo) 3 c) 4 (-2147483648)) 15 (nI 128)
def rT_ (e f g h k w : Int32) : Int32 := h + ((rt_ e (nI 6) ^^^ rt_ e (nI 11)) ^^^ rt_ e (nI 25)) + ((e &&& f) ^^^ ((e ^^^ (-1)) &&& g)) + k + w
def rU_ (a b c : Int32) : Int32 := ((rt_ a (nI 2) ^^^ rt_ a (nI 13)) ^^^ rt_ a (nI 22)) + (((a &&& b) ^^^ (a &&& c)) ^^^ (b &&& c))
def hl_ (w : Nat → Int32) : Nat → Nat → Int32 → Int32 → Int32 → Int32 → Int32 → Int32 → Int32 → Int32 → Int32
  | 0, _, a, _, _, _, _, _, _, _ => a
  | k + 1, i, a, b, c, d, e, f, g, h => hl_ w k (i + 1) (rT_ e f g h (kt_ i) (w i) + rU_ a b c) a b c (d + rT_ e f g h (kt_ i) (w i)) e f g
def hs0_ (w : Nat → Int32) : Int32 := hl_ w 64 0 1779033703 (-1150833019) 1013904242 (-1521486534) 1359893119 (-1694144372) 528734635 1541459225 + 1779033703
def hash_ (s : Int64) (c : Int32) : Int32 := hs0_ (wf_ (sb0_ (fun _ => nI 0) ((lus_ s (nI 32)).toInt32) (s.toInt32) c) 48)
theorem wf_s (w : Nat → Int32) (k : Nat) : upd (wf_ w k) (16 + k) (sg_ (wf_ w k) (16 + k)) = wf_ w (k + 1) := rfl
/-! strong tests -/
def SP_ (n a : Nat) : Prop := ∃ h d, n - 1 = 2 ^ h * d ∧ d % 2 = 1 ∧ (a ^ d % n = 1 ∨ ∃ j, j < h ∧ a ^ (2 ^ j * d) % n = n - 1)
noncomputable def sp_ (n a : Nat) : Int32 := @ite _ (SP_ n a) (Classical.propDecidable _) (nI 1) (nI 0)
theorem sp_y {n a : Nat} (h : SP_ n a) : sp_ n a = nI 1 := by unfold sp_; exact if_pos h
theorem sp_n {n a : Nat} (h : ¬ SP_ n a) : sp_ n a = nI 0 := by unfold sp_; exact if_neg h
theorem two_odd {h h' d d' : Nat} (e : 2 ^ h * d = 2 ^ h' * d') (hd : d % 2 = 1) (hd' : d' % 2 = 1) : h = h' ∧ d = d' := by
  induction h generalizing h' with
  | zero =>
    cases h' with
    | zero => simp at e; exact ⟨rfl, e⟩
    | succ k => rw [Nat.pow_succ, Nat.mul_right_comm] at e; omega
  | succ n ih =>
    cases h' with
    | zero => rw [Nat.pow_succ, Nat.mul_right_comm] at e; omega
    | succ k =>
      rw [Nat.pow_succ, Nat.pow_succ, Nat.mul_right_comm, Nat.mul_right_comm _ 2] at e
      have := ih (h' := k) (by omega)
      exact ⟨by omega, this.2⟩
theorem SP_iff {n a h d : Nat} (e : n - 1 = 2 ^ h * d) (hd : d % 2 = 1) : SP_ n a ↔ (a ^ d % n = 1 ∨ ∃ j, j < h ∧ a ^ (2 ^ j * d) % n = n - 1) := by
  constructor
  · rintro ⟨h', d', e', hd', h1⟩
    obtain ⟨rfl, rfl⟩ := two_odd (e'.symm.trans e) hd' hd
    exact h1
  · intro h1
    exact ⟨h, d, e, hd, h1⟩
theorem sq_pow (a d n i : Nat) : a ^ (2 ^ i * d) % n * (a ^ (2 ^ i * d) % n) % n = a ^ (2 ^ (i + 1) * d) % n := by
  rw [← Nat.mul_mod, ← Nat.pow_add]
  congr 2
  rw [Nat.pow_succ, Nat.mul_right_comm]
  omega
theorem m31_lt {a b : Nat} (ha : a < 2147483648) (hb : b < 2147483648) : a * b < 4611686018427387904 := by
  have h : a * b ≤ 2147483647 * 2147483647 := Nat.mul_le_mul (by omega) (by omega)
  omega
theorem pm_0 {b V n k : Nat} (h : V / 2 ^ k % 2 = 0) : b ^ (V / 2 ^ (k + 1)) % n * (b ^ (V / 2 ^ (k + 1)) % n) % n = b ^ (V / 2 ^ k) % n := by
  rw [← Nat.mul_mod, ← Nat.pow_add]
  congr 2
  have h2 : V / 2 ^ (k + 1) = V / 2 ^ k / 2 := by rw [Nat.pow_succ, Nat.div_div_eq_div_mul]
  omega
theorem pm_1 {b V n k : Nat} (h : V / 2 ^ k % 2 = 1) : b ^ (V / 2 ^ (k + 1)) % n * (b ^ (V / 2 ^ (k + 1)) % n) % n * b % n = b ^ (V / 2 ^ k) % n := by
  rw [← Nat.mul_mod, ← Nat.pow_add, Nat.mod_mul_mod, ← Nat.pow_succ]
  congr 2
  have h2 : V / 2 ^ (k + 1) = V / 2 ^ k / 2 := by rw [Nat.pow_succ, Nat.div_div_eq_div_mul]
  omega
theorem nI_ush {n k : Nat} (hn : n < 2147483648) (hk : k < 32) : ius_ (nI n) (nI k) = nI (n / 2 ^ k) := by
  refine pk_ushrN (by omega) (nI k) k ?_
  have : ∀ k, k < 32 → (((nI k).toUInt32 &&& Int32.toUInt32 31).toBitVec % 32).toNat = k := by decide +kernel
  exact this k hk
/-! the prime of a serial -/
def xn_ (h : Int32) : Nat := ((h &&& 2147483647) ||| 1073741825).toBitVec.toNat
theorem xn_i (h : Int32) : (h &&& 2147483647) ||| 1073741825 = nI (xn_ h) := by
  apply Int32.toBitVec_inj.mp
  show _ = BitVec.ofNat 32 _
  simp [xn_]
theorem xn_in (h : Int32) : 1073741825 ≤ xn_ h ∧ xn_ h < 2147483648 ∧ xn_ h % 2 = 1 := by
  have e : xn_ h = (h.toBitVec.toNat &&& 2147483647) ||| 1073741825 := by
    unfold xn_
    rw [Int32.toBitVec_or, Int32.toBitVec_and, BitVec.toNat_or, BitVec.toNat_and]
    rfl
  rw [e]
  generalize h.toBitVec.toNat = v
  have h1 : v &&& 2147483647 = v % 2147483648 := Nat.and_two_pow_sub_one_eq_mod v 31
  have h2 : v % 2147483648 < 2 ^ 31 := Nat.mod_lt _ (by decide)
  rw [h1]
  refine ⟨Nat.right_le_or, ?_, ?_⟩
  · exact Nat.or_lt_two_pow h2 (by decide)
  · rw [Nat.or_mod_two_pow (n := 1)]
    have : v % 2147483648 % 2 ^ 1 < 2 := Nat.mod_lt _ (by decide)
    generalize v % 2147483648 % 2 ^ 1 = z at *
    rcases (show z = 0 ∨ z = 1 by omega) with rfl | rfl <;> rfl
def PP_ (n : Nat) : Prop := SP_ n 2 ∧ SP_ n 7 ∧ SP_ n 61
noncomputable def pf_ (s : Int64) : Nat → Nat → Int32
  | 0, _ => (-2)
  | k + 1, c => @ite _ (PP_ (xn_ (hash_ s (nI c)))) (Classical.propDecidable _) (nI (xn_ (hash_ s (nI c)))) (pf_ s k (c + 1))
noncomputable def prime_ (s : Int64) : Int32 := @ite _ (s < 0 ∨ (1099511627776 : Int64) ≤ s) (Classical.propDecidable _) (-2) (pf_ s 256 0)

noncomputable def ip_ (n : Nat) : Int32 := @ite _ (PP_ n) (Classical.propDecidable _) (nI 1) (nI 0)
theorem ip_y {n : Nat} (h : PP_ n) : ip_ n = nI 1 := by unfold ip_; exact if_pos h
theorem ip_n {n : Nat} (h : ¬ PP_ n) : ip_ n = nI 0 := by unfold ip_; exact if_neg h
theorem pf_y {s : Int64} {k c : Nat} (h : PP_ (xn_ (hash_ s (nI c)))) : pf_ s (k + 1) c = nI (xn_ (hash_ s (nI c))) := by rw [pf_]; exact if_pos h
theorem pf_n {s : Int64} {k c : Nat} (h : ¬ PP_ (xn_ (hash_ s (nI c)))) : pf_ s (k + 1) c = pf_ s k (c + 1) := by rw [pf_]; exact if_neg h
theorem prime_b {s : Int64} (h : s < 0 ∨ (1099511627776 : Int64) ≤ s) : prime_ s = (-2) := by unfold prime_; exact if_pos h
theorem prime_g {s : Int64} (h : ¬ (s < 0 ∨ (1099511627776 : Int64) ≤ s)) : prime_ s = pf_ s 256 0 := by unfold prime_; exact if_neg h

set_option maxHeartbeats 4000000 in
set_option maxRecDepth 100000 in
theorem c_S_turn (l : Launch) {G : mg_} {M : mw_} {x k0 : Int32}    : dt_ l my_S_turn cd_S_turn 2 (some .int) { frames := 0, cells := 0, slots := 0, locals := 0 } G [.int x, .int k0] M (some (.int (rt_ x k0))) (M) 0 0 := by
  refine ct_.intro2 (by decide) (Nat.le_of_ble_eq_true rfl) ?_
  intro p e s m args below meth c ls R Q hR hQ C0 hl hM hS
  have hx := C0.1
  have hb := C0.2.1
  have hl : lv_has ls 2 [(0, .int x), (1, .int k0)] := hl
  refine lv_iload_n hx hb dd_S_turn_0 rfl (lv_at hl 0 rfl) ?_
  refine lv_iload_n hx hb dd_S_turn_1 rfl (lv_at hl 1 rfl) ?_
  refine lv_iushr (v := ius_ x k0) hx hb dd_S_turn_2 (rfl) ?_
  refine lv_iload_n hx hb dd_S_turn_3 rfl (lv_at hl 0 rfl) ?_
  refine lv_bipush (v := nI 32) hx hb dd_S_turn_4 (by decide) ?_
  refine lv_iload_n hx hb dd_S_turn_6 rfl (lv_at hl 1 rfl) ?_
  refine lv_isub hx hb dd_S_turn_7 ?_
  refine lv_ishl hx hb dd_S_turn_8 ?_
  refine lv_ior hx hb dd_S_turn_9 ?_
  exact mr_ret hQ (mr_iret C0 hM hS (rfl) (⟨rfl, rfl⟩) dd_S_turn_10)

set_option maxHeartbeats 4000000 in
set_option maxRecDepth 100000 in
theorem c_S_fillSchedule (l : Launch) {G : mg_} {M : mw_} {o wA : Nat} {w0 : Nat → Int32} {sx : Int64} {c0 : Int32} (h_o : M o = some (ob_ 4 [.ref wA])) (h_wA : M wA = some (ia_ G 64 w0))   : dt_ l my_S_fillSchedule cd_S_fillSchedule 7 none { frames := 1, cells := 0, slots := 0, locals := 23 } G [.ref o, .long sx, .int c0] M none (mu_ M wA (ia_ G 64 (wf_ (sb0_ (fun _ => nI 0) ((lus_ sx (nI 32)).toInt32) (sx.toInt32) c0) 48))) 0 0 := by
  refine ct_.intro2 (by decide) (Nat.le_of_ble_eq_true rfl) ?_
  intro p e s m args below meth c ls R Q hR hQ C0 hl hM hS
  have hx := C0.1
  have hb := C0.2.1
  have hl : lv_has ls 7 [(0, .ref o), (1, .long sx), (3, .int c0)] := hl
  refine lv_aload_n hx hb dd_S_fillSchedule_0 rfl (lv_at hl 0 rfl) ?_
  refine mr_get C0 hM fk_S_11 h_o (v := .ref wA) rfl dd_S_fillSchedule_1 ?_
  refine lv_iconst (v := nI 0) hx hb dd_S_fillSchedule_4 (by decide) ?_
  refine mr_callS (As := [.ref wA, .int (nI 0)]) (rest := []) C0 hM hS sk_S_46 (c_A_fill_aII l h_wA (by decide)) rfl rfl hl.1 (Nat.le_of_ble_eq_true rfl) rfl rfl (by subst hR; exact ⟨Nat.le_of_ble_eq_true rfl, Nat.le_of_ble_eq_true rfl⟩) (by subst hR; exact ⟨Nat.le_of_ble_eq_true rfl, Nat.le_of_ble_eq_true rfl⟩) dd_S_fillSchedule_5 (fun v1 M1 H locs hp hM hS => ?_)
  obtain ⟨ev1, eM1⟩ := hp
  subst ev1
  rw [eM1] at hM
  have hM : mm_ G (mu_ M wA (ia_ G 64 (fun _ => nI 0))) H := hM
  refine W.eq (g2 := F0 m 8 ls []) rfl ?_
  refine lv_aload_n hx hb dd_S_fillSchedule_8 rfl (lv_at hl 0 rfl) ?_
  refine mr_get C0 hM fk_S_11 (mu_n' (ne_k h_o h_wA (fun q => by cases q)) h_o) (v := .ref wA) rfl dd_S_fillSchedule_9 ?_
  refine lv_iconst (v := nI 0) hx hb dd_S_fillSchedule_12 (by decide) ?_
  refine lv_lload_n hx hb dd_S_fillSchedule_13 rfl (lv_at hl 1 rfl) ?_
  refine lv_bipush (v := nI 32) hx hb dd_S_fillSchedule_14 (by decide) ?_
  refine lv_lushr (v := lus_ sx (nI 32)) hx hb dd_S_fillSchedule_16 (rfl) ?_
  refine lv_l2i (v := (lus_ sx (nI 32)).toInt32) hx hb dd_S_fillSchedule_17 (rfl) ?_
  refine mr_iast C0 hM hS mu_s (0) (rfl) (by omega) (by decide) dd_S_fillSchedule_18 (fun H locs hM hS => ?_)
  have hM := mr_M mu_mu hM
  refine lv_aload_n hx hb dd_S_fillSchedule_19 rfl (lv_at hl 0 rfl) ?_
  refine mr_get C0 hM fk_S_11 (mu_n' (ne_k h_o h_wA (fun q => by cases q)) h_o) (v := .ref wA) rfl dd_S_fillSchedule_20 ?_
  refine lv_iconst (v := nI 1) hx hb dd_S_fillSchedule_23 (by decide) ?_
  refine lv_lload_n hx hb dd_S_fillSchedule_24 rfl (lv_at hl 1 rfl) ?_
  refine lv_l2i (v := sx.toInt32) hx hb dd_S_fillSchedule_25 (rfl) ?_
  refine mr_iast C0 hM hS mu_s (1) (rfl) (by omega) (by decide) dd_S_fillSchedule_26 (fun H locs hM hS => ?_)
  have hM := mr_M mu_mu hM
  refine lv_aload_n hx hb dd_S_fillSchedule_27 rfl (lv_at hl 0 rfl) ?_
  refine mr_get C0 hM fk_S_11 (mu_n' (ne_k h_o h_wA (fun q => by cases q)) h_o) (v := .ref wA) rfl dd_S_fillSchedule_28 ?_
  refine lv_iconst (v := nI 3) hx hb dd_S_fillSchedule_31 (by decide) ?_
  refine lv_iload_n hx hb dd_S_fillSchedule_32 rfl (lv_at hl 2 rfl) ?_
  refine mr_iast C0 hM hS mu_s (3) (rfl) (by omega) (by decide) dd_S_fillSchedule_33 (fun H locs hM hS => ?_)
  have hM := mr_M mu_mu hM
  refine lv_aload_n hx hb dd_S_fillSchedule_34 rfl (lv_at hl 0 rfl) ?_
  refine mr_get C0 hM fk_S_11 (mu_n' (ne_k h_o h_wA (fun q => by cases q)) h_o) (v := .ref wA) rfl dd_S_fillSchedule_35 ?_
  refine lv_iconst (v := nI 4) hx hb dd_S_fillSchedule_38 (by decide) ?_
  refine mr_ldc (v := (-2147483648 : Int32)) C0 tw_257 dd_S_fillSchedule_39 ?_
  refine mr_iast C0 hM hS mu_s (4) (rfl) (by omega) (by decide) dd_S_fillSchedule_41 (fun H locs hM hS => ?_)
  have hM := mr_M mu_mu hM
  refine lv_aload_n hx hb dd_S_fillSchedule_42 rfl (lv_at hl 0 rfl) ?_
  refine mr_get C0 hM fk_S_11 (mu_n' (ne_k h_o h_wA (fun q => by cases q)) h_o) (v := .ref wA) rfl dd_S_fillSchedule_43 ?_
  refine lv_bipush (v := nI 15) hx hb dd_S_fillSchedule_46 (by decide) ?_
  refine lv_sipush (v := nI 128) hx hb dd_S_fillSchedule_48 (by decide) ?_
  refine mr_iast C0 hM hS mu_s (15) (rfl) (by omega) (by decide) dd_S_fillSchedule_51 (fun H locs hM hS => ?_)
  have hM := mr_M mu_mu hM
  have hM : mm_ G (mu_ M wA (ia_ G 64 (sb0_ (fun _ => nI 0) ((lus_ sx (nI 32)).toInt32) (sx.toInt32) c0))) H := hM
  refine lv_bipush (v := nI 16) hx hb dd_S_fillSchedule_52 (by decide) ?_
  refine lv_istore (lv' := [(4, .int (nI 16)), (0, .ref o), (1, .long sx), (3, .int c0)]) hx hb dd_S_fillSchedule_54 hl (by decide) rfl (fun ls hl => ?_)
  have loop_56 : ∀ (k : Nat) (j : Nat) (H : Heap) (locs : List Loc) (ls : Array Slot), j + k = 48 → mm_ G (mu_ M wA (ia_ G 64 (wf_ (sb0_ (fun _ => nI 0) ((lus_ sx (nI 32)).toInt32) (sx.toInt32) c0) j))) H → va_S (fz_ G) s.heap H locs → lv_has ls 7 [(0, .ref o), (1, .long sx), (3, .int c0), (4, .int (nI (16 + j)))] → W p l e R s m args below meth c H locs 0 0 Q (F0 m 56 ls []) := by
    intro k
    induction k with
    | zero =>
      intro j H locs ls hi hM hS hl
      refine lv_iload hx hb dd_S_fillSchedule_56 (lv_at hl 3 rfl) ?_
      refine lv_bipush (v := nI 64) hx hb dd_S_fillSchedule_58 (by decide) ?_
      refine lv_icmp_ge (tgt := 193) hx hb dd_S_fillSchedule_60 rfl (fun _ => ?_) (fun hc => absurd (le_nI (a := 64) (b := (16 + j)) (by omega) (by omega) (by omega)) hc)
      rw [show j = 48 by omega] at hM
      exact mr_ret hQ (mr_vret C0 hM hS (⟨rfl, rfl⟩) dd_S_fillSchedule_193)
    | succ k ih =>
      intro j H locs ls hi hM hS hl
      refine lv_iload hx hb dd_S_fillSchedule_56 (lv_at hl 3 rfl) ?_
      refine lv_bipush (v := nI 64) hx hb dd_S_fillSchedule_58 (by decide) ?_
      refine lv_icmp_ge (tgt := 193) hx hb dd_S_fillSchedule_60 rfl (fun hc => absurd hc (nle_nI (a := 64) (b := (16 + j)) (by omega) (by omega) (by omega))) (fun _ => ?_)
      refine lv_aload_n hx hb dd_S_fillSchedule_63 rfl (lv_at hl 0 rfl) ?_
      refine mr_get C0 hM fk_S_11 (mu_n' (ne_k h_o h_wA (fun q => by cases q)) h_o) (v := .ref wA) rfl dd_S_fillSchedule_64 ?_
      refine lv_iload hx hb dd_S_fillSchedule_67 (lv_at hl 3 rfl) ?_
      refine lv_iconst (v := nI 2) hx hb dd_S_fillSchedule_69 (by decide) ?_
      refine lv_isub hx hb dd_S_fillSchedule_70 ?_
      refine mr_vi (pk_sub (a := (16 + j)) (b := 2) (by omega)) ?_
      refine mr_iald C0 hM mu_s (((16 + j) - 2)) (rfl) (by omega) (by decide) dd_S_fillSchedule_71 ?_
      refine lv_bipush (v := nI 17) hx hb dd_S_fillSchedule_72 (by decide) ?_
      refine mr_callS (As := [.int ((wf_ (sb0_ (fun _ => nI 0) ((lus_ sx (nI 32)).toInt32) (sx.toInt32) c0) j) ((16 + j) - 2)), .int (nI 17)]) (rest := []) C0 hM hS sk_S_39 (c_S_turn l) rfl rfl hl.1 (Nat.le_of_ble_eq_true rfl) rfl rfl (by subst hR; exact ⟨Nat.le_of_ble_eq_true rfl, Nat.le_of_ble_eq_true rfl⟩) (by subst hR; exact ⟨Nat.le_of_ble_eq_true rfl, Nat.le_of_ble_eq_true rfl⟩) dd_S_fillSchedule_74 (fun v1 M1 H locs hp hM hS => ?_)
      obtain ⟨ev1, eM1⟩ := hp
      subst ev1
      rw [eM1] at hM
      refine W.eq (g2 := F0 m 77 ls [.int (rt_ ((wf_ (sb0_ (fun _ => nI 0) ((lus_ sx (nI 32)).toInt32) (sx.toInt32) c0) j (16 + j - 2))) (nI 17))]) rfl ?_
      refine lv_aload_n hx hb dd_S_fillSchedule_77 rfl (lv_at hl 0 rfl) ?_
      refine mr_get C0 hM fk_S_11 (mu_n' (ne_k h_o h_wA (fun q => by cases q)) h_o) (v := .ref wA) rfl dd_S_fillSchedule_78 ?_
      refine lv_iload hx hb dd_S_fillSchedule_81 (lv_at hl 3 rfl) ?_
      refine lv_iconst (v := nI 2) hx hb dd_S_fillSchedule_83 (by decide) ?_
      refine lv_isub hx hb dd_S_fillSchedule_84 ?_
      refine mr_vi (pk_sub (a := (16 + j)) (b := 2) (by omega)) ?_
      refine mr_iald C0 hM mu_s (((16 + j) - 2)) (rfl) (by omega) (by decide) dd_S_fillSchedule_85 ?_
      refine lv_bipush (v := nI 19) hx hb dd_S_fillSchedule_86 (by decide) ?_
      refine mr_callS (As := [.int ((wf_ (sb0_ (fun _ => nI 0) ((lus_ sx (nI 32)).toInt32) (sx.toInt32) c0) j) ((16 + j) - 2)), .int (nI 19)]) (rest := [.int (rt_ ((wf_ (sb0_ (fun _ => nI 0) ((lus_ sx (nI 32)).toInt32) (sx.toInt32) c0) j (16 + j - 2))) (nI 17))]) C0 hM hS sk_S_39 (c_S_turn l) rfl rfl hl.1 (Nat.le_of_ble_eq_true rfl) rfl rfl (by subst hR; exact ⟨Nat.le_of_ble_eq_true rfl, Nat.le_of_ble_eq_true rfl⟩) (by subst hR; exact ⟨Nat.le_of_ble_eq_true rfl, Nat.le_of_ble_eq_true rfl⟩) dd_S_fillSchedule_88 (fun v1 M1 H locs hp hM hS => ?_)
      obtain ⟨ev1, eM1⟩ := hp
      subst ev1
      rw [eM1] at hM
      refine W.eq (g2 := F0 m 91 ls [.int (rt_ ((wf_ (sb0_ (fun _ => nI 0) ((lus_ sx (nI 32)).toInt32) (sx.toInt32) c0) j (16 + j - 2))) (nI 19)), .int (rt_ ((wf_ (sb0_ (fun _ => nI 0) ((lus_ sx (nI 32)).toInt32) (sx.toInt32) c0) j (16 + j - 2))) (nI 17))]) rfl ?_
      refine lv_ixor hx hb dd_S_fillSchedule_91 ?_
      refine lv_aload_n hx hb dd_S_fillSchedule_92 rfl (lv_at hl 0 rfl) ?_
      refine mr_get C0 hM fk_S_11 (mu_n' (ne_k h_o h_wA (fun q => by cases q)) h_o) (v := .ref wA) rfl dd_S_fillSchedule_93 ?_
      refine lv_iload hx hb dd_S_fillSchedule_96 (lv_at hl 3 rfl) ?_
      refine lv_iconst (v := nI 2) hx hb dd_S_fillSchedule_98 (by decide) ?_
      refine lv_isub hx hb dd_S_fillSchedule_99 ?_
      refine mr_vi (pk_sub (a := (16 + j)) (b := 2) (by omega)) ?_
      refine mr_iald C0 hM mu_s (((16 + j) - 2)) (rfl) (by omega) (by decide) dd_S_fillSchedule_100 ?_
      refine lv_bipush (v := nI 10) hx hb dd_S_fillSchedule_101 (by decide) ?_
      refine lv_iushr (v := ius_ ((wf_ (sb0_ (fun _ => nI 0) ((lus_ sx (nI 32)).toInt32) (sx.toInt32) c0) j) ((16 + j) - 2)) (nI 10)) hx hb dd_S_fillSchedule_103 (rfl) ?_
      refine lv_ixor hx hb dd_S_fillSchedule_104 ?_
      refine lv_istore (lv' := [(5, .int (((rt_ ((wf_ (sb0_ (fun _ => nI 0) ((lus_ sx (nI 32)).toInt32) (sx.toInt32) c0) j (16 + j - 2))) (nI 17)) ^^^ (rt_ ((wf_ (sb0_ (fun _ => nI 0) ((lus_ sx (nI 32)).toInt32) (sx.toInt32) c0) j (16 + j - 2))) (nI 19))) ^^^ (ius_ ((wf_ (sb0_ (fun _ => nI 0) ((lus_ sx (nI 32)).toInt32) (sx.toInt32) c0) j) ((16 + j) - 2)) (nI 10)))), (0, .ref o), (1, .long sx), (3, .int c0), (4, .int (nI (16 + j)))]) hx hb dd_S_fillSchedule_105 hl (by decide) rfl (fun ls hl => ?_)
      refine lv_aload_n hx hb dd_S_fillSchedule_107 rfl (lv_at hl 1 rfl) ?_
      refine mr_get C0 hM fk_S_11 (mu_n' (ne_k h_o h_wA (fun q => by cases q)) h_o) (v := .ref wA) rfl dd_S_fillSchedule_108 ?_
      refine lv_iload hx hb dd_S_fillSchedule_111 (lv_at hl 4 rfl) ?_
      refine lv_bipush (v := nI 15) hx hb dd_S_fillSchedule_113 (by decide) ?_
      refine lv_isub hx hb dd_S_fillSchedule_115 ?_
      refine mr_vi (pk_sub (a := (16 + j)) (b := 15) (by omega)) ?_
      refine mr_iald C0 hM mu_s (((16 + j) - 15)) (rfl) (by omega) (by decide) dd_S_fillSchedule_116 ?_
      refine lv_bipush (v := nI 7) hx hb dd_S_fillSchedule_117 (by decide) ?_
      refine mr_callS (As := [.int ((wf_ (sb0_ (fun _ => nI 0) ((lus_ sx (nI 32)).toInt32) (sx.toInt32) c0) j) ((16 + j) - 15)), .int (nI 7)]) (rest := []) C0 hM hS sk_S_39 (c_S_turn l) rfl rfl hl.1 (Nat.le_of_ble_eq_true rfl) rfl rfl (by subst hR; exact ⟨Nat.le_of_ble_eq_true rfl, Nat.le_of_ble_eq_true rfl⟩) (by subst hR; exact ⟨Nat.le_of_ble_eq_true rfl, Nat.le_of_ble_eq_true rfl⟩) dd_S_fillSchedule_119 (fun v1 M1 H locs hp hM hS => ?_)
      obtain ⟨ev1, eM1⟩ := hp
      subst ev1
      rw [eM1] at hM
      refine W.eq (g2 := F0 m 122 ls [.int (rt_ ((wf_ (sb0_ (fun _ => nI 0) ((lus_ sx (nI 32)).toInt32) (sx.toInt32) c0) j (16 + j - 15))) (nI 7))]) rfl ?_
      refine lv_aload_n hx hb dd_S_fillSchedule_122 rfl (lv_at hl 1 rfl) ?_
      refine mr_get C0 hM fk_S_11 (mu_n' (ne_k h_o h_wA (fun q => by cases q)) h_o) (v := .ref wA) rfl dd_S_fillSchedule_123 ?_
      refine lv_iload hx hb dd_S_fillSchedule_126 (lv_at hl 4 rfl) ?_
      refine lv_bipush (v := nI 15) hx hb dd_S_fillSchedule_128 (by decide) ?_
      refine lv_isub hx hb dd_S_fillSchedule_130 ?_
      refine mr_vi (pk_sub (a := (16 + j)) (b := 15) (by omega)) ?_
      refine mr_iald C0 hM mu_s (((16 + j) - 15)) (rfl) (by omega) (by decide) dd_S_fillSchedule_131 ?_
      refine lv_bipush (v := nI 18) hx hb dd_S_fillSchedule_132 (by decide) ?_
      refine mr_callS (As := [.int ((wf_ (sb0_ (fun _ => nI 0) ((lus_ sx (nI 32)).toInt32) (sx.toInt32) c0) j) ((16 + j) - 15)), .int (nI 18)]) (rest := [.int (rt_ ((wf_ (sb0_ (fun _ => nI 0) ((lus_ sx (nI 32)).toInt32) (sx.toInt32) c0) j (16 + j - 15))) (nI 7))]) C0 hM hS sk_S_39 (c_S_turn l) rfl rfl hl.1 (Nat.le_of_ble_eq_true rfl) rfl rfl (by subst hR; exact ⟨Nat.le_of_ble_eq_true rfl, Nat.le_of_ble_eq_true rfl⟩) (by subst hR; exact ⟨Nat.le_of_ble_eq_true rfl, Nat.le_of_ble_eq_true rfl⟩) dd_S_fillSchedule_134 (fun v1 M1 H locs hp hM hS => ?_)
      obtain ⟨ev1, eM1⟩ := hp
      subst ev1
      rw [eM1] at hM
      refine W.eq (g2 := F0 m 137 ls [.int (rt_ ((wf_ (sb0_ (fun _ => nI 0) ((lus_ sx (nI 32)).toInt32) (sx.toInt32) c0) j (16 + j - 15))) (nI 18)), .int (rt_ ((wf_ (sb0_ (fun _ => nI 0) ((lus_ sx (nI 32)).toInt32) (sx.toInt32) c0) j (16 + j - 15))) (nI 7))]) rfl ?_
      refine lv_ixor hx hb dd_S_fillSchedule_137 ?_
      refine lv_aload_n hx hb dd_S_fillSchedule_138 rfl (lv_at hl 1 rfl) ?_
      refine mr_get C0 hM fk_S_11 (mu_n' (ne_k h_o h_wA (fun q => by cases q)) h_o) (v := .ref wA) rfl dd_S_fillSchedule_139 ?_
      refine lv_iload hx hb dd_S_fillSchedule_142 (lv_at hl 4 rfl) ?_
      refine lv_bipush (v := nI 15) hx hb dd_S_fillSchedule_144 (by decide) ?_
      refine lv_isub hx hb dd_S_fillSchedule_146 ?_
      refine mr_vi (pk_sub (a := (16 + j)) (b := 15) (by omega)) ?_
      refine mr_iald C0 hM mu_s (((16 + j) - 15)) (rfl) (by omega) (by decide) dd_S_fillSchedule_147 ?_
      refine lv_iconst (v := nI 3) hx hb dd_S_fillSchedule_148 (by decide) ?_
      refine lv_iushr (v := ius_ ((wf_ (sb0_ (fun _ => nI 0) ((lus_ sx (nI 32)).toInt32) (sx.toInt32) c0) j) ((16 + j) - 15)) (nI 3)) hx hb dd_S_fillSchedule_149 (rfl) ?_
      refine lv_ixor hx hb dd_S_fillSchedule_150 ?_
      refine lv_istore (lv' := [(6, .int (((rt_ ((wf_ (sb0_ (fun _ => nI 0) ((lus_ sx (nI 32)).toInt32) (sx.toInt32) c0) j (16 + j - 15))) (nI 7)) ^^^ (rt_ ((wf_ (sb0_ (fun _ => nI 0) ((lus_ sx (nI 32)).toInt32) (sx.toInt32) c0) j (16 + j - 15))) (nI 18))) ^^^ (ius_ ((wf_ (sb0_ (fun _ => nI 0) ((lus_ sx (nI 32)).toInt32) (sx.toInt32) c0) j) ((16 + j) - 15)) (nI 3)))), (5, .int (((rt_ ((wf_ (sb0_ (fun _ => nI 0) ((lus_ sx (nI 32)).toInt32) (sx.toInt32) c0) j (16 + j - 2))) (nI 17)) ^^^ (rt_ ((wf_ (sb0_ (fun _ => nI 0) ((lus_ sx (nI 32)).toInt32) (sx.toInt32) c0) j (16 + j - 2))) (nI 19))) ^^^ (ius_ ((wf_ (sb0_ (fun _ => nI 0) ((lus_ sx (nI 32)).toInt32) (sx.toInt32) c0) j) ((16 + j) - 2)) (nI 10)))), (0, .ref o), (1, .long sx), (3, .int c0), (4, .int (nI (16 + j)))]) hx hb dd_S_fillSchedule_151 hl (by decide) rfl (fun ls hl => ?_)
      refine lv_aload_n hx hb dd_S_fillSchedule_153 rfl (lv_at hl 2 rfl) ?_
      refine mr_get C0 hM fk_S_11 (mu_n' (ne_k h_o h_wA (fun q => by cases q)) h_o) (v := .ref wA) rfl dd_S_fillSchedule_154 ?_
      refine lv_iload hx hb dd_S_fillSchedule_157 (lv_at hl 5 rfl) ?_
      refine lv_iload hx hb dd_S_fillSchedule_159 (lv_at hl 1 rfl) ?_
      refine lv_aload_n hx hb dd_S_fillSchedule_161 rfl (lv_at hl 2 rfl) ?_
      refine mr_get C0 hM fk_S_11 (mu_n' (ne_k h_o h_wA (fun q => by cases q)) h_o) (v := .ref wA) rfl dd_S_fillSchedule_162 ?_
      refine lv_iload hx hb dd_S_fillSchedule_165 (lv_at hl 5 rfl) ?_
      refine lv_bipush (v := nI 7) hx hb dd_S_fillSchedule_167 (by decide) ?_
      refine lv_isub hx hb dd_S_fillSchedule_169 ?_
      refine mr_vi (pk_sub (a := (16 + j)) (b := 7) (by omega)) ?_
      refine mr_iald C0 hM mu_s (((16 + j) - 7)) (rfl) (by omega) (by decide) dd_S_fillSchedule_170 ?_
      refine lv_iadd hx hb dd_S_fillSchedule_171 ?_
      refine lv_iload hx hb dd_S_fillSchedule_172 (lv_at hl 0 rfl) ?_
      refine lv_iadd hx hb dd_S_fillSchedule_174 ?_
      refine lv_aload_n hx hb dd_S_fillSchedule_175 rfl (lv_at hl 2 rfl) ?_
      refine mr_get C0 hM fk_S_11 (mu_n' (ne_k h_o h_wA (fun q => by cases q)) h_o) (v := .ref wA) rfl dd_S_fillSchedule_176 ?_
      refine lv_iload hx hb dd_S_fillSchedule_179 (lv_at hl 5 rfl) ?_
      refine lv_bipush (v := nI 16) hx hb dd_S_fillSchedule_181 (by decide) ?_
      refine lv_isub hx hb dd_S_fillSchedule_183 ?_
      refine mr_vi (pk_sub (a := (16 + j)) (b := 16) (by omega)) ?_
      refine mr_iald C0 hM mu_s (((16 + j) - 16)) (rfl) (by omega) (by decide) dd_S_fillSchedule_184 ?_
      refine lv_iadd hx hb dd_S_fillSchedule_185 ?_
      refine mr_iast C0 hM hS mu_s ((16 + j)) (rfl) (by omega) (by decide) dd_S_fillSchedule_186 (fun H locs hM hS => ?_)
      have hM := mr_M mu_mu hM
      have hM := mr_M (congrArg (fun z__ => mu_ M wA (ia_ G 64 z__)) (show (upd (wf_ (sb0_ (fun _ => nI 0) ((lus_ sx (nI 32)).toInt32) (sx.toInt32) c0) j) (16 + j) ((((((rt_ ((wf_ (sb0_ (fun _ => nI 0) ((lus_ sx (nI 32)).toInt32) (sx.toInt32) c0) j (16 + j - 2))) (nI 17)) ^^^ (rt_ ((wf_ (sb0_ (fun _ => nI 0) ((lus_ sx (nI 32)).toInt32) (sx.toInt32) c0) j (16 + j - 2))) (nI 19))) ^^^ (ius_ ((wf_ (sb0_ (fun _ => nI 0) ((lus_ sx (nI 32)).toInt32) (sx.toInt32) c0) j) ((16 + j) - 2)) (nI 10))) + ((wf_ (sb0_ (fun _ => nI 0) ((lus_ sx (nI 32)).toInt32) (sx.toInt32) c0) j) ((16 + j) - 7))) + (((rt_ ((wf_ (sb0_ (fun _ => nI 0) ((lus_ sx (nI 32)).toInt32) (sx.toInt32) c0) j (16 + j - 15))) (nI 7)) ^^^ (rt_ ((wf_ (sb0_ (fun _ => nI 0) ((lus_ sx (nI 32)).toInt32) (sx.toInt32) c0) j (16 + j - 15))) (nI 18))) ^^^ (ius_ ((wf_ (sb0_ (fun _ => nI 0) ((lus_ sx (nI 32)).toInt32) (sx.toInt32) c0) j) ((16 + j) - 15)) (nI 3)))) + ((wf_ (sb0_ (fun _ => nI 0) ((lus_ sx (nI 32)).toInt32) (sx.toInt32) c0) j) ((16 + j) - 16))) : Nat → Int32) = (wf_ (sb0_ (fun _ => nI 0) ((lus_ sx (nI 32)).toInt32) (sx.toInt32) c0) (j + 1)) from rfl)) hM
      have hM : mm_ G (mu_ M wA (ia_ G 64 (wf_ (sb0_ (fun _ => nI 0) ((lus_ sx (nI 32)).toInt32) (sx.toInt32) c0) (j + 1)))) H := hM
      refine lv_iinc (k := 5) (v := nI ((16 + j) + 1)) (lv' := [(4, .int (nI ((16 + j) + 1))), (6, .int (((rt_ ((wf_ (sb0_ (fun _ => nI 0) ((lus_ sx (nI 32)).toInt32) (sx.toInt32) c0) j (16 + j - 15))) (nI 7)) ^^^ (rt_ ((wf_ (sb0_ (fun _ => nI 0) ((lus_ sx (nI 32)).toInt32) (sx.toInt32) c0) j (16 + j - 15))) (nI 18))) ^^^ (ius_ ((wf_ (sb0_ (fun _ => nI 0) ((lus_ sx (nI 32)).toInt32) (sx.toInt32) c0) j) ((16 + j) - 15)) (nI 3)))), (5, .int (((rt_ ((wf_ (sb0_ (fun _ => nI 0) ((lus_ sx (nI 32)).toInt32) (sx.toInt32) c0) j (16 + j - 2))) (nI 17)) ^^^ (rt_ ((wf_ (sb0_ (fun _ => nI 0) ((lus_ sx (nI 32)).toInt32) (sx.toInt32) c0) j (16 + j - 2))) (nI 19))) ^^^ (ius_ ((wf_ (sb0_ (fun _ => nI 0) ((lus_ sx (nI 32)).toInt32) (sx.toInt32) c0) j) ((16 + j) - 2)) (nI 10)))), (0, .ref o), (1, .long sx), (3, .int c0)]) hx hb dd_S_fillSchedule_187 hl rfl (inc_ (16 + j)) (by decide) rfl (fun ls hl => ?_)
      refine lv_goto (tgt := 56) hx hb dd_S_fillSchedule_190 rfl ?_
      exact ih (j + 1) _ _ _ (by omega) hM hS (lv_sub hl [3, 4, 5, 0] rfl)
  exact loop_56 48 0 _ _ _ (rfl) hM hS (lv_sub hl [1, 2, 3, 0] rfl)

set_option maxHeartbeats 4000000 in
set_option maxRecDepth 100000 in
theorem c_S_hash (l : Launch) {G : mg_} {M : mw_} {o wA : Nat} {w0 : Nat → Int32} {sx : Int64} {c0 : Int32} (h_o : M o = some (ob_ 4 [.ref wA])) (h_wA : M wA = some (ia_ G 64 w0))   : dt_ l my_S_hash cd_S_hash 15 (some .int) { frames := 2, cells := 0, slots := 0, locals := 49 } G [.ref o, .long sx, .int c0] M (some (.int (hash_ sx c0))) (mu_ M wA (ia_ G 64 (wf_ (sb0_ (fun _ => nI 0) ((lus_ sx (nI 32)).toInt32) (sx.toInt32) c0) 48))) 0 0 := by
  refine ct_.intro2 (by decide) (Nat.le_of_ble_eq_true rfl) ?_
  intro p e s m args below meth c ls R Q hR hQ C0 hl hM hS
  have hx := C0.1
  have hb := C0.2.1
  have hl : lv_has ls 15 [(0, .ref o), (1, .long sx), (3, .int c0)] := hl
  refine lv_aload_n hx hb dd_S_hash_0 rfl (lv_at hl 0 rfl) ?_
  refine lv_lload_n hx hb dd_S_hash_1 rfl (lv_at hl 1 rfl) ?_
  refine lv_iload_n hx hb dd_S_hash_2 rfl (lv_at hl 2 rfl) ?_
  refine mr_callV (As := [.long sx, .int c0]) (rest := []) C0 hM hS vk_S_27 h_o rfl (c_S_fillSchedule l h_o h_wA  ) rfl rfl hl.1 (Nat.le_of_ble_eq_true rfl) rfl rfl (by subst hR; exact ⟨Nat.le_of_ble_eq_true rfl, Nat.le_of_ble_eq_true rfl⟩) (by subst hR; exact ⟨Nat.le_of_ble_eq_true rfl, Nat.le_of_ble_eq_true rfl⟩) dd_S_hash_3 (fun v1 M1 H locs hp hM hS => ?_)
  obtain ⟨ev1, eM1⟩ := hp
  subst ev1
  rw [eM1] at hM
  have hM : mm_ G (mu_ M wA (ia_ G 64 (wf_ (sb0_ (fun _ => nI 0) ((lus_ sx (nI 32)).toInt32) (sx.toInt32) c0) 48))) H := hM
  refine W.eq (g2 := F0 m 6 ls []) rfl ?_
  refine mr_ldc (v := (1779033703 : Int32)) C0 tw_261 dd_S_hash_6 ?_
  refine lv_istore (lv' := [(4, .int (1779033703 : Int32)), (0, .ref o), (1, .long sx), (3, .int c0)]) hx hb dd_S_hash_8 hl (by decide) rfl (fun ls hl => ?_)
  refine mr_ldc (v := (-1150833019 : Int32)) C0 tw_262 dd_S_hash_10 ?_
  refine lv_istore (lv' := [(5, .int (-1150833019 : Int32)), (4, .int (1779033703 : Int32)), (0, .ref o), (1, .long sx), (3, .int c0)]) hx hb dd_S_hash_12 hl (by decide) rfl (fun ls hl => ?_)
  refine mr_ldc (v := (1013904242 : Int32)) C0 tw_263 dd_S_hash_14 ?_
  refine lv_istore (lv' := [(6, .int (1013904242 : Int32)), (5, .int (-1150833019 : Int32)), (4, .int (1779033703 : Int32)), (0, .ref o), (1, .long sx), (3, .int c0)]) hx hb dd_S_hash_16 hl (by decide) rfl (fun ls hl => ?_)
  refine mr_ldc (v := (-1521486534 : Int32)) C0 tw_264 dd_S_hash_18 ?_
  refine lv_istore (lv' := [(7, .int (-1521486534 : Int32)), (6, .int (1013904242 : Int32)), (5, .int (-1150833019 : Int32)), (4, .int (1779033703 : Int32)), (0, .ref o), (1, .long sx), (3, .int c0)]) hx hb dd_S_hash_20 hl (by decide) rfl (fun ls hl => ?_)
  refine mr_ldc (v := (1359893119 : Int32)) C0 tw_265 dd_S_hash_22 ?_
  refine lv_istore (lv' := [(8, .int (1359893119 : Int32)), (7, .int (-1521486534 : Int32)), (6, .int (1013904242 : Int32)), (5, .int (-1150833019 : Int32)), (4, .int (1779033703 : Int32)), (0, .ref o), (1, .long sx), (3, .int c0)]) hx hb dd_S_hash_24 hl (by decide) rfl (fun ls hl => ?_)
  refine mr_ldc (v := (-1694144372 : Int32)) C0 tw_266 dd_S_hash_26 ?_
  refine lv_istore (lv' := [(9, .int (-1694144372 : Int32)), (8, .int (1359893119 : Int32)), (7, .int (-1521486534 : Int32)), (6, .int (1013904242 : Int32)), (5, .int (-1150833019 : Int32)), (4, .int (1779033703 : Int32)), (0, .ref o), (1, .long sx), (3, .int c0)]) hx hb dd_S_hash_28 hl (by decide) rfl (fun ls hl => ?_)
  refine mr_ldc (v := (528734635 : Int32)) C0 tw_267 dd_S_hash_30 ?_
  refine lv_istore (lv' := [(10, .int (528734635 : Int32)), (9, .int (-1694144372 : Int32)), (8, .int (1359893119 : Int32)), (7, .int (-1521486534 : Int32)), (6, .int (1013904242 : Int32)), (5, .int (-1150833019 : Int32)), (4, .int (1779033703 : Int32)), (0, .ref o), (1, .long sx), (3, .int c0)]) hx hb dd_S_hash_32 hl (by decide) rfl (fun ls hl => ?_)
  refine mr_ldc (v := (1541459225 : Int32)) C0 tw_268 dd_S_hash_34 ?_
  refine lv_istore (lv' := [(11, .int (1541459225 : Int32)), (10, .int (528734635 : Int32)), (9, .int (-1694144372 : Int32)), (8, .int (1359893119 : Int32)), (7, .int (-1521486534 : Int32)), (6, .int (1013904242 : Int32)), (5, .int (-1150833019 : Int32)), (4, .int (1779033703 : Int32)), (0, .ref o), (1, .long sx), (3, .int c0)]) hx hb dd_S_hash_36 hl (by decide) rfl (fun ls hl => ?_)
  refine lv_iconst (v := nI 0) hx hb dd_S_hash_38 (by decide) ?_
  refine lv_istore (lv' := [(12, .int (nI 0)), (11, .int (1541459225 : Int32)), (10, .int (528734635 : Int32)), (9, .int (-1694144372 : Int32)), (8, .int (1359893119 : Int32)), (7, .int (-1521486534 : Int32)), (6, .int (1013904242 : Int32)), (5, .int (-1150833019 : Int32)), (4, .int (1779033703 : Int32)), (0, .ref o), (1, .long sx), (3, .int c0)]) hx hb dd_S_hash_39 hl (by decide) rfl (fun ls hl => ?_)
  have loop_41 : ∀ (k : Nat) (i : Nat) (a1 : Int32) (b1 : Int32) (c1 : Int32) (d1 : Int32) (e1 : Int32) (f1 : Int32) (g1 : Int32) (h1 : Int32) (H : Heap) (locs : List Loc) (ls : Array Slot), i + k = 64 → hl_ (wf_ (sb0_ (fun _ => nI 0) ((lus_ sx (nI 32)).toInt32) (sx.toInt32) c0) 48) k i a1 b1 c1 d1 e1 f1 g1 h1 + 1779033703 = hash_ sx c0 → mm_ G (mu_ M wA (ia_ G 64 (wf_ (sb0_ (fun _ => nI 0) ((lus_ sx (nI 32)).toInt32) (sx.toInt32) c0) 48))) H → va_S (fz_ G) s.heap H locs → lv_has ls 15 [(0, .ref o), (4, .int a1), (5, .int b1), (6, .int c1), (7, .int d1), (8, .int e1), (9, .int f1), (10, .int g1), (11, .int h1), (12, .int (nI i))] → W p l e R s m args below meth c H locs 0 0 Q (F0 m 41 ls []) := by
    intro k
    induction k with
    | zero =>
      intro i a1 b1 c1 d1 e1 f1 g1 h1 H locs ls hi hF hM hS hl
      refine lv_iload hx hb dd_S_hash_41 (lv_at hl 9 rfl) ?_
      refine lv_bipush (v := nI 64) hx hb dd_S_hash_43 (by decide) ?_
      refine lv_icmp_ge (tgt := 191) hx hb dd_S_hash_45 rfl (fun _ => ?_) (fun hc => absurd (le_nI (a := 64) (b := i) (by omega) (by omega) (by omega)) hc)
      refine lv_iload hx hb dd_S_hash_191 (lv_at hl 1 rfl) ?_
      refine mr_ldc (v := (1779033703 : Int32)) C0 tw_261 dd_S_hash_193 ?_
      refine lv_iadd hx hb dd_S_hash_195 ?_
      exact mr_ret hQ (mr_iret C0 hM hS (rfl) (⟨by rw [← hF]; rfl, rfl⟩) dd_S_hash_196)
    | succ k ih =>
      intro i a1 b1 c1 d1 e1 f1 g1 h1 H locs ls hi hF hM hS hl
      refine lv_iload hx hb dd_S_hash_41 (lv_at hl 9 rfl) ?_
      refine lv_bipush (v := nI 64) hx hb dd_S_hash_43 (by decide) ?_
      refine lv_icmp_ge (tgt := 191) hx hb dd_S_hash_45 rfl (fun hc => absurd hc (nle_nI (a := 64) (b := i) (by omega) (by omega) (by omega))) (fun _ => ?_)
      refine lv_iload hx hb dd_S_hash_48 (lv_at hl 8 rfl) ?_
      refine lv_iload hx hb dd_S_hash_50 (lv_at hl 5 rfl) ?_
      refine lv_bipush (v := nI 6) hx hb dd_S_hash_52 (by decide) ?_
      refine mr_callS (As := [.int e1, .int (nI 6)]) (rest := [.int h1]) C0 hM hS sk_S_39 (c_S_turn l) rfl rfl hl.1 (Nat.le_of_ble_eq_true rfl) rfl rfl (by subst hR; exact ⟨Nat.le_of_ble_eq_true rfl, Nat.le_of_ble_eq_true rfl⟩) (by subst hR; exact ⟨Nat.le_of_ble_eq_true rfl, Nat.le_of_ble_eq_true rfl⟩) dd_S_hash_54 (fun v1 M1 H locs hp hM hS => ?_)
      obtain ⟨ev1, eM1⟩ := hp
      subst ev1
      rw [eM1] at hM
      refine W.eq (g2 := F0 m 57 ls [.int (rt_ e1 (nI 6)), .int h1]) rfl ?_
      refine lv_iload hx hb dd_S_hash_57 (lv_at hl 5 rfl) ?_
      refine lv_bipush (v := nI 11) hx hb dd_S_hash_59 (by decide) ?_
      refine mr_callS (As := [.int e1, .int (nI 11)]) (rest := [.int (rt_ e1 (nI 6)), .int h1]) C0 hM hS sk_S_39 (c_S_turn l) rfl rfl hl.1 (Nat.le_of_ble_eq_true rfl) rfl rfl (by subst hR; exact ⟨Nat.le_of_ble_eq_true rfl, Nat.le_of_ble_eq_true rfl⟩) (by subst hR; exact ⟨Nat.le_of_ble_eq_true rfl, Nat.le_of_ble_eq_true rfl⟩) dd_S_hash_61 (fun v1 M1 H locs hp hM hS => ?_)
      obtain ⟨ev1, eM1⟩ := hp
      subst ev1
      rw [eM1] at hM
      refine W.eq (g2 := F0 m 64 ls [.int (rt_ e1 (nI 11)), .int (rt_ e1 (nI 6)), .int h1]) rfl ?_
      refine lv_ixor hx hb dd_S_hash_64 ?_
      refine lv_iload hx hb dd_S_hash_65 (lv_at hl 5 rfl) ?_
      refine lv_bipush (v := nI 25) hx hb dd_S_hash_67 (by decide) ?_
      refine mr_callS (As := [.int e1, .int (nI 25)]) (rest := [.int ((rt_ e1 (nI 6)) ^^^ (rt_ e1 (nI 11))), .int h1]) C0 hM hS sk_S_39 (c_S_turn l) rfl rfl hl.1 (Nat.le_of_ble_eq_true rfl) rfl rfl (by subst hR; exact ⟨Nat.le_of_ble_eq_true rfl, Nat.le_of_ble_eq_true rfl⟩) (by subst hR; exact ⟨Nat.le_of_ble_eq_true rfl, Nat.le_of_ble_eq_true rfl⟩) dd_S_hash_69 (fun v1 M1 H locs hp hM hS => ?_)
      obtain ⟨ev1, eM1⟩ := hp
      subst ev1
      rw [eM1] at hM
      refine W.eq (g2 := F0 m 72 ls [.int (rt_ e1 (nI 25)), .int ((rt_ e1 (nI 6)) ^^^ (rt_ e1 (nI 11))), .int h1]) rfl ?_
      refine lv_ixor hx hb dd_S_hash_72 ?_
      refine lv_iadd hx hb dd_S_hash_73 ?_
      refine lv_iload hx hb dd_S_hash_74 (lv_at hl 5 rfl) ?_
      refine lv_iload hx hb dd_S_hash_76 (lv_at hl 6 rfl) ?_
      refine lv_iand hx hb dd_S_hash_78 ?_
      refine lv_iload hx hb dd_S_hash_79 (lv_at hl 5 rfl) ?_
      refine lv_iconst (v := (-1 : Int32)) hx hb dd_S_hash_81 (by decide) ?_
      refine lv_ixor hx hb dd_S_hash_82 ?_
      refine lv_iload hx hb dd_S_hash_83 (lv_at hl 7 rfl) ?_
      refine lv_iand hx hb dd_S_hash_85 ?_
      refine lv_ixor hx hb dd_S_hash_86 ?_
      refine lv_iadd hx hb dd_S_hash_87 ?_
      refine mr_kget C0 hS rfl dd_S_hash_88 ?_
      refine lv_iload hx hb dd_S_hash_91 (lv_at hl 9 rfl) ?_
      refine mr_kld C0 hS (i) (rfl) (by omega) dd_S_hash_93 ?_
      refine lv_iadd hx hb dd_S_hash_94 ?_
      refine lv_aload_n hx hb dd_S_hash_95 rfl (lv_at hl 0 rfl) ?_
      refine mr_get C0 hM fk_S_11 (mu_n' (ne_k h_o h_wA (fun q => by cases q)) h_o) (v := .ref wA) rfl dd_S_hash_96 ?_
      refine lv_iload hx hb dd_S_hash_99 (lv_at hl 9 rfl) ?_
      refine mr_iald C0 hM mu_s (i) (rfl) (by omega) (by decide) dd_S_hash_101 ?_
      refine lv_iadd hx hb dd_S_hash_102 ?_
      refine lv_topi (fun v1 e2 => ?_)
      refine lv_istore (lv' := [(13, .int v1), (0, .ref o), (4, .int a1), (5, .int b1), (6, .int c1), (7, .int d1), (8, .int e1), (9, .int f1), (10, .int g1), (11, .int h1), (12, .int (nI i))]) hx hb dd_S_hash_103 hl (by decide) rfl (fun ls hl => ?_)
      refine lv_iload hx hb dd_S_hash_105 (lv_at hl 2 rfl) ?_
      refine lv_iconst (v := nI 2) hx hb dd_S_hash_107 (by decide) ?_
      refine mr_callS (As := [.int a1, .int (nI 2)]) (rest := []) C0 hM hS sk_S_39 (c_S_turn l) rfl rfl hl.1 (Nat.le_of_ble_eq_true rfl) rfl rfl (by subst hR; exact ⟨Nat.le_of_ble_eq_true rfl, Nat.le_of_ble_eq_true rfl⟩) (by subst hR; exact ⟨Nat.le_of_ble_eq_true rfl, Nat.le_of_ble_eq_true rfl⟩) dd_S_hash_108 (fun v1 M1 H locs hp hM hS => ?_)
      obtain ⟨ev1, eM1⟩ := hp
      subst ev1
      rw [eM1] at hM
      refine W.eq (g2 := F0 m 111 ls [.int (rt_ a1 (nI 2))]) rfl ?_
      refine lv_iload hx hb dd_S_hash_111 (lv_at hl 2 rfl) ?_
      refine lv_bipush (v := nI 13) hx hb dd_S_hash_113 (by decide) ?_
      refine mr_callS (As := [.int a1, .int (nI 13)]) (rest := [.int (rt_ a1 (nI 2))]) C0 hM hS sk_S_39 (c_S_turn l) rfl rfl hl.1 (Nat.le_of_ble_eq_true rfl) rfl rfl (by subst hR; exact ⟨Nat.le_of_ble_eq_true rfl, Nat.le_of_ble_eq_true rfl⟩) (by subst hR; exact ⟨Nat.le_of_ble_eq_true rfl, Nat.le_of_ble_eq_true rfl⟩) dd_S_hash_115 (fun v1 M1 H locs hp hM hS => ?_)
      obtain ⟨ev1, eM1⟩ := hp
      subst ev1
      rw [eM1] at hM
      refine W.eq (g2 := F0 m 118 ls [.int (rt_ a1 (nI 13)), .int (rt_ a1 (nI 2))]) rfl ?_
      refine lv_ixor hx hb dd_S_hash_118 ?_
      refine lv_iload hx hb dd_S_hash_119 (lv_at hl 2 rfl) ?_
      refine lv_bipush (v := nI 22) hx hb dd_S_hash_121 (by decide) ?_
      refine mr_callS (As := [.int a1, .int (nI 22)]) (rest := [.int ((rt_ a1 (nI 2)) ^^^ (rt_ a1 (nI 13)))]) C0 hM hS sk_S_39 (c_S_turn l) rfl rfl hl.1 (Nat.le_of_ble_eq_true rfl) rfl rfl (by subst hR; exact ⟨Nat.le_of_ble_eq_true rfl, Nat.le_of_ble_eq_true rfl⟩) (by subst hR; exact ⟨Nat.le_of_ble_eq_true rfl, Nat.le_of_ble_eq_true rfl⟩) dd_S_hash_123 (fun v1 M1 H locs hp hM hS => ?_)
      obtain ⟨ev1, eM1⟩ := hp
      subst ev1
      rw [eM1] at hM
      refine W.eq (g2 := F0 m 126 ls [.int (rt_ a1 (nI 22)), .int ((rt_ a1 (nI 2)) ^^^ (rt_ a1 (nI 13)))]) rfl ?_
      refine lv_ixor hx hb dd_S_hash_126 ?_
      refine lv_iload hx hb dd_S_hash_127 (lv_at hl 2 rfl) ?_
      refine lv_iload hx hb dd_S_hash_129 (lv_at hl 3 rfl) ?_
      refine lv_iand hx hb dd_S_hash_131 ?_
      refine lv_iload hx hb dd_S_hash_132 (lv_at hl 2 rfl) ?_
      refine lv_iload hx hb dd_S_hash_134 (lv_at hl 4 rfl) ?_
      refine lv_iand hx hb dd_S_hash_136 ?_
      refine lv_ixor hx hb dd_S_hash_137 ?_
      refine lv_iload hx hb dd_S_hash_138 (lv_at hl 3 rfl) ?_
      refine lv_iload hx hb dd_S_hash_140 (lv_at hl 4 rfl) ?_
      refine lv_iand hx hb dd_S_hash_142 ?_
      refine lv_ixor hx hb dd_S_hash_143 ?_
      refine lv_iadd hx hb dd_S_hash_144 ?_
      refine lv_topi (fun v3 e4 => ?_)
      refine lv_istore (lv' := [(14, .int v3), (13, .int v1), (0, .ref o), (4, .int a1), (5, .int b1), (6, .int c1), (7, .int d1), (8, .int e1), (9, .int f1), (10, .int g1), (11, .int h1), (12, .int (nI i))]) hx hb dd_S_hash_145 hl (by decide) rfl (fun ls hl => ?_)
      refine lv_iload hx hb dd_S_hash_147 (lv_at hl 9 rfl) ?_
      refine lv_istore (lv' := [(11, .int g1), (14, .int v3), (13, .int v1), (0, .ref o), (4, .int a1), (5, .int b1), (6, .int c1), (7, .int d1), (8, .int e1), (9, .int f1), (10, .int g1), (12, .int (nI i))]) hx hb dd_S_hash_149 hl (by decide) rfl (fun ls hl => ?_)
      refine lv_iload hx hb dd_S_hash_151 (lv_at hl 9 rfl) ?_
      refine lv_istore (lv' := [(10, .int f1), (11, .int g1), (14, .int v3), (13, .int v1), (0, .ref o), (4, .int a1), (5, .int b1), (6, .int c1), (7, .int d1), (8, .int e1), (9, .int f1), (12, .int (nI i))]) hx hb dd_S_hash_153 hl (by decide) rfl (fun ls hl => ?_)
      refine lv_iload hx hb dd_S_hash_155 (lv_at hl 9 rfl) ?_
      refine lv_istore (lv' := [(9, .int e1), (10, .int f1), (11, .int g1), (14, .int v3), (13, .int v1), (0, .ref o), (4, .int a1), (5, .int b1), (6, .int c1), (7, .int d1), (8, .int e1), (12, .int (nI i))]) hx hb dd_S_hash_157 hl (by decide) rfl (fun ls hl => ?_)
      refine lv_iload hx hb dd_S_hash_159 (lv_at hl 9 rfl) ?_
      refine lv_iload hx hb dd_S_hash_161 (lv_at hl 4 rfl) ?_
      refine lv_iadd hx hb dd_S_hash_163 ?_
      refine lv_topi (fun v5 e6 => ?_)
      refine lv_istore (lv' := [(8, .int v5), (9, .int e1), (10, .int f1), (11, .int g1), (14, .int v3), (13, .int v1), (0, .ref o), (4, .int a1), (5, .int b1), (6, .int c1), (7, .int d1), (12, .int (nI i))]) hx hb dd_S_hash_164 hl (by decide) rfl (fun ls hl => ?_)
      refine lv_iload hx hb dd_S_hash_166 (lv_at hl 9 rfl) ?_
      refine lv_istore (lv' := [(7, .int c1), (8, .int v5), (9, .int e1), (10, .int f1), (11, .int g1), (14, .int v3), (13, .int v1), (0, .ref o), (4, .int a1), (5, .int b1), (6, .int c1), (12, .int (nI i))]) hx hb dd_S_hash_168 hl (by decide) rfl (fun ls hl => ?_)
      refine lv_iload hx hb dd_S_hash_170 (lv_at hl 9 rfl) ?_
      refine lv_istore (lv' := [(6, .int b1), (7, .int c1), (8, .int v5), (9, .int e1), (10, .int f1), (11, .int g1), (14, .int v3), (13, .int v1), (0, .ref o), (4, .int a1), (5, .int b1), (12, .int (nI i))]) hx hb dd_S_hash_172 hl (by decide) rfl (fun ls hl => ?_)
      refine lv_iload hx hb dd_S_hash_174 (lv_at hl 9 rfl) ?_
      refine lv_istore (lv' := [(5, .int a1), (6, .int b1), (7, .int c1), (8, .int v5), (9, .int e1), (10, .int f1), (11, .int g1), (14, .int v3), (13, .int v1), (0, .ref o), (4, .int a1), (12, .int (nI i))]) hx hb dd_S_hash_176 hl (by decide) rfl (fun ls hl => ?_)
      refine lv_iload hx hb dd_S_hash_178 (lv_at hl 8 rfl) ?_
      refine lv_iload hx hb dd_S_hash_180 (lv_at hl 7 rfl) ?_
      refine lv_iadd hx hb dd_S_hash_182 ?_
      refine lv_topi (fun v7 e8 => ?_)
      refine lv_istore (lv' := [(4, .int v7), (5, .int a1), (6, .int b1), (7, .int c1), (8, .int v5), (9, .int e1), (10, .int f1), (11, .int g1), (14, .int v3), (13, .int v1), (0, .ref o), (12, .int (nI i))]) hx hb dd_S_hash_183 hl (by decide) rfl (fun ls hl => ?_)
      refine lv_iinc (k := 11) (v := nI (i + 1)) (lv' := [(12, .int (nI (i + 1))), (4, .int v7), (5, .int a1), (6, .int b1), (7, .int c1), (8, .int v5), (9, .int e1), (10, .int f1), (11, .int g1), (14, .int v3), (13, .int v1), (0, .ref o)]) hx hb dd_S_hash_185 hl rfl (inc_ i) (by decide) rfl (fun ls hl => ?_)
      refine lv_goto (tgt := 41) hx hb dd_S_hash_188 rfl ?_
      subst e8 e6 e4 e2
      exact ih (i + 1) _ _ _ _ _ _ _ _ _ _ _ (by omega) (hF) hM hS (lv_sub hl [11, 1, 2, 3, 4, 5, 6, 7, 8, 0] rfl)
  exact loop_41 64 0 _ _ _ _ _ _ _ _ _ _ _ (rfl) (rfl) hM hS (lv_sub hl [9, 8, 7, 6, 5, 4, 3, 2, 1, 0] rfl)

set_option maxHeartbeats 4000000 in
set_option maxRecDepth 100000 in
theorem c_S_power (l : Launch) {G : mg_} {M : mw_} {b0 e0 n0 : Nat}   (hb31 : b0 < 2147483648) (he31 : e0 < 2147483648) (hn31 : n0 < 2147483648) (hn2 : 2 ≤ n0) : dt_ l my_S_power cd_S_power 7 (some .long) { frames := 0, cells := 0, slots := 0, locals := 0 } G [.long (lN b0), .int (nI e0), .int (nI n0)] M (some (.long (lN (b0 ^ e0 % n0)))) (M) 0 0 := by
  refine ct_.intro2 (by decide) (Nat.le_of_ble_eq_true rfl) ?_
  intro p e s m args below meth c ls R Q hR hQ C0 hl hM hS
  have hx := C0.1
  have hb := C0.2.1
  have hl : lv_has ls 7 [(0, .long (lN b0)), (2, .int (nI e0)), (3, .int (nI n0))] := hl
  refine lv_lconst (v := lN 1) hx hb dd_S_power_0 rfl ?_
  refine lv_lstore (lv' := [(4, .long (lN 1)), (0, .long (lN b0)), (2, .int (nI e0)), (3, .int (nI n0))]) hx hb dd_S_power_1 hl (by decide) rfl (fun ls hl => ?_)
  refine lv_bipush (v := nI 31) hx hb dd_S_power_3 (by decide) ?_
  refine lv_istore (lv' := [(6, .int (nI 31)), (4, .long (lN 1)), (0, .long (lN b0)), (2, .int (nI e0)), (3, .int (nI n0))]) hx hb dd_S_power_5 hl (by decide) rfl (fun ls hl => ?_)
  have loop_7 : ∀ (k : Nat)  (H : Heap) (locs : List Loc) (ls : Array Slot), k ≤ 32 → mm_ G (M) H → va_S (fz_ G) s.heap H locs → lv_has ls 7 [(0, .long (lN b0)), (2, .int (nI e0)), (3, .int (nI n0)), (4, .long (lN (b0 ^ (e0 / 2 ^ k) % n0))), (6, .int (nI k + (-1 : Int32)))] → W p l e R s m args below meth c H locs 0 0 Q (F0 m 7 ls []) := by
    intro k
    induction k with
    | zero =>
      intro  H locs ls hk hM hS hl
      have hl : lv_has ls 7 [(0, .long (lN b0)), (2, .int (nI e0)), (3, .int (nI n0)), (4, .long (lN (b0 ^ (e0 / 2 ^ 0) % n0))), (6, .int (nI 0 + (-1 : Int32)))] := by exact hl
      refine lv_iload hx hb dd_S_power_7 (lv_at hl 4 rfl) ?_
      refine lv_if_lt (tgt := 46) hx hb dd_S_power_9 rfl (fun _ => ?_) (fun hc => absurd (by decide) hc)
      refine lv_lload hx hb dd_S_power_46 (lv_at hl 3 rfl) ?_
      exact mr_ret hQ (mr_lret C0 hM hS (⟨by rw [Nat.pow_zero, Nat.div_one], rfl⟩) dd_S_power_48)
    | succ k ih =>
      intro  H locs ls hk hM hS hl
      have hr : b0 ^ (e0 / 2 ^ (k + 1)) % n0 < n0 := Nat.mod_lt _ (by omega)
      have hr2 : b0 ^ (e0 / 2 ^ (k + 1)) % n0 * (b0 ^ (e0 / 2 ^ (k + 1)) % n0) % n0 < n0 := Nat.mod_lt _ (by omega)
      have hm1 := m31_lt (show b0 ^ (e0 / 2 ^ (k + 1)) % n0 < 2147483648 by omega) (show b0 ^ (e0 / 2 ^ (k + 1)) % n0 < 2147483648 by omega)
      have hm2 := m31_lt (show b0 ^ (e0 / 2 ^ (k + 1)) % n0 * (b0 ^ (e0 / 2 ^ (k + 1)) % n0) % n0 < 2147483648 by omega) hb31
      have hl : lv_has ls 7 [(0, .long (lN b0)), (2, .int (nI e0)), (3, .int (nI n0)), (4, .long (lN (b0 ^ (e0 / 2 ^ (k + 1)) % n0))), (6, .int (nI k))] := by rw [pk_m1] at hl; exact hl
      refine lv_iload hx hb dd_S_power_7 (lv_at hl 4 rfl) ?_
      refine lv_if_lt (tgt := 46) hx hb dd_S_power_9 rfl (fun hc => absurd hc (z_nlt (by omega))) (fun _ => ?_)
      refine lv_lload hx hb dd_S_power_12 (lv_at hl 3 rfl) ?_
      refine lv_lload hx hb dd_S_power_14 (lv_at hl 3 rfl) ?_
      refine lv_lmul hx hb dd_S_power_16 ?_
      refine mr_vl (x' := lN (b0 ^ (e0 / 2 ^ (k + 1)) % n0 * (b0 ^ (e0 / 2 ^ (k + 1)) % n0))) (lN_mul _ _) ?_
      refine lv_iload_n hx hb dd_S_power_17 rfl (lv_at hl 2 rfl) ?_
      refine lv_i2l (v := lN n0) hx hb dd_S_power_18 (nI_l hn31) ?_
      refine lv_lrem hx hb dd_S_power_19 (ln0_ (by omega) hn31) ?_
      refine mr_vl (x' := lN (b0 ^ (e0 / 2 ^ (k + 1)) % n0 * (b0 ^ (e0 / 2 ^ (k + 1)) % n0) % n0)) (pk_lRem (by omega) (by omega) (by omega)) ?_
      refine lv_lstore (lv' := [(4, .long (lN (b0 ^ (e0 / 2 ^ (k + 1)) % n0 * (b0 ^ (e0 / 2 ^ (k + 1)) % n0) % n0))), (0, .long (lN b0)), (2, .int (nI e0)), (3, .int (nI n0)), (6, .int (nI k))]) hx hb dd_S_power_20 hl (by decide) rfl (fun ls hl => ?_)
      refine lv_iload_n hx hb dd_S_power_22 rfl (lv_at hl 2 rfl) ?_
      refine lv_iload hx hb dd_S_power_23 (lv_at hl 4 rfl) ?_
      refine lv_iushr (v := nI (e0 / 2 ^ k)) hx hb dd_S_power_25 (nI_ush he31 (by omega)) ?_
      refine lv_iconst (v := nI 1) hx hb dd_S_power_26 (by decide) ?_
      refine lv_iand hx hb dd_S_power_27 ?_
      refine mr_vi (x' := nI (e0 / 2 ^ k % 2)) (pk_andN (Nat.lt_of_le_of_lt (Nat.div_le_self _ _) (by omega)) 1 (by decide)) ?_
      refine lv_if_eq (tgt := 40) hx hb dd_S_power_28 rfl (fun h28 => ?_) (fun h28 => ?_)
      · skip
        have hv : e0 / 2 ^ k % 2 = 0 := (nI_eq (by omega) (by decide)).mp h28
        have hbk := (pm_0 (b := b0) (n := n0) hv).symm
        refine lv_iinc (k := 4) (v := nI k + (-1 : Int32)) (lv' := [(6, .int (nI k + (-1 : Int32))), (4, .long (lN (b0 ^ (e0 / 2 ^ (k + 1)) % n0 * (b0 ^ (e0 / 2 ^ (k + 1)) % n0) % n0))), (0, .long (lN b0)), (2, .int (nI e0)), (3, .int (nI n0))]) hx hb dd_S_power_40 hl rfl (rfl) (by decide) rfl (fun ls hl => ?_)
        refine lv_goto (tgt := 7) hx hb dd_S_power_43 rfl ?_
        exact ih  _ _ _ (by omega) hM hS (by rw [hbk]; exact lv_sub hl [2, 3, 4, 1, 0] rfl)
      · skip
        have hv : e0 / 2 ^ k % 2 = 1 := by
          have h2 : e0 / 2 ^ k % 2 ≠ 0 := fun q => h28 (by rw [q]; rfl)
          omega
        have hbk := (pm_1 (b := b0) (n := n0) hv).symm
        refine lv_lload hx hb dd_S_power_31 (lv_at hl 0 rfl) ?_
        refine lv_lload_n hx hb dd_S_power_33 rfl (lv_at hl 1 rfl) ?_
        refine lv_lmul hx hb dd_S_power_34 ?_
        refine mr_vl (x' := lN (b0 ^ (e0 / 2 ^ (k + 1)) % n0 * (b0 ^ (e0 / 2 ^ (k + 1)) % n0) % n0 * b0)) (lN_mul _ _) ?_
        refine lv_iload_n hx hb dd_S_power_35 rfl (lv_at hl 3 rfl) ?_
        refine lv_i2l (v := lN n0) hx hb dd_S_power_36 (nI_l hn31) ?_
        refine lv_lrem hx hb dd_S_power_37 (ln0_ (by omega) hn31) ?_
        refine mr_vl (x' := lN (b0 ^ (e0 / 2 ^ (k + 1)) % n0 * (b0 ^ (e0 / 2 ^ (k + 1)) % n0) % n0 * b0 % n0)) (pk_lRem (by omega) (by omega) (by omega)) ?_
        refine lv_lstore (lv' := [(4, .long (lN (b0 ^ (e0 / 2 ^ (k + 1)) % n0 * (b0 ^ (e0 / 2 ^ (k + 1)) % n0) % n0 * b0 % n0))), (0, .long (lN b0)), (2, .int (nI e0)), (3, .int (nI n0)), (6, .int (nI k))]) hx hb dd_S_power_38 hl (by decide) rfl (fun ls hl => ?_)
        refine lv_iinc (k := 4) (v := nI k + (-1 : Int32)) (lv' := [(6, .int (nI k + (-1 : Int32))), (4, .long (lN (b0 ^ (e0 / 2 ^ (k + 1)) % n0 * (b0 ^ (e0 / 2 ^ (k + 1)) % n0) % n0 * b0 % n0))), (0, .long (lN b0)), (2, .int (nI e0)), (3, .int (nI n0))]) hx hb dd_S_power_40 hl rfl (rfl) (by decide) rfl (fun ls hl => ?_)
        refine lv_goto (tgt := 7) hx hb dd_S_power_43 rfl ?_
        exact ih  _ _ _ (by omega) hM hS (by rw [hbk]; exact lv_sub hl [2, 3, 4, 1, 0] rfl)
  exact loop_7 32  _ _ _ (Nat.le_refl _) hM hS (by rw [show nI 32 + (-1 : Int32) = nI 31 from by decide, show b0 ^ (e0 / 2 ^ 32) % n0 = 1 by rw [Nat.div_eq_of_lt (by omega), Nat.pow_zero, Nat.mod_eq_of_lt (by omega)]]; exact lv_sub hl [2, 3, 4, 1, 0] rfl)

set_option maxHeartbeats 4000000 in
set_option maxRecDepth 100000 in
theorem c_S_inverse (l : Launch) {G : mg_} {M : mw_} {x0 p0 : Nat}   (hx31 : x0 < 2147483648) (hp31 : p0 < 2147483648) (hp2 : 2 ≤ p0) : dt_ l my_S_inverse cd_S_inverse 2 (some .int) { frames := 1, cells := 0, slots := 0, locals := 26 } G [.int (nI x0), .int (nI p0)] M (some (.int (nI (x0 ^ (p0 - 2) % p0)))) (M) 0 0 := by
  refine ct_.intro2 (by decide) (Nat.le_of_ble_eq_true rfl) ?_
  intro p e s m args below meth c ls R Q hR hQ C0 hl hM hS
  have hx := C0.1
  have hb := C0.2.1
  have hl : lv_has ls 2 [(0, .int (nI x0)), (1, .int (nI p0))] := hl
  refine lv_iload_n hx hb dd_S_inverse_0 rfl (lv_at hl 1 rfl) ?_
  refine lv_iconst (v := nI 2) hx hb dd_S_inverse_1 (by decide) ?_
  refine lv_icmp_ge (tgt := 9) hx hb dd_S_inverse_2 rfl (fun _ => ?_) (fun hc => absurd (le_nI (a := 2) (b := p0) (by omega) (by omega) (by omega)) hc)
  refine lv_iload_n hx hb dd_S_inverse_9 rfl (lv_at hl 0 rfl) ?_
  refine lv_i2l (v := lN x0) hx hb dd_S_inverse_10 (nI_l hx31) ?_
  refine lv_iload_n hx hb dd_S_inverse_11 rfl (lv_at hl 1 rfl) ?_
  refine lv_iconst (v := nI 2) hx hb dd_S_inverse_12 (by decide) ?_
  refine lv_isub hx hb dd_S_inverse_13 ?_
  refine mr_vi (pk_sub (a := p0) (b := 2) (by omega)) ?_
  refine lv_iload_n hx hb dd_S_inverse_14 rfl (lv_at hl 1 rfl) ?_
  refine mr_callS (As := [.long (lN x0), .int (nI (p0 - 2)), .int (nI p0)]) (rest := []) C0 hM hS sk_S_57 (c_S_power l hx31 (by omega) hp31 hp2) rfl rfl hl.1 (Nat.le_of_ble_eq_true rfl) rfl rfl (by subst hR; exact ⟨Nat.le_of_ble_eq_true rfl, Nat.le_of_ble_eq_true rfl⟩) (by subst hR; exact ⟨Nat.le_of_ble_eq_true rfl, Nat.le_of_ble_eq_true rfl⟩) dd_S_inverse_15 (fun v1 M1 H locs hp hM hS => ?_)
  obtain ⟨ev1, eM1⟩ := hp
  subst ev1
  rw [eM1] at hM
  refine W.eq (g2 := F0 m 18 ls [.long (lN (x0 ^ (p0 - 2) % p0))]) rfl ?_
  refine lv_l2i (v := nI (x0 ^ (p0 - 2) % p0)) hx hb dd_S_inverse_18 (lN_i _) ?_
  exact mr_ret hQ (mr_iret C0 hM hS (rfl) (⟨rfl, rfl⟩) dd_S_inverse_19)

set_option maxHeartbeats 4000000 in
set_option maxRecDepth 100000 in
theorem c_S_passes (l : Launch) {G : mg_} {M : mw_} {n0 a0 : Nat}   (hn31 : n0 < 2147483648) (hn2 : 3 ≤ n0) (hodd : n0 % 2 = 1) (ha31 : a0 < 2147483648) : dt_ l my_S_passes cd_S_passes 7 (some .boolean) { frames := 1, cells := 0, slots := 0, locals := 26 } G [.int (nI n0), .int (nI a0)] M (some (.int (sp_ n0 a0))) (M) 0 0 := by
  refine ct_.intro2 (by decide) (Nat.le_of_ble_eq_true rfl) ?_
  intro p e s m args below meth c ls R Q hR hQ C0 hl hM hS
  have hx := C0.1
  have hb := C0.2.1
  have hl : lv_has ls 7 [(0, .int (nI n0)), (1, .int (nI a0))] := hl
  refine lv_iconst (v := nI 0) hx hb dd_S_passes_0 (by decide) ?_
  refine lv_istore_n (lv' := [(2, .int (nI 0)), (0, .int (nI n0)), (1, .int (nI a0))]) hx hb dd_S_passes_1 rfl hl (by decide) rfl (fun ls hl => ?_)
  refine lv_iload_n hx hb dd_S_passes_2 rfl (lv_at hl 1 rfl) ?_
  refine lv_iconst (v := nI 1) hx hb dd_S_passes_3 (by decide) ?_
  refine lv_isub hx hb dd_S_passes_4 ?_
  refine mr_vi (pk_sub (a := n0) (b := 1) (by omega)) ?_
  refine lv_istore_n (lv' := [(3, .int (nI (n0 - 1))), (2, .int (nI 0)), (0, .int (nI n0)), (1, .int (nI a0))]) hx hb dd_S_passes_5 rfl hl (by decide) rfl (fun ls hl => ?_)
  have loop_6 : ∀ (k : Nat) (hv : Nat) (od : Nat) (H : Heap) (locs : List Loc) (ls : Array Slot), hv + k = 31 → n0 - 1 = 2 ^ hv * od → mm_ G (M) H → va_S (fz_ G) s.heap H locs → lv_has ls 7 [(0, .int (nI n0)), (1, .int (nI a0)), (2, .int (nI hv)), (3, .int (nI od))] → W p l e R s m args below meth c H locs 0 0 Q (F0 m 6 ls []) := by
    intro k
    induction k with
    | zero =>
      intro hv od H locs ls hi hod hM hS hl
      exfalso
      have h0 : od ≠ 0 := by intro q; rw [q, Nat.mul_zero] at hod; omega
      have h1 : 2 ^ 31 * 1 ≤ 2 ^ hv * od := Nat.mul_le_mul (by rw [show hv = 31 by omega]; exact Nat.le_refl _) (by omega)
      omega
    | succ k ih =>
      intro hv od H locs ls hi hod hM hS hl
      have hpp : 0 < 2 ^ hv := Nat.pow_pos (by decide)
      have hod31 : od < 2147483648 := by
        have : od ≤ 2 ^ hv * od := Nat.le_mul_of_pos_left od hpp
        omega
      refine lv_iload_n hx hb dd_S_passes_6 rfl (lv_at hl 2 rfl) ?_
      refine lv_bipush (v := nI 31) hx hb dd_S_passes_7 (by decide) ?_
      refine lv_icmp_ge (tgt := 28) hx hb dd_S_passes_9 rfl (fun hc => absurd hc (nle_nI (a := 31) (b := hv) (by omega) (by omega) (by omega))) (fun _ => ?_)
      refine lv_iload_n hx hb dd_S_passes_12 rfl (lv_at hl 3 rfl) ?_
      refine lv_iconst (v := nI 1) hx hb dd_S_passes_13 (by decide) ?_
      refine lv_iand hx hb dd_S_passes_14 ?_
      refine mr_vi (x' := nI (od % 2)) (pk_andN (by omega) 1 (by decide)) ?_
      refine lv_if_ne (tgt := 28) hx hb dd_S_passes_15 rfl (fun h15 => ?_) (fun h15 => ?_)
      · skip
        have hoo : od % 2 = 1 := by
          have h2 : od % 2 ≠ 0 := fun q => h15 (by rw [q]; rfl)
          omega
        have hh1 : 1 ≤ hv := by
          rcases Nat.eq_zero_or_pos hv with h | h
          · rw [h, Nat.pow_zero, Nat.one_mul] at hod; omega
          · exact h
        have hrr : a0 ^ od % n0 < n0 := Nat.mod_lt _ (by omega)
        refine lv_iload_n hx hb dd_S_passes_28 rfl (lv_at hl 1 rfl) ?_
        refine lv_i2l (v := lN a0) hx hb dd_S_passes_29 (nI_l ha31) ?_
        refine lv_iload_n hx hb dd_S_passes_30 rfl (lv_at hl 3 rfl) ?_
        refine lv_iload_n hx hb dd_S_passes_31 rfl (lv_at hl 0 rfl) ?_
        refine mr_callS (As := [.long (lN a0), .int (nI od), .int (nI n0)]) (rest := []) C0 hM hS sk_S_57 (c_S_power l ha31 hod31 hn31 (by omega)) rfl rfl hl.1 (Nat.le_of_ble_eq_true rfl) rfl rfl (by subst hR; exact ⟨Nat.le_of_ble_eq_true rfl, Nat.le_of_ble_eq_true rfl⟩) (by subst hR; exact ⟨Nat.le_of_ble_eq_true rfl, Nat.le_of_ble_eq_true rfl⟩) dd_S_passes_32 (fun v1 M1 H locs hp hM hS => ?_)
        obtain ⟨ev1, eM1⟩ := hp
        subst ev1
        rw [eM1] at hM
        refine W.eq (g2 := F0 m 35 ls [.long (lN (a0 ^ od % n0))]) rfl ?_
        refine lv_lstore (lv' := [(4, .long (lN (a0 ^ od % n0))), (0, .int (nI n0)), (1, .int (nI a0)), (2, .int (nI hv)), (3, .int (nI od))]) hx hb dd_S_passes_35 hl (by decide) rfl (fun ls hl => ?_)
        refine lv_lload hx hb dd_S_passes_37 (lv_at hl 0 rfl) ?_
        refine lv_lconst (v := lN 1) hx hb dd_S_passes_39 rfl ?_
        refine mr_lif_eq (tgt := 54) hx hb dd_S_passes_40 dd_S_passes_41 rfl (fun h40 => ?_) (fun h40 => ?_)
        · skip
          have hx1 : a0 ^ od % n0 = 1 := (pk_lEQ (by omega) (by decide)).mp h40
          refine lv_iconst (v := nI 1) hx hb dd_S_passes_54 (by decide) ?_
          exact mr_ret hQ (mr_iret C0 hM hS (rfl) (⟨by first | rw [sp_y ((SP_iff hod hoo).mpr (Or.inl hx1))] | rw [sp_y ((SP_iff hod hoo).mpr (Or.inr ⟨0, hh1, by rw [Nat.pow_zero, Nat.one_mul]; exact hx2⟩))], rfl⟩) dd_S_passes_55)
        · skip
          have hx1 : a0 ^ od % n0 ≠ 1 := fun q => h40 (congrArg lN q)
          refine lv_lload hx hb dd_S_passes_44 (lv_at hl 0 rfl) ?_
          refine lv_iload_n hx hb dd_S_passes_46 rfl (lv_at hl 1 rfl) ?_
          refine lv_iconst (v := nI 1) hx hb dd_S_passes_47 (by decide) ?_
          refine lv_isub hx hb dd_S_passes_48 ?_
          refine mr_vi (pk_sub (a := n0) (b := 1) (by omega)) ?_
          refine lv_i2l (v := lN (n0 - 1)) hx hb dd_S_passes_49 (nI_l (by omega)) ?_
          refine mr_lif_ne (tgt := 56) hx hb dd_S_passes_50 dd_S_passes_51 rfl (fun h50 => ?_) (fun h50 => ?_)
          · skip
            have hx2 : a0 ^ od % n0 ≠ n0 - 1 := fun q => h50 (congrArg lN q)
            refine lv_iconst (v := nI 1) hx hb dd_S_passes_56 (by decide) ?_
            refine lv_istore (lv' := [(6, .int (nI 1)), (4, .long (lN (a0 ^ od % n0))), (0, .int (nI n0)), (1, .int (nI a0)), (2, .int (nI hv)), (3, .int (nI od))]) hx hb dd_S_passes_57 hl (by decide) rfl (fun ls hl => ?_)
            have loop_59 : ∀ (q : Nat) (i : Nat) (H : Heap) (locs : List Loc) (ls : Array Slot), i + q = hv → 1 ≤ i → (∀ j, j < i → a0 ^ (2 ^ j * od) % n0 ≠ n0 - 1) → mm_ G (M) H → va_S (fz_ G) s.heap H locs → lv_has ls 7 [(0, .int (nI n0)), (2, .int (nI hv)), (4, .long (lN (a0 ^ (2 ^ (i - 1) * od) % n0))), (6, .int (nI i))] → W p l e R s m args below meth c H locs 0 0 Q (F0 m 59 ls []) := by
              intro q
              induction q with
              | zero =>
                intro i H locs ls hi2 hi1 hno hM hS hl
                refine lv_iload hx hb dd_S_passes_59 (lv_at hl 3 rfl) ?_
                refine lv_iload_n hx hb dd_S_passes_61 rfl (lv_at hl 1 rfl) ?_
                refine lv_icmp_ge (tgt := 93) hx hb dd_S_passes_62 rfl (fun _ => ?_) (fun hc => absurd (le_nI (a := hv) (b := i) (by omega) (by omega) (by omega)) hc)
                refine lv_iconst (v := nI 0) hx hb dd_S_passes_93 (by decide) ?_
                exact mr_ret hQ (mr_iret C0 hM hS (rfl) (⟨by rw [sp_n (fun q => ((SP_iff hod hoo).mp q).elim hx1 (fun ⟨j, hj, hj2⟩ => hno j (by omega) hj2))], rfl⟩) dd_S_passes_94)
              | succ q ih2 =>
                intro i H locs ls hi2 hi1 hno hM hS hl
                have hrx : (a0 ^ (2 ^ (i - 1) * od) % n0) < n0 := Nat.mod_lt _ (by omega)
                have hmx := m31_lt (show (a0 ^ (2 ^ (i - 1) * od) % n0) < 2147483648 by omega) (show (a0 ^ (2 ^ (i - 1) * od) % n0) < 2147483648 by omega)
                refine lv_iload hx hb dd_S_passes_59 (lv_at hl 3 rfl) ?_
                refine lv_iload_n hx hb dd_S_passes_61 rfl (lv_at hl 1 rfl) ?_
                refine lv_icmp_ge (tgt := 93) hx hb dd_S_passes_62 rfl (fun hc => absurd hc (nle_nI (a := hv) (b := i) (by omega) (by omega) (by omega))) (fun _ => ?_)
                refine lv_lload hx hb dd_S_passes_65 (lv_at hl 2 rfl) ?_
                refine lv_lload hx hb dd_S_passes_67 (lv_at hl 2 rfl) ?_
                refine lv_lmul hx hb dd_S_passes_69 ?_
                refine mr_vl (x' := lN ((a0 ^ (2 ^ (i - 1) * od) % n0) * (a0 ^ (2 ^ (i - 1) * od) % n0))) (lN_mul _ _) ?_
                refine lv_iload_n hx hb dd_S_passes_70 rfl (lv_at hl 0 rfl) ?_
                refine lv_i2l (v := lN n0) hx hb dd_S_passes_71 (nI_l hn31) ?_
                refine lv_lrem hx hb dd_S_passes_72 (ln0_ (by omega) hn31) ?_
                refine mr_vl (x' := lN (a0 ^ (2 ^ i * od) % n0)) ((pk_lRem (by omega) (by omega) (by omega)).trans (congrArg lN (by rw [sq_pow, show i - 1 + 1 = i by omega]))) ?_
                refine lv_lstore (lv' := [(4, .long (lN (a0 ^ (2 ^ i * od) % n0))), (0, .int (nI n0)), (2, .int (nI hv)), (6, .int (nI i))]) hx hb dd_S_passes_73 hl (by decide) rfl (fun ls hl => ?_)
                refine lv_lload hx hb dd_S_passes_75 (lv_at hl 0 rfl) ?_
                refine lv_iload_n hx hb dd_S_passes_77 rfl (lv_at hl 1 rfl) ?_
                refine lv_iconst (v := nI 1) hx hb dd_S_passes_78 (by decide) ?_
                refine lv_isub hx hb dd_S_passes_79 ?_
                refine mr_vi (pk_sub (a := n0) (b := 1) (by omega)) ?_
                refine lv_i2l (v := lN (n0 - 1)) hx hb dd_S_passes_80 (nI_l (by omega)) ?_
                refine mr_lif_ne (tgt := 87) hx hb dd_S_passes_81 dd_S_passes_82 rfl (fun h81 => ?_) (fun h81 => ?_)
                · skip
                  have hx3 : a0 ^ (2 ^ i * od) % n0 ≠ n0 - 1 := fun q => h81 (congrArg lN q)
                  refine lv_iinc (k := 3) (v := nI (i + 1)) (lv' := [(6, .int (nI (i + 1))), (4, .long (lN (a0 ^ (2 ^ i * od) % n0))), (0, .int (nI n0)), (2, .int (nI hv))]) hx hb dd_S_passes_87 hl rfl (inc_ i) (by decide) rfl (fun ls hl => ?_)
                  refine lv_goto (tgt := 59) hx hb dd_S_passes_90 rfl ?_
                  exact ih2 (i + 1) _ _ _ (by omega) (by omega) (fun j hj => by rcases (show j < i ∨ j = i by omega) with h | h; exact hno j h; rw [h]; exact hx3) hM hS (by rw [show i + 1 - 1 = i by omega]; exact lv_sub hl [2, 3, 1, 0] rfl)
                · skip
                  have hx3 : a0 ^ (2 ^ i * od) % n0 = n0 - 1 := (pk_lEQ (Nat.lt_trans (Nat.mod_lt _ (by omega)) (by omega)) (by omega)).mp h81
                  refine lv_iconst (v := nI 1) hx hb dd_S_passes_85 (by decide) ?_
                  exact mr_ret hQ (mr_iret C0 hM hS (rfl) (⟨by rw [sp_y ((SP_iff hod hoo).mpr (Or.inr ⟨i, by omega, hx3⟩))], rfl⟩) dd_S_passes_86)
            exact loop_59 (hv - 1) 1 _ _ _ (by omega) (Nat.le_refl _) (fun j hj => by rw [show j = 0 by omega, Nat.pow_zero, Nat.one_mul]; exact hx2) hM hS (by rw [show a0 ^ (2 ^ (1 - 1) * od) % n0 = a0 ^ od % n0 by rw [Nat.sub_self, Nat.pow_zero, Nat.one_mul]]; exact lv_sub hl [2, 4, 1, 0] rfl)
          · skip
            have hx2 : a0 ^ od % n0 = n0 - 1 := (pk_lEQ (by omega) (by omega)).mp h50
            refine lv_iconst (v := nI 1) hx hb dd_S_passes_54 (by decide) ?_
            exact mr_ret hQ (mr_iret C0 hM hS (rfl) (⟨by first | rw [sp_y ((SP_iff hod hoo).mpr (Or.inl hx1))] | rw [sp_y ((SP_iff hod hoo).mpr (Or.inr ⟨0, hh1, by rw [Nat.pow_zero, Nat.one_mul]; exact hx2⟩))], rfl⟩) dd_S_passes_55)
      · skip
        have hee : od % 2 = 0 := (nI_eq (by omega) (by decide)).mp h15
        refine lv_iload_n hx hb dd_S_passes_18 rfl (lv_at hl 3 rfl) ?_
        refine lv_iconst (v := nI 1) hx hb dd_S_passes_19 (by decide) ?_
        refine lv_iushr (v := nI (od / 2)) hx hb dd_S_passes_20 (nI_ush (k := 1) hod31 (by decide)) ?_
        refine lv_istore_n (lv' := [(3, .int (nI (od / 2))), (0, .int (nI n0)), (1, .int (nI a0)), (2, .int (nI hv))]) hx hb dd_S_passes_21 rfl hl (by decide) rfl (fun ls hl => ?_)
        refine lv_iinc (k := 3) (v := nI (hv + 1)) (lv' := [(2, .int (nI (hv + 1))), (3, .int (nI (od / 2))), (0, .int (nI n0)), (1, .int (nI a0))]) hx hb dd_S_passes_22 hl rfl (inc_ hv) (by decide) rfl (fun ls hl => ?_)
        refine lv_goto (tgt := 6) hx hb dd_S_passes_25 rfl ?_
        exact ih (hv + 1) (od / 2) _ _ _ (by omega) (by rw [hod, Nat.pow_succ, Nat.mul_assoc]; congr 1; omega) hM hS (lv_sub hl [2, 3, 0, 1] rfl)
  exact loop_6 31 0 (n0 - 1) _ _ _ (rfl) (by rw [Nat.pow_zero, Nat.one_mul]) hM hS (lv_sub hl [2, 3, 1, 0] rfl)

set_option maxHeartbeats 4000000 in
set_option maxRecDepth 100000 in
theorem c_S_isPrime (l : Launch) {G : mg_} {M : mw_} {n0 : Nat}   (hn31 : n0 < 2147483648) (hn2 : 62 ≤ n0) (hodd : n0 % 2 = 1) : dt_ l my_S_isPrime cd_S_isPrime 1 (some .boolean) { frames := 2, cells := 0, slots := 0, locals := 52 } G [.int (nI n0)] M (some (.int (ip_ n0))) (M) 0 0 := by
  refine ct_.intro2 (by decide) (Nat.le_of_ble_eq_true rfl) ?_
  intro p e s m args below meth c ls R Q hR hQ C0 hl hM hS
  have hx := C0.1
  have hb := C0.2.1
  have hl : lv_has ls 1 [(0, .int (nI n0))] := hl
  refine lv_iload_n hx hb dd_S_isPrime_0 rfl (lv_at hl 0 rfl) ?_
  refine lv_bipush (v := nI 61) hx hb dd_S_isPrime_1 (by decide) ?_
  refine lv_icmp_le (tgt := 36) hx hb dd_S_isPrime_3 rfl (fun hc => absurd hc (nle_nI (a := n0) (b := 61) (by omega) (by omega) (by omega))) (fun _ => ?_)
  refine lv_iload_n hx hb dd_S_isPrime_6 rfl (lv_at hl 0 rfl) ?_
  refine lv_iconst (v := nI 2) hx hb dd_S_isPrime_7 (by decide) ?_
  refine mr_callS (As := [.int (nI n0), .int (nI 2)]) (rest := []) C0 hM hS sk_S_53 (c_S_passes l (a0 := 2) hn31 (by omega) hodd (by decide)) rfl rfl hl.1 (Nat.le_of_ble_eq_true rfl) rfl rfl (by subst hR; exact ⟨Nat.le_of_ble_eq_true rfl, Nat.le_of_ble_eq_true rfl⟩) (by subst hR; exact ⟨Nat.le_of_ble_eq_true rfl, Nat.le_of_ble_eq_true rfl⟩) dd_S_isPrime_8 (fun v1 M1 H locs hp hM hS => ?_)
  obtain ⟨ev1, eM1⟩ := hp
  subst ev1
  rw [eM1] at hM
  refine W.eq (g2 := F0 m 11 ls [.int (sp_ n0 2)]) rfl ?_
  refine lv_if_eq (tgt := 36) hx hb dd_S_isPrime_11 rfl (fun h11 => ?_) (fun h11 => ?_)
  · skip
    have hq2 : ¬ SP_ n0 2 := fun q => absurd ((sp_y q).symm.trans h11) (by decide)
    refine lv_iconst (v := nI 0) hx hb dd_S_isPrime_36 (by decide) ?_
    exact mr_ret hQ (mr_iret C0 hM hS (rfl) (⟨by first | rw [ip_y ⟨hq2, hq7, hq61⟩] | rw [ip_n (fun q => hq2 q.1)] | rw [ip_n (fun q => hq7 q.2.1)] | rw [ip_n (fun q => hq61 q.2.2)], rfl⟩) dd_S_isPrime_37)
  · skip
    have hq2 : SP_ n0 2 := Classical.byContradiction (fun q => h11 (sp_n q))
    refine lv_iload_n hx hb dd_S_isPrime_14 rfl (lv_at hl 0 rfl) ?_
    refine lv_bipush (v := nI 7) hx hb dd_S_isPrime_15 (by decide) ?_
    refine mr_callS (As := [.int (nI n0), .int (nI 7)]) (rest := []) C0 hM hS sk_S_53 (c_S_passes l (a0 := 7) hn31 (by omega) hodd (by decide)) rfl rfl hl.1 (Nat.le_of_ble_eq_true rfl) rfl rfl (by subst hR; exact ⟨Nat.le_of_ble_eq_true rfl, Nat.le_of_ble_eq_true rfl⟩) (by subst hR; exact ⟨Nat.le_of_ble_eq_true rfl, Nat.le_of_ble_eq_true rfl⟩) dd_S_isPrime_17 (fun v1 M1 H locs hp hM hS => ?_)
    obtain ⟨ev1, eM1⟩ := hp
    subst ev1
    rw [eM1] at hM
    refine W.eq (g2 := F0 m 20 ls [.int (sp_ n0 7)]) rfl ?_
    refine lv_if_eq (tgt := 36) hx hb dd_S_isPrime_20 rfl (fun h20 => ?_) (fun h20 => ?_)
    · skip
      have hq7 : ¬ SP_ n0 7 := fun q => absurd ((sp_y q).symm.trans h20) (by decide)
      refine lv_iconst (v := nI 0) hx hb dd_S_isPrime_36 (by decide) ?_
      exact mr_ret hQ (mr_iret C0 hM hS (rfl) (⟨by first | rw [ip_y ⟨hq2, hq7, hq61⟩] | rw [ip_n (fun q => hq2 q.1)] | rw [ip_n (fun q => hq7 q.2.1)] | rw [ip_n (fun q => hq61 q.2.2)], rfl⟩) dd_S_isPrime_37)
    · skip
      have hq7 : SP_ n0 7 := Classical.byContradiction (fun q => h20 (sp_n q))
      refine lv_iload_n hx hb dd_S_isPrime_23 rfl (lv_at hl 0 rfl) ?_
      refine lv_bipush (v := nI 61) hx hb dd_S_isPrime_24 (by decide) ?_
      refine mr_callS (As := [.int (nI n0), .int (nI 61)]) (rest := []) C0 hM hS sk_S_53 (c_S_passes l (a0 := 61) hn31 (by omega) hodd (by decide)) rfl rfl hl.1 (Nat.le_of_ble_eq_true rfl) rfl rfl (by subst hR; exact ⟨Nat.le_of_ble_eq_true rfl, Nat.le_of_ble_eq_true rfl⟩) (by subst hR; exact ⟨Nat.le_of_ble_eq_true rfl, Nat.le_of_ble_eq_true rfl⟩) dd_S_isPrime_26 (fun v1 M1 H locs hp hM hS => ?_)
      obtain ⟨ev1, eM1⟩ := hp
      subst ev1
      rw [eM1] at hM
      refine W.eq (g2 := F0 m 29 ls [.int (sp_ n0 61)]) rfl ?_
      refine lv_if_eq (tgt := 36) hx hb dd_S_isPrime_29 rfl (fun h29 => ?_) (fun h29 => ?_)
      · skip
        have hq61 : ¬ SP_ n0 61 := fun q => absurd ((sp_y q).symm.trans h29) (by decide)
        refine lv_iconst (v := nI 0) hx hb dd_S_isPrime_36 (by decide) ?_
        exact mr_ret hQ (mr_iret C0 hM hS (rfl) (⟨by first | rw [ip_y ⟨hq2, hq7, hq61⟩] | rw [ip_n (fun q => hq2 q.1)] | rw [ip_n (fun q => hq7 q.2.1)] | rw [ip_n (fun q => hq61 q.2.2)], rfl⟩) dd_S_isPrime_37)
      · skip
        have hq61 : SP_ n0 61 := Classical.byContradiction (fun q => h29 (sp_n q))
        refine lv_iconst (v := nI 1) hx hb dd_S_isPrime_32 (by decide) ?_
        refine lv_goto (tgt := 37) hx hb dd_S_isPrime_33 rfl ?_
        exact mr_ret hQ (mr_iret C0 hM hS (rfl) (⟨by first | rw [ip_y ⟨hq2, hq7, hq61⟩] | rw [ip_n (fun q => hq2 q.1)] | rw [ip_n (fun q => hq7 q.2.1)] | rw [ip_n (fun q => hq61 q.2.2)], rfl⟩) dd_S_isPrime_37)

set_option maxHeartbeats 4000000 in
set_option maxRecDepth 100000 in
theorem c_S_primeOf (l : Launch) {G : mg_} {M : mw_} {o wA : Nat} {w0 : Nat → Int32} {sx : Int64} (h_o : M o = some (ob_ 4 [.ref wA])) (h_wA : M wA = some (ia_ G 64 w0))   : ct_ l my_S_primeOf cd_S_primeOf 5 (some .int) { frames := 3, cells := 0, slots := 0, locals := 83 } G [.ref o, .long sx] M (fun v0 M' => v0 = (some (.int (prime_ sx))) ∧ ∃ (w : Nat → Int32), M' = mu_ M wA (ia_ G 64 w)) 0 0 := by
  refine ct_.intro2 (by decide) (Nat.le_of_ble_eq_true rfl) ?_
  intro p e s m args below meth c ls R Q hR hQ C0 hl hM hS
  have hx := C0.1
  have hb := C0.2.1
  have hl : lv_has ls 5 [(0, .ref o), (1, .long sx)] := hl
  refine lv_lload_n hx hb dd_S_primeOf_0 rfl (lv_at hl 1 rfl) ?_
  refine lv_lconst (v := lN 0) hx hb dd_S_primeOf_1 rfl ?_
  refine mr_lif_lt (tgt := 14) hx hb dd_S_primeOf_2 dd_S_primeOf_3 rfl (fun h2 => ?_) (fun h2 => ?_)
  · skip
    refine lv_bipush (v := (-2 : Int32)) hx hb dd_S_primeOf_14 (by decide) ?_
    exact mr_ret hQ (mr_iret C0 hM hS (rfl) (⟨by rw [prime_b (by first | exact Or.inl h2 | exact Or.inr (Int64.not_lt.mp h10))], w0, (mu_id h_wA).symm⟩) dd_S_primeOf_16)
  · skip
    refine lv_lload_n hx hb dd_S_primeOf_6 rfl (lv_at hl 1 rfl) ?_
    refine mr_ldc2 (v := lN 1099511627776) C0 tw_245 dd_S_primeOf_7 ?_
    refine mr_lif_lt (tgt := 17) hx hb dd_S_primeOf_10 dd_S_primeOf_11 rfl (fun h10 => ?_) (fun h10 => ?_)
    · skip
      have hpr : pf_ sx 256 0 = prime_ sx := (prime_g (fun q => q.elim h2 (fun z => absurd h10 (Int64.not_lt.mpr z)))).symm
      refine lv_iconst (v := nI 0) hx hb dd_S_primeOf_17 (by decide) ?_
      refine lv_istore_n (lv' := [(3, .int (nI 0)), (0, .ref o), (1, .long sx)]) hx hb dd_S_primeOf_18 rfl hl (by decide) rfl (fun ls hl => ?_)
      have loop_19 : ∀ (k : Nat) (ct : Nat) (w : Nat → Int32) (H : Heap) (locs : List Loc) (ls : Array Slot), ct + k = 256 → pf_ sx k ct = prime_ sx → mm_ G (mu_ M wA (ia_ G 64 w)) H → va_S (fz_ G) s.heap H locs → lv_has ls 5 [(0, .ref o), (1, .long sx), (3, .int (nI ct))] → W p l e R s m args below meth c H locs 0 0 Q (F0 m 19 ls []) := by
        intro k
        induction k with
        | zero =>
          intro ct w H locs ls hi hF hM hS hl
          refine lv_iload_n hx hb dd_S_primeOf_19 rfl (lv_at hl 2 rfl) ?_
          refine lv_sipush (v := nI 256) hx hb dd_S_primeOf_20 (by decide) ?_
          refine lv_icmp_ge (tgt := 57) hx hb dd_S_primeOf_23 rfl (fun _ => ?_) (fun hc => absurd (le_nI (a := 256) (b := ct) (by omega) (by omega) (by omega)) hc)
          refine lv_bipush (v := (-2 : Int32)) hx hb dd_S_primeOf_57 (by decide) ?_
          exact mr_ret hQ (mr_iret C0 hM hS (rfl) (⟨by rw [← hF]; rfl, _, rfl⟩) dd_S_primeOf_59)
        | succ k ih =>
          intro ct w H locs ls hi hF hM hS hl
          have hxi := xn_in (hash_ sx (nI ct))
          refine lv_iload_n hx hb dd_S_primeOf_19 rfl (lv_at hl 2 rfl) ?_
          refine lv_sipush (v := nI 256) hx hb dd_S_primeOf_20 (by decide) ?_
          refine lv_icmp_ge (tgt := 57) hx hb dd_S_primeOf_23 rfl (fun hc => absurd hc (nle_nI (a := 256) (b := ct) (by omega) (by omega) (by omega))) (fun _ => ?_)
          refine lv_aload_n hx hb dd_S_primeOf_26 rfl (lv_at hl 0 rfl) ?_
          refine lv_lload_n hx hb dd_S_primeOf_27 rfl (lv_at hl 1 rfl) ?_
          refine lv_iload_n hx hb dd_S_primeOf_28 rfl (lv_at hl 2 rfl) ?_
          refine mr_callV (As := [.long sx, .int (nI ct)]) (rest := []) C0 hM hS vk_S_17 (mu_n' (ne_k h_o h_wA (fun q => by cases q)) h_o) rfl (c_S_hash l (mu_n' (ne_k h_o h_wA (fun q => by cases q)) h_o) mu_s  ) rfl rfl hl.1 (Nat.le_of_ble_eq_true rfl) rfl rfl (by subst hR; exact ⟨Nat.le_of_ble_eq_true rfl, Nat.le_of_ble_eq_true rfl⟩) (by subst hR; exact ⟨Nat.le_of_ble_eq_true rfl, Nat.le_of_ble_eq_true rfl⟩) dd_S_primeOf_29 (fun v1 M1 H locs hp hM hS => ?_)
          obtain ⟨ev1, eM1⟩ := hp
          subst ev1
          rw [eM1] at hM
          have hM := mr_M mu_mu hM
          have hM : mm_ G (mu_ M wA (ia_ G 64 (wf_ (sb0_ (fun _ => nI 0) ((lus_ sx (nI 32)).toInt32) (sx.toInt32) (nI ct)) 48))) H := hM
          refine W.eq (g2 := F0 m 32 ls [.int (hash_ sx (nI ct))]) rfl ?_
          refine mr_ldc (v := (2147483647 : Int32)) C0 tw_271 dd_S_primeOf_32 ?_
          refine lv_iand hx hb dd_S_primeOf_34 ?_
          refine mr_ldc (v := (1073741825 : Int32)) C0 tw_272 dd_S_primeOf_35 ?_
          refine lv_ior hx hb dd_S_primeOf_37 ?_
          refine mr_vi (x' := nI (xn_ (hash_ sx (nI ct)))) (xn_i _) ?_
          refine lv_istore (lv' := [(4, .int (nI (xn_ (hash_ sx (nI ct))))), (0, .ref o), (1, .long sx), (3, .int (nI ct))]) hx hb dd_S_primeOf_38 hl (by decide) rfl (fun ls hl => ?_)
          refine lv_iload hx hb dd_S_primeOf_40 (lv_at hl 0 rfl) ?_
          refine mr_callS (As := [.int (nI (xn_ (hash_ sx (nI ct))))]) (rest := []) C0 hM hS sk_S_23 (c_S_isPrime l (n0 := (xn_ (hash_ sx (nI ct)))) hxi.2.1 (by omega) hxi.2.2) rfl rfl hl.1 (Nat.le_of_ble_eq_true rfl) rfl rfl (by subst hR; exact ⟨Nat.le_of_ble_eq_true rfl, Nat.le_of_ble_eq_true rfl⟩) (by subst hR; exact ⟨Nat.le_of_ble_eq_true rfl, Nat.le_of_ble_eq_true rfl⟩) dd_S_primeOf_42 (fun v1 M1 H locs hp hM hS => ?_)
          obtain ⟨ev1, eM1⟩ := hp
          subst ev1
          rw [eM1] at hM
          refine W.eq (g2 := F0 m 45 ls [.int (ip_ (xn_ (hash_ sx (nI ct))))]) rfl ?_
          refine lv_if_eq (tgt := 51) hx hb dd_S_primeOf_45 rfl (fun h45 => ?_) (fun h45 => ?_)
          · skip
            have hnp : ¬ PP_ (xn_ (hash_ sx (nI ct))) := fun q => absurd ((ip_y q).symm.trans h45) (by decide)
            refine lv_iinc (k := 3) (v := nI (ct + 1)) (lv' := [(3, .int (nI (ct + 1))), (4, .int (nI (xn_ (hash_ sx (nI ct))))), (0, .ref o), (1, .long sx)]) hx hb dd_S_primeOf_51 hl rfl (inc_ ct) (by decide) rfl (fun ls hl => ?_)
            refine lv_goto (tgt := 19) hx hb dd_S_primeOf_54 rfl ?_
            exact ih (ct + 1) _ _ _ _ (by omega) ((pf_n hnp).symm.trans hF) hM hS (lv_sub hl [2, 3, 0] rfl)
          · skip
            have hpp : PP_ (xn_ (hash_ sx (nI ct))) := Classical.byContradiction (fun q => h45 (ip_n q))
            refine lv_iload hx hb dd_S_primeOf_48 (lv_at hl 0 rfl) ?_
            exact mr_ret hQ (mr_iret C0 hM hS (rfl) (⟨by rw [← hF, pf_y hpp], _, rfl⟩) dd_S_primeOf_50)
      have hM := mr_M (mu_id h_wA).symm hM
      exact loop_19 256 0 _ _ _ _ (rfl) (hpr) hM hS (lv_sub hl [1, 2, 0] rfl)
    · skip
      refine lv_bipush (v := (-2 : Int32)) hx hb dd_S_primeOf_14 (by decide) ?_
      exact mr_ret hQ (mr_iret C0 hM hS (rfl) (⟨by rw [prime_b (by first | exact Or.inl h2 | exact Or.inr (Int64.not_lt.mp h10))], w0, (mu_id h_wA).symm⟩) dd_S_primeOf_16)
