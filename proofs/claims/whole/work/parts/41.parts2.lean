
/-- the register's memory for a state -/
def PX_ (G : mg_) (ap : Nat → Nat) (hs N Vt : Nat) (Pd : rl_) (Ls : Nat → rl_) (nw Hd fc : Nat) (n1 Ex : Nat) (w g0 : Nat → Int32) (f t0 d0 b0 q0 s0 o0 td mn mo mq : Nat → Int64) (ef eu ei : Nat → Nat → Int64) (eg : Nat → Nat → Int32) (M : mw_) : Prop := M (ap 0) = some (ob_ 5 [.ref (ap 1), .ref (ap 3), .ref (ap 14), .ref (ap 17), .ref (ap 18), .ref (ap 19), .ref (ap 20), .ref (ap 21), .int (nI hs), .int (nI nw), .int (nI fc)]) ∧ M (ap 1) = some (ob_ 4 [.ref (ap 2)]) ∧ M (ap 2) = some (ia_ G 64 w) ∧ M (ap 3) = some (ob_ 2 [.ref (ap 4), .ref (ap 5), .ref (ap 6), .ref (ap 7), .ref (ap 8), .ref (ap 9), .ref (ap 10), .ref (ap 11), .ref (ap 12), .ref (ap 13), .long (lN n1)]) ∧ M (ap 4) = some (la_ G 4 (nl_ 3)) ∧ M (ap 5) = some (la_ G 4 td) ∧ M (ap 6) = some (la_ G 4 (nl_ 1)) ∧ M (ap 7) = some (la_ G 4 mn) ∧ M (ap 8) = some (la_ G 4 mo) ∧ M (ap 9) = some (la_ G 4 mq) ∧ M (ap 10) = some (la_ G 6 t0) ∧ M (ap 11) = some (la_ G 4 d0) ∧ M (ap 12) = some (la_ G 4 b0) ∧ M (ap 13) = some (la_ G 4 q0) ∧ M (ap 14) = some (ob_ 3 [.ref (ap 15), .ref (ap 16), .int (nI (List.length Pd))]) ∧ M (ap 15) = some (la_ G 10 f) ∧ M (ap 16) = some (ia_ G 10 g0) ∧ M (ap 17) = some (qa_ G 17 (fun e => some (ap (23 + 6 * e)))) ∧ M (ap 18) = some (la_ G 4 (nl_ Hd)) ∧ M (ap 19) = some (la_ G 4 s0) ∧ M (ap 20) = some (la_ G 4 o0) ∧ M (ap 21) = some (ob_ 1 [.ref (ap 22)]) ∧ M (ap 22) = some (la_ G 11 (nl_ Ex)) ∧ (∀ e, e < 17 → M (ap (23 + 6 * e)) = some (ob_ 0 [.ref (ap (24 + 6 * e)), .ref (ap (27 + 6 * e)), .ref (ap (28 + 6 * e))])) ∧ (∀ e, e < 17 → M (ap (24 + 6 * e)) = some (ob_ 3 [.ref (ap (25 + 6 * e)), .ref (ap (26 + 6 * e)), .int (nI (List.length (Ls e)))])) ∧ (∀ e, e < 17 → M (ap (25 + 6 * e)) = some (la_ G 10 (ef e))) ∧ (∀ e, e < 17 → M (ap (26 + 6 * e)) = some (ia_ G 10 (eg e))) ∧ (∀ e, e < 17 → M (ap (27 + 6 * e)) = some (la_ G 4 (eu e))) ∧ (∀ e, e < 17 → M (ap (28 + 6 * e)) = some (la_ G 4 (ei e))) ∧ ro_ f g0 Pd ∧ (∀ e, e < 17 → ro_ (ef e) (eg e) (Ls e)) ∧ (hs = 1 → td = nl_ Vt ∧ mn = nl_ N ∧ mo = nl_ (4294967296 ^ 4 % N) ∧ mq = nl_ (4294967296 ^ 8 % N) ∧ n1 < 4294967296 ∧ (n1 * N + 1) % 4294967296 = 0) ∧ (hs = 1 → ∀ e, e ≤ nw → eu e = nl_ (ac_ N (Ls e)) ∧ ei e = nl_ (Vt ^ pd_ (Ls e) % N))
def PW_ (G : mg_) (ap : Nat → Nat) (hs N Vt : Nat) (Pd : rl_) (Ls : Nat → rl_) (nw Hd fc : Nat) (M : mw_) : Prop := ∃ (n1 Ex : Nat) (w g0 : Nat → Int32) (f t0 d0 b0 q0 s0 o0 td mn mo mq : Nat → Int64) (ef eu ei : Nat → Nat → Int64) (eg : Nat → Nat → Int32), PX_ G ap hs N Vt Pd Ls nw Hd fc n1 Ex w g0 f t0 d0 b0 q0 s0 o0 td mn mo mq ef eu ei eg M
def fr_ (ap : Nat → Nat) (M M' : mw_) : Prop := ∀ a, (∀ i, a ≠ ap i) → M' a = M a
/-- what holds of every state of the register that a run reaches -/
def SI_ (hs N Vt : Nat) (Pd : rl_) (Ls : Nat → rl_) (nw Hd fc : Nat) : Prop := okS_ Pd Ls nw ∧ hs ≤ 1 ∧ (hs = 1 → N < 340282366920938463463374607431768211456 ∧ 1267650600228229401496703205376 ≤ N) ∧ (hs = 1 → Vt = th_ N ∧ th_ N < N) ∧ (hs = 1 → Hd < N) ∧ fc < 2147483648 ∧ (hs = 0 → nw = 0 ∧ Ls 0 = [] ∧ Hd = 0)
theorem tab_out {x : Int32} {n : Nat} (hn : n < 1000) (h : ∀ j, j ≤ n → x ≠ nI j) : x.toInt < (0 : Int) ∨ ((n : Nat) : Int) < x.toInt := by
  apply Classical.byContradiction
  intro q
  have h1 : 0 ≤ x.toInt := by omega
  have h2 : x.toInt ≤ n := by omega
  refine h x.toInt.toNat (by omega) ?_
  apply Int32.toInt_inj.mp
  show _ = (Int32.ofNat _).toInt
  rw [Int32.toInt_ofNat_of_lt (by omega)]
  omega
theorem bi_ex {n1 N : Nat} (h : (n1 * N + 1) % 4294967296 = 0) : ∃ Bi, 4294967296 ^ 4 * Bi % N = 1 % N := by
  obtain ⟨t, ht⟩ := Nat.dvd_of_mod_eq_zero h
  refine ⟨t ^ 4, ?_⟩
  rw [← Nat.mul_pow, ← ht, Nat.pow_mod, show (n1 * N + 1) % N = 1 % N by rw [Nat.mul_comm, Nat.mul_add_mod], ← Nat.pow_mod, Nat.one_pow]
theorem pf_in (s : Int64) : ∀ k c, pf_ s k c = (-2) ∨ ∃ x, 1073741825 ≤ x ∧ x < 2147483648 ∧ x % 2 = 1 ∧ pf_ s k c = nI x
  | 0, _ => Or.inl rfl
  | k + 1, c => by
    by_cases h : PP_ (xn_ (hash_ s (nI c)))
    · have hx := xn_in (hash_ s (nI c))
      exact Or.inr ⟨_, hx.1, hx.2.1, hx.2.2, pf_y h⟩
    · rw [pf_n h]
      exact pf_in s k (c + 1)
theorem prime_in (s : Int64) : prime_ s = (-2) ∨ ∃ x, 1073741825 ≤ x ∧ x < 2147483648 ∧ prime_ s = nI x := by
  by_cases hs : s < 0 ∨ (1099511627776 : Int64) ≤ s
  · exact Or.inl (prime_b hs)
  · rw [prime_g hs]
    rcases pf_in s 256 0 with h | ⟨x, h1, h2, -, h3⟩
    · exact Or.inl h
    · exact Or.inr ⟨x, h1, h2, h3⟩
theorem m2_ne {x : Nat} (h : x < 2147483648) : ¬ nI x = (-2) := fun q => absurd (q ▸ z_le h : (0 : Int32) ≤ (-2)) (by decide)
theorem prR_neg {hs : Nat} {s : Int64} (hh : hs ≤ 1) (h : ¬ 0 ≤ prR_ hs s) : hs = 0 ∨ (hs = 1 ∧ prime_ s = (-2)) := by
  by_cases h0 : hs = 0
  · exact Or.inl h0
  · refine Or.inr ⟨by omega, ?_⟩
    unfold prR_ at h
    rw [if_neg h0] at h
    rcases prime_in s with q | ⟨x, -, h2, h3⟩
    · exact q
    · rw [h3] at h
      exact absurd (z_le h2) h
theorem prR_1 {hs : Nat} {s : Int64} (h : hs = 1) : prR_ hs s = prime_ s := by unfold prR_; rw [if_neg (by omega)]
theorem prR_pos {hs : Nat} {s : Int64} (hh : hs ≤ 1) (h : 0 ≤ prR_ hs s) : hs = 1 ∧ ∃ x, 1073741825 ≤ x ∧ x < 2147483648 ∧ prime_ s = nI x := by
  by_cases h0 : hs = 0
  · unfold prR_ at h; rw [if_pos h0] at h; exact absurd h (by decide)
  · have h1 : hs = 1 := by omega
    rw [prR_1 h1] at h
    refine ⟨h1, ?_⟩
    rcases prime_in s with q | q
    · rw [q] at h; exact absurd h (by decide)
    · exact q
theorem pqR_1 {hs nw : Nat} {s : Int64} {e : Int32} (h : hs = 1) (he : ep_ e nw) : pqR_ hs nw s e = prime_ s := by unfold pqR_; rw [if_neg (by omega), if_pos he]
theorem pqR_2 {hs nw : Nat} {s : Int64} {e : Int32} (h : hs = 1) (he : prime_ s = (-2) ∨ ¬ ep_ e nw) : pqR_ hs nw s e = (-2) := by
  unfold pqR_
  rw [if_neg (by omega)]
  by_cases h1 : ep_ e nw
  · rw [if_pos h1]; exact he.resolve_right (fun q => q h1)
  · rw [if_neg h1]
theorem pqR_0 {hs nw : Nat} {s : Int64} {e : Int32} (h : hs = 0) : pqR_ hs nw s e = (-1) := by unfold pqR_; rw [if_pos h]
theorem pqR_neg {hs nw : Nat} {s : Int64} {e : Int32} (hh : hs ≤ 1) (h : ¬ 0 ≤ pqR_ hs nw s e) : hs = 0 ∨ (hs = 1 ∧ (prime_ s = (-2) ∨ ¬ ep_ e nw)) := by
  by_cases h0 : hs = 0
  · exact Or.inl h0
  · refine Or.inr ⟨by omega, ?_⟩
    by_cases h1 : ep_ e nw
    · rw [pqR_1 (by omega) h1] at h
      rcases prime_in s with q | ⟨x, -, h2, h3⟩
      · exact Or.inl q
      · rw [h3] at h
        exact absurd (z_le h2) h
    · exact Or.inr h1
theorem pqR_pos {hs nw : Nat} {s : Int64} {e : Int32} (hh : hs ≤ 1) (h : 0 ≤ pqR_ hs nw s e) : hs = 1 ∧ ep_ e nw ∧ ∃ x, 1073741825 ≤ x ∧ x < 2147483648 ∧ prime_ s = nI x := by
  by_cases h0 : hs = 0
  · rw [pqR_0 h0] at h; exact absurd h (by decide)
  · have h1 : hs = 1 := by omega
    by_cases he : ep_ e nw
    · rw [pqR_1 h1 he] at h
      refine ⟨h1, he, ?_⟩
      rcases prime_in s with q | q
      · rw [q] at h; exact absurd h (by decide)
      · exact q
    · rw [pqR_2 h1 (Or.inr he)] at h; exact absurd h (by decide)
theorem rw_hd (X : Nat) (b : Int32) : rw_ X b = hdR_ X b := rfl

set_option maxHeartbeats 4000000 in
set_option maxRecDepth 100000 in
theorem c_P_prime (l : Launch) {G : mg_} {M : mw_} {ap : Nat → Nat} {hs N Vt nw Hd fc n1 Ex : Nat} {Pd : rl_} {Ls : Nat → rl_} {w g0 : Nat → Int32} {f t0 d0 b0 q0 s0 o0 td mn mo mq : Nat → Int64} {ef eu ei : Nat → Nat → Int64} {eg : Nat → Nat → Int32} {sx : Int64}   (hne : ∀ {i j : Nat}, i ≠ j → ap i ≠ ap j) (hsi : SI_ hs N Vt Pd Ls nw Hd fc) (hP : PX_ G ap hs N Vt Pd Ls nw Hd fc n1 Ex w g0 f t0 d0 b0 q0 s0 o0 td mn mo mq ef eu ei eg M)  : ct_ l my_P_prime cd_P_prime 3 (some .int) { frames := 4, cells := 0, slots := 0, locals := 107 } G [.ref (ap 0), .long sx] M (fun v0 M' => v0 = (some (.int (prime_ sx))) ∧ PW_ G ap hs N Vt Pd Ls nw Hd fc M' ∧ fr_ ap M M') 0 0 := by
  refine ct_.intro2 (by decide) (Nat.le_of_ble_eq_true rfl) ?_
  intro p e s m args below meth c ls R Q hR hQ C0 hl hM hS
  have hx := C0.1
  have hb := C0.2.1
  have hl : lv_has ls 3 [(0, .ref (ap 0)), (1, .long sx)] := hl
  obtain ⟨h_po, h_so, h_wA, h_r, h_th, h_td, h_un, h_mn, h_mo, h_mq, h_tt, h_dd, h_bb, h_rr, h_to, h_tS, h_tP, h_ep, h_hd, h_sc, h_os, h_no, h_nA, hE0, hE1, hE2, hE3, hE4, hE5, hroP, hroE, hri, hun⟩ := hP
  obtain ⟨⟨hPn, hLn, hnw, hPp, hLp, hPd, hLd⟩, hhs, hNb, hVb, hHb, hfc, h00⟩ := hsi
  have hnw17 : nw < 17 := by omega
  refine lv_aload_n hx hb dd_P_prime_0 rfl (lv_at hl 0 rfl) ?_
  refine mr_get C0 hM fk_P_10 h_po (v := .ref (ap 1)) rfl dd_P_prime_1 ?_
  refine lv_lload_n hx hb dd_P_prime_4 rfl (lv_at hl 1 rfl) ?_
  refine mr_callV (As := [.long sx]) (rest := []) C0 hM hS vk_P_70 h_so rfl (c_S_primeOf l h_so h_wA  ) rfl rfl hl.1 (Nat.le_of_ble_eq_true rfl) rfl rfl (by subst hR; exact ⟨Nat.le_of_ble_eq_true rfl, Nat.le_of_ble_eq_true rfl⟩) (by subst hR; exact ⟨Nat.le_of_ble_eq_true rfl, Nat.le_of_ble_eq_true rfl⟩) dd_P_prime_5 (fun v1 M1 H locs hp hM hS => ?_)
  obtain ⟨ev1, w1, eM1⟩ := hp
  subst ev1
  rw [eM1] at hM
  have hM : mm_ G (mu_ M (ap 2) (ia_ G 64 w1)) H := hM
  refine W.eq (g2 := F0 m 8 ls [.int (prime_ sx)]) rfl ?_
  exact mr_ret hQ (mr_iret C0 hM hS (rfl) (⟨by rfl, ⟨_, _, _, _, _, _, _, _, _, _, _, _, _, _, _, _, _, _, _, (mu_n' (hne (i := 0) (j := 2) (by omega)) h_po), (mu_n' (hne (i := 1) (j := 2) (by omega)) h_so), mu_s, (mu_n' (hne (i := 3) (j := 2) (by omega)) h_r), (mu_n' (hne (i := 4) (j := 2) (by omega)) h_th), (mu_n' (hne (i := 5) (j := 2) (by omega)) h_td), (mu_n' (hne (i := 6) (j := 2) (by omega)) h_un), (mu_n' (hne (i := 7) (j := 2) (by omega)) h_mn), (mu_n' (hne (i := 8) (j := 2) (by omega)) h_mo), (mu_n' (hne (i := 9) (j := 2) (by omega)) h_mq), (mu_n' (hne (i := 10) (j := 2) (by omega)) h_tt), (mu_n' (hne (i := 11) (j := 2) (by omega)) h_dd), (mu_n' (hne (i := 12) (j := 2) (by omega)) h_bb), (mu_n' (hne (i := 13) (j := 2) (by omega)) h_rr), (mu_n' (hne (i := 14) (j := 2) (by omega)) h_to), (mu_n' (hne (i := 15) (j := 2) (by omega)) h_tS), (mu_n' (hne (i := 16) (j := 2) (by omega)) h_tP), (mu_n' (hne (i := 17) (j := 2) (by omega)) h_ep), (mu_n' (hne (i := 18) (j := 2) (by omega)) h_hd), (mu_n' (hne (i := 19) (j := 2) (by omega)) h_sc), (mu_n' (hne (i := 20) (j := 2) (by omega)) h_os), (mu_n' (hne (i := 21) (j := 2) (by omega)) h_no), (mu_n' (hne (i := 22) (j := 2) (by omega)) h_nA), (fun e he => (mu_n' (hne (i := (23 + 6 * e)) (j := 2) (by omega)) (hE0 e (by omega)))), (fun e he => (mu_n' (hne (i := (24 + 6 * e)) (j := 2) (by omega)) (hE1 e (by omega)))), (fun e he => (mu_n' (hne (i := (25 + 6 * e)) (j := 2) (by omega)) (hE2 e (by omega)))), (fun e he => (mu_n' (hne (i := (26 + 6 * e)) (j := 2) (by omega)) (hE3 e (by omega)))), (fun e he => (mu_n' (hne (i := (27 + 6 * e)) (j := 2) (by omega)) (hE4 e (by omega)))), (fun e he => (mu_n' (hne (i := (28 + 6 * e)) (j := 2) (by omega)) (hE5 e (by omega)))), hroP, hroE, hri, hun⟩, (fun a ha => (mu_n' (ha _) rfl))⟩) dd_P_prime_8)

set_option maxHeartbeats 4000000 in
set_option maxRecDepth 100000 in
theorem c_P_hand (l : Launch) {G : mg_} {M : mw_} {ap : Nat → Nat} {hs N Vt nw Hd fc n1 Ex : Nat} {Pd : rl_} {Ls : Nat → rl_} {w g0 : Nat → Int32} {f t0 d0 b0 q0 s0 o0 td mn mo mq : Nat → Int64} {ef eu ei : Nat → Nat → Int64} {eg : Nat → Nat → Int32} {bz : Int32}   (hne : ∀ {i j : Nat}, i ≠ j → ap i ≠ ap j) (hsi : SI_ hs N Vt Pd Ls nw Hd fc) (hP : PX_ G ap hs N Vt Pd Ls nw Hd fc n1 Ex w g0 f t0 d0 b0 q0 s0 o0 td mn mo mq ef eu ei eg M)  : ct_ l my_P_hand cd_P_hand 2 (some .long) { frames := 1, cells := 0, slots := 0, locals := 21 } G [.ref (ap 0), .int bz] M (fun v0 M' => v0 = (some (.long (hdR_ Hd bz))) ∧ PW_ G ap hs N Vt Pd Ls nw Hd fc M' ∧ fr_ ap M M') 0 0 := by
  refine ct_.intro2 (by decide) (Nat.le_of_ble_eq_true rfl) ?_
  intro p e s m args below meth c ls R Q hR hQ C0 hl hM hS
  have hx := C0.1
  have hb := C0.2.1
  have hl : lv_has ls 2 [(0, .ref (ap 0)), (1, .int bz)] := hl
  obtain ⟨h_po, h_so, h_wA, h_r, h_th, h_td, h_un, h_mn, h_mo, h_mq, h_tt, h_dd, h_bb, h_rr, h_to, h_tS, h_tP, h_ep, h_hd, h_sc, h_os, h_no, h_nA, hE0, hE1, hE2, hE3, hE4, hE5, hroP, hroE, hri, hun⟩ := hP
  obtain ⟨⟨hPn, hLn, hnw, hPp, hLp, hPd, hLd⟩, hhs, hNb, hVb, hHb, hfc, h00⟩ := hsi
  have hnw17 : nw < 17 := by omega
  refine lv_aload_n hx hb dd_P_hand_0 rfl (lv_at hl 0 rfl) ?_
  refine mr_get C0 hM fk_P_54 h_po (v := .int (nI hs)) rfl dd_P_hand_1 ?_
  refine lv_if_eq (tgt := 18) hx hb dd_P_hand_4 rfl (fun h4 => ?_) (fun h4 => ?_)
  · skip
    have hh0 : hs = 0 := (nI_eq (by omega) (by decide)).mp h4
    refine lv_lconst (v := lN 0) hx hb dd_P_hand_18 rfl ?_
    exact mr_ret hQ (mr_lret C0 hM hS (⟨by rw [(h00 hh0).2.2]; simp [hdR_, hi_0, lo_0], ⟨_, _, _, _, _, _, _, _, _, _, _, _, _, _, _, _, _, _, _, h_po, h_so, h_wA, h_r, h_th, h_td, h_un, h_mn, h_mo, h_mq, h_tt, h_dd, h_bb, h_rr, h_to, h_tS, h_tP, h_ep, h_hd, h_sc, h_os, h_no, h_nA, (fun e he => (hE0 e (by omega))), (fun e he => (hE1 e (by omega))), (fun e he => (hE2 e (by omega))), (fun e he => (hE3 e (by omega))), (fun e he => (hE4 e (by omega))), (fun e he => (hE5 e (by omega))), hroP, hroE, hri, hun⟩, (fun a ha => rfl)⟩) dd_P_hand_19)
  · skip
    have hh1 : hs = 1 := by
      have h2 : hs ≠ 0 := fun q => h4 (by rw [q]; rfl)
      omega
    obtain ⟨rfl, rfl, rfl, rfl, hn1, hinv⟩ := hri hh1
    obtain ⟨Bi, hBi⟩ := bi_ex hinv
    have hN : N < 4294967296 ^ 4 := Nat.lt_of_lt_of_eq (hNb hh1).1 (by decide)
    have hNl := (hNb hh1).2
    have hN1 : 1 < N := by omega
    have hV3 : 3 < N := by omega
    have hN0 : 0 < N := by omega
    have hHd := hHb hh1
    have hVt : Vt < N := by rw [(hVb hh1).1]; exact (hVb hh1).2
    have hue := hun hh1
    refine lv_aload_n hx hb dd_P_hand_7 rfl (lv_at hl 0 rfl) ?_
    refine mr_get C0 hM fk_P_37 h_po (v := .ref (ap 18)) rfl dd_P_hand_8 ?_
    refine lv_iload_n hx hb dd_P_hand_11 rfl (lv_at hl 1 rfl) ?_
    refine mr_callS (As := [.ref (ap 18), .int bz]) (rest := []) C0 hM hS sk_P_116 (c_R_word l h_hd (Nat.lt_trans hHd hN)) rfl rfl hl.1 (Nat.le_of_ble_eq_true rfl) rfl rfl (by subst hR; exact ⟨Nat.le_of_ble_eq_true rfl, Nat.le_of_ble_eq_true rfl⟩) (by subst hR; exact ⟨Nat.le_of_ble_eq_true rfl, Nat.le_of_ble_eq_true rfl⟩) dd_P_hand_12 (fun v1 M1 H locs hp hM hS => ?_)
    obtain ⟨ev1, eM1⟩ := hp
    subst ev1
    rw [eM1] at hM
    refine W.eq (g2 := F0 m 15 ls [.long (rw_ Hd bz)]) rfl ?_
    refine lv_goto (tgt := 19) hx hb dd_P_hand_15 rfl ?_
    exact mr_ret hQ (mr_lret C0 hM hS (⟨by rw [rw_hd], ⟨_, _, _, _, _, _, _, _, _, _, _, _, _, _, _, _, _, _, _, h_po, h_so, h_wA, h_r, h_th, h_td, h_un, h_mn, h_mo, h_mq, h_tt, h_dd, h_bb, h_rr, h_to, h_tS, h_tP, h_ep, h_hd, h_sc, h_os, h_no, h_nA, (fun e he => (hE0 e (by omega))), (fun e he => (hE1 e (by omega))), (fun e he => (hE2 e (by omega))), (fun e he => (hE3 e (by omega))), (fun e he => (hE4 e (by omega))), (fun e he => (hE5 e (by omega))), hroP, hroE, hri, hun⟩, (fun a ha => rfl)⟩) dd_P_hand_19)

set_option maxHeartbeats 4000000 in
set_option maxRecDepth 100000 in
theorem c_P_factor (l : Launch) {G : mg_} {M : mw_} {ap : Nat → Nat} {hs N Vt nw Hd fc n1 Ex : Nat} {Pd : rl_} {Ls : Nat → rl_} {w g0 : Nat → Int32} {f t0 d0 b0 q0 s0 o0 td mn mo mq : Nat → Int64} {ef eu ei : Nat → Nat → Int64} {eg : Nat → Nat → Int32}    (hne : ∀ {i j : Nat}, i ≠ j → ap i ≠ ap j) (hsi : SI_ hs N Vt Pd Ls nw Hd fc) (hP : PX_ G ap hs N Vt Pd Ls nw Hd fc n1 Ex w g0 f t0 d0 b0 q0 s0 o0 td mn mo mq ef eu ei eg M)  : ct_ l my_P_factor cd_P_factor 1 (some .int) { frames := 0, cells := 0, slots := 0, locals := 0 } G [.ref (ap 0)] M (fun v0 M' => v0 = (some (.int (fcR_ hs fc))) ∧ PW_ G ap hs N Vt Pd Ls nw Hd fc M' ∧ fr_ ap M M') 0 0 := by
  refine ct_.intro2 (by decide) (Nat.le_of_ble_eq_true rfl) ?_
  intro p e s m args below meth c ls R Q hR hQ C0 hl hM hS
  have hx := C0.1
  have hb := C0.2.1
  have hl : lv_has ls 1 [(0, .ref (ap 0))] := hl
  obtain ⟨h_po, h_so, h_wA, h_r, h_th, h_td, h_un, h_mn, h_mo, h_mq, h_tt, h_dd, h_bb, h_rr, h_to, h_tS, h_tP, h_ep, h_hd, h_sc, h_os, h_no, h_nA, hE0, hE1, hE2, hE3, hE4, hE5, hroP, hroE, hri, hun⟩ := hP
  obtain ⟨⟨hPn, hLn, hnw, hPp, hLp, hPd, hLd⟩, hhs, hNb, hVb, hHb, hfc, h00⟩ := hsi
  have hnw17 : nw < 17 := by omega
  refine lv_aload_n hx hb dd_P_factor_0 rfl (lv_at hl 0 rfl) ?_
  refine mr_get C0 hM fk_P_54 h_po (v := .int (nI hs)) rfl dd_P_factor_1 ?_
  refine lv_if_eq (tgt := 14) hx hb dd_P_factor_4 rfl (fun h4 => ?_) (fun h4 => ?_)
  · skip
    have hh0 : hs = 0 := (nI_eq (by omega) (by decide)).mp h4
    refine lv_iconst (v := (-1 : Int32)) hx hb dd_P_factor_14 (by decide) ?_
    exact mr_ret hQ (mr_iret C0 hM hS (rfl) (⟨by first | simp [fcR_, hh0] | simp [fcR_, hh1], ⟨_, _, _, _, _, _, _, _, _, _, _, _, _, _, _, _, _, _, _, h_po, h_so, h_wA, h_r, h_th, h_td, h_un, h_mn, h_mo, h_mq, h_tt, h_dd, h_bb, h_rr, h_to, h_tS, h_tP, h_ep, h_hd, h_sc, h_os, h_no, h_nA, (fun e he => (hE0 e (by omega))), (fun e he => (hE1 e (by omega))), (fun e he => (hE2 e (by omega))), (fun e he => (hE3 e (by omega))), (fun e he => (hE4 e (by omega))), (fun e he => (hE5 e (by omega))), hroP, hroE, hri, hun⟩, (fun a ha => rfl)⟩) dd_P_factor_15)
  · skip
    have hh1 : hs = 1 := by
      have h2 : hs ≠ 0 := fun q => h4 (by rw [q]; rfl)
      omega
    obtain ⟨rfl, rfl, rfl, rfl, hn1, hinv⟩ := hri hh1
    obtain ⟨Bi, hBi⟩ := bi_ex hinv
    have hN : N < 4294967296 ^ 4 := Nat.lt_of_lt_of_eq (hNb hh1).1 (by decide)
    have hNl := (hNb hh1).2
    have hN1 : 1 < N := by omega
    have hV3 : 3 < N := by omega
    have hN0 : 0 < N := by omega
    have hHd := hHb hh1
    have hVt : Vt < N := by rw [(hVb hh1).1]; exact (hVb hh1).2
    have hue := hun hh1
    refine lv_aload_n hx hb dd_P_factor_7 rfl (lv_at hl 0 rfl) ?_
    refine mr_get C0 hM fk_P_132 h_po (v := .int (nI fc)) rfl dd_P_factor_8 ?_
    refine lv_goto (tgt := 15) hx hb dd_P_factor_11 rfl ?_
    exact mr_ret hQ (mr_iret C0 hM hS (rfl) (⟨by first | simp [fcR_, hh0] | simp [fcR_, hh1], ⟨_, _, _, _, _, _, _, _, _, _, _, _, _, _, _, _, _, _, _, h_po, h_so, h_wA, h_r, h_th, h_td, h_un, h_mn, h_mo, h_mq, h_tt, h_dd, h_bb, h_rr, h_to, h_tS, h_tP, h_ep, h_hd, h_sc, h_os, h_no, h_nA, (fun e he => (hE0 e (by omega))), (fun e he => (hE1 e (by omega))), (fun e he => (hE2 e (by omega))), (fun e he => (hE3 e (by omega))), (fun e he => (hE4 e (by omega))), (fun e he => (hE5 e (by omega))), hroP, hroE, hri, hun⟩, (fun a ha => rfl)⟩) dd_P_factor_15)

set_option maxHeartbeats 4000000 in
set_option maxRecDepth 100000 in
theorem c_P_accumulator (l : Launch) {G : mg_} {M : mw_} {ap : Nat → Nat} {hs N Vt nw Hd fc n1 Ex : Nat} {Pd : rl_} {Ls : Nat → rl_} {w g0 : Nat → Int32} {f t0 d0 b0 q0 s0 o0 td mn mo mq : Nat → Int64} {ef eu ei : Nat → Nat → Int64} {eg : Nat → Nat → Int32} {ev bz : Int32}   (hne : ∀ {i j : Nat}, i ≠ j → ap i ≠ ap j) (hsi : SI_ hs N Vt Pd Ls nw Hd fc) (hP : PX_ G ap hs N Vt Pd Ls nw Hd fc n1 Ex w g0 f t0 d0 b0 q0 s0 o0 td mn mo mq ef eu ei eg M)  : ct_ l my_P_accumulator cd_P_accumulator 3 (some .long) { frames := 1, cells := 0, slots := 0, locals := 21 } G [.ref (ap 0), .int ev, .int bz] M (fun v0 M' => v0 = (some (.long (acR_ hs N Ls nw ev bz))) ∧ PW_ G ap hs N Vt Pd Ls nw Hd fc M' ∧ fr_ ap M M') 0 0 := by
  refine ct_.intro2 (by decide) (Nat.le_of_ble_eq_true rfl) ?_
  intro p e s m args below meth c ls R Q hR hQ C0 hl hM hS
  have hx := C0.1
  have hb := C0.2.1
  have hl : lv_has ls 3 [(0, .ref (ap 0)), (1, .int ev), (2, .int bz)] := hl
  obtain ⟨h_po, h_so, h_wA, h_r, h_th, h_td, h_un, h_mn, h_mo, h_mq, h_tt, h_dd, h_bb, h_rr, h_to, h_tS, h_tP, h_ep, h_hd, h_sc, h_os, h_no, h_nA, hE0, hE1, hE2, hE3, hE4, hE5, hroP, hroE, hri, hun⟩ := hP
  obtain ⟨⟨hPn, hLn, hnw, hPp, hLp, hPd, hLd⟩, hhs, hNb, hVb, hHb, hfc, h00⟩ := hsi
  have hnw17 : nw < 17 := by omega
  refine lv_aload_n hx hb dd_P_accumulator_0 rfl (lv_at hl 0 rfl) ?_
  refine mr_get C0 hM fk_P_54 h_po (v := .int (nI hs)) rfl dd_P_accumulator_1 ?_
  refine lv_if_eq (tgt := 15) hx hb dd_P_accumulator_4 rfl (fun h4 => ?_) (fun h4 => ?_)
  · skip
    have hh0 : hs = 0 := (nI_eq (by omega) (by decide)).mp h4
    refine lv_lconst (v := lN 0) hx hb dd_P_accumulator_15 rfl ?_
    exact mr_ret hQ (mr_lret C0 hM hS (⟨by first | rw [acR_n (fun q => by omega)] | rw [acR_n (fun q => hep q.2)], ⟨_, _, _, _, _, _, _, _, _, _, _, _, _, _, _, _, _, _, _, h_po, h_so, h_wA, h_r, h_th, h_td, h_un, h_mn, h_mo, h_mq, h_tt, h_dd, h_bb, h_rr, h_to, h_tS, h_tP, h_ep, h_hd, h_sc, h_os, h_no, h_nA, (fun e he => (hE0 e (by omega))), (fun e he => (hE1 e (by omega))), (fun e he => (hE2 e (by omega))), (fun e he => (hE3 e (by omega))), (fun e he => (hE4 e (by omega))), (fun e he => (hE5 e (by omega))), hroP, hroE, hri, hun⟩, (fun a ha => rfl)⟩) dd_P_accumulator_16)
  · skip
    have hh1 : hs = 1 := by
      have h2 : hs ≠ 0 := fun q => h4 (by rw [q]; rfl)
      omega
    obtain ⟨rfl, rfl, rfl, rfl, hn1, hinv⟩ := hri hh1
    obtain ⟨Bi, hBi⟩ := bi_ex hinv
    have hN : N < 4294967296 ^ 4 := Nat.lt_of_lt_of_eq (hNb hh1).1 (by decide)
    have hNl := (hNb hh1).2
    have hN1 : 1 < N := by omega
    have hV3 : 3 < N := by omega
    have hN0 : 0 < N := by omega
    have hHd := hHb hh1
    have hVt : Vt < N := by rw [(hVb hh1).1]; exact (hVb hh1).2
    have hue := hun hh1
    refine lv_aload_n hx hb dd_P_accumulator_7 rfl (lv_at hl 0 rfl) ?_
    refine lv_iload_n hx hb dd_P_accumulator_8 rfl (lv_at hl 1 rfl) ?_
    refine mr_callV (As := [.int ev]) (rest := []) C0 hM hS vk_P_110 h_po rfl (c_P_isEpoch l h_po hne  hnw) rfl rfl hl.1 (Nat.le_of_ble_eq_true rfl) rfl rfl (by subst hR; exact ⟨Nat.le_of_ble_eq_true rfl, Nat.le_of_ble_eq_true rfl⟩) (by subst hR; exact ⟨Nat.le_of_ble_eq_true rfl, Nat.le_of_ble_eq_true rfl⟩) dd_P_accumulator_9 (fun v1 M1 H locs hp hM hS => ?_)
    obtain ⟨ev1, eM1⟩ := hp
    subst ev1
    rw [eM1] at hM
    refine W.eq (g2 := F0 m 12 ls [.int (ie_ ev nw)]) rfl ?_
    refine lv_if_ne (tgt := 17) hx hb dd_P_accumulator_12 rfl (fun h12 => ?_) (fun h12 => ?_)
    · skip
      have hep : ep_ ev nw := Classical.byContradiction (fun q => h12 (ie_n q))
      obtain ⟨k0, hk0, hev⟩ := hep
      have hk17 : k0 < 17 := by omega
      refine lv_aload_n hx hb dd_P_accumulator_17 rfl (lv_at hl 0 rfl) ?_
      refine mr_get C0 hM fk_P_32 h_po (v := .ref (ap 17)) rfl dd_P_accumulator_18 ?_
      refine lv_iload_n hx hb dd_P_accumulator_21 rfl (lv_at hl 1 rfl) ?_
      refine mr_vi (x' := nI k0) (hev) ?_
      refine mr_aald C0 hM h_ep (k0) (rfl) (rfl) (by omega) (by decide) dd_P_accumulator_22 ?_
      refine mr_get C0 hM fk_P_113 (hE0 k0 (by omega)) (v := .ref (ap (27 + 6 * k0))) rfl dd_P_accumulator_23 ?_
      refine lv_iload_n hx hb dd_P_accumulator_26 rfl (lv_at hl 2 rfl) ?_
      refine mr_callS (As := [.ref (ap (27 + 6 * k0)), .int bz]) (rest := []) C0 hM hS sk_P_116 (c_R_word (X := ac_ N (Ls k0)) l (by rw [← (hue k0 hk0).1]; exact (hE4 k0 (by omega))) (Nat.lt_trans (Nat.mod_lt _ hN0) hN)) rfl rfl hl.1 (Nat.le_of_ble_eq_true rfl) rfl rfl (by subst hR; exact ⟨Nat.le_of_ble_eq_true rfl, Nat.le_of_ble_eq_true rfl⟩) (by subst hR; exact ⟨Nat.le_of_ble_eq_true rfl, Nat.le_of_ble_eq_true rfl⟩) dd_P_accumulator_27 (fun v1 M1 H locs hp hM hS => ?_)
      obtain ⟨ev1, eM1⟩ := hp
      subst ev1
      rw [eM1] at hM
      refine W.eq (g2 := F0 m 30 ls [.long (rw_ (ac_ N (Ls k0)) bz)]) rfl ?_
      exact mr_ret hQ (mr_lret C0 hM hS (⟨by rw [hev, acR_y hh1 hk0 hnw]; rfl, ⟨_, _, _, _, _, _, _, _, _, _, _, _, _, _, _, _, _, _, _, h_po, h_so, h_wA, h_r, h_th, h_td, h_un, h_mn, h_mo, h_mq, h_tt, h_dd, h_bb, h_rr, h_to, h_tS, h_tP, h_ep, h_hd, h_sc, h_os, h_no, h_nA, (fun e he => (hE0 e (by omega))), (fun e he => (hE1 e (by omega))), (fun e he => (hE2 e (by omega))), (fun e he => (hE3 e (by omega))), (fun e he => (hE4 e (by omega))), (fun e he => (hE5 e (by omega))), hroP, hroE, hri, hun⟩, (fun a ha => rfl)⟩) dd_P_accumulator_30)
    · skip
      have hep : ¬ ep_ ev nw := fun q => absurd ((ie_y q).symm.trans h12) (by decide)
      refine lv_lconst (v := lN 0) hx hb dd_P_accumulator_15 rfl ?_
      exact mr_ret hQ (mr_lret C0 hM hS (⟨by first | rw [acR_n (fun q => by omega)] | rw [acR_n (fun q => hep q.2)], ⟨_, _, _, _, _, _, _, _, _, _, _, _, _, _, _, _, _, _, _, h_po, h_so, h_wA, h_r, h_th, h_td, h_un, h_mn, h_mo, h_mq, h_tt, h_dd, h_bb, h_rr, h_to, h_tS, h_tP, h_ep, h_hd, h_sc, h_os, h_no, h_nA, (fun e he => (hE0 e (by omega))), (fun e he => (hE1 e (by omega))), (fun e he => (hE2 e (by omega))), (fun e he => (hE3 e (by omega))), (fun e he => (hE4 e (by omega))), (fun e he => (hE5 e (by omega))), hroP, hroE, hri, hun⟩, (fun a ha => rfl)⟩) dd_P_accumulator_16)

set_option maxHeartbeats 4000000 in
set_option maxRecDepth 100000 in
theorem c_P_size (l : Launch) {G : mg_} {M : mw_} {ap : Nat → Nat} {hs N Vt nw Hd fc n1 Ex : Nat} {Pd : rl_} {Ls : Nat → rl_} {w g0 : Nat → Int32} {f t0 d0 b0 q0 s0 o0 td mn mo mq : Nat → Int64} {ef eu ei : Nat → Nat → Int64} {eg : Nat → Nat → Int32} {k0 : Int32}   (hne : ∀ {i j : Nat}, i ≠ j → ap i ≠ ap j) (hsi : SI_ hs N Vt Pd Ls nw Hd fc) (hP : PX_ G ap hs N Vt Pd Ls nw Hd fc n1 Ex w g0 f t0 d0 b0 q0 s0 o0 td mn mo mq ef eu ei eg M)  : ct_ l my_P_size cd_P_size 2 (some .int) { frames := 0, cells := 0, slots := 0, locals := 0 } G [.ref (ap 0), .int k0] M (fun v0 M' => v0 = (some (.int (szR_ hs Pd Ls nw k0))) ∧ PW_ G ap hs N Vt Pd Ls nw Hd fc M' ∧ fr_ ap M M') 0 0 := by
  refine ct_.intro2 (by decide) (Nat.le_of_ble_eq_true rfl) ?_
  intro p e s m args below meth c ls R Q hR hQ C0 hl hM hS
  have hx := C0.1
  have hb := C0.2.1
  have hl : lv_has ls 2 [(0, .ref (ap 0)), (1, .int k0)] := hl
  obtain ⟨h_po, h_so, h_wA, h_r, h_th, h_td, h_un, h_mn, h_mo, h_mq, h_tt, h_dd, h_bb, h_rr, h_to, h_tS, h_tP, h_ep, h_hd, h_sc, h_os, h_no, h_nA, hE0, hE1, hE2, hE3, hE4, hE5, hroP, hroE, hri, hun⟩ := hP
  obtain ⟨⟨hPn, hLn, hnw, hPp, hLp, hPd, hLd⟩, hhs, hNb, hVb, hHb, hfc, h00⟩ := hsi
  have hnw17 : nw < 17 := by omega
  refine lv_aload_n hx hb dd_P_size_0 rfl (lv_at hl 0 rfl) ?_
  refine mr_get C0 hM fk_P_54 h_po (v := .int (nI hs)) rfl dd_P_size_1 ?_
  refine lv_if_ne (tgt := 9) hx hb dd_P_size_4 rfl (fun h4 => ?_) (fun h4 => ?_)
  · skip
    have hh1 : hs = 1 := by
      have h2 : hs ≠ 0 := fun q => h4 (by rw [q]; rfl)
      omega
    obtain ⟨rfl, rfl, rfl, rfl, hn1, hinv⟩ := hri hh1
    obtain ⟨Bi, hBi⟩ := bi_ex hinv
    have hN : N < 4294967296 ^ 4 := Nat.lt_of_lt_of_eq (hNb hh1).1 (by decide)
    have hNl := (hNb hh1).2
    have hN1 : 1 < N := by omega
    have hV3 : 3 < N := by omega
    have hN0 : 0 < N := by omega
    have hHd := hHb hh1
    have hVt : Vt < N := by rw [(hVb hh1).1]; exact (hVb hh1).2
    have hue := hun hh1
    refine lv_iload_n hx hb dd_P_size_9 rfl (lv_at hl 1 rfl) ?_
    by_cases q10_0 : k0 = nI 0
    · refine lv_tableIn (tgt := 36) (off := 26) hx hb dd_P_size_10 (by rw [q10_0]; decide) (by rw [q10_0]; decide) (by rw [q10_0]; rfl) rfl ?_
      refine lv_aload_n hx hb dd_P_size_36 rfl (lv_at hl 0 rfl) ?_
      refine mr_get C0 hM fk_P_32 h_po (v := .ref (ap 17)) rfl dd_P_size_37 ?_
      refine lv_aload_n hx hb dd_P_size_40 rfl (lv_at hl 0 rfl) ?_
      refine mr_get C0 hM fk_P_100 h_po (v := .int (nI nw)) rfl dd_P_size_41 ?_
      refine mr_aald C0 hM h_ep (nw) (rfl) (rfl) (by omega) (by decide) dd_P_size_44 ?_
      refine mr_get C0 hM fk_P_103 (hE0 nw (by omega)) (v := .ref (ap (24 + 6 * nw))) rfl dd_P_size_45 ?_
      refine mr_get C0 hM fk_P_85 (hE1 nw (by omega)) (v := .int (nI (List.length (Ls nw)))) rfl dd_P_size_48 ?_
      exact mr_ret hQ (mr_iret C0 hM hS (rfl) (⟨by unfold szR_; rw [if_neg (show ¬ hs = 0 by omega), if_pos (show k0 = 0 from q10_0)], ⟨_, _, _, _, _, _, _, _, _, _, _, _, _, _, _, _, _, _, _, h_po, h_so, h_wA, h_r, h_th, h_td, h_un, h_mn, h_mo, h_mq, h_tt, h_dd, h_bb, h_rr, h_to, h_tS, h_tP, h_ep, h_hd, h_sc, h_os, h_no, h_nA, (fun e he => (hE0 e (by omega))), (fun e he => (hE1 e (by omega))), (fun e he => (hE2 e (by omega))), (fun e he => (hE3 e (by omega))), (fun e he => (hE4 e (by omega))), (fun e he => (hE5 e (by omega))), hroP, hroE, hri, hun⟩, (fun a ha => rfl)⟩) dd_P_size_51)
    by_cases q10_1 : k0 = nI 1
    · refine lv_tableIn (tgt := 52) (off := 42) hx hb dd_P_size_10 (by rw [q10_1]; decide) (by rw [q10_1]; decide) (by rw [q10_1]; rfl) rfl ?_
      refine lv_aload_n hx hb dd_P_size_52 rfl (lv_at hl 0 rfl) ?_
      refine mr_get C0 hM fk_P_26 h_po (v := .ref (ap 14)) rfl dd_P_size_53 ?_
      refine mr_get C0 hM fk_P_85 h_to (v := .int (nI (List.length Pd))) rfl dd_P_size_56 ?_
      exact mr_ret hQ (mr_iret C0 hM hS (rfl) (⟨by unfold szR_; rw [if_neg (show ¬ hs = 0 by omega), if_neg (show ¬ k0 = 0 from q10_0), if_pos q10_1], ⟨_, _, _, _, _, _, _, _, _, _, _, _, _, _, _, _, _, _, _, h_po, h_so, h_wA, h_r, h_th, h_td, h_un, h_mn, h_mo, h_mq, h_tt, h_dd, h_bb, h_rr, h_to, h_tS, h_tP, h_ep, h_hd, h_sc, h_os, h_no, h_nA, (fun e he => (hE0 e (by omega))), (fun e he => (hE1 e (by omega))), (fun e he => (hE2 e (by omega))), (fun e he => (hE3 e (by omega))), (fun e he => (hE4 e (by omega))), (fun e he => (hE5 e (by omega))), hroP, hroE, hri, hun⟩, (fun a ha => rfl)⟩) dd_P_size_59)
    by_cases q10_2 : k0 = nI 2
    · refine lv_tableIn (tgt := 60) (off := 50) hx hb dd_P_size_10 (by rw [q10_2]; decide) (by rw [q10_2]; decide) (by rw [q10_2]; rfl) rfl ?_
      refine lv_aload_n hx hb dd_P_size_60 rfl (lv_at hl 0 rfl) ?_
      refine mr_get C0 hM fk_P_100 h_po (v := .int (nI nw)) rfl dd_P_size_61 ?_
      exact mr_ret hQ (mr_iret C0 hM hS (rfl) (⟨by unfold szR_; rw [if_neg (show ¬ hs = 0 by omega), if_neg (show ¬ k0 = 0 from q10_0), if_neg q10_1, if_pos q10_2], ⟨_, _, _, _, _, _, _, _, _, _, _, _, _, _, _, _, _, _, _, h_po, h_so, h_wA, h_r, h_th, h_td, h_un, h_mn, h_mo, h_mq, h_tt, h_dd, h_bb, h_rr, h_to, h_tS, h_tP, h_ep, h_hd, h_sc, h_os, h_no, h_nA, (fun e he => (hE0 e (by omega))), (fun e he => (hE1 e (by omega))), (fun e he => (hE2 e (by omega))), (fun e he => (hE3 e (by omega))), (fun e he => (hE4 e (by omega))), (fun e he => (hE5 e (by omega))), hroP, hroE, hri, hun⟩, (fun a ha => rfl)⟩) dd_P_size_64)
    refine lv_tableOut (tgt := 65) hx hb dd_P_size_10 (tab_out (n := 2) (by decide) (fun j hj => by match j, hj with | 0, _ => exact q10_0 | 1, _ => exact q10_1 | 2, _ => exact q10_2)) rfl ?_
    refine lv_bipush (v := (-2 : Int32)) hx hb dd_P_size_65 (by decide) ?_
    exact mr_ret hQ (mr_iret C0 hM hS (rfl) (⟨by unfold szR_; rw [if_neg (show ¬ hs = 0 by omega), if_neg (show ¬ k0 = 0 from q10_0), if_neg q10_1, if_neg q10_2], ⟨_, _, _, _, _, _, _, _, _, _, _, _, _, _, _, _, _, _, _, h_po, h_so, h_wA, h_r, h_th, h_td, h_un, h_mn, h_mo, h_mq, h_tt, h_dd, h_bb, h_rr, h_to, h_tS, h_tP, h_ep, h_hd, h_sc, h_os, h_no, h_nA, (fun e he => (hE0 e (by omega))), (fun e he => (hE1 e (by omega))), (fun e he => (hE2 e (by omega))), (fun e he => (hE3 e (by omega))), (fun e he => (hE4 e (by omega))), (fun e he => (hE5 e (by omega))), hroP, hroE, hri, hun⟩, (fun a ha => rfl)⟩) dd_P_size_67)
  · skip
    have hh0 : hs = 0 := (nI_eq (by omega) (by decide)).mp h4
    refine lv_iconst (v := (-1 : Int32)) hx hb dd_P_size_7 (by decide) ?_
    exact mr_ret hQ (mr_iret C0 hM hS (rfl) (⟨by simp [szR_, hh0], ⟨_, _, _, _, _, _, _, _, _, _, _, _, _, _, _, _, _, _, _, h_po, h_so, h_wA, h_r, h_th, h_td, h_un, h_mn, h_mo, h_mq, h_tt, h_dd, h_bb, h_rr, h_to, h_tS, h_tP, h_ep, h_hd, h_sc, h_os, h_no, h_nA, (fun e he => (hE0 e (by omega))), (fun e he => (hE1 e (by omega))), (fun e he => (hE2 e (by omega))), (fun e he => (hE3 e (by omega))), (fun e he => (hE4 e (by omega))), (fun e he => (hE5 e (by omega))), hroP, hroE, hri, hun⟩, (fun a ha => rfl)⟩) dd_P_size_8)

set_option maxHeartbeats 4000000 in
set_option maxRecDepth 100000 in
theorem c_P_state (l : Launch) {G : mg_} {M : mw_} {ap : Nat → Nat} {hs N Vt nw Hd fc n1 Ex : Nat} {Pd : rl_} {Ls : Nat → rl_} {w g0 : Nat → Int32} {f t0 d0 b0 q0 s0 o0 td mn mo mq : Nat → Int64} {ef eu ei : Nat → Nat → Int64} {eg : Nat → Nat → Int32} {sx : Int64}   (hne : ∀ {i j : Nat}, i ≠ j → ap i ≠ ap j) (hsi : SI_ hs N Vt Pd Ls nw Hd fc) (hP : PX_ G ap hs N Vt Pd Ls nw Hd fc n1 Ex w g0 f t0 d0 b0 q0 s0 o0 td mn mo mq ef eu ei eg M)  : ct_ l my_P_state cd_P_state 4 (some .int) { frames := 5, cells := 0, slots := 0, locals := 129 } G [.ref (ap 0), .long sx] M (fun v0 M' => v0 = (some (.int (stR_ hs (prime_ sx) Pd Ls nw sx))) ∧ PW_ G ap hs N Vt Pd Ls nw Hd fc M' ∧ fr_ ap M M') 0 0 := by
  refine ct_.intro2 (by decide) (Nat.le_of_ble_eq_true rfl) ?_
  intro p e s m args below meth c ls R Q hR hQ C0 hl hM hS
  have hx := C0.1
  have hb := C0.2.1
  have hl : lv_has ls 4 [(0, .ref (ap 0)), (1, .long sx)] := hl
  obtain ⟨h_po, h_so, h_wA, h_r, h_th, h_td, h_un, h_mn, h_mo, h_mq, h_tt, h_dd, h_bb, h_rr, h_to, h_tS, h_tP, h_ep, h_hd, h_sc, h_os, h_no, h_nA, hE0, hE1, hE2, hE3, hE4, hE5, hroP, hroE, hri, hun⟩ := hP
  obtain ⟨⟨hPn, hLn, hnw, hPp, hLp, hPd, hLd⟩, hhs, hNb, hVb, hHb, hfc, h00⟩ := hsi
  have hnw17 : nw < 17 := by omega
  refine lv_aload_n hx hb dd_P_state_0 rfl (lv_at hl 0 rfl) ?_
  refine lv_lload_n hx hb dd_P_state_1 rfl (lv_at hl 1 rfl) ?_
  refine mr_callV (As := [.long sx]) (rest := []) C0 hM hS vk_P_74 h_po rfl (c_P_primeOrRefusal_J l h_po h_so h_wA hne  hhs) rfl rfl hl.1 (Nat.le_of_ble_eq_true rfl) rfl rfl (by subst hR; exact ⟨Nat.le_of_ble_eq_true rfl, Nat.le_of_ble_eq_true rfl⟩) (by subst hR; exact ⟨Nat.le_of_ble_eq_true rfl, Nat.le_of_ble_eq_true rfl⟩) dd_P_state_2 (fun v1 M1 H locs hp hM hS => ?_)
  obtain ⟨ev1, w1, eM1⟩ := hp
  subst ev1
  rw [eM1] at hM
  have hM : mm_ G (mu_ M (ap 2) (ia_ G 64 w1)) H := hM
  refine W.eq (g2 := F0 m 5 ls [.int (prR_ hs sx)]) rfl ?_
  refine lv_istore_n (lv' := [(3, .int (prR_ hs sx)), (0, .ref (ap 0)), (1, .long sx)]) hx hb dd_P_state_5 rfl hl (by decide) rfl (fun ls hl => ?_)
  refine lv_iload_n hx hb dd_P_state_6 rfl (lv_at hl 0 rfl) ?_
  refine lv_if_ge (tgt := 12) hx hb dd_P_state_7 rfl (fun h7 => ?_) (fun h7 => ?_)
  · skip
    obtain ⟨hh1, x0, hxl, hxu, hpx⟩ := prR_pos hhs h7
    have hpr := prR_1 (s := sx) hh1
    have hprx := hpr.trans hpx
    have hpm : ¬ prime_ sx = (-2) := by rw [hpx]; exact m2_ne hxu
    have hpn : pn_ (prime_ sx) = x0 := by rw [hpx]; exact pn_i hxu
    obtain ⟨rfl, rfl, rfl, rfl, hn1, hinv⟩ := hri hh1
    obtain ⟨Bi, hBi⟩ := bi_ex hinv
    have hN : N < 4294967296 ^ 4 := Nat.lt_of_lt_of_eq (hNb hh1).1 (by decide)
    have hNl := (hNb hh1).2
    have hN1 : 1 < N := by omega
    have hV3 : 3 < N := by omega
    have hN0 : 0 < N := by omega
    have hHd := hHb hh1
    have hVt : Vt < N := by rw [(hVb hh1).1]; exact (hVb hh1).2
    have hue := hun hh1
    refine lv_aload_n hx hb dd_P_state_12 rfl (lv_at hl 1 rfl) ?_
    refine mr_get C0 hM fk_P_32 (mu_n' (hne (i := 0) (j := 2) (by omega)) h_po) (v := .ref (ap 17)) rfl dd_P_state_13 ?_
    refine lv_aload_n hx hb dd_P_state_16 rfl (lv_at hl 1 rfl) ?_
    refine mr_get C0 hM fk_P_100 (mu_n' (hne (i := 0) (j := 2) (by omega)) h_po) (v := .int (nI nw)) rfl dd_P_state_17 ?_
    refine mr_aald C0 hM (mu_n' (hne (i := 17) (j := 2) (by omega)) h_ep) (nw) (rfl) (rfl) (by omega) (by decide) dd_P_state_20 ?_
    refine mr_get C0 hM fk_P_103 (mu_n' (hne (i := (23 + 6 * nw)) (j := 2) (by omega)) (hE0 nw (by omega))) (v := .ref (ap (24 + 6 * nw))) rfl dd_P_state_21 ?_
    refine lv_lload_n hx hb dd_P_state_24 rfl (lv_at hl 2 rfl) ?_
    refine mr_callV (As := [.long sx]) (rest := []) C0 hM hS vk_P_77 (mu_n' (hne (i := (24 + 6 * nw)) (j := 2) (by omega)) (hE1 nw (by omega))) rfl (c_T_has l (mu_n' (hne (i := (24 + 6 * nw)) (j := 2) (by omega)) (hE1 nw (by omega))) (mu_n' (hne (i := (25 + 6 * nw)) (j := 2) (by omega)) (hE2 nw (by omega)))  (fun j hj => (hroE nw hnw17 j hj).1) (hLn nw)) rfl rfl hl.1 (Nat.le_of_ble_eq_true rfl) rfl rfl (by subst hR; exact ⟨Nat.le_of_ble_eq_true rfl, Nat.le_of_ble_eq_true rfl⟩) (by subst hR; exact ⟨Nat.le_of_ble_eq_true rfl, Nat.le_of_ble_eq_true rfl⟩) dd_P_state_25 (fun v1 M1 H locs hp hM hS => ?_)
    obtain ⟨ev1, eM1⟩ := hp
    subst ev1
    rw [eM1] at hM
    refine W.eq (g2 := F0 m 28 ls [.int (nI (if hs_ (Ls nw) sx then 1 else 0))]) rfl ?_
    refine lv_if_eq (tgt := 35) hx hb dd_P_state_28 rfl (fun h28 => ?_) (fun h28 => ?_)
    · skip
      have hv28 : hs_ (Ls nw) sx = false := by
        cases h : hs_ (Ls nw) sx with
        | false => rfl
        | true => rw [h] at h28; exact absurd h28 (by decide)
      refine lv_iconst (v := nI 0) hx hb dd_P_state_35 (by decide) ?_
      refine lv_aload_n hx hb dd_P_state_36 rfl (lv_at hl 1 rfl) ?_
      refine mr_get C0 hM fk_P_26 (mu_n' (hne (i := 0) (j := 2) (by omega)) h_po) (v := .ref (ap 14)) rfl dd_P_state_37 ?_
      refine lv_lload_n hx hb dd_P_state_40 rfl (lv_at hl 2 rfl) ?_
      refine mr_callV (As := [.long sx]) (rest := [.int (nI 0)]) C0 hM hS vk_P_77 (mu_n' (hne (i := 14) (j := 2) (by omega)) h_to) rfl (c_T_has l (mu_n' (hne (i := 14) (j := 2) (by omega)) h_to) (mu_n' (hne (i := 15) (j := 2) (by omega)) h_tS)  (fun j hj => (hroP j hj).1) hPn) rfl rfl hl.1 (Nat.le_of_ble_eq_true rfl) rfl rfl (by subst hR; exact ⟨Nat.le_of_ble_eq_true rfl, Nat.le_of_ble_eq_true rfl⟩) (by subst hR; exact ⟨Nat.le_of_ble_eq_true rfl, Nat.le_of_ble_eq_true rfl⟩) dd_P_state_41 (fun v1 M1 H locs hp hM hS => ?_)
      obtain ⟨ev1, eM1⟩ := hp
      subst ev1
      rw [eM1] at hM
      refine W.eq (g2 := F0 m 44 ls [.int (nI (if hs_ Pd sx then 1 else 0)), .int (nI 0)]) rfl ?_
      refine lv_if_eq (tgt := 51) hx hb dd_P_state_44 rfl (fun h44 => ?_) (fun h44 => ?_)
      · skip
        have hv44 : hs_ Pd sx = false := by
          cases h : hs_ Pd sx with
          | false => rfl
          | true => rw [h] at h44; exact absurd h44 (by decide)
        refine lv_iconst (v := nI 0) hx hb dd_P_state_51 (by decide) ?_
        refine lv_iadd hx hb dd_P_state_52 ?_
        refine mr_vi (nI_add 0 0) ?_
        exact mr_ret hQ (mr_iret C0 hM hS (rfl) (⟨by unfold stR_; rw [if_neg (show ¬ hs = 0 by omega), if_neg hpm, hv28, hv44]; rfl, ⟨_, _, _, _, _, _, _, _, _, _, _, _, _, _, _, _, _, _, _, (mu_n' (hne (i := 0) (j := 2) (by omega)) h_po), (mu_n' (hne (i := 1) (j := 2) (by omega)) h_so), mu_s, (mu_n' (hne (i := 3) (j := 2) (by omega)) h_r), (mu_n' (hne (i := 4) (j := 2) (by omega)) h_th), (mu_n' (hne (i := 5) (j := 2) (by omega)) h_td), (mu_n' (hne (i := 6) (j := 2) (by omega)) h_un), (mu_n' (hne (i := 7) (j := 2) (by omega)) h_mn), (mu_n' (hne (i := 8) (j := 2) (by omega)) h_mo), (mu_n' (hne (i := 9) (j := 2) (by omega)) h_mq), (mu_n' (hne (i := 10) (j := 2) (by omega)) h_tt), (mu_n' (hne (i := 11) (j := 2) (by omega)) h_dd), (mu_n' (hne (i := 12) (j := 2) (by omega)) h_bb), (mu_n' (hne (i := 13) (j := 2) (by omega)) h_rr), (mu_n' (hne (i := 14) (j := 2) (by omega)) h_to), (mu_n' (hne (i := 15) (j := 2) (by omega)) h_tS), (mu_n' (hne (i := 16) (j := 2) (by omega)) h_tP), (mu_n' (hne (i := 17) (j := 2) (by omega)) h_ep), (mu_n' (hne (i := 18) (j := 2) (by omega)) h_hd), (mu_n' (hne (i := 19) (j := 2) (by omega)) h_sc), (mu_n' (hne (i := 20) (j := 2) (by omega)) h_os), (mu_n' (hne (i := 21) (j := 2) (by omega)) h_no), (mu_n' (hne (i := 22) (j := 2) (by omega)) h_nA), (fun e he => (mu_n' (hne (i := (23 + 6 * e)) (j := 2) (by omega)) (hE0 e (by omega)))), (fun e he => (mu_n' (hne (i := (24 + 6 * e)) (j := 2) (by omega)) (hE1 e (by omega)))), (fun e he => (mu_n' (hne (i := (25 + 6 * e)) (j := 2) (by omega)) (hE2 e (by omega)))), (fun e he => (mu_n' (hne (i := (26 + 6 * e)) (j := 2) (by omega)) (hE3 e (by omega)))), (fun e he => (mu_n' (hne (i := (27 + 6 * e)) (j := 2) (by omega)) (hE4 e (by omega)))), (fun e he => (mu_n' (hne (i := (28 + 6 * e)) (j := 2) (by omega)) (hE5 e (by omega)))), hroP, hroE, hri, hun⟩, (fun a ha => (mu_n' (ha _) rfl))⟩) dd_P_state_53)
      · skip
        have hv44 : hs_ Pd sx = true := by
          cases h : hs_ Pd sx with
          | true => rfl
          | false => exact absurd (by rw [h]; rfl) h44
        refine lv_iconst (v := nI 2) hx hb dd_P_state_47 (by decide) ?_
        refine lv_goto (tgt := 52) hx hb dd_P_state_48 rfl ?_
        refine lv_iadd hx hb dd_P_state_52 ?_
        refine mr_vi (nI_add 0 2) ?_
        exact mr_ret hQ (mr_iret C0 hM hS (rfl) (⟨by unfold stR_; rw [if_neg (show ¬ hs = 0 by omega), if_neg hpm, hv28, hv44]; rfl, ⟨_, _, _, _, _, _, _, _, _, _, _, _, _, _, _, _, _, _, _, (mu_n' (hne (i := 0) (j := 2) (by omega)) h_po), (mu_n' (hne (i := 1) (j := 2) (by omega)) h_so), mu_s, (mu_n' (hne (i := 3) (j := 2) (by omega)) h_r), (mu_n' (hne (i := 4) (j := 2) (by omega)) h_th), (mu_n' (hne (i := 5) (j := 2) (by omega)) h_td), (mu_n' (hne (i := 6) (j := 2) (by omega)) h_un), (mu_n' (hne (i := 7) (j := 2) (by omega)) h_mn), (mu_n' (hne (i := 8) (j := 2) (by omega)) h_mo), (mu_n' (hne (i := 9) (j := 2) (by omega)) h_mq), (mu_n' (hne (i := 10) (j := 2) (by omega)) h_tt), (mu_n' (hne (i := 11) (j := 2) (by omega)) h_dd), (mu_n' (hne (i := 12) (j := 2) (by omega)) h_bb), (mu_n' (hne (i := 13) (j := 2) (by omega)) h_rr), (mu_n' (hne (i := 14) (j := 2) (by omega)) h_to), (mu_n' (hne (i := 15) (j := 2) (by omega)) h_tS), (mu_n' (hne (i := 16) (j := 2) (by omega)) h_tP), (mu_n' (hne (i := 17) (j := 2) (by omega)) h_ep), (mu_n' (hne (i := 18) (j := 2) (by omega)) h_hd), (mu_n' (hne (i := 19) (j := 2) (by omega)) h_sc), (mu_n' (hne (i := 20) (j := 2) (by omega)) h_os), (mu_n' (hne (i := 21) (j := 2) (by omega)) h_no), (mu_n' (hne (i := 22) (j := 2) (by omega)) h_nA), (fun e he => (mu_n' (hne (i := (23 + 6 * e)) (j := 2) (by omega)) (hE0 e (by omega)))), (fun e he => (mu_n' (hne (i := (24 + 6 * e)) (j := 2) (by omega)) (hE1 e (by omega)))), (fun e he => (mu_n' (hne (i := (25 + 6 * e)) (j := 2) (by omega)) (hE2 e (by omega)))), (fun e he => (mu_n' (hne (i := (26 + 6 * e)) (j := 2) (by omega)) (hE3 e (by omega)))), (fun e he => (mu_n' (hne (i := (27 + 6 * e)) (j := 2) (by omega)) (hE4 e (by omega)))), (fun e he => (mu_n' (hne (i := (28 + 6 * e)) (j := 2) (by omega)) (hE5 e (by omega)))), hroP, hroE, hri, hun⟩, (fun a ha => (mu_n' (ha _) rfl))⟩) dd_P_state_53)
    · skip
      have hv28 : hs_ (Ls nw) sx = true := by
        cases h : hs_ (Ls nw) sx with
        | true => rfl
        | false => exact absurd (by rw [h]; rfl) h28
      refine lv_iconst (v := nI 1) hx hb dd_P_state_31 (by decide) ?_
      refine lv_goto (tgt := 36) hx hb dd_P_state_32 rfl ?_
      refine lv_aload_n hx hb dd_P_state_36 rfl (lv_at hl 1 rfl) ?_
      refine mr_get C0 hM fk_P_26 (mu_n' (hne (i := 0) (j := 2) (by omega)) h_po) (v := .ref (ap 14)) rfl dd_P_state_37 ?_
      refine lv_lload_n hx hb dd_P_state_40 rfl (lv_at hl 2 rfl) ?_
      refine mr_callV (As := [.long sx]) (rest := [.int (nI 1)]) C0 hM hS vk_P_77 (mu_n' (hne (i := 14) (j := 2) (by omega)) h_to) rfl (c_T_has l (mu_n' (hne (i := 14) (j := 2) (by omega)) h_to) (mu_n' (hne (i := 15) (j := 2) (by omega)) h_tS)  (fun j hj => (hroP j hj).1) hPn) rfl rfl hl.1 (Nat.le_of_ble_eq_true rfl) rfl rfl (by subst hR; exact ⟨Nat.le_of_ble_eq_true rfl, Nat.le_of_ble_eq_true rfl⟩) (by subst hR; exact ⟨Nat.le_of_ble_eq_true rfl, Nat.le_of_ble_eq_true rfl⟩) dd_P_state_41 (fun v1 M1 H locs hp hM hS => ?_)
      obtain ⟨ev1, eM1⟩ := hp
      subst ev1
      rw [eM1] at hM
      refine W.eq (g2 := F0 m 44 ls [.int (nI (if hs_ Pd sx then 1 else 0)), .int (nI 1)]) rfl ?_
      refine lv_if_eq (tgt := 51) hx hb dd_P_state_44 rfl (fun h44 => ?_) (fun h44 => ?_)
      · skip
        have hv44 : hs_ Pd sx = false := by
          cases h : hs_ Pd sx with
          | false => rfl
          | true => rw [h] at h44; exact absurd h44 (by decide)
        refine lv_iconst (v := nI 0) hx hb dd_P_state_51 (by decide) ?_
        refine lv_iadd hx hb dd_P_state_52 ?_
        refine mr_vi (nI_add 1 0) ?_
        exact mr_ret hQ (mr_iret C0 hM hS (rfl) (⟨by unfold stR_; rw [if_neg (show ¬ hs = 0 by omega), if_neg hpm, hv28, hv44]; rfl, ⟨_, _, _, _, _, _, _, _, _, _, _, _, _, _, _, _, _, _, _, (mu_n' (hne (i := 0) (j := 2) (by omega)) h_po), (mu_n' (hne (i := 1) (j := 2) (by omega)) h_so), mu_s, (mu_n' (hne (i := 3) (j := 2) (by omega)) h_r), (mu_n' (hne (i := 4) (j := 2) (by omega)) h_th), (mu_n' (hne (i := 5) (j := 2) (by omega)) h_td), (mu_n' (hne (i := 6) (j := 2) (by omega)) h_un), (mu_n' (hne (i := 7) (j := 2) (by omega)) h_mn), (mu_n' (hne (i := 8) (j := 2) (by omega)) h_mo), (mu_n' (hne (i := 9) (j := 2) (by omega)) h_mq), (mu_n' (hne (i := 10) (j := 2) (by omega)) h_tt), (mu_n' (hne (i := 11) (j := 2) (by omega)) h_dd), (mu_n' (hne (i := 12) (j := 2) (by omega)) h_bb), (mu_n' (hne (i := 13) (j := 2) (by omega)) h_rr), (mu_n' (hne (i := 14) (j := 2) (by omega)) h_to), (mu_n' (hne (i := 15) (j := 2) (by omega)) h_tS), (mu_n' (hne (i := 16) (j := 2) (by omega)) h_tP), (mu_n' (hne (i := 17) (j := 2) (by omega)) h_ep), (mu_n' (hne (i := 18) (j := 2) (by omega)) h_hd), (mu_n' (hne (i := 19) (j := 2) (by omega)) h_sc), (mu_n' (hne (i := 20) (j := 2) (by omega)) h_os), (mu_n' (hne (i := 21) (j := 2) (by omega)) h_no), (mu_n' (hne (i := 22) (j := 2) (by omega)) h_nA), (fun e he => (mu_n' (hne (i := (23 + 6 * e)) (j := 2) (by omega)) (hE0 e (by omega)))), (fun e he => (mu_n' (hne (i := (24 + 6 * e)) (j := 2) (by omega)) (hE1 e (by omega)))), (fun e he => (mu_n' (hne (i := (25 + 6 * e)) (j := 2) (by omega)) (hE2 e (by omega)))), (fun e he => (mu_n' (hne (i := (26 + 6 * e)) (j := 2) (by omega)) (hE3 e (by omega)))), (fun e he => (mu_n' (hne (i := (27 + 6 * e)) (j := 2) (by omega)) (hE4 e (by omega)))), (fun e he => (mu_n' (hne (i := (28 + 6 * e)) (j := 2) (by omega)) (hE5 e (by omega)))), hroP, hroE, hri, hun⟩, (fun a ha => (mu_n' (ha _) rfl))⟩) dd_P_state_53)
      · skip
        have hv44 : hs_ Pd sx = true := by
          cases h : hs_ Pd sx with
          | true => rfl
          | false => exact absurd (by rw [h]; rfl) h44
        refine lv_iconst (v := nI 2) hx hb dd_P_state_47 (by decide) ?_
        refine lv_goto (tgt := 52) hx hb dd_P_state_48 rfl ?_
        refine lv_iadd hx hb dd_P_state_52 ?_
        refine mr_vi (nI_add 1 2) ?_
        exact mr_ret hQ (mr_iret C0 hM hS (rfl) (⟨by unfold stR_; rw [if_neg (show ¬ hs = 0 by omega), if_neg hpm, hv28, hv44]; rfl, ⟨_, _, _, _, _, _, _, _, _, _, _, _, _, _, _, _, _, _, _, (mu_n' (hne (i := 0) (j := 2) (by omega)) h_po), (mu_n' (hne (i := 1) (j := 2) (by omega)) h_so), mu_s, (mu_n' (hne (i := 3) (j := 2) (by omega)) h_r), (mu_n' (hne (i := 4) (j := 2) (by omega)) h_th), (mu_n' (hne (i := 5) (j := 2) (by omega)) h_td), (mu_n' (hne (i := 6) (j := 2) (by omega)) h_un), (mu_n' (hne (i := 7) (j := 2) (by omega)) h_mn), (mu_n' (hne (i := 8) (j := 2) (by omega)) h_mo), (mu_n' (hne (i := 9) (j := 2) (by omega)) h_mq), (mu_n' (hne (i := 10) (j := 2) (by omega)) h_tt), (mu_n' (hne (i := 11) (j := 2) (by omega)) h_dd), (mu_n' (hne (i := 12) (j := 2) (by omega)) h_bb), (mu_n' (hne (i := 13) (j := 2) (by omega)) h_rr), (mu_n' (hne (i := 14) (j := 2) (by omega)) h_to), (mu_n' (hne (i := 15) (j := 2) (by omega)) h_tS), (mu_n' (hne (i := 16) (j := 2) (by omega)) h_tP), (mu_n' (hne (i := 17) (j := 2) (by omega)) h_ep), (mu_n' (hne (i := 18) (j := 2) (by omega)) h_hd), (mu_n' (hne (i := 19) (j := 2) (by omega)) h_sc), (mu_n' (hne (i := 20) (j := 2) (by omega)) h_os), (mu_n' (hne (i := 21) (j := 2) (by omega)) h_no), (mu_n' (hne (i := 22) (j := 2) (by omega)) h_nA), (fun e he => (mu_n' (hne (i := (23 + 6 * e)) (j := 2) (by omega)) (hE0 e (by omega)))), (fun e he => (mu_n' (hne (i := (24 + 6 * e)) (j := 2) (by omega)) (hE1 e (by omega)))), (fun e he => (mu_n' (hne (i := (25 + 6 * e)) (j := 2) (by omega)) (hE2 e (by omega)))), (fun e he => (mu_n' (hne (i := (26 + 6 * e)) (j := 2) (by omega)) (hE3 e (by omega)))), (fun e he => (mu_n' (hne (i := (27 + 6 * e)) (j := 2) (by omega)) (hE4 e (by omega)))), (fun e he => (mu_n' (hne (i := (28 + 6 * e)) (j := 2) (by omega)) (hE5 e (by omega)))), hroP, hroE, hri, hun⟩, (fun a ha => (mu_n' (ha _) rfl))⟩) dd_P_state_53)
  · skip
    refine lv_iload_n hx hb dd_P_state_10 rfl (lv_at hl 0 rfl) ?_
    have eR : stR_ hs (prime_ sx) Pd Ls nw sx = prR_ hs sx := by
      rcases prR_neg hhs h7 with h0 | ⟨h0, h2⟩
      · simp [stR_, prR_, h0]
      · simp [stR_, prR_, h0, h2]
    exact mr_ret hQ (mr_iret C0 hM hS (rfl) (⟨by rw [eR], ⟨_, _, _, _, _, _, _, _, _, _, _, _, _, _, _, _, _, _, _, (mu_n' (hne (i := 0) (j := 2) (by omega)) h_po), (mu_n' (hne (i := 1) (j := 2) (by omega)) h_so), mu_s, (mu_n' (hne (i := 3) (j := 2) (by omega)) h_r), (mu_n' (hne (i := 4) (j := 2) (by omega)) h_th), (mu_n' (hne (i := 5) (j := 2) (by omega)) h_td), (mu_n' (hne (i := 6) (j := 2) (by omega)) h_un), (mu_n' (hne (i := 7) (j := 2) (by omega)) h_mn), (mu_n' (hne (i := 8) (j := 2) (by omega)) h_mo), (mu_n' (hne (i := 9) (j := 2) (by omega)) h_mq), (mu_n' (hne (i := 10) (j := 2) (by omega)) h_tt), (mu_n' (hne (i := 11) (j := 2) (by omega)) h_dd), (mu_n' (hne (i := 12) (j := 2) (by omega)) h_bb), (mu_n' (hne (i := 13) (j := 2) (by omega)) h_rr), (mu_n' (hne (i := 14) (j := 2) (by omega)) h_to), (mu_n' (hne (i := 15) (j := 2) (by omega)) h_tS), (mu_n' (hne (i := 16) (j := 2) (by omega)) h_tP), (mu_n' (hne (i := 17) (j := 2) (by omega)) h_ep), (mu_n' (hne (i := 18) (j := 2) (by omega)) h_hd), (mu_n' (hne (i := 19) (j := 2) (by omega)) h_sc), (mu_n' (hne (i := 20) (j := 2) (by omega)) h_os), (mu_n' (hne (i := 21) (j := 2) (by omega)) h_no), (mu_n' (hne (i := 22) (j := 2) (by omega)) h_nA), (fun e he => (mu_n' (hne (i := (23 + 6 * e)) (j := 2) (by omega)) (hE0 e (by omega)))), (fun e he => (mu_n' (hne (i := (24 + 6 * e)) (j := 2) (by omega)) (hE1 e (by omega)))), (fun e he => (mu_n' (hne (i := (25 + 6 * e)) (j := 2) (by omega)) (hE2 e (by omega)))), (fun e he => (mu_n' (hne (i := (26 + 6 * e)) (j := 2) (by omega)) (hE3 e (by omega)))), (fun e he => (mu_n' (hne (i := (27 + 6 * e)) (j := 2) (by omega)) (hE4 e (by omega)))), (fun e he => (mu_n' (hne (i := (28 + 6 * e)) (j := 2) (by omega)) (hE5 e (by omega)))), hroP, hroE, hri, hun⟩, (fun a ha => (mu_n' (ha _) rfl))⟩) dd_P_state_11)

set_option maxHeartbeats 4000000 in
set_option maxRecDepth 100000 in
theorem c_P_add (l : Launch) {G : mg_} {M : mw_} {ap : Nat → Nat} {hs N Vt nw Hd fc n1 Ex : Nat} {Pd : rl_} {Ls : Nat → rl_} {w g0 : Nat → Int32} {f t0 d0 b0 q0 s0 o0 td mn mo mq : Nat → Int64} {ef eu ei : Nat → Nat → Int64} {eg : Nat → Nat → Int32} {sx : Int64}   (hne : ∀ {i j : Nat}, i ≠ j → ap i ≠ ap j) (hsi : SI_ hs N Vt Pd Ls nw Hd fc) (hP : PX_ G ap hs N Vt Pd Ls nw Hd fc n1 Ex w g0 f t0 d0 b0 q0 s0 o0 td mn mo mq ef eu ei eg M)  : ct_ l my_P_add cd_P_add 4 (some .int) { frames := 5, cells := 0, slots := 0, locals := 129 } G [.ref (ap 0), .long sx] M (fun v0 M' => v0 = (some (.int (adR_ hs (prime_ sx) Pd sx))) ∧ PW_ G ap hs N Vt (adL_ hs (prime_ sx) Pd sx) Ls nw Hd fc M' ∧ fr_ ap M M') 0 0 := by
  refine ct_.intro2 (by decide) (Nat.le_of_ble_eq_true rfl) ?_
  intro p e s m args below meth c ls R Q hR hQ C0 hl hM hS
  have hx := C0.1
  have hb := C0.2.1
  have hl : lv_has ls 4 [(0, .ref (ap 0)), (1, .long sx)] := hl
  obtain ⟨h_po, h_so, h_wA, h_r, h_th, h_td, h_un, h_mn, h_mo, h_mq, h_tt, h_dd, h_bb, h_rr, h_to, h_tS, h_tP, h_ep, h_hd, h_sc, h_os, h_no, h_nA, hE0, hE1, hE2, hE3, hE4, hE5, hroP, hroE, hri, hun⟩ := hP
  obtain ⟨⟨hPn, hLn, hnw, hPp, hLp, hPd, hLd⟩, hhs, hNb, hVb, hHb, hfc, h00⟩ := hsi
  have hnw17 : nw < 17 := by omega
  refine lv_aload_n hx hb dd_P_add_0 rfl (lv_at hl 0 rfl) ?_
  refine lv_lload_n hx hb dd_P_add_1 rfl (lv_at hl 1 rfl) ?_
  refine mr_callV (As := [.long sx]) (rest := []) C0 hM hS vk_P_74 h_po rfl (c_P_primeOrRefusal_J l h_po h_so h_wA hne  hhs) rfl rfl hl.1 (Nat.le_of_ble_eq_true rfl) rfl rfl (by subst hR; exact ⟨Nat.le_of_ble_eq_true rfl, Nat.le_of_ble_eq_true rfl⟩) (by subst hR; exact ⟨Nat.le_of_ble_eq_true rfl, Nat.le_of_ble_eq_true rfl⟩) dd_P_add_2 (fun v1 M1 H locs hp hM hS => ?_)
  obtain ⟨ev1, w1, eM1⟩ := hp
  subst ev1
  rw [eM1] at hM
  have hM : mm_ G (mu_ M (ap 2) (ia_ G 64 w1)) H := hM
  refine W.eq (g2 := F0 m 5 ls [.int (prR_ hs sx)]) rfl ?_
  refine lv_istore_n (lv' := [(3, .int (prR_ hs sx)), (0, .ref (ap 0)), (1, .long sx)]) hx hb dd_P_add_5 rfl hl (by decide) rfl (fun ls hl => ?_)
  refine lv_iload_n hx hb dd_P_add_6 rfl (lv_at hl 0 rfl) ?_
  refine lv_if_ge (tgt := 12) hx hb dd_P_add_7 rfl (fun h7 => ?_) (fun h7 => ?_)
  · skip
    obtain ⟨hh1, x0, hxl, hxu, hpx⟩ := prR_pos hhs h7
    have hpr := prR_1 (s := sx) hh1
    have hprx := hpr.trans hpx
    have hpm : ¬ prime_ sx = (-2) := by rw [hpx]; exact m2_ne hxu
    have hpn : pn_ (prime_ sx) = x0 := by rw [hpx]; exact pn_i hxu
    obtain ⟨rfl, rfl, rfl, rfl, hn1, hinv⟩ := hri hh1
    obtain ⟨Bi, hBi⟩ := bi_ex hinv
    have hN : N < 4294967296 ^ 4 := Nat.lt_of_lt_of_eq (hNb hh1).1 (by decide)
    have hNl := (hNb hh1).2
    have hN1 : 1 < N := by omega
    have hV3 : 3 < N := by omega
    have hN0 : 0 < N := by omega
    have hHd := hHb hh1
    have hVt : Vt < N := by rw [(hVb hh1).1]; exact (hVb hh1).2
    have hue := hun hh1
    refine lv_aload_n hx hb dd_P_add_12 rfl (lv_at hl 1 rfl) ?_
    refine mr_get C0 hM fk_P_26 (mu_n' (hne (i := 0) (j := 2) (by omega)) h_po) (v := .ref (ap 14)) rfl dd_P_add_13 ?_
    refine lv_lload_n hx hb dd_P_add_16 rfl (lv_at hl 2 rfl) ?_
    refine mr_callV (As := [.long sx]) (rest := []) C0 hM hS vk_P_77 (mu_n' (hne (i := 14) (j := 2) (by omega)) h_to) rfl (c_T_has l (mu_n' (hne (i := 14) (j := 2) (by omega)) h_to) (mu_n' (hne (i := 15) (j := 2) (by omega)) h_tS)  (fun j hj => (hroP j hj).1) hPn) rfl rfl hl.1 (Nat.le_of_ble_eq_true rfl) rfl rfl (by subst hR; exact ⟨Nat.le_of_ble_eq_true rfl, Nat.le_of_ble_eq_true rfl⟩) (by subst hR; exact ⟨Nat.le_of_ble_eq_true rfl, Nat.le_of_ble_eq_true rfl⟩) dd_P_add_17 (fun v1 M1 H locs hp hM hS => ?_)
    obtain ⟨ev1, eM1⟩ := hp
    subst ev1
    rw [eM1] at hM
    refine W.eq (g2 := F0 m 20 ls [.int (nI (if hs_ Pd sx then 1 else 0))]) rfl ?_
    refine lv_if_eq (tgt := 26) hx hb dd_P_add_20 rfl (fun h20 => ?_) (fun h20 => ?_)
    · skip
      have hv20 : hs_ Pd sx = false := by
        cases h : hs_ Pd sx with
        | false => rfl
        | true => rw [h] at h20; exact absurd h20 (by decide)
      refine lv_aload_n hx hb dd_P_add_26 rfl (lv_at hl 1 rfl) ?_
      refine mr_get C0 hM fk_P_26 (mu_n' (hne (i := 0) (j := 2) (by omega)) h_po) (v := .ref (ap 14)) rfl dd_P_add_27 ?_
      refine lv_iload_n hx hb dd_P_add_30 rfl (lv_at hl 0 rfl) ?_
      refine mr_vi (x' := prime_ sx) (hpr) ?_
      refine mr_callV (As := [.int (prime_ sx)]) (rest := []) C0 hM hS vk_P_81 (mu_n' (hne (i := 14) (j := 2) (by omega)) h_to) rfl (c_T_hasPrime l (mu_n' (hne (i := 14) (j := 2) (by omega)) h_to) (mu_n' (hne (i := 16) (j := 2) (by omega)) h_tP)  (fun j hj => (hroP j hj).2) hPn) rfl rfl hl.1 (Nat.le_of_ble_eq_true rfl) rfl rfl (by subst hR; exact ⟨Nat.le_of_ble_eq_true rfl, Nat.le_of_ble_eq_true rfl⟩) (by subst hR; exact ⟨Nat.le_of_ble_eq_true rfl, Nat.le_of_ble_eq_true rfl⟩) dd_P_add_31 (fun v1 M1 H locs hp hM hS => ?_)
      obtain ⟨ev1, eM1⟩ := hp
      subst ev1
      rw [eM1] at hM
      refine W.eq (g2 := F0 m 34 ls [.int (nI (if hp_ Pd (prime_ sx) then 1 else 0))]) rfl ?_
      refine lv_if_eq (tgt := 40) hx hb dd_P_add_34 rfl (fun h34 => ?_) (fun h34 => ?_)
      · skip
        have hq : ¬ hp_ Pd (prime_ sx) = true := fun q => by rw [if_pos q] at h34; exact absurd h34 (by decide)
        refine lv_aload_n hx hb dd_P_add_40 rfl (lv_at hl 1 rfl) ?_
        refine mr_get C0 hM fk_P_26 (mu_n' (hne (i := 0) (j := 2) (by omega)) h_po) (v := .ref (ap 14)) rfl dd_P_add_41 ?_
        refine mr_get C0 hM fk_P_85 (mu_n' (hne (i := 14) (j := 2) (by omega)) h_to) (v := .int (nI (List.length Pd))) rfl dd_P_add_44 ?_
        refine lv_bipush (v := nI 10) hx hb dd_P_add_47 (by decide) ?_
        refine lv_icmp_lt (tgt := 55) hx hb dd_P_add_49 rfl (fun h49 => ?_) (fun h49 => ?_)
        · skip
          have h10 : Pd.length < 10 := (nI_ltI (by omega) (by decide)).mp h49
          refine lv_aload_n hx hb dd_P_add_55 rfl (lv_at hl 1 rfl) ?_
          refine mr_get C0 hM fk_P_26 (mu_n' (hne (i := 0) (j := 2) (by omega)) h_po) (v := .ref (ap 14)) rfl dd_P_add_56 ?_
          refine lv_lload_n hx hb dd_P_add_59 rfl (lv_at hl 2 rfl) ?_
          refine lv_iload_n hx hb dd_P_add_60 rfl (lv_at hl 0 rfl) ?_
          refine mr_vi (x' := nI x0) (hprx) ?_
          refine mr_callV (As := [.long sx, .int (nI x0)]) (rest := []) C0 hM hS vk_P_89 (mu_n' (hne (i := 14) (j := 2) (by omega)) h_to) rfl (c_T_insert l (mu_n' (hne (i := 14) (j := 2) (by omega)) h_to) (mu_n' (hne (i := 15) (j := 2) (by omega)) h_tS) (mu_n' (hne (i := 16) (j := 2) (by omega)) h_tP)  hroP h10) rfl rfl hl.1 (Nat.le_of_ble_eq_true rfl) rfl rfl (by subst hR; exact ⟨Nat.le_of_ble_eq_true rfl, Nat.le_of_ble_eq_true rfl⟩) (by subst hR; exact ⟨Nat.le_of_ble_eq_true rfl, Nat.le_of_ble_eq_true rfl⟩) dd_P_add_61 (fun v1 M1 H locs hp hM hS => ?_)
          obtain ⟨ev1, f1, g1, hro1, eM1⟩ := hp
          subst ev1
          rw [eM1] at hM
          have hM : mm_ G (mu_ (mu_ (mu_ (mu_ M (ap 2) (ia_ G 64 w1)) (ap 15) (la_ G 10 f1)) (ap 16) (ia_ G 10 g1)) (ap 14) (ob_ 3 [.ref (ap 15), .ref (ap 16), .int (nI (List.length Pd + 1))])) H := hM
          refine W.eq (g2 := F0 m 64 ls []) rfl ?_
          refine lv_aload_n hx hb dd_P_add_64 rfl (lv_at hl 1 rfl) ?_
          refine mr_get C0 hM fk_P_26 (mu_n' (hne (i := 0) (j := 14) (by omega)) (mu_n' (hne (i := 0) (j := 16) (by omega)) (mu_n' (hne (i := 0) (j := 15) (by omega)) (mu_n' (hne (i := 0) (j := 2) (by omega)) h_po)))) (v := .ref (ap 14)) rfl dd_P_add_65 ?_
          refine mr_get C0 hM fk_P_85 mu_s (v := .int (nI (List.length Pd + 1))) rfl dd_P_add_68 ?_
          exact mr_ret hQ (mr_iret C0 hM hS (rfl) (⟨by unfold adR_; rw [if_neg (show ¬ hs = 0 by omega), if_neg hpm, if_neg (show ¬ hs_ Pd sx = true by rw [hv20]; decide), if_neg hq, if_neg (show ¬ Pd.length = 10 by omega)], by unfold adL_; rw [if_neg (show ¬ hs = 0 by omega), if_neg hpm, if_neg (show ¬ hs_ Pd sx = true by rw [hv20]; decide), if_neg hq, if_neg (show ¬ Pd.length = 10 by omega), hpn]; exact ⟨_, _, _, _, _, _, _, _, _, _, _, _, _, _, _, _, _, _, _, (mu_n' (hne (i := 0) (j := 14) (by omega)) (mu_n' (hne (i := 0) (j := 16) (by omega)) (mu_n' (hne (i := 0) (j := 15) (by omega)) (mu_n' (hne (i := 0) (j := 2) (by omega)) h_po)))), (mu_n' (hne (i := 1) (j := 14) (by omega)) (mu_n' (hne (i := 1) (j := 16) (by omega)) (mu_n' (hne (i := 1) (j := 15) (by omega)) (mu_n' (hne (i := 1) (j := 2) (by omega)) h_so)))), (mu_n' (hne (i := 2) (j := 14) (by omega)) (mu_n' (hne (i := 2) (j := 16) (by omega)) (mu_n' (hne (i := 2) (j := 15) (by omega)) mu_s))), (mu_n' (hne (i := 3) (j := 14) (by omega)) (mu_n' (hne (i := 3) (j := 16) (by omega)) (mu_n' (hne (i := 3) (j := 15) (by omega)) (mu_n' (hne (i := 3) (j := 2) (by omega)) h_r)))), (mu_n' (hne (i := 4) (j := 14) (by omega)) (mu_n' (hne (i := 4) (j := 16) (by omega)) (mu_n' (hne (i := 4) (j := 15) (by omega)) (mu_n' (hne (i := 4) (j := 2) (by omega)) h_th)))), (mu_n' (hne (i := 5) (j := 14) (by omega)) (mu_n' (hne (i := 5) (j := 16) (by omega)) (mu_n' (hne (i := 5) (j := 15) (by omega)) (mu_n' (hne (i := 5) (j := 2) (by omega)) h_td)))), (mu_n' (hne (i := 6) (j := 14) (by omega)) (mu_n' (hne (i := 6) (j := 16) (by omega)) (mu_n' (hne (i := 6) (j := 15) (by omega)) (mu_n' (hne (i := 6) (j := 2) (by omega)) h_un)))), (mu_n' (hne (i := 7) (j := 14) (by omega)) (mu_n' (hne (i := 7) (j := 16) (by omega)) (mu_n' (hne (i := 7) (j := 15) (by omega)) (mu_n' (hne (i := 7) (j := 2) (by omega)) h_mn)))), (mu_n' (hne (i := 8) (j := 14) (by omega)) (mu_n' (hne (i := 8) (j := 16) (by omega)) (mu_n' (hne (i := 8) (j := 15) (by omega)) (mu_n' (hne (i := 8) (j := 2) (by omega)) h_mo)))), (mu_n' (hne (i := 9) (j := 14) (by omega)) (mu_n' (hne (i := 9) (j := 16) (by omega)) (mu_n' (hne (i := 9) (j := 15) (by omega)) (mu_n' (hne (i := 9) (j := 2) (by omega)) h_mq)))), (mu_n' (hne (i := 10) (j := 14) (by omega)) (mu_n' (hne (i := 10) (j := 16) (by omega)) (mu_n' (hne (i := 10) (j := 15) (by omega)) (mu_n' (hne (i := 10) (j := 2) (by omega)) h_tt)))), (mu_n' (hne (i := 11) (j := 14) (by omega)) (mu_n' (hne (i := 11) (j := 16) (by omega)) (mu_n' (hne (i := 11) (j := 15) (by omega)) (mu_n' (hne (i := 11) (j := 2) (by omega)) h_dd)))), (mu_n' (hne (i := 12) (j := 14) (by omega)) (mu_n' (hne (i := 12) (j := 16) (by omega)) (mu_n' (hne (i := 12) (j := 15) (by omega)) (mu_n' (hne (i := 12) (j := 2) (by omega)) h_bb)))), (mu_n' (hne (i := 13) (j := 14) (by omega)) (mu_n' (hne (i := 13) (j := 16) (by omega)) (mu_n' (hne (i := 13) (j := 15) (by omega)) (mu_n' (hne (i := 13) (j := 2) (by omega)) h_rr)))), (by rw [ins_len]; exact mu_s), (mu_n' (hne (i := 15) (j := 14) (by omega)) (mu_n' (hne (i := 15) (j := 16) (by omega)) mu_s)), (mu_n' (hne (i := 16) (j := 14) (by omega)) mu_s), (mu_n' (hne (i := 17) (j := 14) (by omega)) (mu_n' (hne (i := 17) (j := 16) (by omega)) (mu_n' (hne (i := 17) (j := 15) (by omega)) (mu_n' (hne (i := 17) (j := 2) (by omega)) h_ep)))), (mu_n' (hne (i := 18) (j := 14) (by omega)) (mu_n' (hne (i := 18) (j := 16) (by omega)) (mu_n' (hne (i := 18) (j := 15) (by omega)) (mu_n' (hne (i := 18) (j := 2) (by omega)) h_hd)))), (mu_n' (hne (i := 19) (j := 14) (by omega)) (mu_n' (hne (i := 19) (j := 16) (by omega)) (mu_n' (hne (i := 19) (j := 15) (by omega)) (mu_n' (hne (i := 19) (j := 2) (by omega)) h_sc)))), (mu_n' (hne (i := 20) (j := 14) (by omega)) (mu_n' (hne (i := 20) (j := 16) (by omega)) (mu_n' (hne (i := 20) (j := 15) (by omega)) (mu_n' (hne (i := 20) (j := 2) (by omega)) h_os)))), (mu_n' (hne (i := 21) (j := 14) (by omega)) (mu_n' (hne (i := 21) (j := 16) (by omega)) (mu_n' (hne (i := 21) (j := 15) (by omega)) (mu_n' (hne (i := 21) (j := 2) (by omega)) h_no)))), (mu_n' (hne (i := 22) (j := 14) (by omega)) (mu_n' (hne (i := 22) (j := 16) (by omega)) (mu_n' (hne (i := 22) (j := 15) (by omega)) (mu_n' (hne (i := 22) (j := 2) (by omega)) h_nA)))), (fun e he => (mu_n' (hne (i := (23 + 6 * e)) (j := 14) (by omega)) (mu_n' (hne (i := (23 + 6 * e)) (j := 16) (by omega)) (mu_n' (hne (i := (23 + 6 * e)) (j := 15) (by omega)) (mu_n' (hne (i := (23 + 6 * e)) (j := 2) (by omega)) (hE0 e (by omega))))))), (fun e he => (mu_n' (hne (i := (24 + 6 * e)) (j := 14) (by omega)) (mu_n' (hne (i := (24 + 6 * e)) (j := 16) (by omega)) (mu_n' (hne (i := (24 + 6 * e)) (j := 15) (by omega)) (mu_n' (hne (i := (24 + 6 * e)) (j := 2) (by omega)) (hE1 e (by omega))))))), (fun e he => (mu_n' (hne (i := (25 + 6 * e)) (j := 14) (by omega)) (mu_n' (hne (i := (25 + 6 * e)) (j := 16) (by omega)) (mu_n' (hne (i := (25 + 6 * e)) (j := 15) (by omega)) (mu_n' (hne (i := (25 + 6 * e)) (j := 2) (by omega)) (hE2 e (by omega))))))), (fun e he => (mu_n' (hne (i := (26 + 6 * e)) (j := 14) (by omega)) (mu_n' (hne (i := (26 + 6 * e)) (j := 16) (by omega)) (mu_n' (hne (i := (26 + 6 * e)) (j := 15) (by omega)) (mu_n' (hne (i := (26 + 6 * e)) (j := 2) (by omega)) (hE3 e (by omega))))))), (fun e he => (mu_n' (hne (i := (27 + 6 * e)) (j := 14) (by omega)) (mu_n' (hne (i := (27 + 6 * e)) (j := 16) (by omega)) (mu_n' (hne (i := (27 + 6 * e)) (j := 15) (by omega)) (mu_n' (hne (i := (27 + 6 * e)) (j := 2) (by omega)) (hE4 e (by omega))))))), (fun e he => (mu_n' (hne (i := (28 + 6 * e)) (j := 14) (by omega)) (mu_n' (hne (i := (28 + 6 * e)) (j := 16) (by omega)) (mu_n' (hne (i := (28 + 6 * e)) (j := 15) (by omega)) (mu_n' (hne (i := (28 + 6 * e)) (j := 2) (by omega)) (hE5 e (by omega))))))), hro1, hroE, hri, hun⟩, (fun a ha => (mu_n' (ha _) (mu_n' (ha _) (mu_n' (ha _) (mu_n' (ha _) rfl)))))⟩) dd_P_add_71)
        · skip
          have h10 : ¬ Pd.length < 10 := fun q => h49 (lt_nI q (by omega) (by decide))
          refine lv_bipush (v := (-6 : Int32)) hx hb dd_P_add_52 (by decide) ?_
          exact mr_ret hQ (mr_iret C0 hM hS (rfl) (⟨by unfold adR_; rw [if_neg (show ¬ hs = 0 by omega), if_neg hpm, if_neg (show ¬ hs_ Pd sx = true by rw [hv20]; decide), if_neg hq, if_pos (show Pd.length = 10 by omega)], by unfold adL_; rw [if_neg (show ¬ hs = 0 by omega), if_neg hpm, if_neg (show ¬ hs_ Pd sx = true by rw [hv20]; decide), if_neg hq, if_pos (show Pd.length = 10 by omega)]; exact ⟨_, _, _, _, _, _, _, _, _, _, _, _, _, _, _, _, _, _, _, (mu_n' (hne (i := 0) (j := 2) (by omega)) h_po), (mu_n' (hne (i := 1) (j := 2) (by omega)) h_so), mu_s, (mu_n' (hne (i := 3) (j := 2) (by omega)) h_r), (mu_n' (hne (i := 4) (j := 2) (by omega)) h_th), (mu_n' (hne (i := 5) (j := 2) (by omega)) h_td), (mu_n' (hne (i := 6) (j := 2) (by omega)) h_un), (mu_n' (hne (i := 7) (j := 2) (by omega)) h_mn), (mu_n' (hne (i := 8) (j := 2) (by omega)) h_mo), (mu_n' (hne (i := 9) (j := 2) (by omega)) h_mq), (mu_n' (hne (i := 10) (j := 2) (by omega)) h_tt), (mu_n' (hne (i := 11) (j := 2) (by omega)) h_dd), (mu_n' (hne (i := 12) (j := 2) (by omega)) h_bb), (mu_n' (hne (i := 13) (j := 2) (by omega)) h_rr), (mu_n' (hne (i := 14) (j := 2) (by omega)) h_to), (mu_n' (hne (i := 15) (j := 2) (by omega)) h_tS), (mu_n' (hne (i := 16) (j := 2) (by omega)) h_tP), (mu_n' (hne (i := 17) (j := 2) (by omega)) h_ep), (mu_n' (hne (i := 18) (j := 2) (by omega)) h_hd), (mu_n' (hne (i := 19) (j := 2) (by omega)) h_sc), (mu_n' (hne (i := 20) (j := 2) (by omega)) h_os), (mu_n' (hne (i := 21) (j := 2) (by omega)) h_no), (mu_n' (hne (i := 22) (j := 2) (by omega)) h_nA), (fun e he => (mu_n' (hne (i := (23 + 6 * e)) (j := 2) (by omega)) (hE0 e (by omega)))), (fun e he => (mu_n' (hne (i := (24 + 6 * e)) (j := 2) (by omega)) (hE1 e (by omega)))), (fun e he => (mu_n' (hne (i := (25 + 6 * e)) (j := 2) (by omega)) (hE2 e (by omega)))), (fun e he => (mu_n' (hne (i := (26 + 6 * e)) (j := 2) (by omega)) (hE3 e (by omega)))), (fun e he => (mu_n' (hne (i := (27 + 6 * e)) (j := 2) (by omega)) (hE4 e (by omega)))), (fun e he => (mu_n' (hne (i := (28 + 6 * e)) (j := 2) (by omega)) (hE5 e (by omega)))), hroP, hroE, hri, hun⟩, (fun a ha => (mu_n' (ha _) rfl))⟩) dd_P_add_54)
      · skip
        have hq : hp_ Pd (prime_ sx) = true := Classical.byContradiction (fun q => h34 (by rw [if_neg q]; rfl))
        refine lv_bipush (v := (-5 : Int32)) hx hb dd_P_add_37 (by decide) ?_
        exact mr_ret hQ (mr_iret C0 hM hS (rfl) (⟨by unfold adR_; rw [if_neg (show ¬ hs = 0 by omega), if_neg hpm, if_neg (show ¬ hs_ Pd sx = true by rw [hv20]; decide), if_pos hq], by unfold adL_; rw [if_neg (show ¬ hs = 0 by omega), if_neg hpm, if_neg (show ¬ hs_ Pd sx = true by rw [hv20]; decide), if_pos hq]; exact ⟨_, _, _, _, _, _, _, _, _, _, _, _, _, _, _, _, _, _, _, (mu_n' (hne (i := 0) (j := 2) (by omega)) h_po), (mu_n' (hne (i := 1) (j := 2) (by omega)) h_so), mu_s, (mu_n' (hne (i := 3) (j := 2) (by omega)) h_r), (mu_n' (hne (i := 4) (j := 2) (by omega)) h_th), (mu_n' (hne (i := 5) (j := 2) (by omega)) h_td), (mu_n' (hne (i := 6) (j := 2) (by omega)) h_un), (mu_n' (hne (i := 7) (j := 2) (by omega)) h_mn), (mu_n' (hne (i := 8) (j := 2) (by omega)) h_mo), (mu_n' (hne (i := 9) (j := 2) (by omega)) h_mq), (mu_n' (hne (i := 10) (j := 2) (by omega)) h_tt), (mu_n' (hne (i := 11) (j := 2) (by omega)) h_dd), (mu_n' (hne (i := 12) (j := 2) (by omega)) h_bb), (mu_n' (hne (i := 13) (j := 2) (by omega)) h_rr), (mu_n' (hne (i := 14) (j := 2) (by omega)) h_to), (mu_n' (hne (i := 15) (j := 2) (by omega)) h_tS), (mu_n' (hne (i := 16) (j := 2) (by omega)) h_tP), (mu_n' (hne (i := 17) (j := 2) (by omega)) h_ep), (mu_n' (hne (i := 18) (j := 2) (by omega)) h_hd), (mu_n' (hne (i := 19) (j := 2) (by omega)) h_sc), (mu_n' (hne (i := 20) (j := 2) (by omega)) h_os), (mu_n' (hne (i := 21) (j := 2) (by omega)) h_no), (mu_n' (hne (i := 22) (j := 2) (by omega)) h_nA), (fun e he => (mu_n' (hne (i := (23 + 6 * e)) (j := 2) (by omega)) (hE0 e (by omega)))), (fun e he => (mu_n' (hne (i := (24 + 6 * e)) (j := 2) (by omega)) (hE1 e (by omega)))), (fun e he => (mu_n' (hne (i := (25 + 6 * e)) (j := 2) (by omega)) (hE2 e (by omega)))), (fun e he => (mu_n' (hne (i := (26 + 6 * e)) (j := 2) (by omega)) (hE3 e (by omega)))), (fun e he => (mu_n' (hne (i := (27 + 6 * e)) (j := 2) (by omega)) (hE4 e (by omega)))), (fun e he => (mu_n' (hne (i := (28 + 6 * e)) (j := 2) (by omega)) (hE5 e (by omega)))), hroP, hroE, hri, hun⟩, (fun a ha => (mu_n' (ha _) rfl))⟩) dd_P_add_39)
    · skip
      have hv20 : hs_ Pd sx = true := by
        cases h : hs_ Pd sx with
        | true => rfl
        | false => exact absurd (by rw [h]; rfl) h20
      refine lv_bipush (v := (-3 : Int32)) hx hb dd_P_add_23 (by decide) ?_
      exact mr_ret hQ (mr_iret C0 hM hS (rfl) (⟨by unfold adR_; rw [if_neg (show ¬ hs = 0 by omega), if_neg hpm, if_pos hv20], by unfold adL_; rw [if_neg (show ¬ hs = 0 by omega), if_neg hpm, if_pos hv20]; exact ⟨_, _, _, _, _, _, _, _, _, _, _, _, _, _, _, _, _, _, _, (mu_n' (hne (i := 0) (j := 2) (by omega)) h_po), (mu_n' (hne (i := 1) (j := 2) (by omega)) h_so), mu_s, (mu_n' (hne (i := 3) (j := 2) (by omega)) h_r), (mu_n' (hne (i := 4) (j := 2) (by omega)) h_th), (mu_n' (hne (i := 5) (j := 2) (by omega)) h_td), (mu_n' (hne (i := 6) (j := 2) (by omega)) h_un), (mu_n' (hne (i := 7) (j := 2) (by omega)) h_mn), (mu_n' (hne (i := 8) (j := 2) (by omega)) h_mo), (mu_n' (hne (i := 9) (j := 2) (by omega)) h_mq), (mu_n' (hne (i := 10) (j := 2) (by omega)) h_tt), (mu_n' (hne (i := 11) (j := 2) (by omega)) h_dd), (mu_n' (hne (i := 12) (j := 2) (by omega)) h_bb), (mu_n' (hne (i := 13) (j := 2) (by omega)) h_rr), (mu_n' (hne (i := 14) (j := 2) (by omega)) h_to), (mu_n' (hne (i := 15) (j := 2) (by omega)) h_tS), (mu_n' (hne (i := 16) (j := 2) (by omega)) h_tP), (mu_n' (hne (i := 17) (j := 2) (by omega)) h_ep), (mu_n' (hne (i := 18) (j := 2) (by omega)) h_hd), (mu_n' (hne (i := 19) (j := 2) (by omega)) h_sc), (mu_n' (hne (i := 20) (j := 2) (by omega)) h_os), (mu_n' (hne (i := 21) (j := 2) (by omega)) h_no), (mu_n' (hne (i := 22) (j := 2) (by omega)) h_nA), (fun e he => (mu_n' (hne (i := (23 + 6 * e)) (j := 2) (by omega)) (hE0 e (by omega)))), (fun e he => (mu_n' (hne (i := (24 + 6 * e)) (j := 2) (by omega)) (hE1 e (by omega)))), (fun e he => (mu_n' (hne (i := (25 + 6 * e)) (j := 2) (by omega)) (hE2 e (by omega)))), (fun e he => (mu_n' (hne (i := (26 + 6 * e)) (j := 2) (by omega)) (hE3 e (by omega)))), (fun e he => (mu_n' (hne (i := (27 + 6 * e)) (j := 2) (by omega)) (hE4 e (by omega)))), (fun e he => (mu_n' (hne (i := (28 + 6 * e)) (j := 2) (by omega)) (hE5 e (by omega)))), hroP, hroE, hri, hun⟩, (fun a ha => (mu_n' (ha _) rfl))⟩) dd_P_add_25)
  · skip
    refine lv_iload_n hx hb dd_P_add_10 rfl (lv_at hl 0 rfl) ?_
    have eR : adR_ hs (prime_ sx) Pd sx = prR_ hs sx ∧ adL_ hs (prime_ sx) Pd sx = Pd := by
      rcases prR_neg hhs h7 with h0 | ⟨h0, h2⟩
      · simp [adR_, adL_, prR_, h0]
      · simp [adR_, adL_, prR_, h0, h2]
    exact mr_ret hQ (mr_iret C0 hM hS (rfl) (⟨by rw [eR.1], by rw [eR.2]; exact ⟨_, _, _, _, _, _, _, _, _, _, _, _, _, _, _, _, _, _, _, (mu_n' (hne (i := 0) (j := 2) (by omega)) h_po), (mu_n' (hne (i := 1) (j := 2) (by omega)) h_so), mu_s, (mu_n' (hne (i := 3) (j := 2) (by omega)) h_r), (mu_n' (hne (i := 4) (j := 2) (by omega)) h_th), (mu_n' (hne (i := 5) (j := 2) (by omega)) h_td), (mu_n' (hne (i := 6) (j := 2) (by omega)) h_un), (mu_n' (hne (i := 7) (j := 2) (by omega)) h_mn), (mu_n' (hne (i := 8) (j := 2) (by omega)) h_mo), (mu_n' (hne (i := 9) (j := 2) (by omega)) h_mq), (mu_n' (hne (i := 10) (j := 2) (by omega)) h_tt), (mu_n' (hne (i := 11) (j := 2) (by omega)) h_dd), (mu_n' (hne (i := 12) (j := 2) (by omega)) h_bb), (mu_n' (hne (i := 13) (j := 2) (by omega)) h_rr), (mu_n' (hne (i := 14) (j := 2) (by omega)) h_to), (mu_n' (hne (i := 15) (j := 2) (by omega)) h_tS), (mu_n' (hne (i := 16) (j := 2) (by omega)) h_tP), (mu_n' (hne (i := 17) (j := 2) (by omega)) h_ep), (mu_n' (hne (i := 18) (j := 2) (by omega)) h_hd), (mu_n' (hne (i := 19) (j := 2) (by omega)) h_sc), (mu_n' (hne (i := 20) (j := 2) (by omega)) h_os), (mu_n' (hne (i := 21) (j := 2) (by omega)) h_no), (mu_n' (hne (i := 22) (j := 2) (by omega)) h_nA), (fun e he => (mu_n' (hne (i := (23 + 6 * e)) (j := 2) (by omega)) (hE0 e (by omega)))), (fun e he => (mu_n' (hne (i := (24 + 6 * e)) (j := 2) (by omega)) (hE1 e (by omega)))), (fun e he => (mu_n' (hne (i := (25 + 6 * e)) (j := 2) (by omega)) (hE2 e (by omega)))), (fun e he => (mu_n' (hne (i := (26 + 6 * e)) (j := 2) (by omega)) (hE3 e (by omega)))), (fun e he => (mu_n' (hne (i := (27 + 6 * e)) (j := 2) (by omega)) (hE4 e (by omega)))), (fun e he => (mu_n' (hne (i := (28 + 6 * e)) (j := 2) (by omega)) (hE5 e (by omega)))), hroP, hroE, hri, hun⟩, (fun a ha => (mu_n' (ha _) rfl))⟩) dd_P_add_11)

set_option maxHeartbeats 4000000 in
set_option maxRecDepth 100000 in
theorem c_P_remove (l : Launch) {G : mg_} {M : mw_} {ap : Nat → Nat} {hs N Vt nw Hd fc n1 Ex : Nat} {Pd : rl_} {Ls : Nat → rl_} {w g0 : Nat → Int32} {f t0 d0 b0 q0 s0 o0 td mn mo mq : Nat → Int64} {ef eu ei : Nat → Nat → Int64} {eg : Nat → Nat → Int32} {sx : Int64}   (hne : ∀ {i j : Nat}, i ≠ j → ap i ≠ ap j) (hsi : SI_ hs N Vt Pd Ls nw Hd fc) (hP : PX_ G ap hs N Vt Pd Ls nw Hd fc n1 Ex w g0 f t0 d0 b0 q0 s0 o0 td mn mo mq ef eu ei eg M)  : ct_ l my_P_remove cd_P_remove 5 (some .int) { frames := 5, cells := 0, slots := 0, locals := 129 } G [.ref (ap 0), .long sx] M (fun v0 M' => v0 = (some (.int (rmR_ hs (prime_ sx) Pd sx))) ∧ PW_ G ap hs N Vt (rmL_ hs (prime_ sx) Pd sx) Ls nw Hd fc M' ∧ fr_ ap M M') 0 0 := by
  refine ct_.intro2 (by decide) (Nat.le_of_ble_eq_true rfl) ?_
  intro p e s m args below meth c ls R Q hR hQ C0 hl hM hS
  have hx := C0.1
  have hb := C0.2.1
  have hl : lv_has ls 5 [(0, .ref (ap 0)), (1, .long sx)] := hl
  obtain ⟨h_po, h_so, h_wA, h_r, h_th, h_td, h_un, h_mn, h_mo, h_mq, h_tt, h_dd, h_bb, h_rr, h_to, h_tS, h_tP, h_ep, h_hd, h_sc, h_os, h_no, h_nA, hE0, hE1, hE2, hE3, hE4, hE5, hroP, hroE, hri, hun⟩ := hP
  obtain ⟨⟨hPn, hLn, hnw, hPp, hLp, hPd, hLd⟩, hhs, hNb, hVb, hHb, hfc, h00⟩ := hsi
  have hnw17 : nw < 17 := by omega
  refine lv_aload_n hx hb dd_P_remove_0 rfl (lv_at hl 0 rfl) ?_
  refine lv_lload_n hx hb dd_P_remove_1 rfl (lv_at hl 1 rfl) ?_
  refine mr_callV (As := [.long sx]) (rest := []) C0 hM hS vk_P_74 h_po rfl (c_P_primeOrRefusal_J l h_po h_so h_wA hne  hhs) rfl rfl hl.1 (Nat.le_of_ble_eq_true rfl) rfl rfl (by subst hR; exact ⟨Nat.le_of_ble_eq_true rfl, Nat.le_of_ble_eq_true rfl⟩) (by subst hR; exact ⟨Nat.le_of_ble_eq_true rfl, Nat.le_of_ble_eq_true rfl⟩) dd_P_remove_2 (fun v1 M1 H locs hp hM hS => ?_)
  obtain ⟨ev1, w1, eM1⟩ := hp
  subst ev1
  rw [eM1] at hM
  have hM : mm_ G (mu_ M (ap 2) (ia_ G 64 w1)) H := hM
  refine W.eq (g2 := F0 m 5 ls [.int (prR_ hs sx)]) rfl ?_
  refine lv_istore_n (lv' := [(3, .int (prR_ hs sx)), (0, .ref (ap 0)), (1, .long sx)]) hx hb dd_P_remove_5 rfl hl (by decide) rfl (fun ls hl => ?_)
  refine lv_iload_n hx hb dd_P_remove_6 rfl (lv_at hl 0 rfl) ?_
  refine lv_if_ge (tgt := 12) hx hb dd_P_remove_7 rfl (fun h7 => ?_) (fun h7 => ?_)
  · skip
    obtain ⟨hh1, x0, hxl, hxu, hpx⟩ := prR_pos hhs h7
    have hpr := prR_1 (s := sx) hh1
    have hprx := hpr.trans hpx
    have hpm : ¬ prime_ sx = (-2) := by rw [hpx]; exact m2_ne hxu
    have hpn : pn_ (prime_ sx) = x0 := by rw [hpx]; exact pn_i hxu
    obtain ⟨rfl, rfl, rfl, rfl, hn1, hinv⟩ := hri hh1
    obtain ⟨Bi, hBi⟩ := bi_ex hinv
    have hN : N < 4294967296 ^ 4 := Nat.lt_of_lt_of_eq (hNb hh1).1 (by decide)
    have hNl := (hNb hh1).2
    have hN1 : 1 < N := by omega
    have hV3 : 3 < N := by omega
    have hN0 : 0 < N := by omega
    have hHd := hHb hh1
    have hVt : Vt < N := by rw [(hVb hh1).1]; exact (hVb hh1).2
    have hue := hun hh1
    refine lv_aload_n hx hb dd_P_remove_12 rfl (lv_at hl 1 rfl) ?_
    refine mr_get C0 hM fk_P_26 (mu_n' (hne (i := 0) (j := 2) (by omega)) h_po) (v := .ref (ap 14)) rfl dd_P_remove_13 ?_
    refine lv_lload_n hx hb dd_P_remove_16 rfl (lv_at hl 2 rfl) ?_
    refine mr_callV (As := [.long sx]) (rest := []) C0 hM hS vk_P_93 (mu_n' (hne (i := 14) (j := 2) (by omega)) h_to) rfl (c_T_placeOf l (mu_n' (hne (i := 14) (j := 2) (by omega)) h_to) (mu_n' (hne (i := 15) (j := 2) (by omega)) h_tS)  (fun j hj => (hroP j hj).1) hPn) rfl rfl hl.1 (Nat.le_of_ble_eq_true rfl) rfl rfl (by subst hR; exact ⟨Nat.le_of_ble_eq_true rfl, Nat.le_of_ble_eq_true rfl⟩) (by subst hR; exact ⟨Nat.le_of_ble_eq_true rfl, Nat.le_of_ble_eq_true rfl⟩) dd_P_remove_17 (fun v1 M1 H locs hp hM hS => ?_)
    obtain ⟨ev1, eM1⟩ := hp
    subst ev1
    rw [eM1] at hM
    refine W.eq (g2 := F0 m 20 ls [.int (pz_ Pd sx)]) rfl ?_
    refine lv_istore (lv' := [(4, .int (pz_ Pd sx)), (3, .int (prR_ hs sx)), (0, .ref (ap 0)), (1, .long sx)]) hx hb dd_P_remove_20 hl (by decide) rfl (fun ls hl => ?_)
    refine lv_iload hx hb dd_P_remove_22 (lv_at hl 0 rfl) ?_
    refine lv_if_ge (tgt := 30) hx hb dd_P_remove_24 rfl (fun h24 => ?_) (fun h24 => ?_)
    · skip
      have hv : hs_ Pd sx = true := by
        cases h : hs_ Pd sx with
        | true => rfl
        | false => exact absurd ((pz_neg hPn).mpr h) (Int32.not_lt.mpr h24)
      obtain ⟨q0, hpx2, hpz, hq0, hsq⟩ := pz_some hv
      refine lv_aload_n hx hb dd_P_remove_30 rfl (lv_at hl 2 rfl) ?_
      refine mr_get C0 hM fk_P_26 (mu_n' (hne (i := 0) (j := 2) (by omega)) h_po) (v := .ref (ap 14)) rfl dd_P_remove_31 ?_
      refine lv_iload hx hb dd_P_remove_34 (lv_at hl 0 rfl) ?_
      refine mr_vi (x' := nI q0) (hpz) ?_
      refine mr_callV (As := [.int (nI q0)]) (rest := []) C0 hM hS vk_P_96 (mu_n' (hne (i := 14) (j := 2) (by omega)) h_to) rfl (c_T_delete l (mu_n' (hne (i := 14) (j := 2) (by omega)) h_to) (mu_n' (hne (i := 15) (j := 2) (by omega)) h_tS) (mu_n' (hne (i := 16) (j := 2) (by omega)) h_tP)  hroP hPn hq0) rfl rfl hl.1 (Nat.le_of_ble_eq_true rfl) rfl rfl (by subst hR; exact ⟨Nat.le_of_ble_eq_true rfl, Nat.le_of_ble_eq_true rfl⟩) (by subst hR; exact ⟨Nat.le_of_ble_eq_true rfl, Nat.le_of_ble_eq_true rfl⟩) dd_P_remove_36 (fun v1 M1 H locs hp hM hS => ?_)
      obtain ⟨ev1, f1, g1, hro1, eM1⟩ := hp
      subst ev1
      rw [eM1] at hM
      have hM : mm_ G (mu_ (mu_ (mu_ (mu_ M (ap 2) (ia_ G 64 w1)) (ap 15) (la_ G 10 f1)) (ap 16) (ia_ G 10 g1)) (ap 14) (ob_ 3 [.ref (ap 15), .ref (ap 16), .int (nI (List.length Pd - 1))])) H := hM
      refine W.eq (g2 := F0 m 39 ls []) rfl ?_
      refine lv_aload_n hx hb dd_P_remove_39 rfl (lv_at hl 2 rfl) ?_
      refine mr_get C0 hM fk_P_26 (mu_n' (hne (i := 0) (j := 14) (by omega)) (mu_n' (hne (i := 0) (j := 16) (by omega)) (mu_n' (hne (i := 0) (j := 15) (by omega)) (mu_n' (hne (i := 0) (j := 2) (by omega)) h_po)))) (v := .ref (ap 14)) rfl dd_P_remove_40 ?_
      refine mr_get C0 hM fk_P_85 mu_s (v := .int (nI (List.length Pd - 1))) rfl dd_P_remove_43 ?_
      have eL : rmL_ hs (prime_ sx) Pd sx = Pd.eraseIdx q0 := by
        unfold rmL_
        rw [if_neg (show ¬ hs = 0 by omega), if_neg hpm, hpx2]
      have elen : (Pd.eraseIdx q0).length = Pd.length - 1 := by rw [List.length_eraseIdx, if_pos hq0]
      exact mr_ret hQ (mr_iret C0 hM hS (rfl) (⟨by unfold rmR_; rw [if_neg (show ¬ hs = 0 by omega), if_neg hpm, if_pos hv], by rw [eL]; exact ⟨_, _, _, _, _, _, _, _, _, _, _, _, _, _, _, _, _, _, _, (mu_n' (hne (i := 0) (j := 14) (by omega)) (mu_n' (hne (i := 0) (j := 16) (by omega)) (mu_n' (hne (i := 0) (j := 15) (by omega)) (mu_n' (hne (i := 0) (j := 2) (by omega)) h_po)))), (mu_n' (hne (i := 1) (j := 14) (by omega)) (mu_n' (hne (i := 1) (j := 16) (by omega)) (mu_n' (hne (i := 1) (j := 15) (by omega)) (mu_n' (hne (i := 1) (j := 2) (by omega)) h_so)))), (mu_n' (hne (i := 2) (j := 14) (by omega)) (mu_n' (hne (i := 2) (j := 16) (by omega)) (mu_n' (hne (i := 2) (j := 15) (by omega)) mu_s))), (mu_n' (hne (i := 3) (j := 14) (by omega)) (mu_n' (hne (i := 3) (j := 16) (by omega)) (mu_n' (hne (i := 3) (j := 15) (by omega)) (mu_n' (hne (i := 3) (j := 2) (by omega)) h_r)))), (mu_n' (hne (i := 4) (j := 14) (by omega)) (mu_n' (hne (i := 4) (j := 16) (by omega)) (mu_n' (hne (i := 4) (j := 15) (by omega)) (mu_n' (hne (i := 4) (j := 2) (by omega)) h_th)))), (mu_n' (hne (i := 5) (j := 14) (by omega)) (mu_n' (hne (i := 5) (j := 16) (by omega)) (mu_n' (hne (i := 5) (j := 15) (by omega)) (mu_n' (hne (i := 5) (j := 2) (by omega)) h_td)))), (mu_n' (hne (i := 6) (j := 14) (by omega)) (mu_n' (hne (i := 6) (j := 16) (by omega)) (mu_n' (hne (i := 6) (j := 15) (by omega)) (mu_n' (hne (i := 6) (j := 2) (by omega)) h_un)))), (mu_n' (hne (i := 7) (j := 14) (by omega)) (mu_n' (hne (i := 7) (j := 16) (by omega)) (mu_n' (hne (i := 7) (j := 15) (by omega)) (mu_n' (hne (i := 7) (j := 2) (by omega)) h_mn)))), (mu_n' (hne (i := 8) (j := 14) (by omega)) (mu_n' (hne (i := 8) (j := 16) (by omega)) (mu_n' (hne (i := 8) (j := 15) (by omega)) (mu_n' (hne (i := 8) (j := 2) (by omega)) h_mo)))), (mu_n' (hne (i := 9) (j := 14) (by omega)) (mu_n' (hne (i := 9) (j := 16) (by omega)) (mu_n' (hne (i := 9) (j := 15) (by omega)) (mu_n' (hne (i := 9) (j := 2) (by omega)) h_mq)))), (mu_n' (hne (i := 10) (j := 14) (by omega)) (mu_n' (hne (i := 10) (j := 16) (by omega)) (mu_n' (hne (i := 10) (j := 15) (by omega)) (mu_n' (hne (i := 10) (j := 2) (by omega)) h_tt)))), (mu_n' (hne (i := 11) (j := 14) (by omega)) (mu_n' (hne (i := 11) (j := 16) (by omega)) (mu_n' (hne (i := 11) (j := 15) (by omega)) (mu_n' (hne (i := 11) (j := 2) (by omega)) h_dd)))), (mu_n' (hne (i := 12) (j := 14) (by omega)) (mu_n' (hne (i := 12) (j := 16) (by omega)) (mu_n' (hne (i := 12) (j := 15) (by omega)) (mu_n' (hne (i := 12) (j := 2) (by omega)) h_bb)))), (mu_n' (hne (i := 13) (j := 14) (by omega)) (mu_n' (hne (i := 13) (j := 16) (by omega)) (mu_n' (hne (i := 13) (j := 15) (by omega)) (mu_n' (hne (i := 13) (j := 2) (by omega)) h_rr)))), (by rw [elen]; exact mu_s), (mu_n' (hne (i := 15) (j := 14) (by omega)) (mu_n' (hne (i := 15) (j := 16) (by omega)) mu_s)), (mu_n' (hne (i := 16) (j := 14) (by omega)) mu_s), (mu_n' (hne (i := 17) (j := 14) (by omega)) (mu_n' (hne (i := 17) (j := 16) (by omega)) (mu_n' (hne (i := 17) (j := 15) (by omega)) (mu_n' (hne (i := 17) (j := 2) (by omega)) h_ep)))), (mu_n' (hne (i := 18) (j := 14) (by omega)) (mu_n' (hne (i := 18) (j := 16) (by omega)) (mu_n' (hne (i := 18) (j := 15) (by omega)) (mu_n' (hne (i := 18) (j := 2) (by omega)) h_hd)))), (mu_n' (hne (i := 19) (j := 14) (by omega)) (mu_n' (hne (i := 19) (j := 16) (by omega)) (mu_n' (hne (i := 19) (j := 15) (by omega)) (mu_n' (hne (i := 19) (j := 2) (by omega)) h_sc)))), (mu_n' (hne (i := 20) (j := 14) (by omega)) (mu_n' (hne (i := 20) (j := 16) (by omega)) (mu_n' (hne (i := 20) (j := 15) (by omega)) (mu_n' (hne (i := 20) (j := 2) (by omega)) h_os)))), (mu_n' (hne (i := 21) (j := 14) (by omega)) (mu_n' (hne (i := 21) (j := 16) (by omega)) (mu_n' (hne (i := 21) (j := 15) (by omega)) (mu_n' (hne (i := 21) (j := 2) (by omega)) h_no)))), (mu_n' (hne (i := 22) (j := 14) (by omega)) (mu_n' (hne (i := 22) (j := 16) (by omega)) (mu_n' (hne (i := 22) (j := 15) (by omega)) (mu_n' (hne (i := 22) (j := 2) (by omega)) h_nA)))), (fun e he => (mu_n' (hne (i := (23 + 6 * e)) (j := 14) (by omega)) (mu_n' (hne (i := (23 + 6 * e)) (j := 16) (by omega)) (mu_n' (hne (i := (23 + 6 * e)) (j := 15) (by omega)) (mu_n' (hne (i := (23 + 6 * e)) (j := 2) (by omega)) (hE0 e (by omega))))))), (fun e he => (mu_n' (hne (i := (24 + 6 * e)) (j := 14) (by omega)) (mu_n' (hne (i := (24 + 6 * e)) (j := 16) (by omega)) (mu_n' (hne (i := (24 + 6 * e)) (j := 15) (by omega)) (mu_n' (hne (i := (24 + 6 * e)) (j := 2) (by omega)) (hE1 e (by omega))))))), (fun e he => (mu_n' (hne (i := (25 + 6 * e)) (j := 14) (by omega)) (mu_n' (hne (i := (25 + 6 * e)) (j := 16) (by omega)) (mu_n' (hne (i := (25 + 6 * e)) (j := 15) (by omega)) (mu_n' (hne (i := (25 + 6 * e)) (j := 2) (by omega)) (hE2 e (by omega))))))), (fun e he => (mu_n' (hne (i := (26 + 6 * e)) (j := 14) (by omega)) (mu_n' (hne (i := (26 + 6 * e)) (j := 16) (by omega)) (mu_n' (hne (i := (26 + 6 * e)) (j := 15) (by omega)) (mu_n' (hne (i := (26 + 6 * e)) (j := 2) (by omega)) (hE3 e (by omega))))))), (fun e he => (mu_n' (hne (i := (27 + 6 * e)) (j := 14) (by omega)) (mu_n' (hne (i := (27 + 6 * e)) (j := 16) (by omega)) (mu_n' (hne (i := (27 + 6 * e)) (j := 15) (by omega)) (mu_n' (hne (i := (27 + 6 * e)) (j := 2) (by omega)) (hE4 e (by omega))))))), (fun e he => (mu_n' (hne (i := (28 + 6 * e)) (j := 14) (by omega)) (mu_n' (hne (i := (28 + 6 * e)) (j := 16) (by omega)) (mu_n' (hne (i := (28 + 6 * e)) (j := 15) (by omega)) (mu_n' (hne (i := (28 + 6 * e)) (j := 2) (by omega)) (hE5 e (by omega))))))), hro1, hroE, hri, hun⟩, (fun a ha => (mu_n' (ha _) (mu_n' (ha _) (mu_n' (ha _) (mu_n' (ha _) rfl)))))⟩) dd_P_remove_46)
    · skip
      have hv : hs_ Pd sx = false := (pz_neg hPn).mp (Int32.not_le.mp h24)
      refine lv_bipush (v := (-4 : Int32)) hx hb dd_P_remove_27 (by decide) ?_
      have eL : rmL_ hs (prime_ sx) Pd sx = Pd := by
        have h := hs_px Pd sx
        rw [hv] at h
        unfold rmL_
        rw [if_neg (show ¬ hs = 0 by omega), if_neg hpm]
        cases h2 : px_ Pd sx with
        | none => rfl
        | some z => rw [h2] at h; simp at h
      exact mr_ret hQ (mr_iret C0 hM hS (rfl) (⟨by unfold rmR_; rw [if_neg (show ¬ hs = 0 by omega), if_neg hpm, if_neg (by rw [hv]; decide)], by rw [eL]; exact ⟨_, _, _, _, _, _, _, _, _, _, _, _, _, _, _, _, _, _, _, (mu_n' (hne (i := 0) (j := 2) (by omega)) h_po), (mu_n' (hne (i := 1) (j := 2) (by omega)) h_so), mu_s, (mu_n' (hne (i := 3) (j := 2) (by omega)) h_r), (mu_n' (hne (i := 4) (j := 2) (by omega)) h_th), (mu_n' (hne (i := 5) (j := 2) (by omega)) h_td), (mu_n' (hne (i := 6) (j := 2) (by omega)) h_un), (mu_n' (hne (i := 7) (j := 2) (by omega)) h_mn), (mu_n' (hne (i := 8) (j := 2) (by omega)) h_mo), (mu_n' (hne (i := 9) (j := 2) (by omega)) h_mq), (mu_n' (hne (i := 10) (j := 2) (by omega)) h_tt), (mu_n' (hne (i := 11) (j := 2) (by omega)) h_dd), (mu_n' (hne (i := 12) (j := 2) (by omega)) h_bb), (mu_n' (hne (i := 13) (j := 2) (by omega)) h_rr), (mu_n' (hne (i := 14) (j := 2) (by omega)) h_to), (mu_n' (hne (i := 15) (j := 2) (by omega)) h_tS), (mu_n' (hne (i := 16) (j := 2) (by omega)) h_tP), (mu_n' (hne (i := 17) (j := 2) (by omega)) h_ep), (mu_n' (hne (i := 18) (j := 2) (by omega)) h_hd), (mu_n' (hne (i := 19) (j := 2) (by omega)) h_sc), (mu_n' (hne (i := 20) (j := 2) (by omega)) h_os), (mu_n' (hne (i := 21) (j := 2) (by omega)) h_no), (mu_n' (hne (i := 22) (j := 2) (by omega)) h_nA), (fun e he => (mu_n' (hne (i := (23 + 6 * e)) (j := 2) (by omega)) (hE0 e (by omega)))), (fun e he => (mu_n' (hne (i := (24 + 6 * e)) (j := 2) (by omega)) (hE1 e (by omega)))), (fun e he => (mu_n' (hne (i := (25 + 6 * e)) (j := 2) (by omega)) (hE2 e (by omega)))), (fun e he => (mu_n' (hne (i := (26 + 6 * e)) (j := 2) (by omega)) (hE3 e (by omega)))), (fun e he => (mu_n' (hne (i := (27 + 6 * e)) (j := 2) (by omega)) (hE4 e (by omega)))), (fun e he => (mu_n' (hne (i := (28 + 6 * e)) (j := 2) (by omega)) (hE5 e (by omega)))), hroP, hroE, hri, hun⟩, (fun a ha => (mu_n' (ha _) rfl))⟩) dd_P_remove_29)
  · skip
    refine lv_iload_n hx hb dd_P_remove_10 rfl (lv_at hl 0 rfl) ?_
    have eR : rmR_ hs (prime_ sx) Pd sx = prR_ hs sx ∧ rmL_ hs (prime_ sx) Pd sx = Pd := by
      rcases prR_neg hhs h7 with h0 | ⟨h0, h2⟩
      · simp [rmR_, rmL_, prR_, h0]
      · simp [rmR_, rmL_, prR_, h0, h2]
    exact mr_ret hQ (mr_iret C0 hM hS (rfl) (⟨by rw [eR.1], by rw [eR.2]; exact ⟨_, _, _, _, _, _, _, _, _, _, _, _, _, _, _, _, _, _, _, (mu_n' (hne (i := 0) (j := 2) (by omega)) h_po), (mu_n' (hne (i := 1) (j := 2) (by omega)) h_so), mu_s, (mu_n' (hne (i := 3) (j := 2) (by omega)) h_r), (mu_n' (hne (i := 4) (j := 2) (by omega)) h_th), (mu_n' (hne (i := 5) (j := 2) (by omega)) h_td), (mu_n' (hne (i := 6) (j := 2) (by omega)) h_un), (mu_n' (hne (i := 7) (j := 2) (by omega)) h_mn), (mu_n' (hne (i := 8) (j := 2) (by omega)) h_mo), (mu_n' (hne (i := 9) (j := 2) (by omega)) h_mq), (mu_n' (hne (i := 10) (j := 2) (by omega)) h_tt), (mu_n' (hne (i := 11) (j := 2) (by omega)) h_dd), (mu_n' (hne (i := 12) (j := 2) (by omega)) h_bb), (mu_n' (hne (i := 13) (j := 2) (by omega)) h_rr), (mu_n' (hne (i := 14) (j := 2) (by omega)) h_to), (mu_n' (hne (i := 15) (j := 2) (by omega)) h_tS), (mu_n' (hne (i := 16) (j := 2) (by omega)) h_tP), (mu_n' (hne (i := 17) (j := 2) (by omega)) h_ep), (mu_n' (hne (i := 18) (j := 2) (by omega)) h_hd), (mu_n' (hne (i := 19) (j := 2) (by omega)) h_sc), (mu_n' (hne (i := 20) (j := 2) (by omega)) h_os), (mu_n' (hne (i := 21) (j := 2) (by omega)) h_no), (mu_n' (hne (i := 22) (j := 2) (by omega)) h_nA), (fun e he => (mu_n' (hne (i := (23 + 6 * e)) (j := 2) (by omega)) (hE0 e (by omega)))), (fun e he => (mu_n' (hne (i := (24 + 6 * e)) (j := 2) (by omega)) (hE1 e (by omega)))), (fun e he => (mu_n' (hne (i := (25 + 6 * e)) (j := 2) (by omega)) (hE2 e (by omega)))), (fun e he => (mu_n' (hne (i := (26 + 6 * e)) (j := 2) (by omega)) (hE3 e (by omega)))), (fun e he => (mu_n' (hne (i := (27 + 6 * e)) (j := 2) (by omega)) (hE4 e (by omega)))), (fun e he => (mu_n' (hne (i := (28 + 6 * e)) (j := 2) (by omega)) (hE5 e (by omega)))), hroP, hroE, hri, hun⟩, (fun a ha => (mu_n' (ha _) rfl))⟩) dd_P_remove_11)
