
def jl_ (x y : Int32) : Int64 := lsl_ x.toInt64 (nI 32) ||| (y.toInt64 &&& lN 4294967295)
def ju_ (x y : Int32) : Nat := (jl_ x y).toBitVec.toNat
theorem ju_lt (x y : Int32) : ju_ x y < 18446744073709551616 := (jl_ x y).toBitVec.isLt
theorem ju_eq (x y : Int32) : jl_ x y = lN (ju_ x y) := by
  apply Int64.toBitVec_inj.mp
  show _ = BitVec.ofNat 64 _
  simp [ju_]
theorem lw_gt {L j : Nat} (hL : L ≤ 3072) (hj : 6 * j ≤ 3072) (h : L < 6 * j + 6) : nI L - nI 6 < nI (6 * j) := by
  by_cases h6 : 6 ≤ L
  · rw [pk_sub h6]; exact lt_nI (by omega) (by omega) (by omega)
  · have h0 : nI L - nI 6 < 0 := by
      have : L = 0 ∨ L = 1 ∨ L = 2 ∨ L = 3 ∨ L = 4 ∨ L = 5 := by omega
      rcases this with q | q | q | q | q | q <;> rw [q] <;> decide
    exact Int32.lt_of_lt_of_le h0 (z_le (by omega))
theorem lw_ngt {L j : Nat} (hL : L ≤ 3072) (h : 6 * j + 6 ≤ L) : ¬ nI L - nI 6 < nI (6 * j) := by
  rw [pk_sub (by omega)]; exact nlt_nI (by omega) (by omega) (by omega)
theorem lw_inc (j : Nat) : nI (6 * j) + Int32.ofInt 6 = nI (6 * (j + 1)) := nI_add (6 * j) 6
theorem mr_sld {p : Program} {l : Launch} {e : Env} {R : Room} {s : State} {m : MethodId} {args : Array Value} {below : List Frame} {meth : Method} {c : Code} {H : Heap} {locs : List Loc} {cells slots : Nat} {Q : State → Prop} {cc : ByteArray} {pc : Nat} {ls : Array Slot} {rest : List Value} {G : mg_} {b L : Nat} {xs : Nat → Int32} (hx : p.tables.exec = Jvm.exec) (hb : c.code = cc) (hX : va_X b L xs s s.heap) (hbl : b < s.heap.size) (hbA : ¬ fz_ G b) (hS : va_S (fz_ G) s.heap H locs) {x : Int32} (i : Nat) (hxi : x = nI i) (hi : i < L) (hL : L ≤ 3072) (hdg : decode cc pc = .ok (.iaload, 1))
    (kk : W p l e R s m args below meth c H locs cells slots Q (F0 m (pc + 1) ls (.int (xs i) :: rest))) : W p l e R s m args below meth c H locs cells slots Q (F0 m pc ls (.int x :: .ref b :: rest)) := by
  refine va_sld hx hb hX hbl hbA hS (mr_in hxi hi (by omega)) hdg ?_
  rw [mr_cl hxi hi (by omega)]
  exact kk
theorem hi_UL {U L : Nat} (hL : L < 18446744073709551616) : lN U = hi_ (U * 18446744073709551616 + L) := congrArg lN (by omega)
theorem lo_UL {U L : Nat} (hL : L < 18446744073709551616) : lN L = lo_ (U * 18446744073709551616 + L) := congrArg lN (by omega)
theorem MS_w {G : mg_} {am : Nat → Nat} {hs N Vt nw Hd fc : Nat} {Pd : rl_} {Ls : Nat → rl_} {M : mw_} {w' : Nat → Int32} (hne : ∀ {i j : Nat}, i ≠ j → am i ≠ am j) (h : MS_ G am hs N Vt Pd Ls nw Hd fc M) : MS_ G am hs N Vt Pd Ls nw Hd fc (mu_ M (am 2) (ia_ G 64 w')) ∧ fr_ am M (mu_ M (am 2) (ia_ G 64 w')) := by
  obtain ⟨w, g0, cf, qf, xw, f, sf, uf, lf, r1, r0, hrl, hk, h_2, h_3, h_4, h_5, h_6, h_7, h_8, h_9, h_10, h_0⟩ := h
  exact ⟨⟨w', g0, cf, qf, xw, f, sf, uf, lf, r1, r0, hrl, mu_n' (hne (by decide)) hk, mu_s, mu_n' (hne (by decide)) h_3, mu_n' (hne (by decide)) h_4, mu_n' (hne (by decide)) h_5, mu_n' (hne (by decide)) h_6, mu_n' (hne (by decide)) h_7, mu_n' (hne (by decide)) h_8, mu_n' (hne (by decide)) h_9, mu_n' (hne (by decide)) h_10, mu_n' (hne (by decide)) h_0⟩, fun a ha => mu_n (ha _)⟩
theorem prT_pn (s : Int64) : primeT_ s = (-2) ∨ (2 ≤ pn_ (primeT_ s) ∧ pn_ (primeT_ s) < 2147483648) := by
  by_cases h : primeT_ s = (-2)
  · exact Or.inl h
  · obtain ⟨x, h1, h2, -, -, h3⟩ := primeT_in h
    rw [h3, pn_i h2]
    exact Or.inr ⟨by omega, h2⟩

set_option maxHeartbeats 40000000 in
set_option maxRecDepth 100000 in
/-- from the entry, for every script of at most 3072 ints, the law comes to its end with true -/
theorem whole_start {p : Program} {e : Env} {s : State} {m : MethodId} {below : List Frame} {meth : Method} {c : Code} (l : Launch) {b L : Nat} {xs : Nat → Int32} (hL : L ≤ 3072) (C0 : lw_At p s m meth c b L xs) : W p l e room_1 s m #[Value.ref b] below meth c s.heap [] 0 0 (lw_Z below #[Value.ref b] s) (entryFrame m ([Value.ref b] : List Value).toArray 4) := by
  obtain ⟨G, hz, hks, hkz⟩ := law_G C0
  obtain ⟨hx, hb, hr, hml, hown, hts, hX, hbl, hlocks, hgv⟩ := C0
  have C0 : cx_ G p s m #[Value.ref b] meth c code 4 ret ⟨"PartsAccumulatorLaw", meth.name, ""⟩ := ⟨hx, hb, hr, hlocks, hml, hown, fun w hw => hts w (List.mem_filter.mp hw).1, hks, hkz, rfl⟩
  have hbA : ¬ fz_ G b := by show ¬ gz G ≤ b; omega
  have hl := lv_entry ([.ref b]) (n := 4) (Nat.le_of_ble_eq_true rfl)
  rw [lg_entry_eq]
  generalize (lg_sl ([.ref b]) ++ List.replicate (4 - (lg_sl ([.ref b])).length) Slot.unset).toArray = ls at hl ⊢
  have hl : lv_has ls 4 [(0, .ref b)] := hl
  have hM : mm_ G (fun _ => none) s.heap := ⟨by rw [hz]; exact Nat.le_refl _, fun a e h => by cases h⟩
  have hS : va_S (fz_ G) s.heap s.heap [] := va_S.rf
  obtain ⟨R, hR⟩ : ∃ R, R = room_1 := ⟨_, rfl⟩
  rw [← hR]
  refine mr_newoF (ci := 5) (fs := [.null, .null, .null, .null, .null, .null, .null, .null, .int (nI 0), .int (nI 0), .int (nI 0)]) C0 hM hS rfl ly_P ok_P tw_10 tw_11 tw_1 (fun j hj => by match j, hj with | 0, _ => rfl | 1, _ => rfl | 2, _ => rfl | 3, _ => rfl | 4, _ => rfl | 5, _ => rfl | 6, _ => rfl | 7, _ => rfl | 8, _ => rfl | 9, _ => rfl | 10, _ => rfl | n + 11, h => exact absurd h (by omega)) (by subst hR; exact Nat.le_of_ble_eq_true rfl) (by subst hR; exact Nat.le_of_ble_eq_true rfl) dd_L_law_0 (fun o1 H f_o1 hM hS => ?_)
  refine lv_dup hx hb dd_L_law_3 rfl ?_
  refine mr_callJ (As := []) (rest := [.ref o1]) C0 hM hS tw_14 tw_12 tw_1 tw_13 ⟨by decide, by decide, by decide +kernel⟩ rfl (c_P_init l mu_s) rfl rfl hl.1 (Nat.le_of_ble_eq_true rfl) rfl rfl (by subst hR; exact ⟨Nat.le_of_ble_eq_true rfl, Nat.le_of_ble_eq_true rfl⟩) (by subst hR; exact ⟨Nat.le_of_ble_eq_true rfl, Nat.le_of_ble_eq_true rfl⟩) dd_L_law_4 (fun v1 M2 H locs hp hM hS => ?_)
  obtain ⟨ev1, hPI⟩ := hp
  subst ev1
  refine W.eq (g2 := F0 m 7 ls [.ref o1]) rfl ?_
  refine lv_astore_n (lv' := [(1, .ref o1), (0, .ref b)]) hx hb dd_L_law_7 rfl hl (by decide) rfl (fun ls hl => ?_)
  refine mr_newoF (ci := 6) (fs := [.null, .null, .int (nI 0), .long (lN 0), .long (lN 0), .long (lN 0), .long (lN 0), .int (nI 0), .null, .null, .int (nI 0), .null, .null, .null, .null, .null, .long (lN 0), .long (lN 0), .int (nI 0), .long (lN 0), .long (lN 0), .null]) C0 hM hS rfl ly_M ok_M tw_457 tw_458 tw_7 (fun j hj => by match j, hj with | 0, _ => rfl | 1, _ => rfl | 2, _ => rfl | 3, _ => rfl | 4, _ => rfl | 5, _ => rfl | 6, _ => rfl | 7, _ => rfl | 8, _ => rfl | 9, _ => rfl | 10, _ => rfl | 11, _ => rfl | 12, _ => rfl | 13, _ => rfl | 14, _ => rfl | 15, _ => rfl | 16, _ => rfl | 17, _ => rfl | 18, _ => rfl | 19, _ => rfl | 20, _ => rfl | 21, _ => rfl | n + 22, h => exact absurd h (by omega)) (by subst hR; exact Nat.le_of_ble_eq_true rfl) (by subst hR; exact Nat.le_of_ble_eq_true rfl) dd_L_law_8 (fun o2 H f_o2 hM hS => ?_)
  refine lv_dup hx hb dd_L_law_11 rfl ?_
  refine mr_callJ (As := []) (rest := [.ref o2]) C0 hM hS tw_461 tw_459 tw_7 tw_460 ⟨by decide, by decide, by decide +kernel⟩ rfl (c_M_init l mu_s) rfl rfl hl.1 (Nat.le_of_ble_eq_true rfl) rfl rfl (by subst hR; exact ⟨Nat.le_of_ble_eq_true rfl, Nat.le_of_ble_eq_true rfl⟩) (by subst hR; exact ⟨Nat.le_of_ble_eq_true rfl, Nat.le_of_ble_eq_true rfl⟩) dd_L_law_12 (fun v1 M4 H locs hp hM hS => ?_)
  obtain ⟨ev1, a1, a2, a3, a4, a5, a6, a7, a8, a9, a10, hx2, eM4⟩ := hp
  subst ev1
  obtain ⟨ap, am, M5, np, nm, nx, e1, e2, hLI, hmm⟩ := law_init mu_s hPI f_o2 rfl hx2 eM4
  have hM := hmm _ hM
  refine W.eq (g2 := F0 m 15 ls [.ref o2]) rfl ?_
  refine lv_astore_n (lv' := [(2, .ref o2), (1, .ref o1), (0, .ref b)]) hx hb dd_L_law_15 rfl hl (by decide) rfl (fun ls hl => ?_)
  refine lv_iconst (v := nI 0) hx hb dd_L_law_16 (by decide) ?_
  refine lv_istore_n (lv' := [(3, .int (nI 0)), (2, .ref o2), (1, .ref o1), (0, .ref b)]) hx hb dd_L_law_17 rfl hl (by decide) rfl (fun ls hl => ?_)
  have loop_18 : ∀ (k j : Nat) (M : mw_) (hs N Vt nw Hd fc : Nat) (Pd : rl_) (Ls : Nat → rl_) (H : Heap) (locs : List Loc) (ls : Array Slot), j + k = L / 6 → LI_ G ap am hs N Vt Pd Ls nw Hd fc M → mm_ G M H → va_S (fz_ G) s.heap H locs → lv_has ls 4 [(0, .ref b), (1, .ref (ap 0)), (2, .ref (am 0)), (3, .int (nI (6 * j)))] → W p l e R s m #[Value.ref b] below meth c H locs 136 1332 (lw_Z below #[Value.ref b] s) (F0 m 18 ls []) := by
    intro k
    induction k with
    | zero =>
      intro j M hs N Vt nw Hd fc Pd Ls H locs ls hj hLI hM hS hl
      have hLI0 := hLI
      obtain ⟨hsi, hPW, hMS⟩ := hLI0
      obtain ⟨n1, Ex, w, g0, f, t0, d0, b0, q0, s0, o0, td, mn, mo, mq, ef, eu, ei, eg, hP⟩ := hPW
      have h_po := hP.1
      refine lv_iload_n hx hb dd_L_law_18 rfl (lv_at hl 3 rfl) ?_
      refine lv_aload_n hx hb dd_L_law_19 rfl (lv_at hl 0 rfl) ?_
      refine va_slen hx hb hX hbl hbA hS dd_L_law_20 ?_
      refine mr_vi (x' := nI L) rfl ?_
      refine lv_bipush (v := nI 6) hx hb dd_L_law_21 (by decide) ?_
      refine lv_isub hx hb dd_L_law_23 ?_
      refine lv_icmp_gt (tgt := 1091) hx hb dd_L_law_24 rfl (fun _ => ?_) (fun hc => absurd (lw_gt hL (by omega) (by omega)) hc)
      refine lv_iconst (v := nI 1) hx hb dd_L_law_1091 (by decide) ?_
      subst hR
      refine va_forget (fun q hq => by have h1 := hS.2.2 q hq; rw [← hz]; exact h1) (W.widen (k := 600000) (n := 7302250) (by decide) (by decide) ?_)
      exact lw_ret hx hb hr hlocks dd_L_law_1092
    | succ k ih =>
      intro j M hs N Vt nw Hd fc Pd Ls H locs ls hj hLI hM hS hl
      have hLI0 := hLI
      obtain ⟨hsi, hPW, hMS⟩ := hLI0
      obtain ⟨n1, Ex, w, g0, f, t0, d0, b0, q0, s0, o0, td, mn, mo, mq, ef, eu, ei, eg, hP⟩ := hPW
      have h_po := hP.1
      have hjL : 6 * j + 6 ≤ L := by omega
      refine lv_iload_n hx hb dd_L_law_18 rfl (lv_at hl 3 rfl) ?_
      refine lv_aload_n hx hb dd_L_law_19 rfl (lv_at hl 0 rfl) ?_
      refine va_slen hx hb hX hbl hbA hS dd_L_law_20 ?_
      refine mr_vi (x' := nI L) rfl ?_
      refine lv_bipush (v := nI 6) hx hb dd_L_law_21 (by decide) ?_
      refine lv_isub hx hb dd_L_law_23 ?_
      refine lv_icmp_gt (tgt := 1091) hx hb dd_L_law_24 rfl (fun hc => absurd hc (lw_ngt hL (by omega))) (fun _ => ?_)
      refine lv_aload_n hx hb dd_L_law_27 rfl (lv_at hl 0 rfl) ?_
      refine lv_iload_n hx hb dd_L_law_28 rfl (lv_at hl 3 rfl) ?_
      refine mr_sld hx hb hX hbl hbA hS ((6 * j)) rfl (by omega) hL dd_L_law_29 ?_
      refine lv_bipush (v := nI 31) hx hb dd_L_law_30 (by decide) ?_
      refine lv_iand hx hb dd_L_law_32 ?_
      by_cases q33_0 : ((xs (6 * j)) &&& (nI 31)) = nI 0
      · refine lv_tableIn (tgt := 120) (off := 87) hx hb dd_L_law_33 (by rw [q33_0]; decide) (by rw [q33_0]; decide) (by rw [q33_0]; rfl) rfl ?_
        refine lv_aload_n hx hb dd_L_law_120 rfl (lv_at hl 1 rfl) ?_
        refine lv_aload_n hx hb dd_L_law_121 rfl (lv_at hl 0 rfl) ?_
        refine lv_iload_n hx hb dd_L_law_122 rfl (lv_at hl 3 rfl) ?_
        refine lv_iconst (v := nI 1) hx hb dd_L_law_123 (by decide) ?_
        refine lv_iadd hx hb dd_L_law_124 ?_
        refine mr_vi (nI_add (6 * j) 1) ?_
        refine mr_sld hx hb hX hbl hbA hS (((6 * j) + 1)) rfl (by omega) hL dd_L_law_125 ?_
        refine lv_i2l (v := (xs ((6 * j) + 1)).toInt64) hx hb dd_L_law_126 (rfl) ?_
        refine lv_bipush (v := nI 32) hx hb dd_L_law_127 (by decide) ?_
        refine lv_lshl (v := lsl_ ((xs ((6 * j) + 1)).toInt64) (nI 32)) hx hb dd_L_law_129 (rfl) ?_
        refine lv_aload_n hx hb dd_L_law_130 rfl (lv_at hl 0 rfl) ?_
        refine lv_iload_n hx hb dd_L_law_131 rfl (lv_at hl 3 rfl) ?_
        refine lv_iconst (v := nI 2) hx hb dd_L_law_132 (by decide) ?_
        refine lv_iadd hx hb dd_L_law_133 ?_
        refine mr_vi (nI_add (6 * j) 2) ?_
        refine mr_sld hx hb hX hbl hbA hS (((6 * j) + 2)) rfl (by omega) hL dd_L_law_134 ?_
        refine lv_i2l (v := (xs ((6 * j) + 2)).toInt64) hx hb dd_L_law_135 (rfl) ?_
        refine mr_ldc2 (v := lN 4294967295) C0 tw_736 dd_L_law_136 ?_
        refine lv_land hx hb dd_L_law_139 ?_
        refine lv_lor hx hb dd_L_law_140 ?_
        refine mr_vl (x' := lN (ju_ (xs (6 * j + 1)) (xs (6 * j + 2)))) (ju_eq _ _) ?_
        refine lv_aload_n hx hb dd_L_law_141 rfl (lv_at hl 0 rfl) ?_
        refine lv_iload_n hx hb dd_L_law_142 rfl (lv_at hl 3 rfl) ?_
        refine lv_iconst (v := nI 3) hx hb dd_L_law_143 (by decide) ?_
        refine lv_iadd hx hb dd_L_law_144 ?_
        refine mr_vi (nI_add (6 * j) 3) ?_
        refine mr_sld hx hb hX hbl hbA hS (((6 * j) + 3)) rfl (by omega) hL dd_L_law_145 ?_
        refine lv_i2l (v := (xs ((6 * j) + 3)).toInt64) hx hb dd_L_law_146 (rfl) ?_
        refine lv_bipush (v := nI 32) hx hb dd_L_law_147 (by decide) ?_
        refine lv_lshl (v := lsl_ ((xs ((6 * j) + 3)).toInt64) (nI 32)) hx hb dd_L_law_149 (rfl) ?_
        refine lv_aload_n hx hb dd_L_law_150 rfl (lv_at hl 0 rfl) ?_
        refine lv_iload_n hx hb dd_L_law_151 rfl (lv_at hl 3 rfl) ?_
        refine lv_iconst (v := nI 4) hx hb dd_L_law_152 (by decide) ?_
        refine lv_iadd hx hb dd_L_law_153 ?_
        refine mr_vi (nI_add (6 * j) 4) ?_
        refine mr_sld hx hb hX hbl hbA hS (((6 * j) + 4)) rfl (by omega) hL dd_L_law_154 ?_
        refine lv_i2l (v := (xs ((6 * j) + 4)).toInt64) hx hb dd_L_law_155 (rfl) ?_
        refine mr_ldc2 (v := lN 4294967295) C0 tw_736 dd_L_law_156 ?_
        refine lv_land hx hb dd_L_law_159 ?_
        refine lv_lor hx hb dd_L_law_160 ?_
        refine mr_vl (x' := lN (ju_ (xs (6 * j + 3)) (xs (6 * j + 4)))) (ju_eq _ _) ?_
        refine mr_callV (As := [.long (lN (ju_ (xs (6 * j + 1)) (xs (6 * j + 2)))), .long (lN (ju_ (xs (6 * j + 3)) (xs (6 * j + 4))))]) (rest := []) C0 hM hS vk_L_15 h_po rfl (c_P_modulus l np hsi hP (ju_lt _ _) (ju_lt _ _)) rfl rfl hl.1 (Nat.le_of_ble_eq_true rfl) rfl rfl (by subst hR; exact ⟨Nat.le_of_ble_eq_true rfl, Nat.le_of_ble_eq_true rfl⟩) (by subst hR; exact ⟨Nat.le_of_ble_eq_true rfl, Nat.le_of_ble_eq_true rfl⟩) dd_L_law_161 (fun v1 M1 H locs hp hM hS => ?_)
        obtain ⟨ev1, hPW1, hfr⟩ := hp
        subst ev1
        refine W.eq (g2 := F0 m 164 ls [.int (mdR_ hs ((ju_ (xs (6 * j + 1)) (xs (6 * j + 2))) * 18446744073709551616 + (ju_ (xs (6 * j + 3)) (xs (6 * j + 4)))))]) rfl ?_
        refine lv_aload_n hx hb dd_L_law_164 rfl (lv_at hl 2 rfl) ?_
        refine lv_aload_n hx hb dd_L_law_165 rfl (lv_at hl 0 rfl) ?_
        refine lv_iload_n hx hb dd_L_law_166 rfl (lv_at hl 3 rfl) ?_
        refine lv_iconst (v := nI 1) hx hb dd_L_law_167 (by decide) ?_
        refine lv_iadd hx hb dd_L_law_168 ?_
        refine mr_vi (nI_add (6 * j) 1) ?_
        refine mr_sld hx hb hX hbl hbA hS (((6 * j) + 1)) rfl (by omega) hL dd_L_law_169 ?_
        refine lv_i2l (v := (xs ((6 * j) + 1)).toInt64) hx hb dd_L_law_170 (rfl) ?_
        refine lv_bipush (v := nI 32) hx hb dd_L_law_171 (by decide) ?_
        refine lv_lshl (v := lsl_ ((xs ((6 * j) + 1)).toInt64) (nI 32)) hx hb dd_L_law_173 (rfl) ?_
        refine lv_aload_n hx hb dd_L_law_174 rfl (lv_at hl 0 rfl) ?_
        refine lv_iload_n hx hb dd_L_law_175 rfl (lv_at hl 3 rfl) ?_
        refine lv_iconst (v := nI 2) hx hb dd_L_law_176 (by decide) ?_
        refine lv_iadd hx hb dd_L_law_177 ?_
        refine mr_vi (nI_add (6 * j) 2) ?_
        refine mr_sld hx hb hX hbl hbA hS (((6 * j) + 2)) rfl (by omega) hL dd_L_law_178 ?_
        refine lv_i2l (v := (xs ((6 * j) + 2)).toInt64) hx hb dd_L_law_179 (rfl) ?_
        refine mr_ldc2 (v := lN 4294967295) C0 tw_736 dd_L_law_180 ?_
        refine lv_land hx hb dd_L_law_183 ?_
        refine lv_lor hx hb dd_L_law_184 ?_
        refine mr_vl (x' := lN (ju_ (xs (6 * j + 1)) (xs (6 * j + 2)))) (ju_eq _ _) ?_
        refine lv_aload_n hx hb dd_L_law_185 rfl (lv_at hl 0 rfl) ?_
        refine lv_iload_n hx hb dd_L_law_186 rfl (lv_at hl 3 rfl) ?_
        refine lv_iconst (v := nI 3) hx hb dd_L_law_187 (by decide) ?_
        refine lv_iadd hx hb dd_L_law_188 ?_
        refine mr_vi (nI_add (6 * j) 3) ?_
        refine mr_sld hx hb hX hbl hbA hS (((6 * j) + 3)) rfl (by omega) hL dd_L_law_189 ?_
        refine lv_i2l (v := (xs ((6 * j) + 3)).toInt64) hx hb dd_L_law_190 (rfl) ?_
        refine lv_bipush (v := nI 32) hx hb dd_L_law_191 (by decide) ?_
        refine lv_lshl (v := lsl_ ((xs ((6 * j) + 3)).toInt64) (nI 32)) hx hb dd_L_law_193 (rfl) ?_
        refine lv_aload_n hx hb dd_L_law_194 rfl (lv_at hl 0 rfl) ?_
        refine lv_iload_n hx hb dd_L_law_195 rfl (lv_at hl 3 rfl) ?_
        refine lv_iconst (v := nI 4) hx hb dd_L_law_196 (by decide) ?_
        refine lv_iadd hx hb dd_L_law_197 ?_
        refine mr_vi (nI_add (6 * j) 4) ?_
        refine mr_sld hx hb hX hbl hbA hS (((6 * j) + 4)) rfl (by omega) hL dd_L_law_198 ?_
        refine lv_i2l (v := (xs ((6 * j) + 4)).toInt64) hx hb dd_L_law_199 (rfl) ?_
        refine mr_ldc2 (v := lN 4294967295) C0 tw_736 dd_L_law_200 ?_
        refine lv_land hx hb dd_L_law_203 ?_
        refine lv_lor hx hb dd_L_law_204 ?_
        refine mr_vl (x' := lN (ju_ (xs (6 * j + 3)) (xs (6 * j + 4)))) (ju_eq _ _) ?_
        obtain ⟨w9, g9, cf, qf, xw, f9, sf, uf, lf, r1, r0, hrl, hk, h_2, h_3, h_4, h_5, h_6, h_7, h_8, h_9, h_10, h_0⟩ := MS_fr nx hfr hMS
        have eM : mu_ (mu_ (mu_ (mu_ (mu_ (mu_ (mu_ (mu_ (mu_ (mu_ M1 (am 2) (ia_ G 64 w9)) (am 3) (la_ G 10 f9)) (am 4) (ia_ G 10 g9)) (am 5) (ia_ G 17 cf)) (am 6) (la_ G 170 sf)) (am 7) (ia_ G 170 qf)) (am 8) (la_ G 17 uf)) (am 9) (la_ G 17 lf)) (am 10) (ia_ G 32 xw)) (am 0) (ob_ 6 [.ref (am 1), .ref (am 2), .int (nI hs), .long (hi_ N), .long (lo_ N), .long (hi_ Vt), .long (lo_ Vt), .int (nI Pd.length), .ref (am 3), .ref (am 4), .int (nI nw), .ref (am 5), .ref (am 6), .ref (am 7), .ref (am 8), .ref (am 9), .long (hi_ Hd), .long (lo_ Hd), .int (nI fc), .long r1, .long r0, .ref (am 10)]) = M1 := by rw [mu_id h_2, mu_id h_3, mu_id h_4, mu_id h_5, mu_id h_6, mu_id h_7, mu_id h_8, mu_id h_9, mu_id h_10, mu_id h_0]
        rw [← eM] at hM
        refine mr_callV (As := [.long (lN (ju_ (xs (6 * j + 1)) (xs (6 * j + 2)))), .long (lN (ju_ (xs (6 * j + 3)) (xs (6 * j + 4))))]) (rest := [.int (mdR_ hs ((ju_ (xs (6 * j + 1)) (xs (6 * j + 2))) * 18446744073709551616 + (ju_ (xs (6 * j + 3)) (xs (6 * j + 4)))))]) C0 hM hS vk_L_19 mu_s rfl (c_M_modulus l nm hk hrl hsi.1 hsi.2.1 (ju_lt _ _) (ju_lt _ _) (fun q => ⟨(hsi.2.2.2.2.2.2 q).1, (hsi.2.2.2.2.2.2 q).2.1⟩)) rfl rfl hl.1 (Nat.le_of_ble_eq_true rfl) rfl rfl (by subst hR; exact ⟨Nat.le_of_ble_eq_true rfl, Nat.le_of_ble_eq_true rfl⟩) (by subst hR; exact ⟨Nat.le_of_ble_eq_true rfl, Nat.le_of_ble_eq_true rfl⟩) dd_L_law_205 (fun v1 M2 H locs hp hM hS => ?_)
        obtain ⟨ev1, hMW⟩ := hp
        subst ev1
        have hLI2 : LI_ G ap am (mdS_ hs ((ju_ (xs (6 * j + 1)) (xs (6 * j + 2))) * 18446744073709551616 + (ju_ (xs (6 * j + 3)) (xs (6 * j + 4))))) (mdN_ hs ((ju_ (xs (6 * j + 1)) (xs (6 * j + 2))) * 18446744073709551616 + (ju_ (xs (6 * j + 3)) (xs (6 * j + 4)))) N) (mdT_ hs ((ju_ (xs (6 * j + 1)) (xs (6 * j + 2))) * 18446744073709551616 + (ju_ (xs (6 * j + 3)) (xs (6 * j + 4)))) Vt) Pd Ls nw Hd fc M2 := LI_mk nm nx hk (SI_md hsi (by have h1 := ju_lt (xs (6 * j + 1)) (xs (6 * j + 2)); have h2 := ju_lt (xs (6 * j + 3)) (xs (6 * j + 4)); omega)) hPW1 hMW
        refine W.eq (g2 := F0 m 208 ls [.int (mdR_ hs ((ju_ (xs (6 * j + 1)) (xs (6 * j + 2))) * 18446744073709551616 + (ju_ (xs (6 * j + 3)) (xs (6 * j + 4))))), .int (mdR_ hs ((ju_ (xs (6 * j + 1)) (xs (6 * j + 2))) * 18446744073709551616 + (ju_ (xs (6 * j + 3)) (xs (6 * j + 4)))))]) rfl ?_
        refine lv_icmp_eq (tgt := 1085) hx hb dd_L_law_208 rfl (fun _ => ?_) (fun hc => absurd (rfl) hc)
        refine lv_iinc (k := 3) (v := nI (6 * (j + 1))) (lv' := [(3, .int (nI (6 * (j + 1)))), (0, .ref b), (1, .ref (ap 0)), (2, .ref (am 0))]) hx hb dd_L_law_1085 hl rfl (lw_inc j) (by decide) rfl (fun ls hl => ?_)
        refine lv_goto (tgt := 18) hx hb dd_L_law_1088 rfl ?_
        exact ih (j + 1) M2 (mdS_ hs ((ju_ (xs (6 * j + 1)) (xs (6 * j + 2))) * 18446744073709551616 + (ju_ (xs (6 * j + 3)) (xs (6 * j + 4))))) (mdN_ hs ((ju_ (xs (6 * j + 1)) (xs (6 * j + 2))) * 18446744073709551616 + (ju_ (xs (6 * j + 3)) (xs (6 * j + 4)))) N) (mdT_ hs ((ju_ (xs (6 * j + 1)) (xs (6 * j + 2))) * 18446744073709551616 + (ju_ (xs (6 * j + 3)) (xs (6 * j + 4)))) Vt) nw Hd fc Pd Ls _ _ _ (by omega) hLI2 hM hS (lv_sub hl [1, 2, 3, 0] rfl)
      by_cases q33_1 : ((xs (6 * j)) &&& (nI 31)) = nI 1
      · refine lv_tableIn (tgt := 213) (off := 180) hx hb dd_L_law_33 (by rw [q33_1]; decide) (by rw [q33_1]; decide) (by rw [q33_1]; rfl) rfl ?_
        refine lv_aload_n hx hb dd_L_law_213 rfl (lv_at hl 1 rfl) ?_
        refine lv_aload_n hx hb dd_L_law_214 rfl (lv_at hl 0 rfl) ?_
        refine lv_iload_n hx hb dd_L_law_215 rfl (lv_at hl 3 rfl) ?_
        refine lv_iconst (v := nI 1) hx hb dd_L_law_216 (by decide) ?_
        refine lv_iadd hx hb dd_L_law_217 ?_
        refine mr_vi (nI_add (6 * j) 1) ?_
        refine mr_sld hx hb hX hbl hbA hS (((6 * j) + 1)) rfl (by omega) hL dd_L_law_218 ?_
        refine lv_i2l (v := (xs ((6 * j) + 1)).toInt64) hx hb dd_L_law_219 (rfl) ?_
        refine lv_bipush (v := nI 32) hx hb dd_L_law_220 (by decide) ?_
        refine lv_lshl (v := lsl_ ((xs ((6 * j) + 1)).toInt64) (nI 32)) hx hb dd_L_law_222 (rfl) ?_
        refine lv_aload_n hx hb dd_L_law_223 rfl (lv_at hl 0 rfl) ?_
        refine lv_iload_n hx hb dd_L_law_224 rfl (lv_at hl 3 rfl) ?_
        refine lv_iconst (v := nI 2) hx hb dd_L_law_225 (by decide) ?_
        refine lv_iadd hx hb dd_L_law_226 ?_
        refine mr_vi (nI_add (6 * j) 2) ?_
        refine mr_sld hx hb hX hbl hbA hS (((6 * j) + 2)) rfl (by omega) hL dd_L_law_227 ?_
        refine lv_i2l (v := (xs ((6 * j) + 2)).toInt64) hx hb dd_L_law_228 (rfl) ?_
        refine mr_ldc2 (v := lN 4294967295) C0 tw_736 dd_L_law_229 ?_
        refine lv_land hx hb dd_L_law_232 ?_
        refine lv_lor hx hb dd_L_law_233 ?_
        refine mr_vl (x' := jl_ (xs (6 * j + 1)) (xs (6 * j + 2))) (rfl) ?_
        refine mr_callV (As := [.long (jl_ (xs (6 * j + 1)) (xs (6 * j + 2)))]) (rest := []) C0 hM hS vk_L_20 h_po rfl (c_P_prime l np hsi hP ) rfl rfl hl.1 (Nat.le_of_ble_eq_true rfl) rfl rfl (by subst hR; exact ⟨Nat.le_of_ble_eq_true rfl, Nat.le_of_ble_eq_true rfl⟩) (by subst hR; exact ⟨Nat.le_of_ble_eq_true rfl, Nat.le_of_ble_eq_true rfl⟩) dd_L_law_234 (fun v1 M1 H locs hp hM hS => ?_)
        obtain ⟨ev1, hPW1, hfr⟩ := hp
        subst ev1
        refine W.eq (g2 := F0 m 237 ls [.int (prime_ (jl_ (xs (6 * j + 1)) (xs (6 * j + 2))))]) rfl ?_
        refine mr_vi (x' := (primeT_ (jl_ (xs (6 * j + 1)) (xs (6 * j + 2))))) (by rw [prime_eq]) ?_
        refine lv_aload_n hx hb dd_L_law_237 rfl (lv_at hl 2 rfl) ?_
        refine lv_aload_n hx hb dd_L_law_238 rfl (lv_at hl 0 rfl) ?_
        refine lv_iload_n hx hb dd_L_law_239 rfl (lv_at hl 3 rfl) ?_
        refine lv_iconst (v := nI 1) hx hb dd_L_law_240 (by decide) ?_
        refine lv_iadd hx hb dd_L_law_241 ?_
        refine mr_vi (nI_add (6 * j) 1) ?_
        refine mr_sld hx hb hX hbl hbA hS (((6 * j) + 1)) rfl (by omega) hL dd_L_law_242 ?_
        refine lv_i2l (v := (xs ((6 * j) + 1)).toInt64) hx hb dd_L_law_243 (rfl) ?_
        refine lv_bipush (v := nI 32) hx hb dd_L_law_244 (by decide) ?_
        refine lv_lshl (v := lsl_ ((xs ((6 * j) + 1)).toInt64) (nI 32)) hx hb dd_L_law_246 (rfl) ?_
        refine lv_aload_n hx hb dd_L_law_247 rfl (lv_at hl 0 rfl) ?_
        refine lv_iload_n hx hb dd_L_law_248 rfl (lv_at hl 3 rfl) ?_
        refine lv_iconst (v := nI 2) hx hb dd_L_law_249 (by decide) ?_
        refine lv_iadd hx hb dd_L_law_250 ?_
        refine mr_vi (nI_add (6 * j) 2) ?_
        refine mr_sld hx hb hX hbl hbA hS (((6 * j) + 2)) rfl (by omega) hL dd_L_law_251 ?_
        refine lv_i2l (v := (xs ((6 * j) + 2)).toInt64) hx hb dd_L_law_252 (rfl) ?_
        refine mr_ldc2 (v := lN 4294967295) C0 tw_736 dd_L_law_253 ?_
        refine lv_land hx hb dd_L_law_256 ?_
        refine lv_lor hx hb dd_L_law_257 ?_
        refine mr_vl (x' := jl_ (xs (6 * j + 1)) (xs (6 * j + 2))) (rfl) ?_
        have hMS1 := MS_fr nx hfr hMS
        obtain ⟨w9, g9, cf, qf, xw, f9, sf, uf, lf, r1, r0, hrl, hk, h_2, h_3, h_4, h_5, h_6, h_7, h_8, h_9, h_10, h_0⟩ := hMS1
        refine mr_callV (As := [.long (jl_ (xs (6 * j + 1)) (xs (6 * j + 2)))]) (rest := [.int (primeT_ (jl_ (xs (6 * j + 1)) (xs (6 * j + 2))))]) C0 hM hS vk_L_24 h_0 rfl (c_M_prime l h_0 hk h_2) rfl rfl hl.1 (Nat.le_of_ble_eq_true rfl) rfl rfl (by subst hR; exact ⟨Nat.le_of_ble_eq_true rfl, Nat.le_of_ble_eq_true rfl⟩) (by subst hR; exact ⟨Nat.le_of_ble_eq_true rfl, Nat.le_of_ble_eq_true rfl⟩) dd_L_law_258 (fun v1 M2 H locs hp hM hS => ?_)
        obtain ⟨ev1, w8, eM2⟩ := hp
        subst ev1
        obtain ⟨hMS2, hfr2⟩ := MS_w (w' := w8) nm (MS_fr nx hfr hMS)
        rw [← eM2] at hMS2 hfr2
        have hLI2 : LI_ G ap am hs N Vt Pd Ls nw Hd fc M2 := ⟨hsi, PW_fr nx hfr2 hPW1, hMS2⟩
        refine W.eq (g2 := F0 m 261 ls [.int (primeT_ (jl_ (xs (6 * j + 1)) (xs (6 * j + 2)))), .int (primeT_ (jl_ (xs (6 * j + 1)) (xs (6 * j + 2))))]) rfl ?_
        refine lv_icmp_eq (tgt := 1085) hx hb dd_L_law_261 rfl (fun _ => ?_) (fun hc => absurd (rfl) hc)
        refine lv_iinc (k := 3) (v := nI (6 * (j + 1))) (lv' := [(3, .int (nI (6 * (j + 1)))), (0, .ref b), (1, .ref (ap 0)), (2, .ref (am 0))]) hx hb dd_L_law_1085 hl rfl (lw_inc j) (by decide) rfl (fun ls hl => ?_)
        refine lv_goto (tgt := 18) hx hb dd_L_law_1088 rfl ?_
        exact ih (j + 1) M2 hs N Vt nw Hd fc Pd Ls _ _ _ (by omega) hLI2 hM hS (lv_sub hl [1, 2, 3, 0] rfl)
      by_cases q33_2 : ((xs (6 * j)) &&& (nI 31)) = nI 2
      · refine lv_tableIn (tgt := 266) (off := 233) hx hb dd_L_law_33 (by rw [q33_2]; decide) (by rw [q33_2]; decide) (by rw [q33_2]; rfl) rfl ?_
        refine lv_aload_n hx hb dd_L_law_266 rfl (lv_at hl 1 rfl) ?_
        refine lv_aload_n hx hb dd_L_law_267 rfl (lv_at hl 0 rfl) ?_
        refine lv_iload_n hx hb dd_L_law_268 rfl (lv_at hl 3 rfl) ?_
        refine lv_iconst (v := nI 1) hx hb dd_L_law_269 (by decide) ?_
        refine lv_iadd hx hb dd_L_law_270 ?_
        refine mr_vi (nI_add (6 * j) 1) ?_
        refine mr_sld hx hb hX hbl hbA hS (((6 * j) + 1)) rfl (by omega) hL dd_L_law_271 ?_
        refine lv_i2l (v := (xs ((6 * j) + 1)).toInt64) hx hb dd_L_law_272 (rfl) ?_
        refine lv_bipush (v := nI 32) hx hb dd_L_law_273 (by decide) ?_
        refine lv_lshl (v := lsl_ ((xs ((6 * j) + 1)).toInt64) (nI 32)) hx hb dd_L_law_275 (rfl) ?_
        refine lv_aload_n hx hb dd_L_law_276 rfl (lv_at hl 0 rfl) ?_
        refine lv_iload_n hx hb dd_L_law_277 rfl (lv_at hl 3 rfl) ?_
        refine lv_iconst (v := nI 2) hx hb dd_L_law_278 (by decide) ?_
        refine lv_iadd hx hb dd_L_law_279 ?_
        refine mr_vi (nI_add (6 * j) 2) ?_
        refine mr_sld hx hb hX hbl hbA hS (((6 * j) + 2)) rfl (by omega) hL dd_L_law_280 ?_
        refine lv_i2l (v := (xs ((6 * j) + 2)).toInt64) hx hb dd_L_law_281 (rfl) ?_
        refine mr_ldc2 (v := lN 4294967295) C0 tw_736 dd_L_law_282 ?_
        refine lv_land hx hb dd_L_law_285 ?_
        refine lv_lor hx hb dd_L_law_286 ?_
        refine mr_vl (x' := jl_ (xs (6 * j + 1)) (xs (6 * j + 2))) (rfl) ?_
        refine mr_callV (As := [.long (jl_ (xs (6 * j + 1)) (xs (6 * j + 2)))]) (rest := []) C0 hM hS vk_L_25 h_po rfl (c_P_add l np hsi hP ) rfl rfl hl.1 (Nat.le_of_ble_eq_true rfl) rfl rfl (by subst hR; exact ⟨Nat.le_of_ble_eq_true rfl, Nat.le_of_ble_eq_true rfl⟩) (by subst hR; exact ⟨Nat.le_of_ble_eq_true rfl, Nat.le_of_ble_eq_true rfl⟩) dd_L_law_287 (fun v1 M1 H locs hp hM hS => ?_)
        obtain ⟨ev1, hPW1, hfr⟩ := hp
        subst ev1
        refine W.eq (g2 := F0 m 290 ls [.int (adR_ hs (prime_ (jl_ (xs (6 * j + 1)) (xs (6 * j + 2)))) Pd (jl_ (xs (6 * j + 1)) (xs (6 * j + 2))))]) rfl ?_
        refine mr_vi (x' := adR_ hs (primeT_ (jl_ (xs (6 * j + 1)) (xs (6 * j + 2)))) Pd (jl_ (xs (6 * j + 1)) (xs (6 * j + 2)))) (by rw [prime_eq]) ?_
        rw [prime_eq] at hPW1
        refine lv_aload_n hx hb dd_L_law_290 rfl (lv_at hl 2 rfl) ?_
        refine lv_aload_n hx hb dd_L_law_291 rfl (lv_at hl 0 rfl) ?_
        refine lv_iload_n hx hb dd_L_law_292 rfl (lv_at hl 3 rfl) ?_
        refine lv_iconst (v := nI 1) hx hb dd_L_law_293 (by decide) ?_
        refine lv_iadd hx hb dd_L_law_294 ?_
        refine mr_vi (nI_add (6 * j) 1) ?_
        refine mr_sld hx hb hX hbl hbA hS (((6 * j) + 1)) rfl (by omega) hL dd_L_law_295 ?_
        refine lv_i2l (v := (xs ((6 * j) + 1)).toInt64) hx hb dd_L_law_296 (rfl) ?_
        refine lv_bipush (v := nI 32) hx hb dd_L_law_297 (by decide) ?_
        refine lv_lshl (v := lsl_ ((xs ((6 * j) + 1)).toInt64) (nI 32)) hx hb dd_L_law_299 (rfl) ?_
        refine lv_aload_n hx hb dd_L_law_300 rfl (lv_at hl 0 rfl) ?_
        refine lv_iload_n hx hb dd_L_law_301 rfl (lv_at hl 3 rfl) ?_
        refine lv_iconst (v := nI 2) hx hb dd_L_law_302 (by decide) ?_
        refine lv_iadd hx hb dd_L_law_303 ?_
        refine mr_vi (nI_add (6 * j) 2) ?_
        refine mr_sld hx hb hX hbl hbA hS (((6 * j) + 2)) rfl (by omega) hL dd_L_law_304 ?_
        refine lv_i2l (v := (xs ((6 * j) + 2)).toInt64) hx hb dd_L_law_305 (rfl) ?_
        refine mr_ldc2 (v := lN 4294967295) C0 tw_736 dd_L_law_306 ?_
        refine lv_land hx hb dd_L_law_309 ?_
        refine lv_lor hx hb dd_L_law_310 ?_
        refine mr_vl (x' := jl_ (xs (6 * j + 1)) (xs (6 * j + 2))) (rfl) ?_
        obtain ⟨w9, g9, cf, qf, xw, f9, sf, uf, lf, r1, r0, hrl, hk, h_2, h_3, h_4, h_5, h_6, h_7, h_8, h_9, h_10, h_0⟩ := MS_fr nx hfr hMS
        have eM : mu_ (mu_ (mu_ (mu_ (mu_ (mu_ (mu_ (mu_ (mu_ (mu_ M1 (am 2) (ia_ G 64 w9)) (am 3) (la_ G 10 f9)) (am 4) (ia_ G 10 g9)) (am 5) (ia_ G 17 cf)) (am 6) (la_ G 170 sf)) (am 7) (ia_ G 170 qf)) (am 8) (la_ G 17 uf)) (am 9) (la_ G 17 lf)) (am 10) (ia_ G 32 xw)) (am 0) (ob_ 6 [.ref (am 1), .ref (am 2), .int (nI hs), .long (hi_ N), .long (lo_ N), .long (hi_ Vt), .long (lo_ Vt), .int (nI Pd.length), .ref (am 3), .ref (am 4), .int (nI nw), .ref (am 5), .ref (am 6), .ref (am 7), .ref (am 8), .ref (am 9), .long (hi_ Hd), .long (lo_ Hd), .int (nI fc), .long r1, .long r0, .ref (am 10)]) = M1 := by rw [mu_id h_2, mu_id h_3, mu_id h_4, mu_id h_5, mu_id h_6, mu_id h_7, mu_id h_8, mu_id h_9, mu_id h_10, mu_id h_0]
        rw [← eM] at hM
        refine mr_callV (As := [.long (jl_ (xs (6 * j + 1)) (xs (6 * j + 2)))]) (rest := [.int (adR_ hs (primeT_ (jl_ (xs (6 * j + 1)) (xs (6 * j + 2)))) Pd (jl_ (xs (6 * j + 1)) (xs (6 * j + 2))))]) C0 hM hS vk_L_28 mu_s rfl (c_M_add l nm hk hrl hsi.1 hsi.2.1 ) rfl rfl hl.1 (Nat.le_of_ble_eq_true rfl) rfl rfl (by subst hR; exact ⟨Nat.le_of_ble_eq_true rfl, Nat.le_of_ble_eq_true rfl⟩) (by subst hR; exact ⟨Nat.le_of_ble_eq_true rfl, Nat.le_of_ble_eq_true rfl⟩) dd_L_law_311 (fun v1 M2 H locs hp hM hS => ?_)
        obtain ⟨ev1, hMW⟩ := hp
        subst ev1
        have hLI2 : LI_ G ap am hs N Vt (adL_ hs (primeT_ (jl_ (xs (6 * j + 1)) (xs (6 * j + 2)))) Pd (jl_ (xs (6 * j + 1)) (xs (6 * j + 2)))) Ls nw Hd fc M2 := LI_mk nm nx hk (SI_ad hsi ((prT_pn _).imp id And.right)) hPW1 hMW
        refine W.eq (g2 := F0 m 314 ls [.int (adR_ hs (primeT_ (jl_ (xs (6 * j + 1)) (xs (6 * j + 2)))) Pd (jl_ (xs (6 * j + 1)) (xs (6 * j + 2)))), .int (adR_ hs (primeT_ (jl_ (xs (6 * j + 1)) (xs (6 * j + 2)))) Pd (jl_ (xs (6 * j + 1)) (xs (6 * j + 2))))]) rfl ?_
        refine lv_icmp_eq (tgt := 1085) hx hb dd_L_law_314 rfl (fun _ => ?_) (fun hc => absurd (rfl) hc)
        refine lv_iinc (k := 3) (v := nI (6 * (j + 1))) (lv' := [(3, .int (nI (6 * (j + 1)))), (0, .ref b), (1, .ref (ap 0)), (2, .ref (am 0))]) hx hb dd_L_law_1085 hl rfl (lw_inc j) (by decide) rfl (fun ls hl => ?_)
        refine lv_goto (tgt := 18) hx hb dd_L_law_1088 rfl ?_
        exact ih (j + 1) M2 hs N Vt nw Hd fc (adL_ hs (primeT_ (jl_ (xs (6 * j + 1)) (xs (6 * j + 2)))) Pd (jl_ (xs (6 * j + 1)) (xs (6 * j + 2)))) Ls _ _ _ (by omega) hLI2 hM hS (lv_sub hl [1, 2, 3, 0] rfl)
      by_cases q33_3 : ((xs (6 * j)) &&& (nI 31)) = nI 3
      · refine lv_tableIn (tgt := 319) (off := 286) hx hb dd_L_law_33 (by rw [q33_3]; decide) (by rw [q33_3]; decide) (by rw [q33_3]; rfl) rfl ?_
        refine lv_aload_n hx hb dd_L_law_319 rfl (lv_at hl 1 rfl) ?_
        refine lv_aload_n hx hb dd_L_law_320 rfl (lv_at hl 0 rfl) ?_
        refine lv_iload_n hx hb dd_L_law_321 rfl (lv_at hl 3 rfl) ?_
        refine lv_iconst (v := nI 1) hx hb dd_L_law_322 (by decide) ?_
        refine lv_iadd hx hb dd_L_law_323 ?_
        refine mr_vi (nI_add (6 * j) 1) ?_
        refine mr_sld hx hb hX hbl hbA hS (((6 * j) + 1)) rfl (by omega) hL dd_L_law_324 ?_
        refine lv_i2l (v := (xs ((6 * j) + 1)).toInt64) hx hb dd_L_law_325 (rfl) ?_
        refine lv_bipush (v := nI 32) hx hb dd_L_law_326 (by decide) ?_
        refine lv_lshl (v := lsl_ ((xs ((6 * j) + 1)).toInt64) (nI 32)) hx hb dd_L_law_328 (rfl) ?_
        refine lv_aload_n hx hb dd_L_law_329 rfl (lv_at hl 0 rfl) ?_
        refine lv_iload_n hx hb dd_L_law_330 rfl (lv_at hl 3 rfl) ?_
        refine lv_iconst (v := nI 2) hx hb dd_L_law_331 (by decide) ?_
        refine lv_iadd hx hb dd_L_law_332 ?_
        refine mr_vi (nI_add (6 * j) 2) ?_
        refine mr_sld hx hb hX hbl hbA hS (((6 * j) + 2)) rfl (by omega) hL dd_L_law_333 ?_
        refine lv_i2l (v := (xs ((6 * j) + 2)).toInt64) hx hb dd_L_law_334 (rfl) ?_
        refine mr_ldc2 (v := lN 4294967295) C0 tw_736 dd_L_law_335 ?_
        refine lv_land hx hb dd_L_law_338 ?_
        refine lv_lor hx hb dd_L_law_339 ?_
        refine mr_vl (x' := jl_ (xs (6 * j + 1)) (xs (6 * j + 2))) (rfl) ?_
        refine mr_callV (As := [.long (jl_ (xs (6 * j + 1)) (xs (6 * j + 2)))]) (rest := []) C0 hM hS vk_L_29 h_po rfl (c_P_remove l np hsi hP ) rfl rfl hl.1 (Nat.le_of_ble_eq_true rfl) rfl rfl (by subst hR; exact ⟨Nat.le_of_ble_eq_true rfl, Nat.le_of_ble_eq_true rfl⟩) (by subst hR; exact ⟨Nat.le_of_ble_eq_true rfl, Nat.le_of_ble_eq_true rfl⟩) dd_L_law_340 (fun v1 M1 H locs hp hM hS => ?_)
        obtain ⟨ev1, hPW1, hfr⟩ := hp
        subst ev1
        refine W.eq (g2 := F0 m 343 ls [.int (rmR_ hs (prime_ (jl_ (xs (6 * j + 1)) (xs (6 * j + 2)))) Pd (jl_ (xs (6 * j + 1)) (xs (6 * j + 2))))]) rfl ?_
        refine mr_vi (x' := rmR_ hs (primeT_ (jl_ (xs (6 * j + 1)) (xs (6 * j + 2)))) Pd (jl_ (xs (6 * j + 1)) (xs (6 * j + 2)))) (by rw [prime_eq]) ?_
        rw [prime_eq] at hPW1
        refine lv_aload_n hx hb dd_L_law_343 rfl (lv_at hl 2 rfl) ?_
        refine lv_aload_n hx hb dd_L_law_344 rfl (lv_at hl 0 rfl) ?_
        refine lv_iload_n hx hb dd_L_law_345 rfl (lv_at hl 3 rfl) ?_
        refine lv_iconst (v := nI 1) hx hb dd_L_law_346 (by decide) ?_
        refine lv_iadd hx hb dd_L_law_347 ?_
        refine mr_vi (nI_add (6 * j) 1) ?_
        refine mr_sld hx hb hX hbl hbA hS (((6 * j) + 1)) rfl (by omega) hL dd_L_law_348 ?_
        refine lv_i2l (v := (xs ((6 * j) + 1)).toInt64) hx hb dd_L_law_349 (rfl) ?_
        refine lv_bipush (v := nI 32) hx hb dd_L_law_350 (by decide) ?_
        refine lv_lshl (v := lsl_ ((xs ((6 * j) + 1)).toInt64) (nI 32)) hx hb dd_L_law_352 (rfl) ?_
        refine lv_aload_n hx hb dd_L_law_353 rfl (lv_at hl 0 rfl) ?_
        refine lv_iload_n hx hb dd_L_law_354 rfl (lv_at hl 3 rfl) ?_
        refine lv_iconst (v := nI 2) hx hb dd_L_law_355 (by decide) ?_
        refine lv_iadd hx hb dd_L_law_356 ?_
        refine mr_vi (nI_add (6 * j) 2) ?_
        refine mr_sld hx hb hX hbl hbA hS (((6 * j) + 2)) rfl (by omega) hL dd_L_law_357 ?_
        refine lv_i2l (v := (xs ((6 * j) + 2)).toInt64) hx hb dd_L_law_358 (rfl) ?_
        refine mr_ldc2 (v := lN 4294967295) C0 tw_736 dd_L_law_359 ?_
        refine lv_land hx hb dd_L_law_362 ?_
        refine lv_lor hx hb dd_L_law_363 ?_
        refine mr_vl (x' := jl_ (xs (6 * j + 1)) (xs (6 * j + 2))) (rfl) ?_
        obtain ⟨w9, g9, cf, qf, xw, f9, sf, uf, lf, r1, r0, hrl, hk, h_2, h_3, h_4, h_5, h_6, h_7, h_8, h_9, h_10, h_0⟩ := MS_fr nx hfr hMS
        have eM : mu_ (mu_ (mu_ (mu_ (mu_ (mu_ (mu_ (mu_ (mu_ (mu_ M1 (am 2) (ia_ G 64 w9)) (am 3) (la_ G 10 f9)) (am 4) (ia_ G 10 g9)) (am 5) (ia_ G 17 cf)) (am 6) (la_ G 170 sf)) (am 7) (ia_ G 170 qf)) (am 8) (la_ G 17 uf)) (am 9) (la_ G 17 lf)) (am 10) (ia_ G 32 xw)) (am 0) (ob_ 6 [.ref (am 1), .ref (am 2), .int (nI hs), .long (hi_ N), .long (lo_ N), .long (hi_ Vt), .long (lo_ Vt), .int (nI Pd.length), .ref (am 3), .ref (am 4), .int (nI nw), .ref (am 5), .ref (am 6), .ref (am 7), .ref (am 8), .ref (am 9), .long (hi_ Hd), .long (lo_ Hd), .int (nI fc), .long r1, .long r0, .ref (am 10)]) = M1 := by rw [mu_id h_2, mu_id h_3, mu_id h_4, mu_id h_5, mu_id h_6, mu_id h_7, mu_id h_8, mu_id h_9, mu_id h_10, mu_id h_0]
        rw [← eM] at hM
        refine mr_callV (As := [.long (jl_ (xs (6 * j + 1)) (xs (6 * j + 2)))]) (rest := [.int (rmR_ hs (primeT_ (jl_ (xs (6 * j + 1)) (xs (6 * j + 2)))) Pd (jl_ (xs (6 * j + 1)) (xs (6 * j + 2))))]) C0 hM hS vk_L_32 mu_s rfl (c_M_remove l nm hk hrl hsi.1 hsi.2.1 ) rfl rfl hl.1 (Nat.le_of_ble_eq_true rfl) rfl rfl (by subst hR; exact ⟨Nat.le_of_ble_eq_true rfl, Nat.le_of_ble_eq_true rfl⟩) (by subst hR; exact ⟨Nat.le_of_ble_eq_true rfl, Nat.le_of_ble_eq_true rfl⟩) dd_L_law_364 (fun v1 M2 H locs hp hM hS => ?_)
        obtain ⟨ev1, hMW⟩ := hp
        subst ev1
        have hLI2 : LI_ G ap am hs N Vt (rmL_ hs (primeT_ (jl_ (xs (6 * j + 1)) (xs (6 * j + 2)))) Pd (jl_ (xs (6 * j + 1)) (xs (6 * j + 2)))) Ls nw Hd fc M2 := LI_mk nm nx hk (SI_rm hsi) hPW1 hMW
        refine W.eq (g2 := F0 m 367 ls [.int (rmR_ hs (primeT_ (jl_ (xs (6 * j + 1)) (xs (6 * j + 2)))) Pd (jl_ (xs (6 * j + 1)) (xs (6 * j + 2)))), .int (rmR_ hs (primeT_ (jl_ (xs (6 * j + 1)) (xs (6 * j + 2)))) Pd (jl_ (xs (6 * j + 1)) (xs (6 * j + 2))))]) rfl ?_
        refine lv_icmp_eq (tgt := 1085) hx hb dd_L_law_367 rfl (fun _ => ?_) (fun hc => absurd (rfl) hc)
        refine lv_iinc (k := 3) (v := nI (6 * (j + 1))) (lv' := [(3, .int (nI (6 * (j + 1)))), (0, .ref b), (1, .ref (ap 0)), (2, .ref (am 0))]) hx hb dd_L_law_1085 hl rfl (lw_inc j) (by decide) rfl (fun ls hl => ?_)
        refine lv_goto (tgt := 18) hx hb dd_L_law_1088 rfl ?_
        exact ih (j + 1) M2 hs N Vt nw Hd fc (rmL_ hs (primeT_ (jl_ (xs (6 * j + 1)) (xs (6 * j + 2)))) Pd (jl_ (xs (6 * j + 1)) (xs (6 * j + 2)))) Ls _ _ _ (by omega) hLI2 hM hS (lv_sub hl [1, 2, 3, 0] rfl)
      by_cases q33_4 : ((xs (6 * j)) &&& (nI 31)) = nI 4
      · refine lv_tableIn (tgt := 372) (off := 339) hx hb dd_L_law_33 (by rw [q33_4]; decide) (by rw [q33_4]; decide) (by rw [q33_4]; rfl) rfl ?_
        refine lv_aload_n hx hb dd_L_law_372 rfl (lv_at hl 1 rfl) ?_
        refine mr_callV (As := []) (rest := []) C0 hM hS vk_L_33 h_po rfl (c_P_close l np hsi hP ) rfl rfl hl.1 (Nat.le_of_ble_eq_true rfl) rfl rfl (by subst hR; exact ⟨Nat.le_of_ble_eq_true rfl, Nat.le_of_ble_eq_true rfl⟩) (by subst hR; exact ⟨Nat.le_of_ble_eq_true rfl, Nat.le_of_ble_eq_true rfl⟩) dd_L_law_373 (fun v1 M1 H locs hp hM hS => ?_)
        obtain ⟨ev1, hPW1, hfr⟩ := hp
        subst ev1
        refine W.eq (g2 := F0 m 376 ls [.int (clR_ hs nw)]) rfl ?_
        refine lv_aload_n hx hb dd_L_law_376 rfl (lv_at hl 2 rfl) ?_
        obtain ⟨w9, g9, cf, qf, xw, f9, sf, uf, lf, r1, r0, hrl, hk, h_2, h_3, h_4, h_5, h_6, h_7, h_8, h_9, h_10, h_0⟩ := MS_fr nx hfr hMS
        have eM : mu_ (mu_ (mu_ (mu_ (mu_ (mu_ (mu_ (mu_ (mu_ (mu_ M1 (am 2) (ia_ G 64 w9)) (am 3) (la_ G 10 f9)) (am 4) (ia_ G 10 g9)) (am 5) (ia_ G 17 cf)) (am 6) (la_ G 170 sf)) (am 7) (ia_ G 170 qf)) (am 8) (la_ G 17 uf)) (am 9) (la_ G 17 lf)) (am 10) (ia_ G 32 xw)) (am 0) (ob_ 6 [.ref (am 1), .ref (am 2), .int (nI hs), .long (hi_ N), .long (lo_ N), .long (hi_ Vt), .long (lo_ Vt), .int (nI Pd.length), .ref (am 3), .ref (am 4), .int (nI nw), .ref (am 5), .ref (am 6), .ref (am 7), .ref (am 8), .ref (am 9), .long (hi_ Hd), .long (lo_ Hd), .int (nI fc), .long r1, .long r0, .ref (am 10)]) = M1 := by rw [mu_id h_2, mu_id h_3, mu_id h_4, mu_id h_5, mu_id h_6, mu_id h_7, mu_id h_8, mu_id h_9, mu_id h_10, mu_id h_0]
        rw [← eM] at hM
        refine mr_callV (As := []) (rest := [.int (clR_ hs nw)]) C0 hM hS vk_L_37 mu_s rfl (c_M_close l nm hk hrl hsi.1 hsi.2.1 hsi.2.2.1 hsi.2.2.2.2.1 hsi.2.2.2.2.2.1) rfl rfl hl.1 (Nat.le_of_ble_eq_true rfl) rfl rfl (by subst hR; exact ⟨Nat.le_of_ble_eq_true rfl, Nat.le_of_ble_eq_true rfl⟩) (by subst hR; exact ⟨Nat.le_of_ble_eq_true rfl, Nat.le_of_ble_eq_true rfl⟩) dd_L_law_377 (fun v1 M2 H locs hp hM hS => ?_)
        obtain ⟨ev1, hMW⟩ := hp
        subst ev1
        have hLI2 : LI_ G ap am hs N Vt Pd (clL_ hs nw Pd Ls) (clW_ hs nw) Hd fc M2 := LI_mk nm nx hk (SI_cl hsi) hPW1 hMW
        refine W.eq (g2 := F0 m 380 ls [.int (clR_ hs nw), .int (clR_ hs nw)]) rfl ?_
        refine lv_icmp_eq (tgt := 1085) hx hb dd_L_law_380 rfl (fun _ => ?_) (fun hc => absurd (rfl) hc)
        refine lv_iinc (k := 3) (v := nI (6 * (j + 1))) (lv' := [(3, .int (nI (6 * (j + 1)))), (0, .ref b), (1, .ref (ap 0)), (2, .ref (am 0))]) hx hb dd_L_law_1085 hl rfl (lw_inc j) (by decide) rfl (fun ls hl => ?_)
        refine lv_goto (tgt := 18) hx hb dd_L_law_1088 rfl ?_
        exact ih (j + 1) M2 hs N Vt (clW_ hs nw) Hd fc Pd (clL_ hs nw Pd Ls) _ _ _ (by omega) hLI2 hM hS (lv_sub hl [1, 2, 3, 0] rfl)
      by_cases q33_5 : ((xs (6 * j)) &&& (nI 31)) = nI 5
      · refine lv_tableIn (tgt := 385) (off := 352) hx hb dd_L_law_33 (by rw [q33_5]; decide) (by rw [q33_5]; decide) (by rw [q33_5]; rfl) rfl ?_
        refine lv_aload_n hx hb dd_L_law_385 rfl (lv_at hl 1 rfl) ?_
        refine lv_aload_n hx hb dd_L_law_386 rfl (lv_at hl 0 rfl) ?_
        refine lv_iload_n hx hb dd_L_law_387 rfl (lv_at hl 3 rfl) ?_
        refine lv_iconst (v := nI 1) hx hb dd_L_law_388 (by decide) ?_
        refine lv_iadd hx hb dd_L_law_389 ?_
        refine mr_vi (nI_add (6 * j) 1) ?_
        refine mr_sld hx hb hX hbl hbA hS (((6 * j) + 1)) rfl (by omega) hL dd_L_law_390 ?_
        refine mr_callV (As := [.int (xs ((6 * j) + 1))]) (rest := []) C0 hM hS vk_L_38 h_po rfl (c_P_size l np hsi hP ) rfl rfl hl.1 (Nat.le_of_ble_eq_true rfl) rfl rfl (by subst hR; exact ⟨Nat.le_of_ble_eq_true rfl, Nat.le_of_ble_eq_true rfl⟩) (by subst hR; exact ⟨Nat.le_of_ble_eq_true rfl, Nat.le_of_ble_eq_true rfl⟩) dd_L_law_391 (fun v1 M1 H locs hp hM hS => ?_)
        obtain ⟨ev1, hPW1, hfr⟩ := hp
        subst ev1
        refine W.eq (g2 := F0 m 394 ls [.int (szR_ hs Pd Ls nw (xs ((6 * j) + 1)))]) rfl ?_
        refine lv_aload_n hx hb dd_L_law_394 rfl (lv_at hl 2 rfl) ?_
        refine lv_aload_n hx hb dd_L_law_395 rfl (lv_at hl 0 rfl) ?_
        refine lv_iload_n hx hb dd_L_law_396 rfl (lv_at hl 3 rfl) ?_
        refine lv_iconst (v := nI 1) hx hb dd_L_law_397 (by decide) ?_
        refine lv_iadd hx hb dd_L_law_398 ?_
        refine mr_vi (nI_add (6 * j) 1) ?_
        refine mr_sld hx hb hX hbl hbA hS (((6 * j) + 1)) rfl (by omega) hL dd_L_law_399 ?_
        obtain ⟨w9, g9, cf, qf, xw, f9, sf, uf, lf, r1, r0, hrl, hk, h_2, h_3, h_4, h_5, h_6, h_7, h_8, h_9, h_10, h_0⟩ := MS_fr nx hfr hMS
        have eM : mu_ (mu_ (mu_ (mu_ (mu_ (mu_ (mu_ (mu_ (mu_ (mu_ M1 (am 2) (ia_ G 64 w9)) (am 3) (la_ G 10 f9)) (am 4) (ia_ G 10 g9)) (am 5) (ia_ G 17 cf)) (am 6) (la_ G 170 sf)) (am 7) (ia_ G 170 qf)) (am 8) (la_ G 17 uf)) (am 9) (la_ G 17 lf)) (am 10) (ia_ G 32 xw)) (am 0) (ob_ 6 [.ref (am 1), .ref (am 2), .int (nI hs), .long (hi_ N), .long (lo_ N), .long (hi_ Vt), .long (lo_ Vt), .int (nI Pd.length), .ref (am 3), .ref (am 4), .int (nI nw), .ref (am 5), .ref (am 6), .ref (am 7), .ref (am 8), .ref (am 9), .long (hi_ Hd), .long (lo_ Hd), .int (nI fc), .long r1, .long r0, .ref (am 10)]) = M1 := by rw [mu_id h_2, mu_id h_3, mu_id h_4, mu_id h_5, mu_id h_6, mu_id h_7, mu_id h_8, mu_id h_9, mu_id h_10, mu_id h_0]
        rw [← eM] at hM
        refine mr_callV (As := [.int (xs ((6 * j) + 1))]) (rest := [.int (szR_ hs Pd Ls nw (xs ((6 * j) + 1)))]) C0 hM hS vk_L_42 mu_s rfl (c_M_size l nm hk hrl hsi.1 hsi.2.1 ) rfl rfl hl.1 (Nat.le_of_ble_eq_true rfl) rfl rfl (by subst hR; exact ⟨Nat.le_of_ble_eq_true rfl, Nat.le_of_ble_eq_true rfl⟩) (by subst hR; exact ⟨Nat.le_of_ble_eq_true rfl, Nat.le_of_ble_eq_true rfl⟩) dd_L_law_400 (fun v1 M2 H locs hp hM hS => ?_)
        obtain ⟨ev1, hMW⟩ := hp
        subst ev1
        have hLI2 : LI_ G ap am hs N Vt Pd Ls nw Hd fc M2 := LI_mk nm nx hk (hsi) hPW1 hMW
        refine W.eq (g2 := F0 m 403 ls [.int (szR_ hs Pd Ls nw (xs ((6 * j) + 1))), .int (szR_ hs Pd Ls nw (xs ((6 * j) + 1)))]) rfl ?_
        refine lv_icmp_eq (tgt := 1085) hx hb dd_L_law_403 rfl (fun _ => ?_) (fun hc => absurd (rfl) hc)
        refine lv_iinc (k := 3) (v := nI (6 * (j + 1))) (lv' := [(3, .int (nI (6 * (j + 1)))), (0, .ref b), (1, .ref (ap 0)), (2, .ref (am 0))]) hx hb dd_L_law_1085 hl rfl (lw_inc j) (by decide) rfl (fun ls hl => ?_)
        refine lv_goto (tgt := 18) hx hb dd_L_law_1088 rfl ?_
        exact ih (j + 1) M2 hs N Vt nw Hd fc Pd Ls _ _ _ (by omega) hLI2 hM hS (lv_sub hl [1, 2, 3, 0] rfl)
      by_cases q33_6 : ((xs (6 * j)) &&& (nI 31)) = nI 6
      · refine lv_tableIn (tgt := 408) (off := 375) hx hb dd_L_law_33 (by rw [q33_6]; decide) (by rw [q33_6]; decide) (by rw [q33_6]; rfl) rfl ?_
        refine lv_aload_n hx hb dd_L_law_408 rfl (lv_at hl 1 rfl) ?_
        refine lv_aload_n hx hb dd_L_law_409 rfl (lv_at hl 0 rfl) ?_
        refine lv_iload_n hx hb dd_L_law_410 rfl (lv_at hl 3 rfl) ?_
        refine lv_iconst (v := nI 1) hx hb dd_L_law_411 (by decide) ?_
        refine lv_iadd hx hb dd_L_law_412 ?_
        refine mr_vi (nI_add (6 * j) 1) ?_
        refine mr_sld hx hb hX hbl hbA hS (((6 * j) + 1)) rfl (by omega) hL dd_L_law_413 ?_
        refine lv_i2l (v := (xs ((6 * j) + 1)).toInt64) hx hb dd_L_law_414 (rfl) ?_
        refine lv_bipush (v := nI 32) hx hb dd_L_law_415 (by decide) ?_
        refine lv_lshl (v := lsl_ ((xs ((6 * j) + 1)).toInt64) (nI 32)) hx hb dd_L_law_417 (rfl) ?_
        refine lv_aload_n hx hb dd_L_law_418 rfl (lv_at hl 0 rfl) ?_
        refine lv_iload_n hx hb dd_L_law_419 rfl (lv_at hl 3 rfl) ?_
        refine lv_iconst (v := nI 2) hx hb dd_L_law_420 (by decide) ?_
        refine lv_iadd hx hb dd_L_law_421 ?_
        refine mr_vi (nI_add (6 * j) 2) ?_
        refine mr_sld hx hb hX hbl hbA hS (((6 * j) + 2)) rfl (by omega) hL dd_L_law_422 ?_
        refine lv_i2l (v := (xs ((6 * j) + 2)).toInt64) hx hb dd_L_law_423 (rfl) ?_
        refine mr_ldc2 (v := lN 4294967295) C0 tw_736 dd_L_law_424 ?_
        refine lv_land hx hb dd_L_law_427 ?_
        refine lv_lor hx hb dd_L_law_428 ?_
        refine mr_vl (x' := jl_ (xs (6 * j + 1)) (xs (6 * j + 2))) (rfl) ?_
        refine mr_callV (As := [.long (jl_ (xs (6 * j + 1)) (xs (6 * j + 2)))]) (rest := []) C0 hM hS vk_L_43 h_po rfl (c_P_state l np hsi hP ) rfl rfl hl.1 (Nat.le_of_ble_eq_true rfl) rfl rfl (by subst hR; exact ⟨Nat.le_of_ble_eq_true rfl, Nat.le_of_ble_eq_true rfl⟩) (by subst hR; exact ⟨Nat.le_of_ble_eq_true rfl, Nat.le_of_ble_eq_true rfl⟩) dd_L_law_429 (fun v1 M1 H locs hp hM hS => ?_)
        obtain ⟨ev1, hPW1, hfr⟩ := hp
        subst ev1
        refine W.eq (g2 := F0 m 432 ls [.int (stR_ hs (prime_ (jl_ (xs (6 * j + 1)) (xs (6 * j + 2)))) Pd Ls nw (jl_ (xs (6 * j + 1)) (xs (6 * j + 2))))]) rfl ?_
        refine mr_vi (x' := stR_ hs (primeT_ (jl_ (xs (6 * j + 1)) (xs (6 * j + 2)))) Pd Ls nw (jl_ (xs (6 * j + 1)) (xs (6 * j + 2)))) (by rw [prime_eq]) ?_
        refine lv_aload_n hx hb dd_L_law_432 rfl (lv_at hl 2 rfl) ?_
        refine lv_aload_n hx hb dd_L_law_433 rfl (lv_at hl 0 rfl) ?_
        refine lv_iload_n hx hb dd_L_law_434 rfl (lv_at hl 3 rfl) ?_
        refine lv_iconst (v := nI 1) hx hb dd_L_law_435 (by decide) ?_
        refine lv_iadd hx hb dd_L_law_436 ?_
        refine mr_vi (nI_add (6 * j) 1) ?_
        refine mr_sld hx hb hX hbl hbA hS (((6 * j) + 1)) rfl (by omega) hL dd_L_law_437 ?_
        refine lv_i2l (v := (xs ((6 * j) + 1)).toInt64) hx hb dd_L_law_438 (rfl) ?_
        refine lv_bipush (v := nI 32) hx hb dd_L_law_439 (by decide) ?_
        refine lv_lshl (v := lsl_ ((xs ((6 * j) + 1)).toInt64) (nI 32)) hx hb dd_L_law_441 (rfl) ?_
        refine lv_aload_n hx hb dd_L_law_442 rfl (lv_at hl 0 rfl) ?_
        refine lv_iload_n hx hb dd_L_law_443 rfl (lv_at hl 3 rfl) ?_
        refine lv_iconst (v := nI 2) hx hb dd_L_law_444 (by decide) ?_
        refine lv_iadd hx hb dd_L_law_445 ?_
        refine mr_vi (nI_add (6 * j) 2) ?_
        refine mr_sld hx hb hX hbl hbA hS (((6 * j) + 2)) rfl (by omega) hL dd_L_law_446 ?_
        refine lv_i2l (v := (xs ((6 * j) + 2)).toInt64) hx hb dd_L_law_447 (rfl) ?_
        refine mr_ldc2 (v := lN 4294967295) C0 tw_736 dd_L_law_448 ?_
        refine lv_land hx hb dd_L_law_451 ?_
        refine lv_lor hx hb dd_L_law_452 ?_
        refine mr_vl (x' := jl_ (xs (6 * j + 1)) (xs (6 * j + 2))) (rfl) ?_
        obtain ⟨w9, g9, cf, qf, xw, f9, sf, uf, lf, r1, r0, hrl, hk, h_2, h_3, h_4, h_5, h_6, h_7, h_8, h_9, h_10, h_0⟩ := MS_fr nx hfr hMS
        have eM : mu_ (mu_ (mu_ (mu_ (mu_ (mu_ (mu_ (mu_ (mu_ (mu_ M1 (am 2) (ia_ G 64 w9)) (am 3) (la_ G 10 f9)) (am 4) (ia_ G 10 g9)) (am 5) (ia_ G 17 cf)) (am 6) (la_ G 170 sf)) (am 7) (ia_ G 170 qf)) (am 8) (la_ G 17 uf)) (am 9) (la_ G 17 lf)) (am 10) (ia_ G 32 xw)) (am 0) (ob_ 6 [.ref (am 1), .ref (am 2), .int (nI hs), .long (hi_ N), .long (lo_ N), .long (hi_ Vt), .long (lo_ Vt), .int (nI Pd.length), .ref (am 3), .ref (am 4), .int (nI nw), .ref (am 5), .ref (am 6), .ref (am 7), .ref (am 8), .ref (am 9), .long (hi_ Hd), .long (lo_ Hd), .int (nI fc), .long r1, .long r0, .ref (am 10)]) = M1 := by rw [mu_id h_2, mu_id h_3, mu_id h_4, mu_id h_5, mu_id h_6, mu_id h_7, mu_id h_8, mu_id h_9, mu_id h_10, mu_id h_0]
        rw [← eM] at hM
        refine mr_callV (As := [.long (jl_ (xs (6 * j + 1)) (xs (6 * j + 2)))]) (rest := [.int (stR_ hs (primeT_ (jl_ (xs (6 * j + 1)) (xs (6 * j + 2)))) Pd Ls nw (jl_ (xs (6 * j + 1)) (xs (6 * j + 2))))]) C0 hM hS vk_L_46 mu_s rfl (c_M_state l nm hk hrl hsi.1 hsi.2.1 ) rfl rfl hl.1 (Nat.le_of_ble_eq_true rfl) rfl rfl (by subst hR; exact ⟨Nat.le_of_ble_eq_true rfl, Nat.le_of_ble_eq_true rfl⟩) (by subst hR; exact ⟨Nat.le_of_ble_eq_true rfl, Nat.le_of_ble_eq_true rfl⟩) dd_L_law_453 (fun v1 M2 H locs hp hM hS => ?_)
        obtain ⟨ev1, hMW⟩ := hp
        subst ev1
        have hLI2 : LI_ G ap am hs N Vt Pd Ls nw Hd fc M2 := LI_mk nm nx hk (hsi) hPW1 hMW
        refine W.eq (g2 := F0 m 456 ls [.int (stR_ hs (primeT_ (jl_ (xs (6 * j + 1)) (xs (6 * j + 2)))) Pd Ls nw (jl_ (xs (6 * j + 1)) (xs (6 * j + 2)))), .int (stR_ hs (primeT_ (jl_ (xs (6 * j + 1)) (xs (6 * j + 2)))) Pd Ls nw (jl_ (xs (6 * j + 1)) (xs (6 * j + 2))))]) rfl ?_
        refine lv_icmp_eq (tgt := 1085) hx hb dd_L_law_456 rfl (fun _ => ?_) (fun hc => absurd (rfl) hc)
        refine lv_iinc (k := 3) (v := nI (6 * (j + 1))) (lv' := [(3, .int (nI (6 * (j + 1)))), (0, .ref b), (1, .ref (ap 0)), (2, .ref (am 0))]) hx hb dd_L_law_1085 hl rfl (lw_inc j) (by decide) rfl (fun ls hl => ?_)
        refine lv_goto (tgt := 18) hx hb dd_L_law_1088 rfl ?_
        exact ih (j + 1) M2 hs N Vt nw Hd fc Pd Ls _ _ _ (by omega) hLI2 hM hS (lv_sub hl [1, 2, 3, 0] rfl)
      by_cases q33_7 : ((xs (6 * j)) &&& (nI 31)) = nI 7
      · refine lv_tableIn (tgt := 461) (off := 428) hx hb dd_L_law_33 (by rw [q33_7]; decide) (by rw [q33_7]; decide) (by rw [q33_7]; rfl) rfl ?_
        refine lv_aload_n hx hb dd_L_law_461 rfl (lv_at hl 1 rfl) ?_
        refine lv_aload_n hx hb dd_L_law_462 rfl (lv_at hl 0 rfl) ?_
        refine lv_iload_n hx hb dd_L_law_463 rfl (lv_at hl 3 rfl) ?_
        refine lv_iconst (v := nI 1) hx hb dd_L_law_464 (by decide) ?_
        refine lv_iadd hx hb dd_L_law_465 ?_
        refine mr_vi (nI_add (6 * j) 1) ?_
        refine mr_sld hx hb hX hbl hbA hS (((6 * j) + 1)) rfl (by omega) hL dd_L_law_466 ?_
        refine lv_aload_n hx hb dd_L_law_467 rfl (lv_at hl 0 rfl) ?_
        refine lv_iload_n hx hb dd_L_law_468 rfl (lv_at hl 3 rfl) ?_
        refine lv_iconst (v := nI 2) hx hb dd_L_law_469 (by decide) ?_
        refine lv_iadd hx hb dd_L_law_470 ?_
        refine mr_vi (nI_add (6 * j) 2) ?_
        refine mr_sld hx hb hX hbl hbA hS (((6 * j) + 2)) rfl (by omega) hL dd_L_law_471 ?_
        refine lv_if_eq (tgt := 479) hx hb dd_L_law_472 rfl (fun h472 => ?_) (fun h472 => ?_)
        · skip
          refine lv_iconst (v := nI 0) hx hb dd_L_law_479 (by decide) ?_
          refine mr_callV (As := [.int (xs ((6 * j) + 1)), .int (nI 0)]) (rest := []) C0 hM hS vk_L_47 h_po rfl (c_P_accumulator l np hsi hP ) rfl rfl hl.1 (Nat.le_of_ble_eq_true rfl) rfl rfl (by subst hR; exact ⟨Nat.le_of_ble_eq_true rfl, Nat.le_of_ble_eq_true rfl⟩) (by subst hR; exact ⟨Nat.le_of_ble_eq_true rfl, Nat.le_of_ble_eq_true rfl⟩) dd_L_law_480 (fun v1 M1 H locs hp hM hS => ?_)
          obtain ⟨ev1, hPW1, hfr⟩ := hp
          subst ev1
          refine W.eq (g2 := F0 m 483 ls [.long (acR_ hs N Ls nw (xs ((6 * j) + 1)) (nI 0))]) rfl ?_
          refine lv_aload_n hx hb dd_L_law_483 rfl (lv_at hl 2 rfl) ?_
          refine lv_aload_n hx hb dd_L_law_484 rfl (lv_at hl 0 rfl) ?_
          refine lv_iload_n hx hb dd_L_law_485 rfl (lv_at hl 3 rfl) ?_
          refine lv_iconst (v := nI 1) hx hb dd_L_law_486 (by decide) ?_
          refine lv_iadd hx hb dd_L_law_487 ?_
          refine mr_vi (nI_add (6 * j) 1) ?_
          refine mr_sld hx hb hX hbl hbA hS (((6 * j) + 1)) rfl (by omega) hL dd_L_law_488 ?_
          refine lv_aload_n hx hb dd_L_law_489 rfl (lv_at hl 0 rfl) ?_
          refine lv_iload_n hx hb dd_L_law_490 rfl (lv_at hl 3 rfl) ?_
          refine lv_iconst (v := nI 2) hx hb dd_L_law_491 (by decide) ?_
          refine lv_iadd hx hb dd_L_law_492 ?_
          refine mr_vi (nI_add (6 * j) 2) ?_
          refine mr_sld hx hb hX hbl hbA hS (((6 * j) + 2)) rfl (by omega) hL dd_L_law_493 ?_
          refine lv_if_eq (tgt := 501) hx hb dd_L_law_494 rfl (fun _ => ?_) (fun hc => absurd (h472) hc)
          refine lv_iconst (v := nI 0) hx hb dd_L_law_501 (by decide) ?_
          obtain ⟨w9, g9, cf, qf, xw, f9, sf, uf, lf, r1, r0, hrl, hk, h_2, h_3, h_4, h_5, h_6, h_7, h_8, h_9, h_10, h_0⟩ := MS_fr nx hfr hMS
          have eM : mu_ (mu_ (mu_ (mu_ (mu_ (mu_ (mu_ (mu_ (mu_ (mu_ M1 (am 2) (ia_ G 64 w9)) (am 3) (la_ G 10 f9)) (am 4) (ia_ G 10 g9)) (am 5) (ia_ G 17 cf)) (am 6) (la_ G 170 sf)) (am 7) (ia_ G 170 qf)) (am 8) (la_ G 17 uf)) (am 9) (la_ G 17 lf)) (am 10) (ia_ G 32 xw)) (am 0) (ob_ 6 [.ref (am 1), .ref (am 2), .int (nI hs), .long (hi_ N), .long (lo_ N), .long (hi_ Vt), .long (lo_ Vt), .int (nI Pd.length), .ref (am 3), .ref (am 4), .int (nI nw), .ref (am 5), .ref (am 6), .ref (am 7), .ref (am 8), .ref (am 9), .long (hi_ Hd), .long (lo_ Hd), .int (nI fc), .long r1, .long r0, .ref (am 10)]) = M1 := by rw [mu_id h_2, mu_id h_3, mu_id h_4, mu_id h_5, mu_id h_6, mu_id h_7, mu_id h_8, mu_id h_9, mu_id h_10, mu_id h_0]
          rw [← eM] at hM
          refine mr_callV (As := [.int (xs ((6 * j) + 1)), .int (nI 0)]) (rest := [.long (acR_ hs N Ls nw (xs ((6 * j) + 1)) (nI 0))]) C0 hM hS vk_L_51 mu_s rfl (c_M_accumulator l nm hk hrl hsi.1 hsi.2.1 ) rfl rfl hl.1 (Nat.le_of_ble_eq_true rfl) rfl rfl (by subst hR; exact ⟨Nat.le_of_ble_eq_true rfl, Nat.le_of_ble_eq_true rfl⟩) (by subst hR; exact ⟨Nat.le_of_ble_eq_true rfl, Nat.le_of_ble_eq_true rfl⟩) dd_L_law_502 (fun v1 M2 H locs hp hM hS => ?_)
          obtain ⟨ev1, hMW⟩ := hp
          subst ev1
          have hLI2 : LI_ G ap am hs N Vt Pd Ls nw Hd fc M2 := LI_mk nm nx hk (hsi) hPW1 hMW
          refine W.eq (g2 := F0 m 505 ls [.long (acR_ hs N Ls nw (xs ((6 * j) + 1)) (nI 0)), .long (acR_ hs N Ls nw (xs ((6 * j) + 1)) (nI 0))]) rfl ?_
          refine mr_lif_eq (tgt := 1085) hx hb dd_L_law_505 dd_L_law_506 rfl (fun _ => ?_) (fun hc => absurd (rfl) hc)
          refine lv_iinc (k := 3) (v := nI (6 * (j + 1))) (lv' := [(3, .int (nI (6 * (j + 1)))), (0, .ref b), (1, .ref (ap 0)), (2, .ref (am 0))]) hx hb dd_L_law_1085 hl rfl (lw_inc j) (by decide) rfl (fun ls hl => ?_)
          refine lv_goto (tgt := 18) hx hb dd_L_law_1088 rfl ?_
          exact ih (j + 1) M2 hs N Vt nw Hd fc Pd Ls _ _ _ (by omega) hLI2 hM hS (lv_sub hl [1, 2, 3, 0] rfl)
        · skip
          refine lv_iconst (v := nI 1) hx hb dd_L_law_475 (by decide) ?_
          refine lv_goto (tgt := 480) hx hb dd_L_law_476 rfl ?_
          refine mr_callV (As := [.int (xs ((6 * j) + 1)), .int (nI 1)]) (rest := []) C0 hM hS vk_L_47 h_po rfl (c_P_accumulator l np hsi hP ) rfl rfl hl.1 (Nat.le_of_ble_eq_true rfl) rfl rfl (by subst hR; exact ⟨Nat.le_of_ble_eq_true rfl, Nat.le_of_ble_eq_true rfl⟩) (by subst hR; exact ⟨Nat.le_of_ble_eq_true rfl, Nat.le_of_ble_eq_true rfl⟩) dd_L_law_480 (fun v1 M1 H locs hp hM hS => ?_)
          obtain ⟨ev1, hPW1, hfr⟩ := hp
          subst ev1
          refine W.eq (g2 := F0 m 483 ls [.long (acR_ hs N Ls nw (xs ((6 * j) + 1)) (nI 1))]) rfl ?_
          refine lv_aload_n hx hb dd_L_law_483 rfl (lv_at hl 2 rfl) ?_
          refine lv_aload_n hx hb dd_L_law_484 rfl (lv_at hl 0 rfl) ?_
          refine lv_iload_n hx hb dd_L_law_485 rfl (lv_at hl 3 rfl) ?_
          refine lv_iconst (v := nI 1) hx hb dd_L_law_486 (by decide) ?_
          refine lv_iadd hx hb dd_L_law_487 ?_
          refine mr_vi (nI_add (6 * j) 1) ?_
          refine mr_sld hx hb hX hbl hbA hS (((6 * j) + 1)) rfl (by omega) hL dd_L_law_488 ?_
          refine lv_aload_n hx hb dd_L_law_489 rfl (lv_at hl 0 rfl) ?_
          refine lv_iload_n hx hb dd_L_law_490 rfl (lv_at hl 3 rfl) ?_
          refine lv_iconst (v := nI 2) hx hb dd_L_law_491 (by decide) ?_
          refine lv_iadd hx hb dd_L_law_492 ?_
          refine mr_vi (nI_add (6 * j) 2) ?_
          refine mr_sld hx hb hX hbl hbA hS (((6 * j) + 2)) rfl (by omega) hL dd_L_law_493 ?_
          refine lv_if_eq (tgt := 501) hx hb dd_L_law_494 rfl (fun hc => absurd hc (h472)) (fun _ => ?_)
          refine lv_iconst (v := nI 1) hx hb dd_L_law_497 (by decide) ?_
          refine lv_goto (tgt := 502) hx hb dd_L_law_498 rfl ?_
          obtain ⟨w9, g9, cf, qf, xw, f9, sf, uf, lf, r1, r0, hrl, hk, h_2, h_3, h_4, h_5, h_6, h_7, h_8, h_9, h_10, h_0⟩ := MS_fr nx hfr hMS
          have eM : mu_ (mu_ (mu_ (mu_ (mu_ (mu_ (mu_ (mu_ (mu_ (mu_ M1 (am 2) (ia_ G 64 w9)) (am 3) (la_ G 10 f9)) (am 4) (ia_ G 10 g9)) (am 5) (ia_ G 17 cf)) (am 6) (la_ G 170 sf)) (am 7) (ia_ G 170 qf)) (am 8) (la_ G 17 uf)) (am 9) (la_ G 17 lf)) (am 10) (ia_ G 32 xw)) (am 0) (ob_ 6 [.ref (am 1), .ref (am 2), .int (nI hs), .long (hi_ N), .long (lo_ N), .long (hi_ Vt), .long (lo_ Vt), .int (nI Pd.length), .ref (am 3), .ref (am 4), .int (nI nw), .ref (am 5), .ref (am 6), .ref (am 7), .ref (am 8), .ref (am 9), .long (hi_ Hd), .long (lo_ Hd), .int (nI fc), .long r1, .long r0, .ref (am 10)]) = M1 := by rw [mu_id h_2, mu_id h_3, mu_id h_4, mu_id h_5, mu_id h_6, mu_id h_7, mu_id h_8, mu_id h_9, mu_id h_10, mu_id h_0]
          rw [← eM] at hM
          refine mr_callV (As := [.int (xs ((6 * j) + 1)), .int (nI 1)]) (rest := [.long (acR_ hs N Ls nw (xs ((6 * j) + 1)) (nI 1))]) C0 hM hS vk_L_51 mu_s rfl (c_M_accumulator l nm hk hrl hsi.1 hsi.2.1 ) rfl rfl hl.1 (Nat.le_of_ble_eq_true rfl) rfl rfl (by subst hR; exact ⟨Nat.le_of_ble_eq_true rfl, Nat.le_of_ble_eq_true rfl⟩) (by subst hR; exact ⟨Nat.le_of_ble_eq_true rfl, Nat.le_of_ble_eq_true rfl⟩) dd_L_law_502 (fun v1 M2 H locs hp hM hS => ?_)
          obtain ⟨ev1, hMW⟩ := hp
          subst ev1
          have hLI2 : LI_ G ap am hs N Vt Pd Ls nw Hd fc M2 := LI_mk nm nx hk (hsi) hPW1 hMW
          refine W.eq (g2 := F0 m 505 ls [.long (acR_ hs N Ls nw (xs ((6 * j) + 1)) (nI 1)), .long (acR_ hs N Ls nw (xs ((6 * j) + 1)) (nI 1))]) rfl ?_
          refine mr_lif_eq (tgt := 1085) hx hb dd_L_law_505 dd_L_law_506 rfl (fun _ => ?_) (fun hc => absurd (rfl) hc)
          refine lv_iinc (k := 3) (v := nI (6 * (j + 1))) (lv' := [(3, .int (nI (6 * (j + 1)))), (0, .ref b), (1, .ref (ap 0)), (2, .ref (am 0))]) hx hb dd_L_law_1085 hl rfl (lw_inc j) (by decide) rfl (fun ls hl => ?_)
          refine lv_goto (tgt := 18) hx hb dd_L_law_1088 rfl ?_
          exact ih (j + 1) M2 hs N Vt nw Hd fc Pd Ls _ _ _ (by omega) hLI2 hM hS (lv_sub hl [1, 2, 3, 0] rfl)
      by_cases q33_8 : ((xs (6 * j)) &&& (nI 31)) = nI 8
      · refine lv_tableIn (tgt := 511) (off := 478) hx hb dd_L_law_33 (by rw [q33_8]; decide) (by rw [q33_8]; decide) (by rw [q33_8]; rfl) rfl ?_
        refine lv_aload_n hx hb dd_L_law_511 rfl (lv_at hl 1 rfl) ?_
        refine lv_aload_n hx hb dd_L_law_512 rfl (lv_at hl 0 rfl) ?_
        refine lv_iload_n hx hb dd_L_law_513 rfl (lv_at hl 3 rfl) ?_
        refine lv_iconst (v := nI 1) hx hb dd_L_law_514 (by decide) ?_
        refine lv_iadd hx hb dd_L_law_515 ?_
        refine mr_vi (nI_add (6 * j) 1) ?_
        refine mr_sld hx hb hX hbl hbA hS (((6 * j) + 1)) rfl (by omega) hL dd_L_law_516 ?_
        refine lv_aload_n hx hb dd_L_law_517 rfl (lv_at hl 0 rfl) ?_
        refine lv_iload_n hx hb dd_L_law_518 rfl (lv_at hl 3 rfl) ?_
        refine lv_iconst (v := nI 2) hx hb dd_L_law_519 (by decide) ?_
        refine lv_iadd hx hb dd_L_law_520 ?_
        refine mr_vi (nI_add (6 * j) 2) ?_
        refine mr_sld hx hb hX hbl hbA hS (((6 * j) + 2)) rfl (by omega) hL dd_L_law_521 ?_
        refine lv_aload_n hx hb dd_L_law_522 rfl (lv_at hl 0 rfl) ?_
        refine lv_iload_n hx hb dd_L_law_523 rfl (lv_at hl 3 rfl) ?_
        refine lv_iconst (v := nI 3) hx hb dd_L_law_524 (by decide) ?_
        refine lv_iadd hx hb dd_L_law_525 ?_
        refine mr_vi (nI_add (6 * j) 3) ?_
        refine mr_sld hx hb hX hbl hbA hS (((6 * j) + 3)) rfl (by omega) hL dd_L_law_526 ?_
        refine mr_callV (As := [.int (xs ((6 * j) + 1)), .int (xs ((6 * j) + 2)), .int (xs ((6 * j) + 3))]) (rest := []) C0 hM hS vk_L_52 h_po rfl (c_P_note l np hsi hP ) rfl rfl hl.1 (Nat.le_of_ble_eq_true rfl) rfl rfl (by subst hR; exact ⟨Nat.le_of_ble_eq_true rfl, Nat.le_of_ble_eq_true rfl⟩) (by subst hR; exact ⟨Nat.le_of_ble_eq_true rfl, Nat.le_of_ble_eq_true rfl⟩) dd_L_law_527 (fun v1 M1 H locs hp hM hS => ?_)
        obtain ⟨ev1, hPW1, hfr⟩ := hp
        subst ev1
        refine W.eq (g2 := F0 m 530 ls [.int (ntR_ hs Ls nw (xs ((6 * j) + 1)) (xs ((6 * j) + 2)) (xs ((6 * j) + 3)))]) rfl ?_
        refine lv_aload_n hx hb dd_L_law_530 rfl (lv_at hl 2 rfl) ?_
        refine lv_aload_n hx hb dd_L_law_531 rfl (lv_at hl 0 rfl) ?_
        refine lv_iload_n hx hb dd_L_law_532 rfl (lv_at hl 3 rfl) ?_
        refine lv_iconst (v := nI 1) hx hb dd_L_law_533 (by decide) ?_
        refine lv_iadd hx hb dd_L_law_534 ?_
        refine mr_vi (nI_add (6 * j) 1) ?_
        refine mr_sld hx hb hX hbl hbA hS (((6 * j) + 1)) rfl (by omega) hL dd_L_law_535 ?_
        refine lv_aload_n hx hb dd_L_law_536 rfl (lv_at hl 0 rfl) ?_
        refine lv_iload_n hx hb dd_L_law_537 rfl (lv_at hl 3 rfl) ?_
        refine lv_iconst (v := nI 2) hx hb dd_L_law_538 (by decide) ?_
        refine lv_iadd hx hb dd_L_law_539 ?_
        refine mr_vi (nI_add (6 * j) 2) ?_
        refine mr_sld hx hb hX hbl hbA hS (((6 * j) + 2)) rfl (by omega) hL dd_L_law_540 ?_
        refine lv_aload_n hx hb dd_L_law_541 rfl (lv_at hl 0 rfl) ?_
        refine lv_iload_n hx hb dd_L_law_542 rfl (lv_at hl 3 rfl) ?_
        refine lv_iconst (v := nI 3) hx hb dd_L_law_543 (by decide) ?_
        refine lv_iadd hx hb dd_L_law_544 ?_
        refine mr_vi (nI_add (6 * j) 3) ?_
        refine mr_sld hx hb hX hbl hbA hS (((6 * j) + 3)) rfl (by omega) hL dd_L_law_545 ?_
        obtain ⟨w9, g9, cf, qf, xw, f9, sf, uf, lf, r1, r0, hrl, hk, h_2, h_3, h_4, h_5, h_6, h_7, h_8, h_9, h_10, h_0⟩ := MS_fr nx hfr hMS
        have eM : mu_ (mu_ (mu_ (mu_ (mu_ (mu_ (mu_ (mu_ (mu_ (mu_ M1 (am 2) (ia_ G 64 w9)) (am 3) (la_ G 10 f9)) (am 4) (ia_ G 10 g9)) (am 5) (ia_ G 17 cf)) (am 6) (la_ G 170 sf)) (am 7) (ia_ G 170 qf)) (am 8) (la_ G 17 uf)) (am 9) (la_ G 17 lf)) (am 10) (ia_ G 32 xw)) (am 0) (ob_ 6 [.ref (am 1), .ref (am 2), .int (nI hs), .long (hi_ N), .long (lo_ N), .long (hi_ Vt), .long (lo_ Vt), .int (nI Pd.length), .ref (am 3), .ref (am 4), .int (nI nw), .ref (am 5), .ref (am 6), .ref (am 7), .ref (am 8), .ref (am 9), .long (hi_ Hd), .long (lo_ Hd), .int (nI fc), .long r1, .long r0, .ref (am 10)]) = M1 := by rw [mu_id h_2, mu_id h_3, mu_id h_4, mu_id h_5, mu_id h_6, mu_id h_7, mu_id h_8, mu_id h_9, mu_id h_10, mu_id h_0]
        rw [← eM] at hM
        refine mr_callV (As := [.int (xs ((6 * j) + 1)), .int (xs ((6 * j) + 2)), .int (xs ((6 * j) + 3))]) (rest := [.int (ntR_ hs Ls nw (xs ((6 * j) + 1)) (xs ((6 * j) + 2)) (xs ((6 * j) + 3)))]) C0 hM hS vk_L_56 mu_s rfl (c_M_note l nm hk hrl hsi.1 hsi.2.1 ) rfl rfl hl.1 (Nat.le_of_ble_eq_true rfl) rfl rfl (by subst hR; exact ⟨Nat.le_of_ble_eq_true rfl, Nat.le_of_ble_eq_true rfl⟩) (by subst hR; exact ⟨Nat.le_of_ble_eq_true rfl, Nat.le_of_ble_eq_true rfl⟩) dd_L_law_546 (fun v1 M2 H locs hp hM hS => ?_)
        obtain ⟨ev1, hMW⟩ := hp
        subst ev1
        have hLI2 : LI_ G ap am hs N Vt Pd Ls nw Hd fc M2 := LI_mk nm nx hk (hsi) hPW1 hMW
        refine W.eq (g2 := F0 m 549 ls [.int (ntR_ hs Ls nw (xs ((6 * j) + 1)) (xs ((6 * j) + 2)) (xs ((6 * j) + 3))), .int (ntR_ hs Ls nw (xs ((6 * j) + 1)) (xs ((6 * j) + 2)) (xs ((6 * j) + 3)))]) rfl ?_
        refine lv_icmp_eq (tgt := 1085) hx hb dd_L_law_549 rfl (fun _ => ?_) (fun hc => absurd (rfl) hc)
        refine lv_iinc (k := 3) (v := nI (6 * (j + 1))) (lv' := [(3, .int (nI (6 * (j + 1)))), (0, .ref b), (1, .ref (ap 0)), (2, .ref (am 0))]) hx hb dd_L_law_1085 hl rfl (lw_inc j) (by decide) rfl (fun ls hl => ?_)
        refine lv_goto (tgt := 18) hx hb dd_L_law_1088 rfl ?_
        exact ih (j + 1) M2 hs N Vt nw Hd fc Pd Ls _ _ _ (by omega) hLI2 hM hS (lv_sub hl [1, 2, 3, 0] rfl)
      by_cases q33_9 : ((xs (6 * j)) &&& (nI 31)) = nI 9
      · refine lv_tableIn (tgt := 554) (off := 521) hx hb dd_L_law_33 (by rw [q33_9]; decide) (by rw [q33_9]; decide) (by rw [q33_9]; rfl) rfl ?_
        refine lv_aload_n hx hb dd_L_law_554 rfl (lv_at hl 1 rfl) ?_
        refine lv_aload_n hx hb dd_L_law_555 rfl (lv_at hl 0 rfl) ?_
        refine lv_iload_n hx hb dd_L_law_556 rfl (lv_at hl 3 rfl) ?_
        refine lv_iconst (v := nI 1) hx hb dd_L_law_557 (by decide) ?_
        refine lv_iadd hx hb dd_L_law_558 ?_
        refine mr_vi (nI_add (6 * j) 1) ?_
        refine mr_sld hx hb hX hbl hbA hS (((6 * j) + 1)) rfl (by omega) hL dd_L_law_559 ?_
        refine lv_i2l (v := (xs ((6 * j) + 1)).toInt64) hx hb dd_L_law_560 (rfl) ?_
        refine lv_bipush (v := nI 32) hx hb dd_L_law_561 (by decide) ?_
        refine lv_lshl (v := lsl_ ((xs ((6 * j) + 1)).toInt64) (nI 32)) hx hb dd_L_law_563 (rfl) ?_
        refine lv_aload_n hx hb dd_L_law_564 rfl (lv_at hl 0 rfl) ?_
        refine lv_iload_n hx hb dd_L_law_565 rfl (lv_at hl 3 rfl) ?_
        refine lv_iconst (v := nI 2) hx hb dd_L_law_566 (by decide) ?_
        refine lv_iadd hx hb dd_L_law_567 ?_
        refine mr_vi (nI_add (6 * j) 2) ?_
        refine mr_sld hx hb hX hbl hbA hS (((6 * j) + 2)) rfl (by omega) hL dd_L_law_568 ?_
        refine lv_i2l (v := (xs ((6 * j) + 2)).toInt64) hx hb dd_L_law_569 (rfl) ?_
        refine mr_ldc2 (v := lN 4294967295) C0 tw_736 dd_L_law_570 ?_
        refine lv_land hx hb dd_L_law_573 ?_
        refine lv_lor hx hb dd_L_law_574 ?_
        refine mr_vl (x' := jl_ (xs (6 * j + 1)) (xs (6 * j + 2))) (rfl) ?_
        refine lv_aload_n hx hb dd_L_law_575 rfl (lv_at hl 0 rfl) ?_
        refine lv_iload_n hx hb dd_L_law_576 rfl (lv_at hl 3 rfl) ?_
        refine lv_iconst (v := nI 3) hx hb dd_L_law_577 (by decide) ?_
        refine lv_iadd hx hb dd_L_law_578 ?_
        refine mr_vi (nI_add (6 * j) 3) ?_
        refine mr_sld hx hb hX hbl hbA hS (((6 * j) + 3)) rfl (by omega) hL dd_L_law_579 ?_
        refine lv_if_eq (tgt := 587) hx hb dd_L_law_580 rfl (fun h580 => ?_) (fun h580 => ?_)
        · skip
          refine lv_iconst (v := nI 0) hx hb dd_L_law_587 (by decide) ?_
          refine mr_callV (As := [.long (jl_ (xs (6 * j + 1)) (xs (6 * j + 2))), .int (nI 0)]) (rest := []) C0 hM hS vk_L_57 h_po rfl (c_P_witness l np hsi hP ) rfl rfl hl.1 (Nat.le_of_ble_eq_true rfl) rfl rfl (by subst hR; exact ⟨Nat.le_of_ble_eq_true rfl, Nat.le_of_ble_eq_true rfl⟩) (by subst hR; exact ⟨Nat.le_of_ble_eq_true rfl, Nat.le_of_ble_eq_true rfl⟩) dd_L_law_588 (fun v1 M1 H locs hp hM hS => ?_)
          obtain ⟨ev1, hPW1, hfr⟩ := hp
          subst ev1
          refine W.eq (g2 := F0 m 591 ls [.long (wiR_ hs N Ls nw (jl_ (xs (6 * j + 1)) (xs (6 * j + 2))) (nI 0))]) rfl ?_
          refine lv_aload_n hx hb dd_L_law_591 rfl (lv_at hl 2 rfl) ?_
          refine lv_aload_n hx hb dd_L_law_592 rfl (lv_at hl 0 rfl) ?_
          refine lv_iload_n hx hb dd_L_law_593 rfl (lv_at hl 3 rfl) ?_
          refine lv_iconst (v := nI 1) hx hb dd_L_law_594 (by decide) ?_
          refine lv_iadd hx hb dd_L_law_595 ?_
          refine mr_vi (nI_add (6 * j) 1) ?_
          refine mr_sld hx hb hX hbl hbA hS (((6 * j) + 1)) rfl (by omega) hL dd_L_law_596 ?_
          refine lv_i2l (v := (xs ((6 * j) + 1)).toInt64) hx hb dd_L_law_597 (rfl) ?_
          refine lv_bipush (v := nI 32) hx hb dd_L_law_598 (by decide) ?_
          refine lv_lshl (v := lsl_ ((xs ((6 * j) + 1)).toInt64) (nI 32)) hx hb dd_L_law_600 (rfl) ?_
          refine lv_aload_n hx hb dd_L_law_601 rfl (lv_at hl 0 rfl) ?_
          refine lv_iload_n hx hb dd_L_law_602 rfl (lv_at hl 3 rfl) ?_
          refine lv_iconst (v := nI 2) hx hb dd_L_law_603 (by decide) ?_
          refine lv_iadd hx hb dd_L_law_604 ?_
          refine mr_vi (nI_add (6 * j) 2) ?_
          refine mr_sld hx hb hX hbl hbA hS (((6 * j) + 2)) rfl (by omega) hL dd_L_law_605 ?_
          refine lv_i2l (v := (xs ((6 * j) + 2)).toInt64) hx hb dd_L_law_606 (rfl) ?_
          refine mr_ldc2 (v := lN 4294967295) C0 tw_736 dd_L_law_607 ?_
          refine lv_land hx hb dd_L_law_610 ?_
          refine lv_lor hx hb dd_L_law_611 ?_
          refine mr_vl (x' := jl_ (xs (6 * j + 1)) (xs (6 * j + 2))) (rfl) ?_
          refine lv_aload_n hx hb dd_L_law_612 rfl (lv_at hl 0 rfl) ?_
          refine lv_iload_n hx hb dd_L_law_613 rfl (lv_at hl 3 rfl) ?_
          refine lv_iconst (v := nI 3) hx hb dd_L_law_614 (by decide) ?_
          refine lv_iadd hx hb dd_L_law_615 ?_
          refine mr_vi (nI_add (6 * j) 3) ?_
          refine mr_sld hx hb hX hbl hbA hS (((6 * j) + 3)) rfl (by omega) hL dd_L_law_616 ?_
          refine lv_if_eq (tgt := 624) hx hb dd_L_law_617 rfl (fun _ => ?_) (fun hc => absurd (h580) hc)
          refine lv_iconst (v := nI 0) hx hb dd_L_law_624 (by decide) ?_
          obtain ⟨w9, g9, cf, qf, xw, f9, sf, uf, lf, r1, r0, hrl, hk, h_2, h_3, h_4, h_5, h_6, h_7, h_8, h_9, h_10, h_0⟩ := MS_fr nx hfr hMS
          have eM : mu_ (mu_ (mu_ (mu_ (mu_ (mu_ (mu_ (mu_ (mu_ (mu_ M1 (am 2) (ia_ G 64 w9)) (am 3) (la_ G 10 f9)) (am 4) (ia_ G 10 g9)) (am 5) (ia_ G 17 cf)) (am 6) (la_ G 170 sf)) (am 7) (ia_ G 170 qf)) (am 8) (la_ G 17 uf)) (am 9) (la_ G 17 lf)) (am 10) (ia_ G 32 xw)) (am 0) (ob_ 6 [.ref (am 1), .ref (am 2), .int (nI hs), .long (hi_ N), .long (lo_ N), .long (hi_ Vt), .long (lo_ Vt), .int (nI Pd.length), .ref (am 3), .ref (am 4), .int (nI nw), .ref (am 5), .ref (am 6), .ref (am 7), .ref (am 8), .ref (am 9), .long (hi_ Hd), .long (lo_ Hd), .int (nI fc), .long r1, .long r0, .ref (am 10)]) = M1 := by rw [mu_id h_2, mu_id h_3, mu_id h_4, mu_id h_5, mu_id h_6, mu_id h_7, mu_id h_8, mu_id h_9, mu_id h_10, mu_id h_0]
          rw [← eM] at hM
          refine mr_callV (As := [.long (jl_ (xs (6 * j + 1)) (xs (6 * j + 2))), .int (nI 0)]) (rest := [.long (wiR_ hs N Ls nw (jl_ (xs (6 * j + 1)) (xs (6 * j + 2))) (nI 0))]) C0 hM hS vk_L_61 mu_s rfl (c_M_witness l nm hk hrl hsi.1 hsi.2.1 hsi.2.2.1 hsi.2.2.2.2.1 hsi.2.2.2.2.2.1) rfl rfl hl.1 (Nat.le_of_ble_eq_true rfl) rfl rfl (by subst hR; exact ⟨Nat.le_of_ble_eq_true rfl, Nat.le_of_ble_eq_true rfl⟩) (by subst hR; exact ⟨Nat.le_of_ble_eq_true rfl, Nat.le_of_ble_eq_true rfl⟩) dd_L_law_625 (fun v1 M2 H locs hp hM hS => ?_)
          obtain ⟨ev1, hMW⟩ := hp
          subst ev1
          have hLI2 : LI_ G ap am hs N Vt Pd Ls nw Hd fc M2 := LI_mk nm nx hk (hsi) hPW1 hMW
          refine W.eq (g2 := F0 m 628 ls [.long (wiR_ hs N Ls nw (jl_ (xs (6 * j + 1)) (xs (6 * j + 2))) (nI 0)), .long (wiR_ hs N Ls nw (jl_ (xs (6 * j + 1)) (xs (6 * j + 2))) (nI 0))]) rfl ?_
          refine mr_lif_eq (tgt := 1085) hx hb dd_L_law_628 dd_L_law_629 rfl (fun _ => ?_) (fun hc => absurd (rfl) hc)
          refine lv_iinc (k := 3) (v := nI (6 * (j + 1))) (lv' := [(3, .int (nI (6 * (j + 1)))), (0, .ref b), (1, .ref (ap 0)), (2, .ref (am 0))]) hx hb dd_L_law_1085 hl rfl (lw_inc j) (by decide) rfl (fun ls hl => ?_)
          refine lv_goto (tgt := 18) hx hb dd_L_law_1088 rfl ?_
          exact ih (j + 1) M2 hs N Vt nw Hd fc Pd Ls _ _ _ (by omega) hLI2 hM hS (lv_sub hl [1, 2, 3, 0] rfl)
        · skip
          refine lv_iconst (v := nI 1) hx hb dd_L_law_583 (by decide) ?_
          refine lv_goto (tgt := 588) hx hb dd_L_law_584 rfl ?_
          refine mr_callV (As := [.long (jl_ (xs (6 * j + 1)) (xs (6 * j + 2))), .int (nI 1)]) (rest := []) C0 hM hS vk_L_57 h_po rfl (c_P_witness l np hsi hP ) rfl rfl hl.1 (Nat.le_of_ble_eq_true rfl) rfl rfl (by subst hR; exact ⟨Nat.le_of_ble_eq_true rfl, Nat.le_of_ble_eq_true rfl⟩) (by subst hR; exact ⟨Nat.le_of_ble_eq_true rfl, Nat.le_of_ble_eq_true rfl⟩) dd_L_law_588 (fun v1 M1 H locs hp hM hS => ?_)
          obtain ⟨ev1, hPW1, hfr⟩ := hp
          subst ev1
          refine W.eq (g2 := F0 m 591 ls [.long (wiR_ hs N Ls nw (jl_ (xs (6 * j + 1)) (xs (6 * j + 2))) (nI 1))]) rfl ?_
          refine lv_aload_n hx hb dd_L_law_591 rfl (lv_at hl 2 rfl) ?_
          refine lv_aload_n hx hb dd_L_law_592 rfl (lv_at hl 0 rfl) ?_
          refine lv_iload_n hx hb dd_L_law_593 rfl (lv_at hl 3 rfl) ?_
          refine lv_iconst (v := nI 1) hx hb dd_L_law_594 (by decide) ?_
          refine lv_iadd hx hb dd_L_law_595 ?_
          refine mr_vi (nI_add (6 * j) 1) ?_
          refine mr_sld hx hb hX hbl hbA hS (((6 * j) + 1)) rfl (by omega) hL dd_L_law_596 ?_
          refine lv_i2l (v := (xs ((6 * j) + 1)).toInt64) hx hb dd_L_law_597 (rfl) ?_
          refine lv_bipush (v := nI 32) hx hb dd_L_law_598 (by decide) ?_
          refine lv_lshl (v := lsl_ ((xs ((6 * j) + 1)).toInt64) (nI 32)) hx hb dd_L_law_600 (rfl) ?_
          refine lv_aload_n hx hb dd_L_law_601 rfl (lv_at hl 0 rfl) ?_
          refine lv_iload_n hx hb dd_L_law_602 rfl (lv_at hl 3 rfl) ?_
          refine lv_iconst (v := nI 2) hx hb dd_L_law_603 (by decide) ?_
          refine lv_iadd hx hb dd_L_law_604 ?_
          refine mr_vi (nI_add (6 * j) 2) ?_
          refine mr_sld hx hb hX hbl hbA hS (((6 * j) + 2)) rfl (by omega) hL dd_L_law_605 ?_
          refine lv_i2l (v := (xs ((6 * j) + 2)).toInt64) hx hb dd_L_law_606 (rfl) ?_
          refine mr_ldc2 (v := lN 4294967295) C0 tw_736 dd_L_law_607 ?_
          refine lv_land hx hb dd_L_law_610 ?_
          refine lv_lor hx hb dd_L_law_611 ?_
          refine mr_vl (x' := jl_ (xs (6 * j + 1)) (xs (6 * j + 2))) (rfl) ?_
          refine lv_aload_n hx hb dd_L_law_612 rfl (lv_at hl 0 rfl) ?_
          refine lv_iload_n hx hb dd_L_law_613 rfl (lv_at hl 3 rfl) ?_
          refine lv_iconst (v := nI 3) hx hb dd_L_law_614 (by decide) ?_
          refine lv_iadd hx hb dd_L_law_615 ?_
          refine mr_vi (nI_add (6 * j) 3) ?_
          refine mr_sld hx hb hX hbl hbA hS (((6 * j) + 3)) rfl (by omega) hL dd_L_law_616 ?_
          refine lv_if_eq (tgt := 624) hx hb dd_L_law_617 rfl (fun hc => absurd hc (h580)) (fun _ => ?_)
          refine lv_iconst (v := nI 1) hx hb dd_L_law_620 (by decide) ?_
          refine lv_goto (tgt := 625) hx hb dd_L_law_621 rfl ?_
          obtain ⟨w9, g9, cf, qf, xw, f9, sf, uf, lf, r1, r0, hrl, hk, h_2, h_3, h_4, h_5, h_6, h_7, h_8, h_9, h_10, h_0⟩ := MS_fr nx hfr hMS
          have eM : mu_ (mu_ (mu_ (mu_ (mu_ (mu_ (mu_ (mu_ (mu_ (mu_ M1 (am 2) (ia_ G 64 w9)) (am 3) (la_ G 10 f9)) (am 4) (ia_ G 10 g9)) (am 5) (ia_ G 17 cf)) (am 6) (la_ G 170 sf)) (am 7) (ia_ G 170 qf)) (am 8) (la_ G 17 uf)) (am 9) (la_ G 17 lf)) (am 10) (ia_ G 32 xw)) (am 0) (ob_ 6 [.ref (am 1), .ref (am 2), .int (nI hs), .long (hi_ N), .long (lo_ N), .long (hi_ Vt), .long (lo_ Vt), .int (nI Pd.length), .ref (am 3), .ref (am 4), .int (nI nw), .ref (am 5), .ref (am 6), .ref (am 7), .ref (am 8), .ref (am 9), .long (hi_ Hd), .long (lo_ Hd), .int (nI fc), .long r1, .long r0, .ref (am 10)]) = M1 := by rw [mu_id h_2, mu_id h_3, mu_id h_4, mu_id h_5, mu_id h_6, mu_id h_7, mu_id h_8, mu_id h_9, mu_id h_10, mu_id h_0]
          rw [← eM] at hM
          refine mr_callV (As := [.long (jl_ (xs (6 * j + 1)) (xs (6 * j + 2))), .int (nI 1)]) (rest := [.long (wiR_ hs N Ls nw (jl_ (xs (6 * j + 1)) (xs (6 * j + 2))) (nI 1))]) C0 hM hS vk_L_61 mu_s rfl (c_M_witness l nm hk hrl hsi.1 hsi.2.1 hsi.2.2.1 hsi.2.2.2.2.1 hsi.2.2.2.2.2.1) rfl rfl hl.1 (Nat.le_of_ble_eq_true rfl) rfl rfl (by subst hR; exact ⟨Nat.le_of_ble_eq_true rfl, Nat.le_of_ble_eq_true rfl⟩) (by subst hR; exact ⟨Nat.le_of_ble_eq_true rfl, Nat.le_of_ble_eq_true rfl⟩) dd_L_law_625 (fun v1 M2 H locs hp hM hS => ?_)
          obtain ⟨ev1, hMW⟩ := hp
          subst ev1
          have hLI2 : LI_ G ap am hs N Vt Pd Ls nw Hd fc M2 := LI_mk nm nx hk (hsi) hPW1 hMW
          refine W.eq (g2 := F0 m 628 ls [.long (wiR_ hs N Ls nw (jl_ (xs (6 * j + 1)) (xs (6 * j + 2))) (nI 1)), .long (wiR_ hs N Ls nw (jl_ (xs (6 * j + 1)) (xs (6 * j + 2))) (nI 1))]) rfl ?_
          refine mr_lif_eq (tgt := 1085) hx hb dd_L_law_628 dd_L_law_629 rfl (fun _ => ?_) (fun hc => absurd (rfl) hc)
          refine lv_iinc (k := 3) (v := nI (6 * (j + 1))) (lv' := [(3, .int (nI (6 * (j + 1)))), (0, .ref b), (1, .ref (ap 0)), (2, .ref (am 0))]) hx hb dd_L_law_1085 hl rfl (lw_inc j) (by decide) rfl (fun ls hl => ?_)
          refine lv_goto (tgt := 18) hx hb dd_L_law_1088 rfl ?_
          exact ih (j + 1) M2 hs N Vt nw Hd fc Pd Ls _ _ _ (by omega) hLI2 hM hS (lv_sub hl [1, 2, 3, 0] rfl)
      by_cases q33_10 : ((xs (6 * j)) &&& (nI 31)) = nI 10
      · refine lv_tableIn (tgt := 634) (off := 601) hx hb dd_L_law_33 (by rw [q33_10]; decide) (by rw [q33_10]; decide) (by rw [q33_10]; rfl) rfl ?_
        refine lv_aload_n hx hb dd_L_law_634 rfl (lv_at hl 1 rfl) ?_
        refine lv_aload_n hx hb dd_L_law_635 rfl (lv_at hl 0 rfl) ?_
        refine lv_iload_n hx hb dd_L_law_636 rfl (lv_at hl 3 rfl) ?_
        refine lv_iconst (v := nI 1) hx hb dd_L_law_637 (by decide) ?_
        refine lv_iadd hx hb dd_L_law_638 ?_
        refine mr_vi (nI_add (6 * j) 1) ?_
        refine mr_sld hx hb hX hbl hbA hS (((6 * j) + 1)) rfl (by omega) hL dd_L_law_639 ?_
        refine lv_i2l (v := (xs ((6 * j) + 1)).toInt64) hx hb dd_L_law_640 (rfl) ?_
        refine lv_bipush (v := nI 32) hx hb dd_L_law_641 (by decide) ?_
        refine lv_lshl (v := lsl_ ((xs ((6 * j) + 1)).toInt64) (nI 32)) hx hb dd_L_law_643 (rfl) ?_
        refine lv_aload_n hx hb dd_L_law_644 rfl (lv_at hl 0 rfl) ?_
        refine lv_iload_n hx hb dd_L_law_645 rfl (lv_at hl 3 rfl) ?_
        refine lv_iconst (v := nI 2) hx hb dd_L_law_646 (by decide) ?_
        refine lv_iadd hx hb dd_L_law_647 ?_
        refine mr_vi (nI_add (6 * j) 2) ?_
        refine mr_sld hx hb hX hbl hbA hS (((6 * j) + 2)) rfl (by omega) hL dd_L_law_648 ?_
        refine lv_i2l (v := (xs ((6 * j) + 2)).toInt64) hx hb dd_L_law_649 (rfl) ?_
        refine mr_ldc2 (v := lN 4294967295) C0 tw_736 dd_L_law_650 ?_
        refine lv_land hx hb dd_L_law_653 ?_
        refine lv_lor hx hb dd_L_law_654 ?_
        refine mr_vl (x' := jl_ (xs (6 * j + 1)) (xs (6 * j + 2))) (rfl) ?_
        refine mr_callV (As := [.long (jl_ (xs (6 * j + 1)) (xs (6 * j + 2)))]) (rest := []) C0 hM hS vk_L_62 h_po rfl (c_P_issue l np hsi hP ) rfl rfl hl.1 (Nat.le_of_ble_eq_true rfl) rfl rfl (by subst hR; exact ⟨Nat.le_of_ble_eq_true rfl, Nat.le_of_ble_eq_true rfl⟩) (by subst hR; exact ⟨Nat.le_of_ble_eq_true rfl, Nat.le_of_ble_eq_true rfl⟩) dd_L_law_655 (fun v1 M1 H locs hp hM hS => ?_)
        obtain ⟨ev1, hPW1, hfr⟩ := hp
        subst ev1
        refine W.eq (g2 := F0 m 658 ls [.int (isR_ hs (prime_ (jl_ (xs (6 * j + 1)) (xs (6 * j + 2)))) Ls nw (jl_ (xs (6 * j + 1)) (xs (6 * j + 2))))]) rfl ?_
        refine mr_vi (x' := isR_ hs (primeT_ (jl_ (xs (6 * j + 1)) (xs (6 * j + 2)))) Ls nw (jl_ (xs (6 * j + 1)) (xs (6 * j + 2)))) (by rw [prime_eq]) ?_
        rw [prime_eq] at hPW1
        refine lv_aload_n hx hb dd_L_law_658 rfl (lv_at hl 2 rfl) ?_
        refine lv_aload_n hx hb dd_L_law_659 rfl (lv_at hl 0 rfl) ?_
        refine lv_iload_n hx hb dd_L_law_660 rfl (lv_at hl 3 rfl) ?_
        refine lv_iconst (v := nI 1) hx hb dd_L_law_661 (by decide) ?_
        refine lv_iadd hx hb dd_L_law_662 ?_
        refine mr_vi (nI_add (6 * j) 1) ?_
        refine mr_sld hx hb hX hbl hbA hS (((6 * j) + 1)) rfl (by omega) hL dd_L_law_663 ?_
        refine lv_i2l (v := (xs ((6 * j) + 1)).toInt64) hx hb dd_L_law_664 (rfl) ?_
        refine lv_bipush (v := nI 32) hx hb dd_L_law_665 (by decide) ?_
        refine lv_lshl (v := lsl_ ((xs ((6 * j) + 1)).toInt64) (nI 32)) hx hb dd_L_law_667 (rfl) ?_
        refine lv_aload_n hx hb dd_L_law_668 rfl (lv_at hl 0 rfl) ?_
        refine lv_iload_n hx hb dd_L_law_669 rfl (lv_at hl 3 rfl) ?_
        refine lv_iconst (v := nI 2) hx hb dd_L_law_670 (by decide) ?_
        refine lv_iadd hx hb dd_L_law_671 ?_
        refine mr_vi (nI_add (6 * j) 2) ?_
        refine mr_sld hx hb hX hbl hbA hS (((6 * j) + 2)) rfl (by omega) hL dd_L_law_672 ?_
        refine lv_i2l (v := (xs ((6 * j) + 2)).toInt64) hx hb dd_L_law_673 (rfl) ?_
        refine mr_ldc2 (v := lN 4294967295) C0 tw_736 dd_L_law_674 ?_
        refine lv_land hx hb dd_L_law_677 ?_
        refine lv_lor hx hb dd_L_law_678 ?_
        refine mr_vl (x' := jl_ (xs (6 * j + 1)) (xs (6 * j + 2))) (rfl) ?_
        obtain ⟨w9, g9, cf, qf, xw, f9, sf, uf, lf, r1, r0, hrl, hk, h_2, h_3, h_4, h_5, h_6, h_7, h_8, h_9, h_10, h_0⟩ := MS_fr nx hfr hMS
        have eM : mu_ (mu_ (mu_ (mu_ (mu_ (mu_ (mu_ (mu_ (mu_ (mu_ M1 (am 2) (ia_ G 64 w9)) (am 3) (la_ G 10 f9)) (am 4) (ia_ G 10 g9)) (am 5) (ia_ G 17 cf)) (am 6) (la_ G 170 sf)) (am 7) (ia_ G 170 qf)) (am 8) (la_ G 17 uf)) (am 9) (la_ G 17 lf)) (am 10) (ia_ G 32 xw)) (am 0) (ob_ 6 [.ref (am 1), .ref (am 2), .int (nI hs), .long (hi_ N), .long (lo_ N), .long (hi_ Vt), .long (lo_ Vt), .int (nI Pd.length), .ref (am 3), .ref (am 4), .int (nI nw), .ref (am 5), .ref (am 6), .ref (am 7), .ref (am 8), .ref (am 9), .long (hi_ Hd), .long (lo_ Hd), .int (nI fc), .long r1, .long r0, .ref (am 10)]) = M1 := by rw [mu_id h_2, mu_id h_3, mu_id h_4, mu_id h_5, mu_id h_6, mu_id h_7, mu_id h_8, mu_id h_9, mu_id h_10, mu_id h_0]
        rw [← eM] at hM
        refine mr_callV (As := [.long (jl_ (xs (6 * j + 1)) (xs (6 * j + 2)))]) (rest := [.int (isR_ hs (primeT_ (jl_ (xs (6 * j + 1)) (xs (6 * j + 2)))) Ls nw (jl_ (xs (6 * j + 1)) (xs (6 * j + 2))))]) C0 hM hS vk_L_65 mu_s rfl (c_M_issue l nm hk hrl hsi.1 hsi.2.1 hsi.2.2.1 hsi.2.2.2.2.1 hsi.2.2.2.2.2.1) rfl rfl hl.1 (Nat.le_of_ble_eq_true rfl) rfl rfl (by subst hR; exact ⟨Nat.le_of_ble_eq_true rfl, Nat.le_of_ble_eq_true rfl⟩) (by subst hR; exact ⟨Nat.le_of_ble_eq_true rfl, Nat.le_of_ble_eq_true rfl⟩) dd_L_law_679 (fun v1 M2 H locs hp hM hS => ?_)
        obtain ⟨ev1, hMW⟩ := hp
        subst ev1
        have hLI2 : LI_ G ap am hs N Vt Pd Ls nw (isH_ hs N (primeT_ (jl_ (xs (6 * j + 1)) (xs (6 * j + 2)))) Ls nw (jl_ (xs (6 * j + 1)) (xs (6 * j + 2))) Hd) (isF_ hs (primeT_ (jl_ (xs (6 * j + 1)) (xs (6 * j + 2)))) Ls nw (jl_ (xs (6 * j + 1)) (xs (6 * j + 2))) fc) M2 := LI_mk nm nx hk (SI_is hsi) hPW1 hMW
        refine W.eq (g2 := F0 m 682 ls [.int (isR_ hs (primeT_ (jl_ (xs (6 * j + 1)) (xs (6 * j + 2)))) Ls nw (jl_ (xs (6 * j + 1)) (xs (6 * j + 2)))), .int (isR_ hs (primeT_ (jl_ (xs (6 * j + 1)) (xs (6 * j + 2)))) Ls nw (jl_ (xs (6 * j + 1)) (xs (6 * j + 2))))]) rfl ?_
        refine lv_icmp_eq (tgt := 1085) hx hb dd_L_law_682 rfl (fun _ => ?_) (fun hc => absurd (rfl) hc)
        refine lv_iinc (k := 3) (v := nI (6 * (j + 1))) (lv' := [(3, .int (nI (6 * (j + 1)))), (0, .ref b), (1, .ref (ap 0)), (2, .ref (am 0))]) hx hb dd_L_law_1085 hl rfl (lw_inc j) (by decide) rfl (fun ls hl => ?_)
        refine lv_goto (tgt := 18) hx hb dd_L_law_1088 rfl ?_
        exact ih (j + 1) M2 hs N Vt nw (isH_ hs N (primeT_ (jl_ (xs (6 * j + 1)) (xs (6 * j + 2)))) Ls nw (jl_ (xs (6 * j + 1)) (xs (6 * j + 2))) Hd) (isF_ hs (primeT_ (jl_ (xs (6 * j + 1)) (xs (6 * j + 2)))) Ls nw (jl_ (xs (6 * j + 1)) (xs (6 * j + 2))) fc) Pd Ls _ _ _ (by omega) hLI2 hM hS (lv_sub hl [1, 2, 3, 0] rfl)
      by_cases q33_11 : ((xs (6 * j)) &&& (nI 31)) = nI 11
      · refine lv_tableIn (tgt := 687) (off := 654) hx hb dd_L_law_33 (by rw [q33_11]; decide) (by rw [q33_11]; decide) (by rw [q33_11]; rfl) rfl ?_
        refine lv_aload_n hx hb dd_L_law_687 rfl (lv_at hl 1 rfl) ?_
        refine lv_aload_n hx hb dd_L_law_688 rfl (lv_at hl 0 rfl) ?_
        refine lv_iload_n hx hb dd_L_law_689 rfl (lv_at hl 3 rfl) ?_
        refine lv_iconst (v := nI 1) hx hb dd_L_law_690 (by decide) ?_
        refine lv_iadd hx hb dd_L_law_691 ?_
        refine mr_vi (nI_add (6 * j) 1) ?_
        refine mr_sld hx hb hX hbl hbA hS (((6 * j) + 1)) rfl (by omega) hL dd_L_law_692 ?_
        refine lv_i2l (v := (xs ((6 * j) + 1)).toInt64) hx hb dd_L_law_693 (rfl) ?_
        refine lv_bipush (v := nI 32) hx hb dd_L_law_694 (by decide) ?_
        refine lv_lshl (v := lsl_ ((xs ((6 * j) + 1)).toInt64) (nI 32)) hx hb dd_L_law_696 (rfl) ?_
        refine lv_aload_n hx hb dd_L_law_697 rfl (lv_at hl 0 rfl) ?_
        refine lv_iload_n hx hb dd_L_law_698 rfl (lv_at hl 3 rfl) ?_
        refine lv_iconst (v := nI 2) hx hb dd_L_law_699 (by decide) ?_
        refine lv_iadd hx hb dd_L_law_700 ?_
        refine mr_vi (nI_add (6 * j) 2) ?_
        refine mr_sld hx hb hX hbl hbA hS (((6 * j) + 2)) rfl (by omega) hL dd_L_law_701 ?_
        refine lv_i2l (v := (xs ((6 * j) + 2)).toInt64) hx hb dd_L_law_702 (rfl) ?_
        refine mr_ldc2 (v := lN 4294967295) C0 tw_736 dd_L_law_703 ?_
        refine lv_land hx hb dd_L_law_706 ?_
        refine lv_lor hx hb dd_L_law_707 ?_
        refine mr_vl (x' := lN (ju_ (xs (6 * j + 1)) (xs (6 * j + 2)))) (ju_eq _ _) ?_
        refine lv_aload_n hx hb dd_L_law_708 rfl (lv_at hl 0 rfl) ?_
        refine lv_iload_n hx hb dd_L_law_709 rfl (lv_at hl 3 rfl) ?_
        refine lv_iconst (v := nI 3) hx hb dd_L_law_710 (by decide) ?_
        refine lv_iadd hx hb dd_L_law_711 ?_
        refine mr_vi (nI_add (6 * j) 3) ?_
        refine mr_sld hx hb hX hbl hbA hS (((6 * j) + 3)) rfl (by omega) hL dd_L_law_712 ?_
        refine lv_i2l (v := (xs ((6 * j) + 3)).toInt64) hx hb dd_L_law_713 (rfl) ?_
        refine lv_bipush (v := nI 32) hx hb dd_L_law_714 (by decide) ?_
        refine lv_lshl (v := lsl_ ((xs ((6 * j) + 3)).toInt64) (nI 32)) hx hb dd_L_law_716 (rfl) ?_
        refine lv_aload_n hx hb dd_L_law_717 rfl (lv_at hl 0 rfl) ?_
        refine lv_iload_n hx hb dd_L_law_718 rfl (lv_at hl 3 rfl) ?_
        refine lv_iconst (v := nI 4) hx hb dd_L_law_719 (by decide) ?_
        refine lv_iadd hx hb dd_L_law_720 ?_
        refine mr_vi (nI_add (6 * j) 4) ?_
        refine mr_sld hx hb hX hbl hbA hS (((6 * j) + 4)) rfl (by omega) hL dd_L_law_721 ?_
        refine lv_i2l (v := (xs ((6 * j) + 4)).toInt64) hx hb dd_L_law_722 (rfl) ?_
        refine mr_ldc2 (v := lN 4294967295) C0 tw_736 dd_L_law_723 ?_
        refine lv_land hx hb dd_L_law_726 ?_
        refine lv_lor hx hb dd_L_law_727 ?_
        refine mr_vl (x' := lN (ju_ (xs (6 * j + 3)) (xs (6 * j + 4)))) (ju_eq _ _) ?_
        refine lv_aload_n hx hb dd_L_law_728 rfl (lv_at hl 0 rfl) ?_
        refine lv_iload_n hx hb dd_L_law_729 rfl (lv_at hl 3 rfl) ?_
        refine lv_iconst (v := nI 5) hx hb dd_L_law_730 (by decide) ?_
        refine lv_iadd hx hb dd_L_law_731 ?_
        refine mr_vi (nI_add (6 * j) 5) ?_
        refine mr_sld hx hb hX hbl hbA hS (((6 * j) + 5)) rfl (by omega) hL dd_L_law_732 ?_
        refine mr_callV (As := [.long (lN (ju_ (xs (6 * j + 1)) (xs (6 * j + 2)))), .long (lN (ju_ (xs (6 * j + 3)) (xs (6 * j + 4)))), .int (xs ((6 * j) + 5))]) (rest := []) C0 hM hS vk_L_66 h_po rfl (c_P_hold l np hsi hP (ju_lt _ _) (ju_lt _ _)) rfl rfl hl.1 (Nat.le_of_ble_eq_true rfl) rfl rfl (by subst hR; exact ⟨Nat.le_of_ble_eq_true rfl, Nat.le_of_ble_eq_true rfl⟩) (by subst hR; exact ⟨Nat.le_of_ble_eq_true rfl, Nat.le_of_ble_eq_true rfl⟩) dd_L_law_733 (fun v1 M1 H locs hp hM hS => ?_)
        obtain ⟨ev1, hPW1, hfr⟩ := hp
        subst ev1
        refine W.eq (g2 := F0 m 736 ls [.int (hoI_ hs N ((ju_ (xs (6 * j + 1)) (xs (6 * j + 2))) * 18446744073709551616 + (ju_ (xs (6 * j + 3)) (xs (6 * j + 4)))) (xs ((6 * j) + 5)))]) rfl ?_
        refine lv_aload_n hx hb dd_L_law_736 rfl (lv_at hl 2 rfl) ?_
        refine lv_aload_n hx hb dd_L_law_737 rfl (lv_at hl 0 rfl) ?_
        refine lv_iload_n hx hb dd_L_law_738 rfl (lv_at hl 3 rfl) ?_
        refine lv_iconst (v := nI 1) hx hb dd_L_law_739 (by decide) ?_
        refine lv_iadd hx hb dd_L_law_740 ?_
        refine mr_vi (nI_add (6 * j) 1) ?_
        refine mr_sld hx hb hX hbl hbA hS (((6 * j) + 1)) rfl (by omega) hL dd_L_law_741 ?_
        refine lv_i2l (v := (xs ((6 * j) + 1)).toInt64) hx hb dd_L_law_742 (rfl) ?_
        refine lv_bipush (v := nI 32) hx hb dd_L_law_743 (by decide) ?_
        refine lv_lshl (v := lsl_ ((xs ((6 * j) + 1)).toInt64) (nI 32)) hx hb dd_L_law_745 (rfl) ?_
        refine lv_aload_n hx hb dd_L_law_746 rfl (lv_at hl 0 rfl) ?_
        refine lv_iload_n hx hb dd_L_law_747 rfl (lv_at hl 3 rfl) ?_
        refine lv_iconst (v := nI 2) hx hb dd_L_law_748 (by decide) ?_
        refine lv_iadd hx hb dd_L_law_749 ?_
        refine mr_vi (nI_add (6 * j) 2) ?_
        refine mr_sld hx hb hX hbl hbA hS (((6 * j) + 2)) rfl (by omega) hL dd_L_law_750 ?_
        refine lv_i2l (v := (xs ((6 * j) + 2)).toInt64) hx hb dd_L_law_751 (rfl) ?_
        refine mr_ldc2 (v := lN 4294967295) C0 tw_736 dd_L_law_752 ?_
        refine lv_land hx hb dd_L_law_755 ?_
        refine lv_lor hx hb dd_L_law_756 ?_
        refine mr_vl (x' := lN (ju_ (xs (6 * j + 1)) (xs (6 * j + 2)))) (ju_eq _ _) ?_
        refine lv_aload_n hx hb dd_L_law_757 rfl (lv_at hl 0 rfl) ?_
        refine lv_iload_n hx hb dd_L_law_758 rfl (lv_at hl 3 rfl) ?_
        refine lv_iconst (v := nI 3) hx hb dd_L_law_759 (by decide) ?_
        refine lv_iadd hx hb dd_L_law_760 ?_
        refine mr_vi (nI_add (6 * j) 3) ?_
        refine mr_sld hx hb hX hbl hbA hS (((6 * j) + 3)) rfl (by omega) hL dd_L_law_761 ?_
        refine lv_i2l (v := (xs ((6 * j) + 3)).toInt64) hx hb dd_L_law_762 (rfl) ?_
        refine lv_bipush (v := nI 32) hx hb dd_L_law_763 (by decide) ?_
        refine lv_lshl (v := lsl_ ((xs ((6 * j) + 3)).toInt64) (nI 32)) hx hb dd_L_law_765 (rfl) ?_
        refine lv_aload_n hx hb dd_L_law_766 rfl (lv_at hl 0 rfl) ?_
        refine lv_iload_n hx hb dd_L_law_767 rfl (lv_at hl 3 rfl) ?_
        refine lv_iconst (v := nI 4) hx hb dd_L_law_768 (by decide) ?_
        refine lv_iadd hx hb dd_L_law_769 ?_
        refine mr_vi (nI_add (6 * j) 4) ?_
        refine mr_sld hx hb hX hbl hbA hS (((6 * j) + 4)) rfl (by omega) hL dd_L_law_770 ?_
        refine lv_i2l (v := (xs ((6 * j) + 4)).toInt64) hx hb dd_L_law_771 (rfl) ?_
        refine mr_ldc2 (v := lN 4294967295) C0 tw_736 dd_L_law_772 ?_
        refine lv_land hx hb dd_L_law_775 ?_
        refine lv_lor hx hb dd_L_law_776 ?_
        refine mr_vl (x' := lN (ju_ (xs (6 * j + 3)) (xs (6 * j + 4)))) (ju_eq _ _) ?_
        refine lv_aload_n hx hb dd_L_law_777 rfl (lv_at hl 0 rfl) ?_
        refine lv_iload_n hx hb dd_L_law_778 rfl (lv_at hl 3 rfl) ?_
        refine lv_iconst (v := nI 5) hx hb dd_L_law_779 (by decide) ?_
        refine lv_iadd hx hb dd_L_law_780 ?_
        refine mr_vi (nI_add (6 * j) 5) ?_
        refine mr_sld hx hb hX hbl hbA hS (((6 * j) + 5)) rfl (by omega) hL dd_L_law_781 ?_
        obtain ⟨w9, g9, cf, qf, xw, f9, sf, uf, lf, r1, r0, hrl, hk, h_2, h_3, h_4, h_5, h_6, h_7, h_8, h_9, h_10, h_0⟩ := MS_fr nx hfr hMS
        have eM : mu_ (mu_ (mu_ (mu_ (mu_ (mu_ (mu_ (mu_ (mu_ (mu_ M1 (am 2) (ia_ G 64 w9)) (am 3) (la_ G 10 f9)) (am 4) (ia_ G 10 g9)) (am 5) (ia_ G 17 cf)) (am 6) (la_ G 170 sf)) (am 7) (ia_ G 170 qf)) (am 8) (la_ G 17 uf)) (am 9) (la_ G 17 lf)) (am 10) (ia_ G 32 xw)) (am 0) (ob_ 6 [.ref (am 1), .ref (am 2), .int (nI hs), .long (hi_ N), .long (lo_ N), .long (hi_ Vt), .long (lo_ Vt), .int (nI Pd.length), .ref (am 3), .ref (am 4), .int (nI nw), .ref (am 5), .ref (am 6), .ref (am 7), .ref (am 8), .ref (am 9), .long (hi_ Hd), .long (lo_ Hd), .int (nI fc), .long r1, .long r0, .ref (am 10)]) = M1 := by rw [mu_id h_2, mu_id h_3, mu_id h_4, mu_id h_5, mu_id h_6, mu_id h_7, mu_id h_8, mu_id h_9, mu_id h_10, mu_id h_0]
        rw [← eM] at hM
        refine mr_callV (As := [.long (lN (ju_ (xs (6 * j + 1)) (xs (6 * j + 2)))), .long (lN (ju_ (xs (6 * j + 3)) (xs (6 * j + 4)))), .int (xs ((6 * j) + 5))]) (rest := [.int (hoI_ hs N ((ju_ (xs (6 * j + 1)) (xs (6 * j + 2))) * 18446744073709551616 + (ju_ (xs (6 * j + 3)) (xs (6 * j + 4)))) (xs ((6 * j) + 5)))]) C0 hM hS vk_L_70 mu_s rfl (by rw [hi_UL (U := (ju_ (xs (6 * j + 1)) (xs (6 * j + 2)))) (L := (ju_ (xs (6 * j + 3)) (xs (6 * j + 4)))) (ju_lt _ _), lo_UL (U := (ju_ (xs (6 * j + 1)) (xs (6 * j + 2)))) (L := (ju_ (xs (6 * j + 3)) (xs (6 * j + 4)))) (ju_lt _ _)]; exact c_M_hold l nm hk hrl hsi.1 hsi.2.1 hsi.2.2.1 hsi.2.2.2.2.1 hsi.2.2.2.2.2.1 (by have h1 := ju_lt (xs (6 * j + 1)) (xs (6 * j + 2)); have h2 := ju_lt (xs (6 * j + 3)) (xs (6 * j + 4)); omega)) rfl rfl hl.1 (Nat.le_of_ble_eq_true rfl) rfl rfl (by subst hR; exact ⟨Nat.le_of_ble_eq_true rfl, Nat.le_of_ble_eq_true rfl⟩) (by subst hR; exact ⟨Nat.le_of_ble_eq_true rfl, Nat.le_of_ble_eq_true rfl⟩) dd_L_law_782 (fun v1 M2 H locs hp hM hS => ?_)
        obtain ⟨ev1, hMW⟩ := hp
        subst ev1
        have hLI2 : LI_ G ap am hs N Vt Pd Ls nw (hoH_ hs N ((ju_ (xs (6 * j + 1)) (xs (6 * j + 2))) * 18446744073709551616 + (ju_ (xs (6 * j + 3)) (xs (6 * j + 4)))) (xs ((6 * j) + 5)) Hd) (hoF_ hs N ((ju_ (xs (6 * j + 1)) (xs (6 * j + 2))) * 18446744073709551616 + (ju_ (xs (6 * j + 3)) (xs (6 * j + 4)))) (xs ((6 * j) + 5)) fc) M2 := LI_mk nm nx hk (SI_ho hsi) hPW1 hMW
        refine W.eq (g2 := F0 m 785 ls [.int (hoI_ hs N ((ju_ (xs (6 * j + 1)) (xs (6 * j + 2))) * 18446744073709551616 + (ju_ (xs (6 * j + 3)) (xs (6 * j + 4)))) (xs ((6 * j) + 5))), .int (hoI_ hs N ((ju_ (xs (6 * j + 1)) (xs (6 * j + 2))) * 18446744073709551616 + (ju_ (xs (6 * j + 3)) (xs (6 * j + 4)))) (xs ((6 * j) + 5)))]) rfl ?_
        refine lv_icmp_eq (tgt := 1085) hx hb dd_L_law_785 rfl (fun _ => ?_) (fun hc => absurd (rfl) hc)
        refine lv_iinc (k := 3) (v := nI (6 * (j + 1))) (lv' := [(3, .int (nI (6 * (j + 1)))), (0, .ref b), (1, .ref (ap 0)), (2, .ref (am 0))]) hx hb dd_L_law_1085 hl rfl (lw_inc j) (by decide) rfl (fun ls hl => ?_)
        refine lv_goto (tgt := 18) hx hb dd_L_law_1088 rfl ?_
        exact ih (j + 1) M2 hs N Vt nw (hoH_ hs N ((ju_ (xs (6 * j + 1)) (xs (6 * j + 2))) * 18446744073709551616 + (ju_ (xs (6 * j + 3)) (xs (6 * j + 4)))) (xs ((6 * j) + 5)) Hd) (hoF_ hs N ((ju_ (xs (6 * j + 1)) (xs (6 * j + 2))) * 18446744073709551616 + (ju_ (xs (6 * j + 3)) (xs (6 * j + 4)))) (xs ((6 * j) + 5)) fc) Pd Ls _ _ _ (by omega) hLI2 hM hS (lv_sub hl [1, 2, 3, 0] rfl)
      by_cases q33_12 : ((xs (6 * j)) &&& (nI 31)) = nI 12
      · refine lv_tableIn (tgt := 790) (off := 757) hx hb dd_L_law_33 (by rw [q33_12]; decide) (by rw [q33_12]; decide) (by rw [q33_12]; rfl) rfl ?_
        refine lv_aload_n hx hb dd_L_law_790 rfl (lv_at hl 1 rfl) ?_
        refine lv_aload_n hx hb dd_L_law_791 rfl (lv_at hl 0 rfl) ?_
        refine lv_iload_n hx hb dd_L_law_792 rfl (lv_at hl 3 rfl) ?_
        refine lv_iconst (v := nI 1) hx hb dd_L_law_793 (by decide) ?_
        refine lv_iadd hx hb dd_L_law_794 ?_
        refine mr_vi (nI_add (6 * j) 1) ?_
        refine mr_sld hx hb hX hbl hbA hS (((6 * j) + 1)) rfl (by omega) hL dd_L_law_795 ?_
        refine lv_if_eq (tgt := 803) hx hb dd_L_law_796 rfl (fun h796 => ?_) (fun h796 => ?_)
        · skip
          refine lv_iconst (v := nI 0) hx hb dd_L_law_803 (by decide) ?_
          refine mr_callV (As := [.int (nI 0)]) (rest := []) C0 hM hS vk_L_71 h_po rfl (c_P_hand l np hsi hP ) rfl rfl hl.1 (Nat.le_of_ble_eq_true rfl) rfl rfl (by subst hR; exact ⟨Nat.le_of_ble_eq_true rfl, Nat.le_of_ble_eq_true rfl⟩) (by subst hR; exact ⟨Nat.le_of_ble_eq_true rfl, Nat.le_of_ble_eq_true rfl⟩) dd_L_law_804 (fun v1 M1 H locs hp hM hS => ?_)
          obtain ⟨ev1, hPW1, hfr⟩ := hp
          subst ev1
          refine W.eq (g2 := F0 m 807 ls [.long (hdR_ Hd (nI 0))]) rfl ?_
          refine lv_aload_n hx hb dd_L_law_807 rfl (lv_at hl 2 rfl) ?_
          refine lv_aload_n hx hb dd_L_law_808 rfl (lv_at hl 0 rfl) ?_
          refine lv_iload_n hx hb dd_L_law_809 rfl (lv_at hl 3 rfl) ?_
          refine lv_iconst (v := nI 1) hx hb dd_L_law_810 (by decide) ?_
          refine lv_iadd hx hb dd_L_law_811 ?_
          refine mr_vi (nI_add (6 * j) 1) ?_
          refine mr_sld hx hb hX hbl hbA hS (((6 * j) + 1)) rfl (by omega) hL dd_L_law_812 ?_
          refine lv_if_eq (tgt := 820) hx hb dd_L_law_813 rfl (fun _ => ?_) (fun hc => absurd (h796) hc)
          refine lv_iconst (v := nI 0) hx hb dd_L_law_820 (by decide) ?_
          obtain ⟨w9, g9, cf, qf, xw, f9, sf, uf, lf, r1, r0, hrl, hk, h_2, h_3, h_4, h_5, h_6, h_7, h_8, h_9, h_10, h_0⟩ := MS_fr nx hfr hMS
          have eM : mu_ (mu_ (mu_ (mu_ (mu_ (mu_ (mu_ (mu_ (mu_ (mu_ M1 (am 2) (ia_ G 64 w9)) (am 3) (la_ G 10 f9)) (am 4) (ia_ G 10 g9)) (am 5) (ia_ G 17 cf)) (am 6) (la_ G 170 sf)) (am 7) (ia_ G 170 qf)) (am 8) (la_ G 17 uf)) (am 9) (la_ G 17 lf)) (am 10) (ia_ G 32 xw)) (am 0) (ob_ 6 [.ref (am 1), .ref (am 2), .int (nI hs), .long (hi_ N), .long (lo_ N), .long (hi_ Vt), .long (lo_ Vt), .int (nI Pd.length), .ref (am 3), .ref (am 4), .int (nI nw), .ref (am 5), .ref (am 6), .ref (am 7), .ref (am 8), .ref (am 9), .long (hi_ Hd), .long (lo_ Hd), .int (nI fc), .long r1, .long r0, .ref (am 10)]) = M1 := by rw [mu_id h_2, mu_id h_3, mu_id h_4, mu_id h_5, mu_id h_6, mu_id h_7, mu_id h_8, mu_id h_9, mu_id h_10, mu_id h_0]
          rw [← eM] at hM
          refine mr_callV (As := [.int (nI 0)]) (rest := [.long (hdR_ Hd (nI 0))]) C0 hM hS vk_L_75 mu_s rfl (c_M_hand l nm hk hrl hsi.1 hsi.2.1 ) rfl rfl hl.1 (Nat.le_of_ble_eq_true rfl) rfl rfl (by subst hR; exact ⟨Nat.le_of_ble_eq_true rfl, Nat.le_of_ble_eq_true rfl⟩) (by subst hR; exact ⟨Nat.le_of_ble_eq_true rfl, Nat.le_of_ble_eq_true rfl⟩) dd_L_law_821 (fun v1 M2 H locs hp hM hS => ?_)
          obtain ⟨ev1, hMW⟩ := hp
          subst ev1
          have hLI2 : LI_ G ap am hs N Vt Pd Ls nw Hd fc M2 := LI_mk nm nx hk (hsi) hPW1 hMW
          refine W.eq (g2 := F0 m 824 ls [.long (hdR_ Hd (nI 0)), .long (hdR_ Hd (nI 0))]) rfl ?_
          refine mr_lif_eq (tgt := 1085) hx hb dd_L_law_824 dd_L_law_825 rfl (fun _ => ?_) (fun hc => absurd (rfl) hc)
          refine lv_iinc (k := 3) (v := nI (6 * (j + 1))) (lv' := [(3, .int (nI (6 * (j + 1)))), (0, .ref b), (1, .ref (ap 0)), (2, .ref (am 0))]) hx hb dd_L_law_1085 hl rfl (lw_inc j) (by decide) rfl (fun ls hl => ?_)
          refine lv_goto (tgt := 18) hx hb dd_L_law_1088 rfl ?_
          exact ih (j + 1) M2 hs N Vt nw Hd fc Pd Ls _ _ _ (by omega) hLI2 hM hS (lv_sub hl [1, 2, 3, 0] rfl)
        · skip
          refine lv_iconst (v := nI 1) hx hb dd_L_law_799 (by decide) ?_
          refine lv_goto (tgt := 804) hx hb dd_L_law_800 rfl ?_
          refine mr_callV (As := [.int (nI 1)]) (rest := []) C0 hM hS vk_L_71 h_po rfl (c_P_hand l np hsi hP ) rfl rfl hl.1 (Nat.le_of_ble_eq_true rfl) rfl rfl (by subst hR; exact ⟨Nat.le_of_ble_eq_true rfl, Nat.le_of_ble_eq_true rfl⟩) (by subst hR; exact ⟨Nat.le_of_ble_eq_true rfl, Nat.le_of_ble_eq_true rfl⟩) dd_L_law_804 (fun v1 M1 H locs hp hM hS => ?_)
          obtain ⟨ev1, hPW1, hfr⟩ := hp
          subst ev1
          refine W.eq (g2 := F0 m 807 ls [.long (hdR_ Hd (nI 1))]) rfl ?_
          refine lv_aload_n hx hb dd_L_law_807 rfl (lv_at hl 2 rfl) ?_
          refine lv_aload_n hx hb dd_L_law_808 rfl (lv_at hl 0 rfl) ?_
          refine lv_iload_n hx hb dd_L_law_809 rfl (lv_at hl 3 rfl) ?_
          refine lv_iconst (v := nI 1) hx hb dd_L_law_810 (by decide) ?_
          refine lv_iadd hx hb dd_L_law_811 ?_
          refine mr_vi (nI_add (6 * j) 1) ?_
          refine mr_sld hx hb hX hbl hbA hS (((6 * j) + 1)) rfl (by omega) hL dd_L_law_812 ?_
          refine lv_if_eq (tgt := 820) hx hb dd_L_law_813 rfl (fun hc => absurd hc (h796)) (fun _ => ?_)
          refine lv_iconst (v := nI 1) hx hb dd_L_law_816 (by decide) ?_
          refine lv_goto (tgt := 821) hx hb dd_L_law_817 rfl ?_
          obtain ⟨w9, g9, cf, qf, xw, f9, sf, uf, lf, r1, r0, hrl, hk, h_2, h_3, h_4, h_5, h_6, h_7, h_8, h_9, h_10, h_0⟩ := MS_fr nx hfr hMS
          have eM : mu_ (mu_ (mu_ (mu_ (mu_ (mu_ (mu_ (mu_ (mu_ (mu_ M1 (am 2) (ia_ G 64 w9)) (am 3) (la_ G 10 f9)) (am 4) (ia_ G 10 g9)) (am 5) (ia_ G 17 cf)) (am 6) (la_ G 170 sf)) (am 7) (ia_ G 170 qf)) (am 8) (la_ G 17 uf)) (am 9) (la_ G 17 lf)) (am 10) (ia_ G 32 xw)) (am 0) (ob_ 6 [.ref (am 1), .ref (am 2), .int (nI hs), .long (hi_ N), .long (lo_ N), .long (hi_ Vt), .long (lo_ Vt), .int (nI Pd.length), .ref (am 3), .ref (am 4), .int (nI nw), .ref (am 5), .ref (am 6), .ref (am 7), .ref (am 8), .ref (am 9), .long (hi_ Hd), .long (lo_ Hd), .int (nI fc), .long r1, .long r0, .ref (am 10)]) = M1 := by rw [mu_id h_2, mu_id h_3, mu_id h_4, mu_id h_5, mu_id h_6, mu_id h_7, mu_id h_8, mu_id h_9, mu_id h_10, mu_id h_0]
          rw [← eM] at hM
          refine mr_callV (As := [.int (nI 1)]) (rest := [.long (hdR_ Hd (nI 1))]) C0 hM hS vk_L_75 mu_s rfl (c_M_hand l nm hk hrl hsi.1 hsi.2.1 ) rfl rfl hl.1 (Nat.le_of_ble_eq_true rfl) rfl rfl (by subst hR; exact ⟨Nat.le_of_ble_eq_true rfl, Nat.le_of_ble_eq_true rfl⟩) (by subst hR; exact ⟨Nat.le_of_ble_eq_true rfl, Nat.le_of_ble_eq_true rfl⟩) dd_L_law_821 (fun v1 M2 H locs hp hM hS => ?_)
          obtain ⟨ev1, hMW⟩ := hp
          subst ev1
          have hLI2 : LI_ G ap am hs N Vt Pd Ls nw Hd fc M2 := LI_mk nm nx hk (hsi) hPW1 hMW
          refine W.eq (g2 := F0 m 824 ls [.long (hdR_ Hd (nI 1)), .long (hdR_ Hd (nI 1))]) rfl ?_
          refine mr_lif_eq (tgt := 1085) hx hb dd_L_law_824 dd_L_law_825 rfl (fun _ => ?_) (fun hc => absurd (rfl) hc)
          refine lv_iinc (k := 3) (v := nI (6 * (j + 1))) (lv' := [(3, .int (nI (6 * (j + 1)))), (0, .ref b), (1, .ref (ap 0)), (2, .ref (am 0))]) hx hb dd_L_law_1085 hl rfl (lw_inc j) (by decide) rfl (fun ls hl => ?_)
          refine lv_goto (tgt := 18) hx hb dd_L_law_1088 rfl ?_
          exact ih (j + 1) M2 hs N Vt nw Hd fc Pd Ls _ _ _ (by omega) hLI2 hM hS (lv_sub hl [1, 2, 3, 0] rfl)
      by_cases q33_13 : ((xs (6 * j)) &&& (nI 31)) = nI 13
      · refine lv_tableIn (tgt := 830) (off := 797) hx hb dd_L_law_33 (by rw [q33_13]; decide) (by rw [q33_13]; decide) (by rw [q33_13]; rfl) rfl ?_
        refine lv_aload_n hx hb dd_L_law_830 rfl (lv_at hl 1 rfl) ?_
        refine mr_callV (As := []) (rest := []) C0 hM hS vk_L_76 h_po rfl (c_P_factor l np hsi hP ) rfl rfl hl.1 (Nat.le_of_ble_eq_true rfl) rfl rfl (by subst hR; exact ⟨Nat.le_of_ble_eq_true rfl, Nat.le_of_ble_eq_true rfl⟩) (by subst hR; exact ⟨Nat.le_of_ble_eq_true rfl, Nat.le_of_ble_eq_true rfl⟩) dd_L_law_831 (fun v1 M1 H locs hp hM hS => ?_)
        obtain ⟨ev1, hPW1, hfr⟩ := hp
        subst ev1
        refine W.eq (g2 := F0 m 834 ls [.int (fcR_ hs fc)]) rfl ?_
        refine lv_aload_n hx hb dd_L_law_834 rfl (lv_at hl 2 rfl) ?_
        obtain ⟨w9, g9, cf, qf, xw, f9, sf, uf, lf, r1, r0, hrl, hk, h_2, h_3, h_4, h_5, h_6, h_7, h_8, h_9, h_10, h_0⟩ := MS_fr nx hfr hMS
        have eM : mu_ (mu_ (mu_ (mu_ (mu_ (mu_ (mu_ (mu_ (mu_ (mu_ M1 (am 2) (ia_ G 64 w9)) (am 3) (la_ G 10 f9)) (am 4) (ia_ G 10 g9)) (am 5) (ia_ G 17 cf)) (am 6) (la_ G 170 sf)) (am 7) (ia_ G 170 qf)) (am 8) (la_ G 17 uf)) (am 9) (la_ G 17 lf)) (am 10) (ia_ G 32 xw)) (am 0) (ob_ 6 [.ref (am 1), .ref (am 2), .int (nI hs), .long (hi_ N), .long (lo_ N), .long (hi_ Vt), .long (lo_ Vt), .int (nI Pd.length), .ref (am 3), .ref (am 4), .int (nI nw), .ref (am 5), .ref (am 6), .ref (am 7), .ref (am 8), .ref (am 9), .long (hi_ Hd), .long (lo_ Hd), .int (nI fc), .long r1, .long r0, .ref (am 10)]) = M1 := by rw [mu_id h_2, mu_id h_3, mu_id h_4, mu_id h_5, mu_id h_6, mu_id h_7, mu_id h_8, mu_id h_9, mu_id h_10, mu_id h_0]
        rw [← eM] at hM
        refine mr_callV (As := []) (rest := [.int (fcR_ hs fc)]) C0 hM hS vk_L_79 mu_s rfl (c_M_factor l nm hk hrl hsi.1 hsi.2.1 ) rfl rfl hl.1 (Nat.le_of_ble_eq_true rfl) rfl rfl (by subst hR; exact ⟨Nat.le_of_ble_eq_true rfl, Nat.le_of_ble_eq_true rfl⟩) (by subst hR; exact ⟨Nat.le_of_ble_eq_true rfl, Nat.le_of_ble_eq_true rfl⟩) dd_L_law_835 (fun v1 M2 H locs hp hM hS => ?_)
        obtain ⟨ev1, hMW⟩ := hp
        subst ev1
        have hLI2 : LI_ G ap am hs N Vt Pd Ls nw Hd fc M2 := LI_mk nm nx hk (hsi) hPW1 hMW
        refine W.eq (g2 := F0 m 838 ls [.int (fcR_ hs fc), .int (fcR_ hs fc)]) rfl ?_
        refine lv_icmp_eq (tgt := 1085) hx hb dd_L_law_838 rfl (fun _ => ?_) (fun hc => absurd (rfl) hc)
        refine lv_iinc (k := 3) (v := nI (6 * (j + 1))) (lv' := [(3, .int (nI (6 * (j + 1)))), (0, .ref b), (1, .ref (ap 0)), (2, .ref (am 0))]) hx hb dd_L_law_1085 hl rfl (lw_inc j) (by decide) rfl (fun ls hl => ?_)
        refine lv_goto (tgt := 18) hx hb dd_L_law_1088 rfl ?_
        exact ih (j + 1) M2 hs N Vt nw Hd fc Pd Ls _ _ _ (by omega) hLI2 hM hS (lv_sub hl [1, 2, 3, 0] rfl)
      by_cases q33_14 : ((xs (6 * j)) &&& (nI 31)) = nI 14
      · refine lv_tableIn (tgt := 843) (off := 810) hx hb dd_L_law_33 (by rw [q33_14]; decide) (by rw [q33_14]; decide) (by rw [q33_14]; rfl) rfl ?_
        refine lv_aload_n hx hb dd_L_law_843 rfl (lv_at hl 1 rfl) ?_
        refine lv_aload_n hx hb dd_L_law_844 rfl (lv_at hl 0 rfl) ?_
        refine lv_iload_n hx hb dd_L_law_845 rfl (lv_at hl 3 rfl) ?_
        refine lv_iconst (v := nI 1) hx hb dd_L_law_846 (by decide) ?_
        refine lv_iadd hx hb dd_L_law_847 ?_
        refine mr_vi (nI_add (6 * j) 1) ?_
        refine mr_sld hx hb hX hbl hbA hS (((6 * j) + 1)) rfl (by omega) hL dd_L_law_848 ?_
        refine lv_i2l (v := (xs ((6 * j) + 1)).toInt64) hx hb dd_L_law_849 (rfl) ?_
        refine lv_bipush (v := nI 32) hx hb dd_L_law_850 (by decide) ?_
        refine lv_lshl (v := lsl_ ((xs ((6 * j) + 1)).toInt64) (nI 32)) hx hb dd_L_law_852 (rfl) ?_
        refine lv_aload_n hx hb dd_L_law_853 rfl (lv_at hl 0 rfl) ?_
        refine lv_iload_n hx hb dd_L_law_854 rfl (lv_at hl 3 rfl) ?_
        refine lv_iconst (v := nI 2) hx hb dd_L_law_855 (by decide) ?_
        refine lv_iadd hx hb dd_L_law_856 ?_
        refine mr_vi (nI_add (6 * j) 2) ?_
        refine mr_sld hx hb hX hbl hbA hS (((6 * j) + 2)) rfl (by omega) hL dd_L_law_857 ?_
        refine lv_i2l (v := (xs ((6 * j) + 2)).toInt64) hx hb dd_L_law_858 (rfl) ?_
        refine mr_ldc2 (v := lN 4294967295) C0 tw_736 dd_L_law_859 ?_
        refine lv_land hx hb dd_L_law_862 ?_
        refine lv_lor hx hb dd_L_law_863 ?_
        refine mr_vl (x' := jl_ (xs (6 * j + 1)) (xs (6 * j + 2))) (rfl) ?_
        refine lv_aload_n hx hb dd_L_law_864 rfl (lv_at hl 0 rfl) ?_
        refine lv_iload_n hx hb dd_L_law_865 rfl (lv_at hl 3 rfl) ?_
        refine lv_iconst (v := nI 3) hx hb dd_L_law_866 (by decide) ?_
        refine lv_iadd hx hb dd_L_law_867 ?_
        refine mr_vi (nI_add (6 * j) 3) ?_
        refine mr_sld hx hb hX hbl hbA hS (((6 * j) + 3)) rfl (by omega) hL dd_L_law_868 ?_
        refine mr_callV (As := [.long (jl_ (xs (6 * j + 1)) (xs (6 * j + 2))), .int (xs ((6 * j) + 3))]) (rest := []) C0 hM hS vk_L_80 h_po rfl (c_P_check l np hsi hP ) rfl rfl hl.1 (Nat.le_of_ble_eq_true rfl) rfl rfl (by subst hR; exact ⟨Nat.le_of_ble_eq_true rfl, Nat.le_of_ble_eq_true rfl⟩) (by subst hR; exact ⟨Nat.le_of_ble_eq_true rfl, Nat.le_of_ble_eq_true rfl⟩) dd_L_law_869 (fun v1 M1 H locs hp hM hS => ?_)
        obtain ⟨ev1, hPW1, hfr⟩ := hp
        subst ev1
        refine W.eq (g2 := F0 m 872 ls [.int (ckR_ hs N (prime_ (jl_ (xs (6 * j + 1)) (xs (6 * j + 2)))) Ls nw Hd (xs ((6 * j) + 3)))]) rfl ?_
        refine mr_vi (x' := ckR_ hs N (primeT_ (jl_ (xs (6 * j + 1)) (xs (6 * j + 2)))) Ls nw Hd (xs ((6 * j) + 3))) (by rw [prime_eq]) ?_
        refine lv_aload_n hx hb dd_L_law_872 rfl (lv_at hl 2 rfl) ?_
        refine lv_aload_n hx hb dd_L_law_873 rfl (lv_at hl 0 rfl) ?_
        refine lv_iload_n hx hb dd_L_law_874 rfl (lv_at hl 3 rfl) ?_
        refine lv_iconst (v := nI 1) hx hb dd_L_law_875 (by decide) ?_
        refine lv_iadd hx hb dd_L_law_876 ?_
        refine mr_vi (nI_add (6 * j) 1) ?_
        refine mr_sld hx hb hX hbl hbA hS (((6 * j) + 1)) rfl (by omega) hL dd_L_law_877 ?_
        refine lv_i2l (v := (xs ((6 * j) + 1)).toInt64) hx hb dd_L_law_878 (rfl) ?_
        refine lv_bipush (v := nI 32) hx hb dd_L_law_879 (by decide) ?_
        refine lv_lshl (v := lsl_ ((xs ((6 * j) + 1)).toInt64) (nI 32)) hx hb dd_L_law_881 (rfl) ?_
        refine lv_aload_n hx hb dd_L_law_882 rfl (lv_at hl 0 rfl) ?_
        refine lv_iload_n hx hb dd_L_law_883 rfl (lv_at hl 3 rfl) ?_
        refine lv_iconst (v := nI 2) hx hb dd_L_law_884 (by decide) ?_
        refine lv_iadd hx hb dd_L_law_885 ?_
        refine mr_vi (nI_add (6 * j) 2) ?_
        refine mr_sld hx hb hX hbl hbA hS (((6 * j) + 2)) rfl (by omega) hL dd_L_law_886 ?_
        refine lv_i2l (v := (xs ((6 * j) + 2)).toInt64) hx hb dd_L_law_887 (rfl) ?_
        refine mr_ldc2 (v := lN 4294967295) C0 tw_736 dd_L_law_888 ?_
        refine lv_land hx hb dd_L_law_891 ?_
        refine lv_lor hx hb dd_L_law_892 ?_
        refine mr_vl (x' := jl_ (xs (6 * j + 1)) (xs (6 * j + 2))) (rfl) ?_
        refine lv_aload_n hx hb dd_L_law_893 rfl (lv_at hl 0 rfl) ?_
        refine lv_iload_n hx hb dd_L_law_894 rfl (lv_at hl 3 rfl) ?_
        refine lv_iconst (v := nI 3) hx hb dd_L_law_895 (by decide) ?_
        refine lv_iadd hx hb dd_L_law_896 ?_
        refine mr_vi (nI_add (6 * j) 3) ?_
        refine mr_sld hx hb hX hbl hbA hS (((6 * j) + 3)) rfl (by omega) hL dd_L_law_897 ?_
        obtain ⟨w9, g9, cf, qf, xw, f9, sf, uf, lf, r1, r0, hrl, hk, h_2, h_3, h_4, h_5, h_6, h_7, h_8, h_9, h_10, h_0⟩ := MS_fr nx hfr hMS
        have eM : mu_ (mu_ (mu_ (mu_ (mu_ (mu_ (mu_ (mu_ (mu_ (mu_ M1 (am 2) (ia_ G 64 w9)) (am 3) (la_ G 10 f9)) (am 4) (ia_ G 10 g9)) (am 5) (ia_ G 17 cf)) (am 6) (la_ G 170 sf)) (am 7) (ia_ G 170 qf)) (am 8) (la_ G 17 uf)) (am 9) (la_ G 17 lf)) (am 10) (ia_ G 32 xw)) (am 0) (ob_ 6 [.ref (am 1), .ref (am 2), .int (nI hs), .long (hi_ N), .long (lo_ N), .long (hi_ Vt), .long (lo_ Vt), .int (nI Pd.length), .ref (am 3), .ref (am 4), .int (nI nw), .ref (am 5), .ref (am 6), .ref (am 7), .ref (am 8), .ref (am 9), .long (hi_ Hd), .long (lo_ Hd), .int (nI fc), .long r1, .long r0, .ref (am 10)]) = M1 := by rw [mu_id h_2, mu_id h_3, mu_id h_4, mu_id h_5, mu_id h_6, mu_id h_7, mu_id h_8, mu_id h_9, mu_id h_10, mu_id h_0]
        rw [← eM] at hM
        refine mr_callV (As := [.long (jl_ (xs (6 * j + 1)) (xs (6 * j + 2))), .int (xs ((6 * j) + 3))]) (rest := [.int (ckR_ hs N (primeT_ (jl_ (xs (6 * j + 1)) (xs (6 * j + 2)))) Ls nw Hd (xs ((6 * j) + 3)))]) C0 hM hS vk_L_84 mu_s rfl (c_M_check l nm hk hrl hsi.1 hsi.2.1 hsi.2.2.1 hsi.2.2.2.2.1 hsi.2.2.2.2.2.1) rfl rfl hl.1 (Nat.le_of_ble_eq_true rfl) rfl rfl (by subst hR; exact ⟨Nat.le_of_ble_eq_true rfl, Nat.le_of_ble_eq_true rfl⟩) (by subst hR; exact ⟨Nat.le_of_ble_eq_true rfl, Nat.le_of_ble_eq_true rfl⟩) dd_L_law_898 (fun v1 M2 H locs hp hM hS => ?_)
        obtain ⟨ev1, hMW⟩ := hp
        subst ev1
        have hLI2 : LI_ G ap am hs N Vt Pd Ls nw Hd fc M2 := LI_mk nm nx hk (hsi) hPW1 hMW
        refine W.eq (g2 := F0 m 901 ls [.int (ckR_ hs N (primeT_ (jl_ (xs (6 * j + 1)) (xs (6 * j + 2)))) Ls nw Hd (xs ((6 * j) + 3))), .int (ckR_ hs N (primeT_ (jl_ (xs (6 * j + 1)) (xs (6 * j + 2)))) Ls nw Hd (xs ((6 * j) + 3)))]) rfl ?_
        refine lv_icmp_eq (tgt := 1085) hx hb dd_L_law_901 rfl (fun _ => ?_) (fun hc => absurd (rfl) hc)
        refine lv_iinc (k := 3) (v := nI (6 * (j + 1))) (lv' := [(3, .int (nI (6 * (j + 1)))), (0, .ref b), (1, .ref (ap 0)), (2, .ref (am 0))]) hx hb dd_L_law_1085 hl rfl (lw_inc j) (by decide) rfl (fun ls hl => ?_)
        refine lv_goto (tgt := 18) hx hb dd_L_law_1088 rfl ?_
        exact ih (j + 1) M2 hs N Vt nw Hd fc Pd Ls _ _ _ (by omega) hLI2 hM hS (lv_sub hl [1, 2, 3, 0] rfl)
      by_cases q33_15 : ((xs (6 * j)) &&& (nI 31)) = nI 15
      · refine lv_tableIn (tgt := 906) (off := 873) hx hb dd_L_law_33 (by rw [q33_15]; decide) (by rw [q33_15]; decide) (by rw [q33_15]; rfl) rfl ?_
        refine lv_aload_n hx hb dd_L_law_906 rfl (lv_at hl 1 rfl) ?_
        refine lv_aload_n hx hb dd_L_law_907 rfl (lv_at hl 0 rfl) ?_
        refine lv_iload_n hx hb dd_L_law_908 rfl (lv_at hl 3 rfl) ?_
        refine lv_iconst (v := nI 1) hx hb dd_L_law_909 (by decide) ?_
        refine lv_iadd hx hb dd_L_law_910 ?_
        refine mr_vi (nI_add (6 * j) 1) ?_
        refine mr_sld hx hb hX hbl hbA hS (((6 * j) + 1)) rfl (by omega) hL dd_L_law_911 ?_
        refine lv_i2l (v := (xs ((6 * j) + 1)).toInt64) hx hb dd_L_law_912 (rfl) ?_
        refine lv_bipush (v := nI 32) hx hb dd_L_law_913 (by decide) ?_
        refine lv_lshl (v := lsl_ ((xs ((6 * j) + 1)).toInt64) (nI 32)) hx hb dd_L_law_915 (rfl) ?_
        refine lv_aload_n hx hb dd_L_law_916 rfl (lv_at hl 0 rfl) ?_
        refine lv_iload_n hx hb dd_L_law_917 rfl (lv_at hl 3 rfl) ?_
        refine lv_iconst (v := nI 2) hx hb dd_L_law_918 (by decide) ?_
        refine lv_iadd hx hb dd_L_law_919 ?_
        refine mr_vi (nI_add (6 * j) 2) ?_
        refine mr_sld hx hb hX hbl hbA hS (((6 * j) + 2)) rfl (by omega) hL dd_L_law_920 ?_
        refine lv_i2l (v := (xs ((6 * j) + 2)).toInt64) hx hb dd_L_law_921 (rfl) ?_
        refine mr_ldc2 (v := lN 4294967295) C0 tw_736 dd_L_law_922 ?_
        refine lv_land hx hb dd_L_law_925 ?_
        refine lv_lor hx hb dd_L_law_926 ?_
        refine mr_vl (x' := jl_ (xs (6 * j + 1)) (xs (6 * j + 2))) (rfl) ?_
        refine lv_aload_n hx hb dd_L_law_927 rfl (lv_at hl 0 rfl) ?_
        refine lv_iload_n hx hb dd_L_law_928 rfl (lv_at hl 3 rfl) ?_
        refine lv_iconst (v := nI 3) hx hb dd_L_law_929 (by decide) ?_
        refine lv_iadd hx hb dd_L_law_930 ?_
        refine mr_vi (nI_add (6 * j) 3) ?_
        refine mr_sld hx hb hX hbl hbA hS (((6 * j) + 3)) rfl (by omega) hL dd_L_law_931 ?_
        refine mr_callV (As := [.long (jl_ (xs (6 * j + 1)) (xs (6 * j + 2))), .int (xs ((6 * j) + 3))]) (rest := []) C0 hM hS vk_L_85 h_po rfl (c_P_advance l np hsi hP ) rfl rfl hl.1 (Nat.le_of_ble_eq_true rfl) rfl rfl (by subst hR; exact ⟨Nat.le_of_ble_eq_true rfl, Nat.le_of_ble_eq_true rfl⟩) (by subst hR; exact ⟨Nat.le_of_ble_eq_true rfl, Nat.le_of_ble_eq_true rfl⟩) dd_L_law_932 (fun v1 M1 H locs hp hM hS => ?_)
        obtain ⟨ev1, hPW1, hfr⟩ := hp
        subst ev1
        refine W.eq (g2 := F0 m 935 ls [.int (avR_ hs N (prime_ (jl_ (xs (6 * j + 1)) (xs (6 * j + 2)))) Ls nw Hd (jl_ (xs (6 * j + 1)) (xs (6 * j + 2))) (xs ((6 * j) + 3)))]) rfl ?_
        refine mr_vi (x' := avR_ hs N (primeT_ (jl_ (xs (6 * j + 1)) (xs (6 * j + 2)))) Ls nw Hd (jl_ (xs (6 * j + 1)) (xs (6 * j + 2))) (xs ((6 * j) + 3))) (by rw [prime_eq]) ?_
        rw [prime_eq] at hPW1
        refine lv_aload_n hx hb dd_L_law_935 rfl (lv_at hl 2 rfl) ?_
        refine lv_aload_n hx hb dd_L_law_936 rfl (lv_at hl 0 rfl) ?_
        refine lv_iload_n hx hb dd_L_law_937 rfl (lv_at hl 3 rfl) ?_
        refine lv_iconst (v := nI 1) hx hb dd_L_law_938 (by decide) ?_
        refine lv_iadd hx hb dd_L_law_939 ?_
        refine mr_vi (nI_add (6 * j) 1) ?_
        refine mr_sld hx hb hX hbl hbA hS (((6 * j) + 1)) rfl (by omega) hL dd_L_law_940 ?_
        refine lv_i2l (v := (xs ((6 * j) + 1)).toInt64) hx hb dd_L_law_941 (rfl) ?_
        refine lv_bipush (v := nI 32) hx hb dd_L_law_942 (by decide) ?_
        refine lv_lshl (v := lsl_ ((xs ((6 * j) + 1)).toInt64) (nI 32)) hx hb dd_L_law_944 (rfl) ?_
        refine lv_aload_n hx hb dd_L_law_945 rfl (lv_at hl 0 rfl) ?_
        refine lv_iload_n hx hb dd_L_law_946 rfl (lv_at hl 3 rfl) ?_
        refine lv_iconst (v := nI 2) hx hb dd_L_law_947 (by decide) ?_
        refine lv_iadd hx hb dd_L_law_948 ?_
        refine mr_vi (nI_add (6 * j) 2) ?_
        refine mr_sld hx hb hX hbl hbA hS (((6 * j) + 2)) rfl (by omega) hL dd_L_law_949 ?_
        refine lv_i2l (v := (xs ((6 * j) + 2)).toInt64) hx hb dd_L_law_950 (rfl) ?_
        refine mr_ldc2 (v := lN 4294967295) C0 tw_736 dd_L_law_951 ?_
        refine lv_land hx hb dd_L_law_954 ?_
        refine lv_lor hx hb dd_L_law_955 ?_
        refine mr_vl (x' := jl_ (xs (6 * j + 1)) (xs (6 * j + 2))) (rfl) ?_
        refine lv_aload_n hx hb dd_L_law_956 rfl (lv_at hl 0 rfl) ?_
        refine lv_iload_n hx hb dd_L_law_957 rfl (lv_at hl 3 rfl) ?_
        refine lv_iconst (v := nI 3) hx hb dd_L_law_958 (by decide) ?_
        refine lv_iadd hx hb dd_L_law_959 ?_
        refine mr_vi (nI_add (6 * j) 3) ?_
        refine mr_sld hx hb hX hbl hbA hS (((6 * j) + 3)) rfl (by omega) hL dd_L_law_960 ?_
        obtain ⟨w9, g9, cf, qf, xw, f9, sf, uf, lf, r1, r0, hrl, hk, h_2, h_3, h_4, h_5, h_6, h_7, h_8, h_9, h_10, h_0⟩ := MS_fr nx hfr hMS
        have eM : mu_ (mu_ (mu_ (mu_ (mu_ (mu_ (mu_ (mu_ (mu_ (mu_ M1 (am 2) (ia_ G 64 w9)) (am 3) (la_ G 10 f9)) (am 4) (ia_ G 10 g9)) (am 5) (ia_ G 17 cf)) (am 6) (la_ G 170 sf)) (am 7) (ia_ G 170 qf)) (am 8) (la_ G 17 uf)) (am 9) (la_ G 17 lf)) (am 10) (ia_ G 32 xw)) (am 0) (ob_ 6 [.ref (am 1), .ref (am 2), .int (nI hs), .long (hi_ N), .long (lo_ N), .long (hi_ Vt), .long (lo_ Vt), .int (nI Pd.length), .ref (am 3), .ref (am 4), .int (nI nw), .ref (am 5), .ref (am 6), .ref (am 7), .ref (am 8), .ref (am 9), .long (hi_ Hd), .long (lo_ Hd), .int (nI fc), .long r1, .long r0, .ref (am 10)]) = M1 := by rw [mu_id h_2, mu_id h_3, mu_id h_4, mu_id h_5, mu_id h_6, mu_id h_7, mu_id h_8, mu_id h_9, mu_id h_10, mu_id h_0]
        rw [← eM] at hM
        refine mr_callV (As := [.long (jl_ (xs (6 * j + 1)) (xs (6 * j + 2))), .int (xs ((6 * j) + 3))]) (rest := [.int (avR_ hs N (primeT_ (jl_ (xs (6 * j + 1)) (xs (6 * j + 2)))) Ls nw Hd (jl_ (xs (6 * j + 1)) (xs (6 * j + 2))) (xs ((6 * j) + 3)))]) C0 hM hS vk_L_88 mu_s rfl (c_M_advance l nm hk hrl hsi.1 hsi.2.1 hsi.2.2.1 hsi.2.2.2.1 hsi.2.2.2.2.1 hsi.2.2.2.2.2.1) rfl rfl hl.1 (Nat.le_of_ble_eq_true rfl) rfl rfl (by subst hR; exact ⟨Nat.le_of_ble_eq_true rfl, Nat.le_of_ble_eq_true rfl⟩) (by subst hR; exact ⟨Nat.le_of_ble_eq_true rfl, Nat.le_of_ble_eq_true rfl⟩) dd_L_law_961 (fun v1 M2 H locs hp hM hS => ?_)
        obtain ⟨ev1, hMW⟩ := hp
        subst ev1
        have hLI2 : LI_ G ap am hs N Vt Pd Ls nw (avH_ hs N (primeT_ (jl_ (xs (6 * j + 1)) (xs (6 * j + 2)))) Ls nw Hd (jl_ (xs (6 * j + 1)) (xs (6 * j + 2))) (xs ((6 * j) + 3))) fc M2 := LI_mk nm nx hk (SI_av hsi) hPW1 hMW
        refine W.eq (g2 := F0 m 964 ls [.int (avR_ hs N (primeT_ (jl_ (xs (6 * j + 1)) (xs (6 * j + 2)))) Ls nw Hd (jl_ (xs (6 * j + 1)) (xs (6 * j + 2))) (xs ((6 * j) + 3))), .int (avR_ hs N (primeT_ (jl_ (xs (6 * j + 1)) (xs (6 * j + 2)))) Ls nw Hd (jl_ (xs (6 * j + 1)) (xs (6 * j + 2))) (xs ((6 * j) + 3)))]) rfl ?_
        refine lv_icmp_eq (tgt := 1085) hx hb dd_L_law_964 rfl (fun _ => ?_) (fun hc => absurd (rfl) hc)
        refine lv_iinc (k := 3) (v := nI (6 * (j + 1))) (lv' := [(3, .int (nI (6 * (j + 1)))), (0, .ref b), (1, .ref (ap 0)), (2, .ref (am 0))]) hx hb dd_L_law_1085 hl rfl (lw_inc j) (by decide) rfl (fun ls hl => ?_)
        refine lv_goto (tgt := 18) hx hb dd_L_law_1088 rfl ?_
        exact ih (j + 1) M2 hs N Vt nw (avH_ hs N (primeT_ (jl_ (xs (6 * j + 1)) (xs (6 * j + 2)))) Ls nw Hd (jl_ (xs (6 * j + 1)) (xs (6 * j + 2))) (xs ((6 * j) + 3))) fc Pd Ls _ _ _ (by omega) hLI2 hM hS (lv_sub hl [1, 2, 3, 0] rfl)
      by_cases q33_16 : ((xs (6 * j)) &&& (nI 31)) = nI 16
      · refine lv_tableIn (tgt := 969) (off := 936) hx hb dd_L_law_33 (by rw [q33_16]; decide) (by rw [q33_16]; decide) (by rw [q33_16]; rfl) rfl ?_
        refine lv_aload_n hx hb dd_L_law_969 rfl (lv_at hl 1 rfl) ?_
        refine lv_aload_n hx hb dd_L_law_970 rfl (lv_at hl 0 rfl) ?_
        refine lv_iload_n hx hb dd_L_law_971 rfl (lv_at hl 3 rfl) ?_
        refine lv_iconst (v := nI 1) hx hb dd_L_law_972 (by decide) ?_
        refine lv_iadd hx hb dd_L_law_973 ?_
        refine mr_vi (nI_add (6 * j) 1) ?_
        refine mr_sld hx hb hX hbl hbA hS (((6 * j) + 1)) rfl (by omega) hL dd_L_law_974 ?_
        refine lv_i2l (v := (xs ((6 * j) + 1)).toInt64) hx hb dd_L_law_975 (rfl) ?_
        refine lv_bipush (v := nI 32) hx hb dd_L_law_976 (by decide) ?_
        refine lv_lshl (v := lsl_ ((xs ((6 * j) + 1)).toInt64) (nI 32)) hx hb dd_L_law_978 (rfl) ?_
        refine lv_aload_n hx hb dd_L_law_979 rfl (lv_at hl 0 rfl) ?_
        refine lv_iload_n hx hb dd_L_law_980 rfl (lv_at hl 3 rfl) ?_
        refine lv_iconst (v := nI 2) hx hb dd_L_law_981 (by decide) ?_
        refine lv_iadd hx hb dd_L_law_982 ?_
        refine mr_vi (nI_add (6 * j) 2) ?_
        refine mr_sld hx hb hX hbl hbA hS (((6 * j) + 2)) rfl (by omega) hL dd_L_law_983 ?_
        refine lv_i2l (v := (xs ((6 * j) + 2)).toInt64) hx hb dd_L_law_984 (rfl) ?_
        refine mr_ldc2 (v := lN 4294967295) C0 tw_736 dd_L_law_985 ?_
        refine lv_land hx hb dd_L_law_988 ?_
        refine lv_lor hx hb dd_L_law_989 ?_
        refine mr_vl (x' := jl_ (xs (6 * j + 1)) (xs (6 * j + 2))) (rfl) ?_
        refine mr_callV (As := [.long (jl_ (xs (6 * j + 1)) (xs (6 * j + 2)))]) (rest := []) C0 hM hS vk_L_89 h_po rfl (c_P_exclude l np hsi hP ) rfl rfl hl.1 (Nat.le_of_ble_eq_true rfl) rfl rfl (by subst hR; exact ⟨Nat.le_of_ble_eq_true rfl, Nat.le_of_ble_eq_true rfl⟩) (by subst hR; exact ⟨Nat.le_of_ble_eq_true rfl, Nat.le_of_ble_eq_true rfl⟩) dd_L_law_990 (fun v1 M1 H locs hp hM hS => ?_)
        obtain ⟨ev1, hPW1, hfr⟩ := hp
        subst ev1
        refine W.eq (g2 := F0 m 993 ls [.int (exR_ hs (prime_ (jl_ (xs (6 * j + 1)) (xs (6 * j + 2)))) Ls nw (jl_ (xs (6 * j + 1)) (xs (6 * j + 2))))]) rfl ?_
        refine mr_vi (x' := exR_ hs (primeT_ (jl_ (xs (6 * j + 1)) (xs (6 * j + 2)))) Ls nw (jl_ (xs (6 * j + 1)) (xs (6 * j + 2)))) (by rw [prime_eq]) ?_
        rw [prime_eq] at hPW1
        refine lv_aload_n hx hb dd_L_law_993 rfl (lv_at hl 2 rfl) ?_
        refine lv_aload_n hx hb dd_L_law_994 rfl (lv_at hl 0 rfl) ?_
        refine lv_iload_n hx hb dd_L_law_995 rfl (lv_at hl 3 rfl) ?_
        refine lv_iconst (v := nI 1) hx hb dd_L_law_996 (by decide) ?_
        refine lv_iadd hx hb dd_L_law_997 ?_
        refine mr_vi (nI_add (6 * j) 1) ?_
        refine mr_sld hx hb hX hbl hbA hS (((6 * j) + 1)) rfl (by omega) hL dd_L_law_998 ?_
        refine lv_i2l (v := (xs ((6 * j) + 1)).toInt64) hx hb dd_L_law_999 (rfl) ?_
        refine lv_bipush (v := nI 32) hx hb dd_L_law_1000 (by decide) ?_
        refine lv_lshl (v := lsl_ ((xs ((6 * j) + 1)).toInt64) (nI 32)) hx hb dd_L_law_1002 (rfl) ?_
        refine lv_aload_n hx hb dd_L_law_1003 rfl (lv_at hl 0 rfl) ?_
        refine lv_iload_n hx hb dd_L_law_1004 rfl (lv_at hl 3 rfl) ?_
        refine lv_iconst (v := nI 2) hx hb dd_L_law_1005 (by decide) ?_
        refine lv_iadd hx hb dd_L_law_1006 ?_
        refine mr_vi (nI_add (6 * j) 2) ?_
        refine mr_sld hx hb hX hbl hbA hS (((6 * j) + 2)) rfl (by omega) hL dd_L_law_1007 ?_
        refine lv_i2l (v := (xs ((6 * j) + 2)).toInt64) hx hb dd_L_law_1008 (rfl) ?_
        refine mr_ldc2 (v := lN 4294967295) C0 tw_736 dd_L_law_1009 ?_
        refine lv_land hx hb dd_L_law_1012 ?_
        refine lv_lor hx hb dd_L_law_1013 ?_
        refine mr_vl (x' := jl_ (xs (6 * j + 1)) (xs (6 * j + 2))) (rfl) ?_
        obtain ⟨w9, g9, cf, qf, xw, f9, sf, uf, lf, r1, r0, hrl, hk, h_2, h_3, h_4, h_5, h_6, h_7, h_8, h_9, h_10, h_0⟩ := MS_fr nx hfr hMS
        have eM : mu_ (mu_ (mu_ (mu_ (mu_ (mu_ (mu_ (mu_ (mu_ (mu_ M1 (am 2) (ia_ G 64 w9)) (am 3) (la_ G 10 f9)) (am 4) (ia_ G 10 g9)) (am 5) (ia_ G 17 cf)) (am 6) (la_ G 170 sf)) (am 7) (ia_ G 170 qf)) (am 8) (la_ G 17 uf)) (am 9) (la_ G 17 lf)) (am 10) (ia_ G 32 xw)) (am 0) (ob_ 6 [.ref (am 1), .ref (am 2), .int (nI hs), .long (hi_ N), .long (lo_ N), .long (hi_ Vt), .long (lo_ Vt), .int (nI Pd.length), .ref (am 3), .ref (am 4), .int (nI nw), .ref (am 5), .ref (am 6), .ref (am 7), .ref (am 8), .ref (am 9), .long (hi_ Hd), .long (lo_ Hd), .int (nI fc), .long r1, .long r0, .ref (am 10)]) = M1 := by rw [mu_id h_2, mu_id h_3, mu_id h_4, mu_id h_5, mu_id h_6, mu_id h_7, mu_id h_8, mu_id h_9, mu_id h_10, mu_id h_0]
        rw [← eM] at hM
        refine mr_callV (As := [.long (jl_ (xs (6 * j + 1)) (xs (6 * j + 2)))]) (rest := [.int (exR_ hs (primeT_ (jl_ (xs (6 * j + 1)) (xs (6 * j + 2)))) Ls nw (jl_ (xs (6 * j + 1)) (xs (6 * j + 2))))]) C0 hM hS vk_L_92 mu_s rfl (c_M_exclude l nm hk hrl hsi.1 hsi.2.1 hsi.2.2.1 hsi.2.2.2.1 hsi.2.2.2.2.1 hsi.2.2.2.2.2.1) rfl rfl hl.1 (Nat.le_of_ble_eq_true rfl) rfl rfl (by subst hR; exact ⟨Nat.le_of_ble_eq_true rfl, Nat.le_of_ble_eq_true rfl⟩) (by subst hR; exact ⟨Nat.le_of_ble_eq_true rfl, Nat.le_of_ble_eq_true rfl⟩) dd_L_law_1014 (fun v1 M2 H locs hp hM hS => ?_)
        obtain ⟨ev1, hMW⟩ := hp
        subst ev1
        have hLI2 : LI_ G ap am hs N Vt Pd Ls nw (exH_ hs N (primeT_ (jl_ (xs (6 * j + 1)) (xs (6 * j + 2)))) Ls nw (jl_ (xs (6 * j + 1)) (xs (6 * j + 2))) Hd) (exF_ hs (primeT_ (jl_ (xs (6 * j + 1)) (xs (6 * j + 2)))) Ls nw (jl_ (xs (6 * j + 1)) (xs (6 * j + 2))) fc) M2 := LI_mk nm nx hk (SI_ex hsi (prT_pn _)) hPW1 hMW
        refine W.eq (g2 := F0 m 1017 ls [.int (exR_ hs (primeT_ (jl_ (xs (6 * j + 1)) (xs (6 * j + 2)))) Ls nw (jl_ (xs (6 * j + 1)) (xs (6 * j + 2)))), .int (exR_ hs (primeT_ (jl_ (xs (6 * j + 1)) (xs (6 * j + 2)))) Ls nw (jl_ (xs (6 * j + 1)) (xs (6 * j + 2))))]) rfl ?_
        refine lv_icmp_eq (tgt := 1085) hx hb dd_L_law_1017 rfl (fun _ => ?_) (fun hc => absurd (rfl) hc)
        refine lv_iinc (k := 3) (v := nI (6 * (j + 1))) (lv' := [(3, .int (nI (6 * (j + 1)))), (0, .ref b), (1, .ref (ap 0)), (2, .ref (am 0))]) hx hb dd_L_law_1085 hl rfl (lw_inc j) (by decide) rfl (fun ls hl => ?_)
        refine lv_goto (tgt := 18) hx hb dd_L_law_1088 rfl ?_
        exact ih (j + 1) M2 hs N Vt nw (exH_ hs N (primeT_ (jl_ (xs (6 * j + 1)) (xs (6 * j + 2)))) Ls nw (jl_ (xs (6 * j + 1)) (xs (6 * j + 2))) Hd) (exF_ hs (primeT_ (jl_ (xs (6 * j + 1)) (xs (6 * j + 2)))) Ls nw (jl_ (xs (6 * j + 1)) (xs (6 * j + 2))) fc) Pd Ls _ _ _ (by omega) hLI2 hM hS (lv_sub hl [1, 2, 3, 0] rfl)
      by_cases q33_17 : ((xs (6 * j)) &&& (nI 31)) = nI 17
      · refine lv_tableIn (tgt := 1022) (off := 989) hx hb dd_L_law_33 (by rw [q33_17]; decide) (by rw [q33_17]; decide) (by rw [q33_17]; rfl) rfl ?_
        refine lv_aload_n hx hb dd_L_law_1022 rfl (lv_at hl 1 rfl) ?_
        refine lv_aload_n hx hb dd_L_law_1023 rfl (lv_at hl 0 rfl) ?_
        refine lv_iload_n hx hb dd_L_law_1024 rfl (lv_at hl 3 rfl) ?_
        refine lv_iconst (v := nI 1) hx hb dd_L_law_1025 (by decide) ?_
        refine lv_iadd hx hb dd_L_law_1026 ?_
        refine mr_vi (nI_add (6 * j) 1) ?_
        refine mr_sld hx hb hX hbl hbA hS (((6 * j) + 1)) rfl (by omega) hL dd_L_law_1027 ?_
        refine lv_i2l (v := (xs ((6 * j) + 1)).toInt64) hx hb dd_L_law_1028 (rfl) ?_
        refine lv_bipush (v := nI 32) hx hb dd_L_law_1029 (by decide) ?_
        refine lv_lshl (v := lsl_ ((xs ((6 * j) + 1)).toInt64) (nI 32)) hx hb dd_L_law_1031 (rfl) ?_
        refine lv_aload_n hx hb dd_L_law_1032 rfl (lv_at hl 0 rfl) ?_
        refine lv_iload_n hx hb dd_L_law_1033 rfl (lv_at hl 3 rfl) ?_
        refine lv_iconst (v := nI 2) hx hb dd_L_law_1034 (by decide) ?_
        refine lv_iadd hx hb dd_L_law_1035 ?_
        refine mr_vi (nI_add (6 * j) 2) ?_
        refine mr_sld hx hb hX hbl hbA hS (((6 * j) + 2)) rfl (by omega) hL dd_L_law_1036 ?_
        refine lv_i2l (v := (xs ((6 * j) + 2)).toInt64) hx hb dd_L_law_1037 (rfl) ?_
        refine mr_ldc2 (v := lN 4294967295) C0 tw_736 dd_L_law_1038 ?_
        refine lv_land hx hb dd_L_law_1041 ?_
        refine lv_lor hx hb dd_L_law_1042 ?_
        refine mr_vl (x' := jl_ (xs (6 * j + 1)) (xs (6 * j + 2))) (rfl) ?_
        refine lv_aload_n hx hb dd_L_law_1043 rfl (lv_at hl 0 rfl) ?_
        refine lv_iload_n hx hb dd_L_law_1044 rfl (lv_at hl 3 rfl) ?_
        refine lv_iconst (v := nI 3) hx hb dd_L_law_1045 (by decide) ?_
        refine lv_iadd hx hb dd_L_law_1046 ?_
        refine mr_vi (nI_add (6 * j) 3) ?_
        refine mr_sld hx hb hX hbl hbA hS (((6 * j) + 3)) rfl (by omega) hL dd_L_law_1047 ?_
        refine mr_callV (As := [.long (jl_ (xs (6 * j + 1)) (xs (6 * j + 2))), .int (xs ((6 * j) + 3))]) (rest := []) C0 hM hS vk_L_93 h_po rfl (c_P_checkExclude l np hsi hP ) rfl rfl hl.1 (Nat.le_of_ble_eq_true rfl) rfl rfl (by subst hR; exact ⟨Nat.le_of_ble_eq_true rfl, Nat.le_of_ble_eq_true rfl⟩) (by subst hR; exact ⟨Nat.le_of_ble_eq_true rfl, Nat.le_of_ble_eq_true rfl⟩) dd_L_law_1048 (fun v1 M1 H locs hp hM hS => ?_)
        obtain ⟨ev1, hPW1, hfr⟩ := hp
        subst ev1
        refine W.eq (g2 := F0 m 1051 ls [.int (ceR_ hs N (prime_ (jl_ (xs (6 * j + 1)) (xs (6 * j + 2)))) Ls nw Hd fc (xs ((6 * j) + 3)))]) rfl ?_
        refine mr_vi (x' := ceR_ hs N (primeT_ (jl_ (xs (6 * j + 1)) (xs (6 * j + 2)))) Ls nw Hd fc (xs ((6 * j) + 3))) (by rw [prime_eq]) ?_
        refine lv_aload_n hx hb dd_L_law_1051 rfl (lv_at hl 2 rfl) ?_
        refine lv_aload_n hx hb dd_L_law_1052 rfl (lv_at hl 0 rfl) ?_
        refine lv_iload_n hx hb dd_L_law_1053 rfl (lv_at hl 3 rfl) ?_
        refine lv_iconst (v := nI 1) hx hb dd_L_law_1054 (by decide) ?_
        refine lv_iadd hx hb dd_L_law_1055 ?_
        refine mr_vi (nI_add (6 * j) 1) ?_
        refine mr_sld hx hb hX hbl hbA hS (((6 * j) + 1)) rfl (by omega) hL dd_L_law_1056 ?_
        refine lv_i2l (v := (xs ((6 * j) + 1)).toInt64) hx hb dd_L_law_1057 (rfl) ?_
        refine lv_bipush (v := nI 32) hx hb dd_L_law_1058 (by decide) ?_
        refine lv_lshl (v := lsl_ ((xs ((6 * j) + 1)).toInt64) (nI 32)) hx hb dd_L_law_1060 (rfl) ?_
        refine lv_aload_n hx hb dd_L_law_1061 rfl (lv_at hl 0 rfl) ?_
        refine lv_iload_n hx hb dd_L_law_1062 rfl (lv_at hl 3 rfl) ?_
        refine lv_iconst (v := nI 2) hx hb dd_L_law_1063 (by decide) ?_
        refine lv_iadd hx hb dd_L_law_1064 ?_
        refine mr_vi (nI_add (6 * j) 2) ?_
        refine mr_sld hx hb hX hbl hbA hS (((6 * j) + 2)) rfl (by omega) hL dd_L_law_1065 ?_
        refine lv_i2l (v := (xs ((6 * j) + 2)).toInt64) hx hb dd_L_law_1066 (rfl) ?_
        refine mr_ldc2 (v := lN 4294967295) C0 tw_736 dd_L_law_1067 ?_
        refine lv_land hx hb dd_L_law_1070 ?_
        refine lv_lor hx hb dd_L_law_1071 ?_
        refine mr_vl (x' := jl_ (xs (6 * j + 1)) (xs (6 * j + 2))) (rfl) ?_
        refine lv_aload_n hx hb dd_L_law_1072 rfl (lv_at hl 0 rfl) ?_
        refine lv_iload_n hx hb dd_L_law_1073 rfl (lv_at hl 3 rfl) ?_
        refine lv_iconst (v := nI 3) hx hb dd_L_law_1074 (by decide) ?_
        refine lv_iadd hx hb dd_L_law_1075 ?_
        refine mr_vi (nI_add (6 * j) 3) ?_
        refine mr_sld hx hb hX hbl hbA hS (((6 * j) + 3)) rfl (by omega) hL dd_L_law_1076 ?_
        obtain ⟨w9, g9, cf, qf, xw, f9, sf, uf, lf, r1, r0, hrl, hk, h_2, h_3, h_4, h_5, h_6, h_7, h_8, h_9, h_10, h_0⟩ := MS_fr nx hfr hMS
        have eM : mu_ (mu_ (mu_ (mu_ (mu_ (mu_ (mu_ (mu_ (mu_ (mu_ M1 (am 2) (ia_ G 64 w9)) (am 3) (la_ G 10 f9)) (am 4) (ia_ G 10 g9)) (am 5) (ia_ G 17 cf)) (am 6) (la_ G 170 sf)) (am 7) (ia_ G 170 qf)) (am 8) (la_ G 17 uf)) (am 9) (la_ G 17 lf)) (am 10) (ia_ G 32 xw)) (am 0) (ob_ 6 [.ref (am 1), .ref (am 2), .int (nI hs), .long (hi_ N), .long (lo_ N), .long (hi_ Vt), .long (lo_ Vt), .int (nI Pd.length), .ref (am 3), .ref (am 4), .int (nI nw), .ref (am 5), .ref (am 6), .ref (am 7), .ref (am 8), .ref (am 9), .long (hi_ Hd), .long (lo_ Hd), .int (nI fc), .long r1, .long r0, .ref (am 10)]) = M1 := by rw [mu_id h_2, mu_id h_3, mu_id h_4, mu_id h_5, mu_id h_6, mu_id h_7, mu_id h_8, mu_id h_9, mu_id h_10, mu_id h_0]
        rw [← eM] at hM
        refine mr_callV (As := [.long (jl_ (xs (6 * j + 1)) (xs (6 * j + 2))), .int (xs ((6 * j) + 3))]) (rest := [.int (ceR_ hs N (primeT_ (jl_ (xs (6 * j + 1)) (xs (6 * j + 2)))) Ls nw Hd fc (xs ((6 * j) + 3)))]) C0 hM hS vk_L_96 mu_s rfl (c_M_checkExclude l nm hk hrl hsi.1 hsi.2.1 hsi.2.2.1 hsi.2.2.2.2.1 hsi.2.2.2.2.2.1) rfl rfl hl.1 (Nat.le_of_ble_eq_true rfl) rfl rfl (by subst hR; exact ⟨Nat.le_of_ble_eq_true rfl, Nat.le_of_ble_eq_true rfl⟩) (by subst hR; exact ⟨Nat.le_of_ble_eq_true rfl, Nat.le_of_ble_eq_true rfl⟩) dd_L_law_1077 (fun v1 M2 H locs hp hM hS => ?_)
        obtain ⟨ev1, hMW⟩ := hp
        subst ev1
        have hLI2 : LI_ G ap am hs N Vt Pd Ls nw Hd fc M2 := LI_mk nm nx hk (hsi) hPW1 hMW
        refine W.eq (g2 := F0 m 1080 ls [.int (ceR_ hs N (primeT_ (jl_ (xs (6 * j + 1)) (xs (6 * j + 2)))) Ls nw Hd fc (xs ((6 * j) + 3))), .int (ceR_ hs N (primeT_ (jl_ (xs (6 * j + 1)) (xs (6 * j + 2)))) Ls nw Hd fc (xs ((6 * j) + 3)))]) rfl ?_
        refine lv_icmp_eq (tgt := 1085) hx hb dd_L_law_1080 rfl (fun _ => ?_) (fun hc => absurd (rfl) hc)
        refine lv_iinc (k := 3) (v := nI (6 * (j + 1))) (lv' := [(3, .int (nI (6 * (j + 1)))), (0, .ref b), (1, .ref (ap 0)), (2, .ref (am 0))]) hx hb dd_L_law_1085 hl rfl (lw_inc j) (by decide) rfl (fun ls hl => ?_)
        refine lv_goto (tgt := 18) hx hb dd_L_law_1088 rfl ?_
        exact ih (j + 1) M2 hs N Vt nw Hd fc Pd Ls _ _ _ (by omega) hLI2 hM hS (lv_sub hl [1, 2, 3, 0] rfl)
      refine lv_tableOut (tgt := 1085) hx hb dd_L_law_33 (tab_out (n := 17) (by decide) (fun j hj => by match j, hj with | 0, _ => exact q33_0 | 1, _ => exact q33_1 | 2, _ => exact q33_2 | 3, _ => exact q33_3 | 4, _ => exact q33_4 | 5, _ => exact q33_5 | 6, _ => exact q33_6 | 7, _ => exact q33_7 | 8, _ => exact q33_8 | 9, _ => exact q33_9 | 10, _ => exact q33_10 | 11, _ => exact q33_11 | 12, _ => exact q33_12 | 13, _ => exact q33_13 | 14, _ => exact q33_14 | 15, _ => exact q33_15 | 16, _ => exact q33_16 | 17, _ => exact q33_17 | n + 18, h => exact absurd h (by omega))) rfl ?_
      refine lv_iinc (k := 3) (v := nI (6 * (j + 1))) (lv' := [(3, .int (nI (6 * (j + 1)))), (0, .ref b), (1, .ref (ap 0)), (2, .ref (am 0))]) hx hb dd_L_law_1085 hl rfl (lw_inc j) (by decide) rfl (fun ls hl => ?_)
      refine lv_goto (tgt := 18) hx hb dd_L_law_1088 rfl ?_
      exact ih (j + 1) M hs N Vt nw Hd fc Pd Ls _ _ _ (by omega) hLI hM hS (lv_sub hl [1, 2, 3, 0] rfl)
  exact loop_18 (L / 6) 0 M5 0 0 0 0 0 0 [] (fun _ => []) _ _ _ (by omega) hLI hM hS (by rw [← e1, ← e2]; exact lv_sub hl [3, 2, 1, 0] rfl)
