
theorem pd_le {L : rl_} (h : ∀ x ∈ L, x.2 < 2147483648) : pd_ L ≤ 2147483648 ^ L.length := by
  have key : ∀ i, i ≤ L.length → pd_ (L.take i) ≤ 2147483648 ^ i := by
    intro i
    induction i with
    | zero => intro _; exact Nat.le_refl _
    | succ i ih =>
      intro hi
      rw [pd_take (by omega), Nat.pow_succ]
      refine Nat.mul_le_mul (ih (by omega)) ?_
      rw [pr_at (by omega)]
      exact Nat.le_of_lt (h _ (List.getElem_mem _))
  have := key L.length (Nat.le_refl _)
  rwa [List.take_length] at this
theorem pd_lt {L : rl_} (h : ∀ x ∈ L, x.2 < 2147483648) (hn : L.length ≤ 10) : pd_ L < 2 ^ 311 := by
  refine Nat.lt_of_le_of_lt (pd_le h) ?_
  refine Nat.lt_of_le_of_lt (Nat.pow_le_pow_right (by decide) hn) ?_
  decide
theorem pd_take_lt {L : rl_} (h : ∀ x ∈ L, x.2 < 2147483648) (hn : L.length ≤ 10) (i : Nat) : pd_ (L.take i) < 2 ^ 311 :=
  pd_lt (fun x hx => h x (List.mem_of_mem_take hx)) (by rw [List.length_take]; omega)
theorem fo_mem {L O : rl_} {x : Int64 × Nat} (h : x ∈ fo_ L O) : x ∈ L := (List.mem_filter.mp h).1
theorem fs_mem {L : rl_} {s : Int64} {x : Int64 × Nat} (h : x ∈ fs_ L s) : x ∈ L := (List.mem_filter.mp h).1
theorem vb_lt {V b : Nat} (hV : V < 2 ^ 311) (hb : b < 2147483648) : V * b < 2 ^ 342 := by
  have h : V * b ≤ 2 ^ 311 * 2147483648 := Nat.mul_le_mul (Nat.le_of_lt hV) (Nat.le_of_lt hb)
  rcases Nat.eq_zero_or_pos b with h0 | h0
  · rw [h0, Nat.mul_zero]; exact Nat.pow_pos (by decide)
  · have h2 : V * b < 2 ^ 311 * b := Nat.mul_lt_mul_of_pos_right hV h0
    have h3 : 2 ^ 311 * b ≤ 2 ^ 311 * 2147483648 := Nat.mul_le_mul_left _ (Nat.le_of_lt hb)
    exact Nat.lt_of_lt_of_le h2 h3
theorem hul_close {hs N nw : Nat} {uf lf : Nat → Int64} {Ls : Nat → rl_} {Pd : rl_} (hul : hs = 1 → ∀ e, e ≤ nw → uf e = hi_ (ac_ N (Ls e)) ∧ lf e = lo_ (ac_ N (Ls e))) : hs = 1 → ∀ e, e ≤ nw + 1 → vp_updL uf (nw + 1) (hi_ (3 ^ pd_ Pd % N)) e = hi_ (ac_ N (if e = nw + 1 then Pd else Ls e)) ∧ vp_updL lf (nw + 1) (lo_ (3 ^ pd_ Pd % N)) e = lo_ (ac_ N (if e = nw + 1 then Pd else Ls e)) := by
  intro h e he
  unfold vp_updL
  by_cases h1 : e = nw + 1
  · simp [h1, ac_]
  · simp only [h1, if_false]
    exact hul h e (by omega)
def mdC_ (hs V : Nat) : Prop := hs = 0 ∧ acc_ V
noncomputable def mdR_ (hs V : Nat) : Int32 := @ite _ (mdC_ hs V) (Classical.propDecidable _) (nI 1) (nI 0)
noncomputable def mdS_ (hs V : Nat) : Nat := @ite _ (mdC_ hs V) (Classical.propDecidable _) 1 hs
noncomputable def mdN_ (hs V N : Nat) : Nat := @ite _ (mdC_ hs V) (Classical.propDecidable _) V N
noncomputable def mdT_ (hs V Vt : Nat) : Nat := @ite _ (mdC_ hs V) (Classical.propDecidable _) (th_ V) Vt
theorem md_y {hs V N Vt : Nat} (h : mdC_ hs V) : mdR_ hs V = nI 1 ∧ mdS_ hs V = 1 ∧ mdN_ hs V N = V ∧ mdT_ hs V Vt = th_ V := by
  unfold mdR_ mdS_ mdN_ mdT_
  exact ⟨if_pos h, if_pos h, if_pos h, if_pos h⟩
theorem md_n {hs V N Vt : Nat} (h : ¬ mdC_ hs V) : mdR_ hs V = nI 0 ∧ mdS_ hs V = hs ∧ mdN_ hs V N = N ∧ mdT_ hs V Vt = Vt := by
  unfold mdR_ mdS_ mdN_ mdT_
  exact ⟨if_neg h, if_neg h, if_neg h, if_neg h⟩
/-! excluding -/
def eb_ (V p : Nat) : Nat := (V % p) ^ (p - 2) % p
def eq_ (V p : Nat) : Nat := V * eb_ V p / p
def exR_ (hs : Nat) (p : Int32) (Ls : Nat → rl_) (nw : Nat) (s : Int64) : Int32 := if hs = 0 then (-1) else if p = (-2) then (-2) else if hs_ (Ls nw) s = true then (-3) else if hp_ (Ls nw) p = true then (-5) else nI (eb_ (pd_ (Ls nw)) (pn_ p))
def exH_ (hs N : Nat) (p : Int32) (Ls : Nat → rl_) (nw : Nat) (s : Int64) (Hd : Nat) : Nat := if hs = 0 then Hd else if p = (-2) then Hd else if hs_ (Ls nw) s = true then Hd else if hp_ (Ls nw) p = true then Hd else th_ N ^ eq_ (pd_ (Ls nw)) (pn_ p) % N
def exF_ (hs : Nat) (p : Int32) (Ls : Nat → rl_) (nw : Nat) (s : Int64) (fc : Nat) : Nat := if hs = 0 then fc else if p = (-2) then fc else if hs_ (Ls nw) s = true then fc else if hp_ (Ls nw) p = true then fc else eb_ (pd_ (Ls nw)) (pn_ p)

set_option maxHeartbeats 4000000 in
set_option maxRecDepth 100000 in
theorem c_M_close (l : Launch) {G : mg_} {M : mw_} {am : Nat → Nat} {hs N Vt nw Hd fc : Nat} {Pd : rl_} {Ls : Nat → rl_} {w g0 cf qf xw : Nat → Int32} {f sf uf lf : Nat → Int64} {r1 r0 : Int64}    (hne : ∀ {i j : Nat}, i ≠ j → am i ≠ am j) (hk : M (am 1) = some (la_ G 32 mk_)) (hrl : mrl_ hs N Pd Ls nw f g0 cf sf qf uf lf) (hok : okS_ Pd Ls nw) (hhs : hs ≤ 1) (hN : hs = 1 → N < 340282366920938463463374607431768211456 ∧ 1267650600228229401496703205376 ≤ N) (hHd : hs = 1 → Hd < N) (hfc : fc < 2147483648)  : ct_ l my_M_close cd_M_close 2 (some .int) { frames := 5, cells := 0, slots := 0, locals := 143 } G [.ref (am 0)] (mu_ (mu_ (mu_ (mu_ (mu_ (mu_ (mu_ (mu_ (mu_ (mu_ M (am 2) (ia_ G 64 w)) (am 3) (la_ G 10 f)) (am 4) (ia_ G 10 g0)) (am 5) (ia_ G 17 cf)) (am 6) (la_ G 170 sf)) (am 7) (ia_ G 170 qf)) (am 8) (la_ G 17 uf)) (am 9) (la_ G 17 lf)) (am 10) (ia_ G 32 xw)) (am 0) (ob_ 6 [.ref (am 1), .ref (am 2), .int (nI hs), .long (hi_ N), .long (lo_ N), .long (hi_ Vt), .long (lo_ Vt), .int (nI Pd.length), .ref (am 3), .ref (am 4), .int (nI nw), .ref (am 5), .ref (am 6), .ref (am 7), .ref (am 8), .ref (am 9), .long (hi_ Hd), .long (lo_ Hd), .int (nI fc), .long r1, .long r0, .ref (am 10)])) (fun v0 M' => v0 = (some (.int (clR_ hs nw))) ∧ MWx_ M am G hs N Vt Pd (clL_ hs nw Pd Ls) (clW_ hs nw) Hd fc M') 0 0 := by
  refine ct_.intro2 (by decide) (Nat.le_of_ble_eq_true rfl) ?_
  intro p e s m args below meth c ls R Q hR hQ C0 hl hM hS
  have hx := C0.1
  have hb := C0.2.1
  have hl : lv_has ls 2 [(0, .ref (am 0))] := hl
  obtain ⟨hro, hme, hul⟩ := hrl
  have hrl : mrl_ hs N Pd Ls nw f g0 cf sf qf uf lf := ⟨hro, hme, hul⟩
  obtain ⟨hPn, hLn, hnw, hPp, hLp, hPd, hLd⟩ := hok
  have hnw17 : nw < 17 := by omega
  have hcn := (hme nw hnw17).1
  refine lv_aload_n hx hb dd_M_close_0 rfl (lv_at hl 0 rfl) ?_
  refine mr_get C0 hM fk_M_181 mu_s (v := .int (nI hs)) rfl dd_M_close_1 ?_
  refine lv_if_ne (tgt := 9) hx hb dd_M_close_4 rfl (fun h4 => ?_) (fun h4 => ?_)
  · skip
    have hh1 : hs = 1 := by
      have h2 : hs ≠ 0 := fun q => h4 (by rw [q]; rfl)
      omega
    refine lv_aload_n hx hb dd_M_close_9 rfl (lv_at hl 0 rfl) ?_
    refine mr_get C0 hM fk_M_209 mu_s (v := .int (nI nw)) rfl dd_M_close_10 ?_
    refine lv_bipush (v := nI 16) hx hb dd_M_close_13 (by decide) ?_
    refine lv_icmp_ne (tgt := 21) hx hb dd_M_close_15 rfl (fun h15 => ?_) (fun h15 => ?_)
    · skip
      have hw16 : nw < 16 := by
        have h : nw ≠ 16 := fun q => h15 (by rw [q])
        omega
      refine lv_aload_n hx hb dd_M_close_21 rfl (lv_at hl 0 rfl) ?_
      refine lv_dup hx hb dd_M_close_22 rfl ?_
      refine mr_get C0 hM fk_M_209 mu_s (v := .int (nI nw)) rfl dd_M_close_23 ?_
      refine lv_iconst (v := nI 1) hx hb dd_M_close_26 (by decide) ?_
      refine lv_iadd hx hb dd_M_close_27 ?_
      refine mr_vi (nI_add nw 1) ?_
      refine mr_put C0 hM hS fk_M_209 fp_M_209 mu_s rfl (rfl) (rfl) (Nat.le_of_ble_eq_true rfl) dd_M_close_28 (fun H locs hM hS => ?_)
      have hM := mr_M mu_mu hM
      have hM : mm_ G (mu_ (mu_ (mu_ (mu_ (mu_ (mu_ (mu_ (mu_ (mu_ (mu_ M (am 2) (ia_ G 64 w)) (am 3) (la_ G 10 f)) (am 4) (ia_ G 10 g0)) (am 5) (ia_ G 17 cf)) (am 6) (la_ G 170 sf)) (am 7) (ia_ G 170 qf)) (am 8) (la_ G 17 uf)) (am 9) (la_ G 17 lf)) (am 10) (ia_ G 32 xw)) (am 0) (ob_ 6 [.ref (am 1), .ref (am 2), .int (nI hs), .long (hi_ N), .long (lo_ N), .long (hi_ Vt), .long (lo_ Vt), .int (nI Pd.length), .ref (am 3), .ref (am 4), .int (nI (nw + 1)), .ref (am 5), .ref (am 6), .ref (am 7), .ref (am 8), .ref (am 9), .long (hi_ Hd), .long (lo_ Hd), .int (nI fc), .long r1, .long r0, .ref (am 10)])) H := hM
      refine lv_aload_n hx hb dd_M_close_31 rfl (lv_at hl 0 rfl) ?_
      refine mr_get C0 hM fk_M_87 mu_s (v := .ref (am 5)) rfl dd_M_close_32 ?_
      refine lv_aload_n hx hb dd_M_close_35 rfl (lv_at hl 0 rfl) ?_
      refine mr_get C0 hM fk_M_209 mu_s (v := .int (nI (nw + 1))) rfl dd_M_close_36 ?_
      refine lv_aload_n hx hb dd_M_close_39 rfl (lv_at hl 0 rfl) ?_
      refine mr_get C0 hM fk_M_198 mu_s (v := .int (nI Pd.length)) rfl dd_M_close_40 ?_
      refine mr_iast C0 hM hS (mu_n' (hne (i := 5) (j := 0) (by decide)) (mu_n' (hne (i := 5) (j := 10) (by decide)) (mu_n' (hne (i := 5) (j := 9) (by decide)) (mu_n' (hne (i := 5) (j := 8) (by decide)) (mu_n' (hne (i := 5) (j := 7) (by decide)) (mu_n' (hne (i := 5) (j := 6) (by decide)) mu_s)))))) ((nw + 1)) (rfl) (by omega) (by decide) dd_M_close_43 (fun H locs hM hS => ?_)
      have hM := mr_M (mu_c7 (hne (i := 5) (j := 6) (by decide)) (hne (i := 5) (j := 7) (by decide)) (hne (i := 5) (j := 8) (by decide)) (hne (i := 5) (j := 9) (by decide)) (hne (i := 5) (j := 10) (by decide)) (hne (i := 5) (j := 0) (by decide))) hM
      refine lv_aload_n hx hb dd_M_close_44 rfl (lv_at hl 0 rfl) ?_
      refine lv_lconst (v := lN 0) hx hb dd_M_close_45 rfl ?_
      refine mr_put C0 hM hS fk_M_154 fp_M_154 mu_s rfl (rfl) (rfl) (Nat.le_of_ble_eq_true rfl) dd_M_close_46 (fun H locs hM hS => ?_)
      have hM := mr_M mu_mu hM
      have hM : mm_ G (mu_ (mu_ (mu_ (mu_ (mu_ (mu_ (mu_ (mu_ (mu_ (mu_ M (am 2) (ia_ G 64 w)) (am 3) (la_ G 10 f)) (am 4) (ia_ G 10 g0)) (am 5) (ia_ G 17 (upd cf (nw + 1) (nI Pd.length)))) (am 6) (la_ G 170 sf)) (am 7) (ia_ G 170 qf)) (am 8) (la_ G 17 uf)) (am 9) (la_ G 17 lf)) (am 10) (ia_ G 32 xw)) (am 0) (ob_ 6 [.ref (am 1), .ref (am 2), .int (nI hs), .long (hi_ N), .long (lo_ N), .long (hi_ Vt), .long (lo_ Vt), .int (nI Pd.length), .ref (am 3), .ref (am 4), .int (nI (nw + 1)), .ref (am 5), .ref (am 6), .ref (am 7), .ref (am 8), .ref (am 9), .long (hi_ Hd), .long (lo_ Hd), .int (nI fc), .long (lN 0), .long r0, .ref (am 10)])) H := hM
      refine lv_aload_n hx hb dd_M_close_49 rfl (lv_at hl 0 rfl) ?_
      refine mr_ldc2 (v := lN 3) C0 tw_591 dd_M_close_50 ?_
      refine mr_put C0 hM hS fk_M_151 fp_M_151 mu_s rfl (rfl) (rfl) (Nat.le_of_ble_eq_true rfl) dd_M_close_53 (fun H locs hM hS => ?_)
      have hM := mr_M mu_mu hM
      have hM : mm_ G (mu_ (mu_ (mu_ (mu_ (mu_ (mu_ (mu_ (mu_ (mu_ (mu_ M (am 2) (ia_ G 64 w)) (am 3) (la_ G 10 f)) (am 4) (ia_ G 10 g0)) (am 5) (ia_ G 17 (upd cf (nw + 1) (nI Pd.length)))) (am 6) (la_ G 170 sf)) (am 7) (ia_ G 170 qf)) (am 8) (la_ G 17 uf)) (am 9) (la_ G 17 lf)) (am 10) (ia_ G 32 xw)) (am 0) (ob_ 6 [.ref (am 1), .ref (am 2), .int (nI hs), .long (hi_ N), .long (lo_ N), .long (hi_ Vt), .long (lo_ Vt), .int (nI Pd.length), .ref (am 3), .ref (am 4), .int (nI (nw + 1)), .ref (am 5), .ref (am 6), .ref (am 7), .ref (am 8), .ref (am 9), .long (hi_ Hd), .long (lo_ Hd), .int (nI fc), .long (lN 0), .long (lN 3), .ref (am 10)])) H := hM
      refine lv_iconst (v := nI 0) hx hb dd_M_close_56 (by decide) ?_
      refine lv_istore_n (lv' := [(1, .int (nI 0)), (0, .ref (am 0))]) hx hb dd_M_close_57 rfl hl (by decide) rfl (fun ls hl => ?_)
      have loop_58 : ∀ (k : Nat) (i : Nat) (H : Heap) (locs : List Loc) (ls : Array Slot), i + k = Pd.length → mm_ G (mu_ (mu_ (mu_ (mu_ (mu_ (mu_ (mu_ (mu_ (mu_ (mu_ M (am 2) (ia_ G 64 w)) (am 3) (la_ G 10 f)) (am 4) (ia_ G 10 g0)) (am 5) (ia_ G 17 (upd cf (nw + 1) (nI Pd.length)))) (am 6) (la_ G 170 (cs_ sf f (10 * (nw + 1)) i))) (am 7) (ia_ G 170 (cs_ qf g0 (10 * (nw + 1)) i))) (am 8) (la_ G 17 uf)) (am 9) (la_ G 17 lf)) (am 10) (ia_ G 32 xw)) (am 0) (ob_ 6 [.ref (am 1), .ref (am 2), .int (nI hs), .long (hi_ N), .long (lo_ N), .long (hi_ Vt), .long (lo_ Vt), .int (nI Pd.length), .ref (am 3), .ref (am 4), .int (nI (nw + 1)), .ref (am 5), .ref (am 6), .ref (am 7), .ref (am 8), .ref (am 9), .long (hi_ Hd), .long (lo_ Hd), .int (nI fc), .long (hi_ (3 ^ pd_ (Pd.take i) % N)), .long (lo_ (3 ^ pd_ (Pd.take i) % N)), .ref (am 10)])) H → va_S (fz_ G) s.heap H locs → lv_has ls 2 [(0, .ref (am 0)), (1, .int (nI i))] → W p l e R s m args below meth c H locs 0 0 Q (F0 m 58 ls []) := by
        intro k
        induction k with
        | zero =>
          intro i H locs ls hi hM hS hl
          refine lv_iload_n hx hb dd_M_close_58 rfl (lv_at hl 1 rfl) ?_
          refine lv_aload_n hx hb dd_M_close_59 rfl (lv_at hl 0 rfl) ?_
          refine mr_get C0 hM fk_M_198 mu_s (v := .int (nI Pd.length)) rfl dd_M_close_60 ?_
          refine lv_icmp_ge (tgt := 130) hx hb dd_M_close_63 rfl (fun _ => ?_) (fun hc => absurd (le_nI (a := Pd.length) (b := i) (by omega) (by omega) (by omega)) hc)
          refine lv_aload_n hx hb dd_M_close_130 rfl (lv_at hl 0 rfl) ?_
          refine mr_get C0 hM fk_M_96 mu_s (v := .ref (am 8)) rfl dd_M_close_131 ?_
          refine lv_aload_n hx hb dd_M_close_134 rfl (lv_at hl 0 rfl) ?_
          refine mr_get C0 hM fk_M_209 mu_s (v := .int (nI (nw + 1))) rfl dd_M_close_135 ?_
          refine lv_aload_n hx hb dd_M_close_138 rfl (lv_at hl 0 rfl) ?_
          refine mr_get C0 hM fk_M_154 mu_s (v := .long (hi_ (3 ^ pd_ (Pd.take i) % N))) rfl dd_M_close_139 ?_
          refine mr_last C0 hM hS (mu_n' (hne (i := 8) (j := 0) (by decide)) (mu_n' (hne (i := 8) (j := 10) (by decide)) (mu_n' (hne (i := 8) (j := 9) (by decide)) mu_s))) ((nw + 1)) (rfl) (by omega) (by decide) dd_M_close_142 (fun H locs hM hS => ?_)
          have hM := mr_M (mu_c4 (hne (i := 8) (j := 9) (by decide)) (hne (i := 8) (j := 10) (by decide)) (hne (i := 8) (j := 0) (by decide))) hM
          refine lv_aload_n hx hb dd_M_close_143 rfl (lv_at hl 0 rfl) ?_
          refine mr_get C0 hM fk_M_99 mu_s (v := .ref (am 9)) rfl dd_M_close_144 ?_
          refine lv_aload_n hx hb dd_M_close_147 rfl (lv_at hl 0 rfl) ?_
          refine mr_get C0 hM fk_M_209 mu_s (v := .int (nI (nw + 1))) rfl dd_M_close_148 ?_
          refine lv_aload_n hx hb dd_M_close_151 rfl (lv_at hl 0 rfl) ?_
          refine mr_get C0 hM fk_M_151 mu_s (v := .long (lo_ (3 ^ pd_ (Pd.take i) % N))) rfl dd_M_close_152 ?_
          refine mr_last C0 hM hS (mu_n' (hne (i := 9) (j := 0) (by decide)) (mu_n' (hne (i := 9) (j := 10) (by decide)) mu_s)) ((nw + 1)) (rfl) (by omega) (by decide) dd_M_close_155 (fun H locs hM hS => ?_)
          have hM := mr_M (mu_c3 (hne (i := 9) (j := 10) (by decide)) (hne (i := 9) (j := 0) (by decide))) hM
          refine lv_aload_n hx hb dd_M_close_156 rfl (lv_at hl 0 rfl) ?_
          refine mr_get C0 hM fk_M_209 mu_s (v := .int (nI (nw + 1))) rfl dd_M_close_157 ?_
          rw [show i = Pd.length by omega, List.take_length] at hM
          have eL : clL_ hs nw Pd Ls = fun e => if e = nw + 1 then Pd else Ls e := by unfold clL_; rw [if_neg (show ¬ hs = 0 by omega), if_neg (show ¬ nw = 16 by omega)]
          have eW : clW_ hs nw = nw + 1 := by unfold clW_; rw [if_neg (show ¬ hs = 0 by omega), if_neg (show ¬ nw = 16 by omega)]
          exact mr_ret hQ (mr_iret C0 hM hS (rfl) (⟨by unfold clR_; rw [if_neg (show ¬ hs = 0 by omega), if_neg (show ¬ nw = 16 by omega)], _, _, _, _, _, _, _, _, _, _, _, by rw [eL, eW]; exact ⟨hro, me_close hme hro hPn, hul_close hul⟩, by rw [eW]⟩) dd_M_close_160)
        | succ k ih =>
          intro i H locs ls hi hM hS hl
          have hil : i < Pd.length := by omega
          have hp0 : pr_ Pd i < 2147483648 := by rw [pr_at hil]; exact hPp _ (List.getElem_mem hil)
          refine lv_iload_n hx hb dd_M_close_58 rfl (lv_at hl 1 rfl) ?_
          refine lv_aload_n hx hb dd_M_close_59 rfl (lv_at hl 0 rfl) ?_
          refine mr_get C0 hM fk_M_198 mu_s (v := .int (nI Pd.length)) rfl dd_M_close_60 ?_
          refine lv_icmp_ge (tgt := 130) hx hb dd_M_close_63 rfl (fun hc => absurd hc (nle_nI (a := Pd.length) (b := i) (by omega) (by omega) (by omega))) (fun _ => ?_)
          refine lv_aload_n hx hb dd_M_close_66 rfl (lv_at hl 0 rfl) ?_
          refine mr_get C0 hM fk_M_90 mu_s (v := .ref (am 6)) rfl dd_M_close_67 ?_
          refine lv_bipush (v := nI 10) hx hb dd_M_close_70 (by decide) ?_
          refine lv_aload_n hx hb dd_M_close_72 rfl (lv_at hl 0 rfl) ?_
          refine mr_get C0 hM fk_M_209 mu_s (v := .int (nI (nw + 1))) rfl dd_M_close_73 ?_
          refine lv_imul hx hb dd_M_close_76 ?_
          refine mr_vi (pk_mul 10 (nw + 1)) ?_
          refine lv_iload_n hx hb dd_M_close_77 rfl (lv_at hl 1 rfl) ?_
          refine lv_iadd hx hb dd_M_close_78 ?_
          refine mr_vi (nI_add (10 * (nw + 1)) i) ?_
          refine lv_aload_n hx hb dd_M_close_79 rfl (lv_at hl 0 rfl) ?_
          refine mr_get C0 hM fk_M_81 mu_s (v := .ref (am 3)) rfl dd_M_close_80 ?_
          refine lv_iload_n hx hb dd_M_close_83 rfl (lv_at hl 1 rfl) ?_
          refine mr_lald C0 hM (mu_n' (hne (i := 3) (j := 0) (by decide)) (mu_n' (hne (i := 3) (j := 10) (by decide)) (mu_n' (hne (i := 3) (j := 9) (by decide)) (mu_n' (hne (i := 3) (j := 8) (by decide)) (mu_n' (hne (i := 3) (j := 7) (by decide)) (mu_n' (hne (i := 3) (j := 6) (by decide)) (mu_n' (hne (i := 3) (j := 5) (by decide)) (mu_n' (hne (i := 3) (j := 4) (by decide)) mu_s)))))))) (i) (rfl) (by omega) (by decide) dd_M_close_84 ?_
          refine mr_last C0 hM hS (mu_n' (hne (i := 6) (j := 0) (by decide)) (mu_n' (hne (i := 6) (j := 10) (by decide)) (mu_n' (hne (i := 6) (j := 9) (by decide)) (mu_n' (hne (i := 6) (j := 8) (by decide)) (mu_n' (hne (i := 6) (j := 7) (by decide)) mu_s))))) (((10 * (nw + 1)) + i)) (rfl) (by omega) (by decide) dd_M_close_85 (fun H locs hM hS => ?_)
          have hM := mr_M (mu_c6 (hne (i := 6) (j := 7) (by decide)) (hne (i := 6) (j := 8) (by decide)) (hne (i := 6) (j := 9) (by decide)) (hne (i := 6) (j := 10) (by decide)) (hne (i := 6) (j := 0) (by decide))) hM
          have hM := mr_M (congrArg (fun z__ => mu_ (mu_ (mu_ (mu_ (mu_ (mu_ (mu_ (mu_ (mu_ (mu_ M (am 2) (ia_ G 64 w)) (am 3) (la_ G 10 f)) (am 4) (ia_ G 10 g0)) (am 5) (ia_ G 17 (upd cf (nw + 1) (nI Pd.length)))) (am 6) (la_ G 170 z__)) (am 7) (ia_ G 170 (cs_ qf g0 (10 * (nw + 1)) i))) (am 8) (la_ G 17 uf)) (am 9) (la_ G 17 lf)) (am 10) (ia_ G 32 xw)) (am 0) (ob_ 6 [.ref (am 1), .ref (am 2), .int (nI hs), .long (hi_ N), .long (lo_ N), .long (hi_ Vt), .long (lo_ Vt), .int (nI Pd.length), .ref (am 3), .ref (am 4), .int (nI (nw + 1)), .ref (am 5), .ref (am 6), .ref (am 7), .ref (am 8), .ref (am 9), .long (hi_ Hd), .long (lo_ Hd), .int (nI fc), .long (hi_ (3 ^ pd_ (Pd.take i) % N)), .long (lo_ (3 ^ pd_ (Pd.take i) % N)), .ref (am 10)])) (show (vp_updL (cs_ sf f (10 * (nw + 1)) i) ((10 * (nw + 1)) + i) (f i) : Nat → Int64) = (cs_ sf f (10 * (nw + 1)) (i + 1)) from cs_sL sf f (10 * (nw + 1)) i)) hM
          have hM : mm_ G (mu_ (mu_ (mu_ (mu_ (mu_ (mu_ (mu_ (mu_ (mu_ (mu_ M (am 2) (ia_ G 64 w)) (am 3) (la_ G 10 f)) (am 4) (ia_ G 10 g0)) (am 5) (ia_ G 17 (upd cf (nw + 1) (nI Pd.length)))) (am 6) (la_ G 170 (cs_ sf f (10 * (nw + 1)) (i + 1)))) (am 7) (ia_ G 170 (cs_ qf g0 (10 * (nw + 1)) i))) (am 8) (la_ G 17 uf)) (am 9) (la_ G 17 lf)) (am 10) (ia_ G 32 xw)) (am 0) (ob_ 6 [.ref (am 1), .ref (am 2), .int (nI hs), .long (hi_ N), .long (lo_ N), .long (hi_ Vt), .long (lo_ Vt), .int (nI Pd.length), .ref (am 3), .ref (am 4), .int (nI (nw + 1)), .ref (am 5), .ref (am 6), .ref (am 7), .ref (am 8), .ref (am 9), .long (hi_ Hd), .long (lo_ Hd), .int (nI fc), .long (hi_ (3 ^ pd_ (Pd.take i) % N)), .long (lo_ (3 ^ pd_ (Pd.take i) % N)), .ref (am 10)])) H := hM
          refine lv_aload_n hx hb dd_M_close_86 rfl (lv_at hl 0 rfl) ?_
          refine mr_get C0 hM fk_M_93 mu_s (v := .ref (am 7)) rfl dd_M_close_87 ?_
          refine lv_bipush (v := nI 10) hx hb dd_M_close_90 (by decide) ?_
          refine lv_aload_n hx hb dd_M_close_92 rfl (lv_at hl 0 rfl) ?_
          refine mr_get C0 hM fk_M_209 mu_s (v := .int (nI (nw + 1))) rfl dd_M_close_93 ?_
          refine lv_imul hx hb dd_M_close_96 ?_
          refine mr_vi (pk_mul 10 (nw + 1)) ?_
          refine lv_iload_n hx hb dd_M_close_97 rfl (lv_at hl 1 rfl) ?_
          refine lv_iadd hx hb dd_M_close_98 ?_
          refine mr_vi (nI_add (10 * (nw + 1)) i) ?_
          refine lv_aload_n hx hb dd_M_close_99 rfl (lv_at hl 0 rfl) ?_
          refine mr_get C0 hM fk_M_84 mu_s (v := .ref (am 4)) rfl dd_M_close_100 ?_
          refine lv_iload_n hx hb dd_M_close_103 rfl (lv_at hl 1 rfl) ?_
          refine mr_iald C0 hM (mu_n' (hne (i := 4) (j := 0) (by decide)) (mu_n' (hne (i := 4) (j := 10) (by decide)) (mu_n' (hne (i := 4) (j := 9) (by decide)) (mu_n' (hne (i := 4) (j := 8) (by decide)) (mu_n' (hne (i := 4) (j := 7) (by decide)) (mu_n' (hne (i := 4) (j := 6) (by decide)) (mu_n' (hne (i := 4) (j := 5) (by decide)) mu_s))))))) (i) (rfl) (by omega) (by decide) dd_M_close_104 ?_
          refine mr_iast C0 hM hS (mu_n' (hne (i := 7) (j := 0) (by decide)) (mu_n' (hne (i := 7) (j := 10) (by decide)) (mu_n' (hne (i := 7) (j := 9) (by decide)) (mu_n' (hne (i := 7) (j := 8) (by decide)) mu_s)))) (((10 * (nw + 1)) + i)) (rfl) (by omega) (by decide) dd_M_close_105 (fun H locs hM hS => ?_)
          have hM := mr_M (mu_c5 (hne (i := 7) (j := 8) (by decide)) (hne (i := 7) (j := 9) (by decide)) (hne (i := 7) (j := 10) (by decide)) (hne (i := 7) (j := 0) (by decide))) hM
          have hM := mr_M (congrArg (fun z__ => mu_ (mu_ (mu_ (mu_ (mu_ (mu_ (mu_ (mu_ (mu_ (mu_ M (am 2) (ia_ G 64 w)) (am 3) (la_ G 10 f)) (am 4) (ia_ G 10 g0)) (am 5) (ia_ G 17 (upd cf (nw + 1) (nI Pd.length)))) (am 6) (la_ G 170 (cs_ sf f (10 * (nw + 1)) (i + 1)))) (am 7) (ia_ G 170 z__)) (am 8) (la_ G 17 uf)) (am 9) (la_ G 17 lf)) (am 10) (ia_ G 32 xw)) (am 0) (ob_ 6 [.ref (am 1), .ref (am 2), .int (nI hs), .long (hi_ N), .long (lo_ N), .long (hi_ Vt), .long (lo_ Vt), .int (nI Pd.length), .ref (am 3), .ref (am 4), .int (nI (nw + 1)), .ref (am 5), .ref (am 6), .ref (am 7), .ref (am 8), .ref (am 9), .long (hi_ Hd), .long (lo_ Hd), .int (nI fc), .long (hi_ (3 ^ pd_ (Pd.take i) % N)), .long (lo_ (3 ^ pd_ (Pd.take i) % N)), .ref (am 10)])) (show (upd (cs_ qf g0 (10 * (nw + 1)) i) ((10 * (nw + 1)) + i) (g0 i) : Nat → Int32) = (cs_ qf g0 (10 * (nw + 1)) (i + 1)) from cs_sI qf g0 (10 * (nw + 1)) i)) hM
          have hM : mm_ G (mu_ (mu_ (mu_ (mu_ (mu_ (mu_ (mu_ (mu_ (mu_ (mu_ M (am 2) (ia_ G 64 w)) (am 3) (la_ G 10 f)) (am 4) (ia_ G 10 g0)) (am 5) (ia_ G 17 (upd cf (nw + 1) (nI Pd.length)))) (am 6) (la_ G 170 (cs_ sf f (10 * (nw + 1)) (i + 1)))) (am 7) (ia_ G 170 (cs_ qf g0 (10 * (nw + 1)) (i + 1)))) (am 8) (la_ G 17 uf)) (am 9) (la_ G 17 lf)) (am 10) (ia_ G 32 xw)) (am 0) (ob_ 6 [.ref (am 1), .ref (am 2), .int (nI hs), .long (hi_ N), .long (lo_ N), .long (hi_ Vt), .long (lo_ Vt), .int (nI Pd.length), .ref (am 3), .ref (am 4), .int (nI (nw + 1)), .ref (am 5), .ref (am 6), .ref (am 7), .ref (am 8), .ref (am 9), .long (hi_ Hd), .long (lo_ Hd), .int (nI fc), .long (hi_ (3 ^ pd_ (Pd.take i) % N)), .long (lo_ (3 ^ pd_ (Pd.take i) % N)), .ref (am 10)])) H := hM
          refine lv_aload_n hx hb dd_M_close_106 rfl (lv_at hl 0 rfl) ?_
          refine lv_aload_n hx hb dd_M_close_107 rfl (lv_at hl 0 rfl) ?_
          refine mr_get C0 hM fk_M_154 mu_s (v := .long (hi_ (3 ^ pd_ (Pd.take i) % N))) rfl dd_M_close_108 ?_
          refine lv_aload_n hx hb dd_M_close_111 rfl (lv_at hl 0 rfl) ?_
          refine mr_get C0 hM fk_M_151 mu_s (v := .long (lo_ (3 ^ pd_ (Pd.take i) % N))) rfl dd_M_close_112 ?_
          refine lv_aload_n hx hb dd_M_close_115 rfl (lv_at hl 0 rfl) ?_
          refine mr_get C0 hM fk_M_84 mu_s (v := .ref (am 4)) rfl dd_M_close_116 ?_
          refine lv_iload_n hx hb dd_M_close_119 rfl (lv_at hl 1 rfl) ?_
          refine mr_iald C0 hM (mu_n' (hne (i := 4) (j := 0) (by decide)) (mu_n' (hne (i := 4) (j := 10) (by decide)) (mu_n' (hne (i := 4) (j := 9) (by decide)) (mu_n' (hne (i := 4) (j := 8) (by decide)) (mu_n' (hne (i := 4) (j := 7) (by decide)) (mu_n' (hne (i := 4) (j := 6) (by decide)) (mu_n' (hne (i := 4) (j := 5) (by decide)) mu_s))))))) (i) (rfl) (by omega) (by decide) dd_M_close_120 ?_
          refine mr_vi (x' := nI (pr_ Pd i)) ((hro i hil).2) ?_
          refine mr_callV (As := [.long (hi_ (3 ^ pd_ (Pd.take i) % N)), .long (lo_ (3 ^ pd_ (Pd.take i) % N)), .int (nI (pr_ Pd i))]) (rest := []) C0 hM hS vk_M_212 mu_s rfl (c_M_power l mu_s  (hN hh1).1 (Nat.mod_lt _ (by have h := (hN hh1).2; omega)) (by have h := (hN hh1).2; omega) hp0) rfl rfl hl.1 (Nat.le_of_ble_eq_true rfl) rfl rfl (by subst hR; exact ⟨Nat.le_of_ble_eq_true rfl, Nat.le_of_ble_eq_true rfl⟩) (by subst hR; exact ⟨Nat.le_of_ble_eq_true rfl, Nat.le_of_ble_eq_true rfl⟩) dd_M_close_121 (fun v1 M1 H locs hp hM hS => ?_)
          obtain ⟨ev1, eM1⟩ := hp
          subst ev1
          rw [eM1] at hM
          have hM := mr_M mu_mu hM
          have hM : mm_ G (mu_ (mu_ (mu_ (mu_ (mu_ (mu_ (mu_ (mu_ (mu_ (mu_ M (am 2) (ia_ G 64 w)) (am 3) (la_ G 10 f)) (am 4) (ia_ G 10 g0)) (am 5) (ia_ G 17 (upd cf (nw + 1) (nI Pd.length)))) (am 6) (la_ G 170 (cs_ sf f (10 * (nw + 1)) (i + 1)))) (am 7) (ia_ G 170 (cs_ qf g0 (10 * (nw + 1)) (i + 1)))) (am 8) (la_ G 17 uf)) (am 9) (la_ G 17 lf)) (am 10) (ia_ G 32 xw)) (am 0) (ob_ 6 [.ref (am 1), .ref (am 2), .int (nI hs), .long (hi_ N), .long (lo_ N), .long (hi_ Vt), .long (lo_ Vt), .int (nI Pd.length), .ref (am 3), .ref (am 4), .int (nI (nw + 1)), .ref (am 5), .ref (am 6), .ref (am 7), .ref (am 8), .ref (am 9), .long (hi_ Hd), .long (lo_ Hd), .int (nI fc), .long (hi_ ((3 ^ pd_ (Pd.take i) % N) ^ pr_ Pd i % N)), .long (lo_ ((3 ^ pd_ (Pd.take i) % N) ^ pr_ Pd i % N)), .ref (am 10)])) H := hM
          refine W.eq (g2 := F0 m 124 ls []) rfl ?_
          rw [pw_pw, ← pd_take hil] at hM
          have hM : mm_ G (mu_ (mu_ (mu_ (mu_ (mu_ (mu_ (mu_ (mu_ (mu_ (mu_ M (am 2) (ia_ G 64 w)) (am 3) (la_ G 10 f)) (am 4) (ia_ G 10 g0)) (am 5) (ia_ G 17 (upd cf (nw + 1) (nI Pd.length)))) (am 6) (la_ G 170 (cs_ sf f (10 * (nw + 1)) (i + 1)))) (am 7) (ia_ G 170 (cs_ qf g0 (10 * (nw + 1)) (i + 1)))) (am 8) (la_ G 17 uf)) (am 9) (la_ G 17 lf)) (am 10) (ia_ G 32 xw)) (am 0) (ob_ 6 [.ref (am 1), .ref (am 2), .int (nI hs), .long (hi_ N), .long (lo_ N), .long (hi_ Vt), .long (lo_ Vt), .int (nI Pd.length), .ref (am 3), .ref (am 4), .int (nI (nw + 1)), .ref (am 5), .ref (am 6), .ref (am 7), .ref (am 8), .ref (am 9), .long (hi_ Hd), .long (lo_ Hd), .int (nI fc), .long (hi_ (3 ^ pd_ (Pd.take (i + 1)) % N)), .long (lo_ (3 ^ pd_ (Pd.take (i + 1)) % N)), .ref (am 10)])) H := hM
          refine lv_iinc (k := 1) (v := nI (i + 1)) (lv' := [(1, .int (nI (i + 1))), (0, .ref (am 0))]) hx hb dd_M_close_124 hl rfl (inc_ i) (by decide) rfl (fun ls hl => ?_)
          refine lv_goto (tgt := 58) hx hb dd_M_close_127 rfl ?_
          exact ih (i + 1) _ _ _ (by omega) hM hS (lv_sub hl [1, 0] rfl)
      rw [show (la_ G 170 sf : va_E) = la_ G 170 (cs_ sf f (10 * (nw + 1)) 0) by rw [← cs_0], show (ia_ G 170 qf : va_E) = ia_ G 170 (cs_ qf g0 (10 * (nw + 1)) 0) by rw [← cs_0], show lN 0 = hi_ (3 ^ pd_ (Pd.take 0) % N) by rw [pd_0, Nat.pow_one, Nat.mod_eq_of_lt (by have h := (hN hh1).2; omega)]; rfl, show lN 3 = lo_ (3 ^ pd_ (Pd.take 0) % N) by rw [pd_0, Nat.pow_one, Nat.mod_eq_of_lt (by have h := (hN hh1).2; omega)]; rfl] at hM
      exact loop_58 Pd.length 0 _ _ _ (Nat.zero_add _) hM hS (lv_sub hl [1, 0] rfl)
    · skip
      have hw16 : nw = 16 := (nI_eq (by omega) (by decide)).mp h15
      refine lv_bipush (v := (-6 : Int32)) hx hb dd_M_close_18 (by decide) ?_
      exact mr_ret hQ (mr_iret C0 hM hS (rfl) (⟨by unfold clR_; rw [if_neg (show ¬ hs = 0 by omega), if_pos hw16], _, _, _, _, _, _, _, _, _, _, _, by unfold clL_ clW_; rw [if_neg (show ¬ hs = 0 by omega), if_pos hw16, if_neg (show ¬ hs = 0 by omega), if_pos hw16]; exact hrl, by unfold clW_; rw [if_neg (show ¬ hs = 0 by omega), if_pos hw16]⟩) dd_M_close_20)
  · skip
    have hh0 : hs = 0 := (nI_eq (by omega) (by decide)).mp h4
    refine lv_iconst (v := (-1 : Int32)) hx hb dd_M_close_7 (by decide) ?_
    exact mr_ret hQ (mr_iret C0 hM hS (rfl) (⟨by unfold clR_; rw [if_pos hh0], _, _, _, _, _, _, _, _, _, _, _, by unfold clL_ clW_; rw [if_pos hh0, if_pos hh0]; exact hrl, by unfold clW_; rw [if_pos hh0]⟩) dd_M_close_8)

set_option maxHeartbeats 4000000 in
set_option maxRecDepth 100000 in
theorem c_M_modulus (l : Launch) {G : mg_} {M : mw_} {am : Nat → Nat} {hs N Vt nw Hd fc : Nat} {Pd : rl_} {Ls : Nat → rl_} {w g0 cf qf xw : Nat → Int32} {f sf uf lf : Nat → Int64} {r1 r0 : Int64} {U L : Nat}   (hne : ∀ {i j : Nat}, i ≠ j → am i ≠ am j) (hk : M (am 1) = some (la_ G 32 mk_)) (hrl : mrl_ hs N Pd Ls nw f g0 cf sf qf uf lf) (hok : okS_ Pd Ls nw) (hhs : hs ≤ 1) (hU : U < 18446744073709551616) (hL : L < 18446744073709551616) (h00 : hs = 0 → nw = 0 ∧ Ls 0 = []) : ct_ l my_M_modulus cd_M_modulus 5 (some .boolean) { frames := 4, cells := 0, slots := 0, locals := 106 } G [.ref (am 0), .long (lN U), .long (lN L)] (mu_ (mu_ (mu_ (mu_ (mu_ (mu_ (mu_ (mu_ (mu_ (mu_ M (am 2) (ia_ G 64 w)) (am 3) (la_ G 10 f)) (am 4) (ia_ G 10 g0)) (am 5) (ia_ G 17 cf)) (am 6) (la_ G 170 sf)) (am 7) (ia_ G 170 qf)) (am 8) (la_ G 17 uf)) (am 9) (la_ G 17 lf)) (am 10) (ia_ G 32 xw)) (am 0) (ob_ 6 [.ref (am 1), .ref (am 2), .int (nI hs), .long (hi_ N), .long (lo_ N), .long (hi_ Vt), .long (lo_ Vt), .int (nI Pd.length), .ref (am 3), .ref (am 4), .int (nI nw), .ref (am 5), .ref (am 6), .ref (am 7), .ref (am 8), .ref (am 9), .long (hi_ Hd), .long (lo_ Hd), .int (nI fc), .long r1, .long r0, .ref (am 10)])) (fun v0 M' => v0 = (some (.int (mdR_ hs (U * 18446744073709551616 + L)))) ∧ MWx_ M am G (mdS_ hs (U * 18446744073709551616 + L)) (mdN_ hs (U * 18446744073709551616 + L) N) (mdT_ hs (U * 18446744073709551616 + L) Vt) Pd Ls nw Hd fc M') 0 0 := by
  refine ct_.intro2 (by decide) (Nat.le_of_ble_eq_true rfl) ?_
  intro p e s m args below meth c ls R Q hR hQ C0 hl hM hS
  have hx := C0.1
  have hb := C0.2.1
  have hl : lv_has ls 5 [(0, .ref (am 0)), (1, .long (lN U)), (3, .long (lN L))] := hl
  obtain ⟨hro, hme, hul⟩ := hrl
  have hrl : mrl_ hs N Pd Ls nw f g0 cf sf qf uf lf := ⟨hro, hme, hul⟩
  obtain ⟨hPn, hLn, hnw, hPp, hLp, hPd, hLd⟩ := hok
  have hnw17 : nw < 17 := by omega
  have hcn := (hme nw hnw17).1
  refine lv_aload_n hx hb dd_M_modulus_0 rfl (lv_at hl 0 rfl) ?_
  refine mr_get C0 hM fk_M_181 mu_s (v := .int (nI hs)) rfl dd_M_modulus_1 ?_
  refine lv_if_ne (tgt := 42) hx hb dd_M_modulus_4 rfl (fun h4 => ?_) (fun h4 => ?_)
  · skip
    have hh1 : hs = 1 := by
      have h2 : hs ≠ 0 := fun q => h4 (by rw [q]; rfl)
      omega
    refine lv_iconst (v := nI 0) hx hb dd_M_modulus_42 (by decide) ?_
    have hno : ¬ mdC_ hs (U * 18446744073709551616 + L) := by
      rintro ⟨q1, q2, q3, q4⟩
      first | omega | exact q4 h3
    obtain ⟨e1, e2, e3, e4⟩ := md_n (N := N) (Vt := Vt) hno
    exact mr_ret hQ (mr_iret C0 hM hS (rfl) (⟨by rw [e1], _, _, _, _, _, _, _, _, _, _, _, by rw [e2, e3]; exact hrl, by rw [e2, e3, e4]⟩) dd_M_modulus_43)
  · skip
    have hh0 : hs = 0 := (nI_eq (by omega) (by decide)).mp h4
    refine lv_lload_n hx hb dd_M_modulus_7 rfl (lv_at hl 2 rfl) ?_
    refine lv_lconst (v := lN 1) hx hb dd_M_modulus_8 rfl ?_
    refine lv_land hx hb dd_M_modulus_9 ?_
    refine mr_vl (x' := lN (L % 2)) (wb_a1 hL) ?_
    refine lv_lconst (v := lN 0) hx hb dd_M_modulus_10 rfl ?_
    refine mr_lif_eq (tgt := 42) hx hb dd_M_modulus_11 dd_M_modulus_12 rfl (fun h11 => ?_) (fun h11 => ?_)
    · skip
      have ho : L % 2 = 0 := (lE_ (by omega) (by decide)).mp h11
      refine lv_iconst (v := nI 0) hx hb dd_M_modulus_42 (by decide) ?_
      have hno : ¬ mdC_ hs (U * 18446744073709551616 + L) := by
        rintro ⟨q1, q2, q3, q4⟩
        first | omega | exact q4 h3
      obtain ⟨e1, e2, e3, e4⟩ := md_n (N := N) (Vt := Vt) hno
      exact mr_ret hQ (mr_iret C0 hM hS (rfl) (⟨by rw [e1], _, _, _, _, _, _, _, _, _, _, _, by rw [e2, e3]; exact hrl, by rw [e2, e3, e4]⟩) dd_M_modulus_43)
    · skip
      have ho : L % 2 ≠ 0 := fun q => h11 (congrArg lN q)
      refine lv_lload_n hx hb dd_M_modulus_15 rfl (lv_at hl 1 rfl) ?_
      refine mr_callS (As := [.long (lN U)]) (rest := []) C0 hM hS sk_M_185 (c_M_thirds l hU) rfl rfl hl.1 (Nat.le_of_ble_eq_true rfl) rfl rfl (by subst hR; exact ⟨Nat.le_of_ble_eq_true rfl, Nat.le_of_ble_eq_true rfl⟩) (by subst hR; exact ⟨Nat.le_of_ble_eq_true rfl, Nat.le_of_ble_eq_true rfl⟩) dd_M_modulus_16 (fun v1 M1 H locs hp hM hS => ?_)
      obtain ⟨ev1, eM1⟩ := hp
      subst ev1
      rw [eM1] at hM
      refine W.eq (g2 := F0 m 19 ls [.long (lN (U % 3))]) rfl ?_
      refine lv_lload_n hx hb dd_M_modulus_19 rfl (lv_at hl 2 rfl) ?_
      refine mr_callS (As := [.long (lN L)]) (rest := [.long (lN (U % 3))]) C0 hM hS sk_M_185 (c_M_thirds l hL) rfl rfl hl.1 (Nat.le_of_ble_eq_true rfl) rfl rfl (by subst hR; exact ⟨Nat.le_of_ble_eq_true rfl, Nat.le_of_ble_eq_true rfl⟩) (by subst hR; exact ⟨Nat.le_of_ble_eq_true rfl, Nat.le_of_ble_eq_true rfl⟩) dd_M_modulus_20 (fun v1 M1 H locs hp hM hS => ?_)
      obtain ⟨ev1, eM1⟩ := hp
      subst ev1
      rw [eM1] at hM
      refine W.eq (g2 := F0 m 23 ls [.long (lN (L % 3)), .long (lN (U % 3))]) rfl ?_
      refine lv_ladd hx hb dd_M_modulus_23 ?_
      refine mr_vl (x' := lN (U % 3 + L % 3)) (lN_add _ _) ?_
      refine mr_ldc2 (v := lN 3) C0 tw_591 dd_M_modulus_24 ?_
      refine lv_lrem hx hb dd_M_modulus_27 (by decide) ?_
      refine mr_vl (x' := lN ((U * 18446744073709551616 + L) % 3)) ((pk_lRem (by omega) (by decide) (by decide)).trans (congrArg lN th_add)) ?_
      refine lv_lconst (v := lN 0) hx hb dd_M_modulus_28 rfl ?_
      refine mr_lif_eq (tgt := 42) hx hb dd_M_modulus_29 dd_M_modulus_30 rfl (fun h29 => ?_) (fun h29 => ?_)
      · skip
        have h3 : (U * 18446744073709551616 + L) % 3 = 0 := (lE_ (by omega) (by decide)).mp h29
        refine lv_iconst (v := nI 0) hx hb dd_M_modulus_42 (by decide) ?_
        have hno : ¬ mdC_ hs (U * 18446744073709551616 + L) := by
          rintro ⟨q1, q2, q3, q4⟩
          first | omega | exact q4 h3
        obtain ⟨e1, e2, e3, e4⟩ := md_n (N := N) (Vt := Vt) hno
        exact mr_ret hQ (mr_iret C0 hM hS (rfl) (⟨by rw [e1], _, _, _, _, _, _, _, _, _, _, _, by rw [e2, e3]; exact hrl, by rw [e2, e3, e4]⟩) dd_M_modulus_43)
      · skip
        have h3 : (U * 18446744073709551616 + L) % 3 ≠ 0 := fun q => h29 (congrArg lN q)
        refine lv_lload_n hx hb dd_M_modulus_33 rfl (lv_at hl 1 rfl) ?_
        refine lv_bipush (v := nI 36) hx hb dd_M_modulus_34 (by decide) ?_
        refine lv_lushr (v := lN (U / 68719476736)) hx hb dd_M_modulus_36 (wb_shr (k := 36) hU (by decide)) ?_
        refine lv_lconst (v := lN 0) hx hb dd_M_modulus_37 rfl ?_
        refine mr_lif_ne (tgt := 44) hx hb dd_M_modulus_38 dd_M_modulus_39 rfl (fun h38 => ?_) (fun h38 => ?_)
        · skip
          have hg : U / 68719476736 ≠ 0 := fun q => h38 (congrArg lN q)
          have hacc : acc_ (U * 18446744073709551616 + L) := by unfold acc_; omega
          have hV3 : (U * 18446744073709551616 + L) < 340282366920938463463374607431768211456 := by omega
          refine lv_aload_n hx hb dd_M_modulus_44 rfl (lv_at hl 0 rfl) ?_
          refine lv_iconst (v := nI 1) hx hb dd_M_modulus_45 (by decide) ?_
          refine mr_put C0 hM hS fk_M_181 fp_M_181 mu_s rfl (rfl) (rfl) (Nat.le_of_ble_eq_true rfl) dd_M_modulus_46 (fun H locs hM hS => ?_)
          have hM := mr_M mu_mu hM
          have hM : mm_ G (mu_ (mu_ (mu_ (mu_ (mu_ (mu_ (mu_ (mu_ (mu_ (mu_ M (am 2) (ia_ G 64 w)) (am 3) (la_ G 10 f)) (am 4) (ia_ G 10 g0)) (am 5) (ia_ G 17 cf)) (am 6) (la_ G 170 sf)) (am 7) (ia_ G 170 qf)) (am 8) (la_ G 17 uf)) (am 9) (la_ G 17 lf)) (am 10) (ia_ G 32 xw)) (am 0) (ob_ 6 [.ref (am 1), .ref (am 2), .int (nI 1), .long (hi_ N), .long (lo_ N), .long (hi_ Vt), .long (lo_ Vt), .int (nI Pd.length), .ref (am 3), .ref (am 4), .int (nI nw), .ref (am 5), .ref (am 6), .ref (am 7), .ref (am 8), .ref (am 9), .long (hi_ Hd), .long (lo_ Hd), .int (nI fc), .long r1, .long r0, .ref (am 10)])) H := hM
          refine lv_aload_n hx hb dd_M_modulus_49 rfl (lv_at hl 0 rfl) ?_
          refine lv_lload_n hx hb dd_M_modulus_50 rfl (lv_at hl 1 rfl) ?_
          refine mr_vl (x' := hi_ (U * 18446744073709551616 + L)) (congrArg lN (by omega)) ?_
          refine mr_put C0 hM hS fk_M_140 fp_M_140 mu_s rfl (rfl) (rfl) (Nat.le_of_ble_eq_true rfl) dd_M_modulus_51 (fun H locs hM hS => ?_)
          have hM := mr_M mu_mu hM
          have hM : mm_ G (mu_ (mu_ (mu_ (mu_ (mu_ (mu_ (mu_ (mu_ (mu_ (mu_ M (am 2) (ia_ G 64 w)) (am 3) (la_ G 10 f)) (am 4) (ia_ G 10 g0)) (am 5) (ia_ G 17 cf)) (am 6) (la_ G 170 sf)) (am 7) (ia_ G 170 qf)) (am 8) (la_ G 17 uf)) (am 9) (la_ G 17 lf)) (am 10) (ia_ G 32 xw)) (am 0) (ob_ 6 [.ref (am 1), .ref (am 2), .int (nI 1), .long (hi_ (U * 18446744073709551616 + L)), .long (lo_ N), .long (hi_ Vt), .long (lo_ Vt), .int (nI Pd.length), .ref (am 3), .ref (am 4), .int (nI nw), .ref (am 5), .ref (am 6), .ref (am 7), .ref (am 8), .ref (am 9), .long (hi_ Hd), .long (lo_ Hd), .int (nI fc), .long r1, .long r0, .ref (am 10)])) H := hM
          refine lv_aload_n hx hb dd_M_modulus_54 rfl (lv_at hl 0 rfl) ?_
          refine lv_lload_n hx hb dd_M_modulus_55 rfl (lv_at hl 2 rfl) ?_
          refine mr_vl (x' := lo_ (U * 18446744073709551616 + L)) (congrArg lN (by omega)) ?_
          refine mr_put C0 hM hS fk_M_148 fp_M_148 mu_s rfl (rfl) (rfl) (Nat.le_of_ble_eq_true rfl) dd_M_modulus_56 (fun H locs hM hS => ?_)
          have hM := mr_M mu_mu hM
          have hM : mm_ G (mu_ (mu_ (mu_ (mu_ (mu_ (mu_ (mu_ (mu_ (mu_ (mu_ M (am 2) (ia_ G 64 w)) (am 3) (la_ G 10 f)) (am 4) (ia_ G 10 g0)) (am 5) (ia_ G 17 cf)) (am 6) (la_ G 170 sf)) (am 7) (ia_ G 170 qf)) (am 8) (la_ G 17 uf)) (am 9) (la_ G 17 lf)) (am 10) (ia_ G 32 xw)) (am 0) (ob_ 6 [.ref (am 1), .ref (am 2), .int (nI 1), .long (hi_ (U * 18446744073709551616 + L)), .long (lo_ (U * 18446744073709551616 + L)), .long (hi_ Vt), .long (lo_ Vt), .int (nI Pd.length), .ref (am 3), .ref (am 4), .int (nI nw), .ref (am 5), .ref (am 6), .ref (am 7), .ref (am 8), .ref (am 9), .long (hi_ Hd), .long (lo_ Hd), .int (nI fc), .long r1, .long r0, .ref (am 10)])) H := hM
          refine lv_aload_n hx hb dd_M_modulus_59 rfl (lv_at hl 0 rfl) ?_
          refine mr_callV (As := []) (rest := []) C0 hM hS vk_M_189 mu_s rfl (c_M_findThird l mu_s  hV3 hacc.2.2 (by have h := hacc.2.1; omega)) rfl rfl hl.1 (Nat.le_of_ble_eq_true rfl) rfl rfl (by subst hR; exact ⟨Nat.le_of_ble_eq_true rfl, Nat.le_of_ble_eq_true rfl⟩) (by subst hR; exact ⟨Nat.le_of_ble_eq_true rfl, Nat.le_of_ble_eq_true rfl⟩) dd_M_modulus_60 (fun v1 M1 H locs hp hM hS => ?_)
          obtain ⟨ev1, eM1⟩ := hp
          subst ev1
          rw [eM1] at hM
          have hM := mr_M mu_mu hM
          have hM : mm_ G (mu_ (mu_ (mu_ (mu_ (mu_ (mu_ (mu_ (mu_ (mu_ (mu_ M (am 2) (ia_ G 64 w)) (am 3) (la_ G 10 f)) (am 4) (ia_ G 10 g0)) (am 5) (ia_ G 17 cf)) (am 6) (la_ G 170 sf)) (am 7) (ia_ G 170 qf)) (am 8) (la_ G 17 uf)) (am 9) (la_ G 17 lf)) (am 10) (ia_ G 32 xw)) (am 0) (ob_ 6 [.ref (am 1), .ref (am 2), .int (nI 1), .long (hi_ (U * 18446744073709551616 + L)), .long (lo_ (U * 18446744073709551616 + L)), .long (hi_ (th_ (U * 18446744073709551616 + L))), .long (lo_ (th_ (U * 18446744073709551616 + L))), .int (nI Pd.length), .ref (am 3), .ref (am 4), .int (nI nw), .ref (am 5), .ref (am 6), .ref (am 7), .ref (am 8), .ref (am 9), .long (hi_ Hd), .long (lo_ Hd), .int (nI fc), .long (hi_ (th_ (U * 18446744073709551616 + L))), .long (lo_ (th_ (U * 18446744073709551616 + L))), .ref (am 10)])) H := hM
          refine W.eq (g2 := F0 m 63 ls []) rfl ?_
          refine lv_aload_n hx hb dd_M_modulus_63 rfl (lv_at hl 0 rfl) ?_
          refine mr_get C0 hM fk_M_96 mu_s (v := .ref (am 8)) rfl dd_M_modulus_64 ?_
          refine lv_iconst (v := nI 0) hx hb dd_M_modulus_67 (by decide) ?_
          refine lv_lconst (v := lN 0) hx hb dd_M_modulus_68 rfl ?_
          refine mr_last C0 hM hS (mu_n' (hne (i := 8) (j := 0) (by decide)) (mu_n' (hne (i := 8) (j := 10) (by decide)) (mu_n' (hne (i := 8) (j := 9) (by decide)) mu_s))) (0) (rfl) (by omega) (by decide) dd_M_modulus_69 (fun H locs hM hS => ?_)
          have hM := mr_M (mu_c4 (hne (i := 8) (j := 9) (by decide)) (hne (i := 8) (j := 10) (by decide)) (hne (i := 8) (j := 0) (by decide))) hM
          refine lv_aload_n hx hb dd_M_modulus_70 rfl (lv_at hl 0 rfl) ?_
          refine mr_get C0 hM fk_M_99 mu_s (v := .ref (am 9)) rfl dd_M_modulus_71 ?_
          refine lv_iconst (v := nI 0) hx hb dd_M_modulus_74 (by decide) ?_
          refine mr_ldc2 (v := lN 3) C0 tw_591 dd_M_modulus_75 ?_
          refine mr_last C0 hM hS (mu_n' (hne (i := 9) (j := 0) (by decide)) (mu_n' (hne (i := 9) (j := 10) (by decide)) mu_s)) (0) (rfl) (by omega) (by decide) dd_M_modulus_78 (fun H locs hM hS => ?_)
          have hM := mr_M (mu_c3 (hne (i := 9) (j := 10) (by decide)) (hne (i := 9) (j := 0) (by decide))) hM
          refine lv_iconst (v := nI 1) hx hb dd_M_modulus_79 (by decide) ?_
          obtain ⟨e1, e2, e3, e4⟩ := md_y (N := N) (Vt := Vt) (show mdC_ hs (U * 18446744073709551616 + L) from ⟨hh0, hacc⟩)
          obtain ⟨z1, z2⟩ := h00 hh0
          have hac : ac_ (U * 18446744073709551616 + L) (Ls 0) = 3 := by rw [z2]; show 3 ^ 1 % _ = 3; exact Nat.mod_eq_of_lt (by have h := hacc.2.1; omega)
          exact mr_ret hQ (mr_iret C0 hM hS (rfl) (⟨by rw [e1], w, g0, cf, qf, xw, f, sf, vp_updL uf 0 (lN 0), vp_updL lf 0 (lN 3), _, _, by rw [e2, e3]; exact ⟨hro, hme, fun _ e he => by rw [show e = 0 by omega, hac]; exact ⟨rfl, rfl⟩⟩, by rw [e2, e3, e4]⟩) dd_M_modulus_80)
        · skip
          have hg : U / 68719476736 = 0 := (lE_ (by omega) (by decide)).mp h38
          refine lv_iconst (v := nI 0) hx hb dd_M_modulus_42 (by decide) ?_
          have hno : ¬ mdC_ hs (U * 18446744073709551616 + L) := by
            rintro ⟨q1, q2, q3, q4⟩
            first | omega | exact q4 h3
          obtain ⟨e1, e2, e3, e4⟩ := md_n (N := N) (Vt := Vt) hno
          exact mr_ret hQ (mr_iret C0 hM hS (rfl) (⟨by rw [e1], _, _, _, _, _, _, _, _, _, _, _, by rw [e2, e3]; exact hrl, by rw [e2, e3, e4]⟩) dd_M_modulus_43)

set_option maxHeartbeats 4000000 in
set_option maxRecDepth 100000 in
theorem c_M_exclude (l : Launch) {G : mg_} {M : mw_} {am : Nat → Nat} {hs N Vt nw Hd fc : Nat} {Pd : rl_} {Ls : Nat → rl_} {w g0 cf qf xw : Nat → Int32} {f sf uf lf : Nat → Int64} {r1 r0 : Int64} {sx : Int64}   (hne : ∀ {i j : Nat}, i ≠ j → am i ≠ am j) (hk : M (am 1) = some (la_ G 32 mk_)) (hrl : mrl_ hs N Pd Ls nw f g0 cf sf qf uf lf) (hok : okS_ Pd Ls nw) (hhs : hs ≤ 1) (hN : hs = 1 → N < 340282366920938463463374607431768211456 ∧ 1267650600228229401496703205376 ≤ N) (hVt : hs = 1 → Vt = th_ N ∧ th_ N < N) (hHd : hs = 1 → Hd < N) (hfc : fc < 2147483648)  : ct_ l my_M_exclude cd_M_exclude 5 (some .int) { frames := 5, cells := 0, slots := 0, locals := 143 } G [.ref (am 0), .long sx] (mu_ (mu_ (mu_ (mu_ (mu_ (mu_ (mu_ (mu_ (mu_ (mu_ M (am 2) (ia_ G 64 w)) (am 3) (la_ G 10 f)) (am 4) (ia_ G 10 g0)) (am 5) (ia_ G 17 cf)) (am 6) (la_ G 170 sf)) (am 7) (ia_ G 170 qf)) (am 8) (la_ G 17 uf)) (am 9) (la_ G 17 lf)) (am 10) (ia_ G 32 xw)) (am 0) (ob_ 6 [.ref (am 1), .ref (am 2), .int (nI hs), .long (hi_ N), .long (lo_ N), .long (hi_ Vt), .long (lo_ Vt), .int (nI Pd.length), .ref (am 3), .ref (am 4), .int (nI nw), .ref (am 5), .ref (am 6), .ref (am 7), .ref (am 8), .ref (am 9), .long (hi_ Hd), .long (lo_ Hd), .int (nI fc), .long r1, .long r0, .ref (am 10)])) (fun v0 M' => v0 = (some (.int (exR_ hs (primeT_ sx) Ls nw sx))) ∧ MWx_ M am G hs N Vt Pd Ls nw (exH_ hs N (primeT_ sx) Ls nw sx Hd) (exF_ hs (primeT_ sx) Ls nw sx fc) M') 0 0 := by
  refine ct_.intro2 (by decide) (Nat.le_of_ble_eq_true rfl) ?_
  intro p e s m args below meth c ls R Q hR hQ C0 hl hM hS
  have hx := C0.1
  have hb := C0.2.1
  have hl : lv_has ls 5 [(0, .ref (am 0)), (1, .long sx)] := hl
  obtain ⟨hro, hme, hul⟩ := hrl
  have hrl : mrl_ hs N Pd Ls nw f g0 cf sf qf uf lf := ⟨hro, hme, hul⟩
  obtain ⟨hPn, hLn, hnw, hPp, hLp, hPd, hLd⟩ := hok
  have hnw17 : nw < 17 := by omega
  have hcn := (hme nw hnw17).1
  refine lv_aload_n hx hb dd_M_exclude_0 rfl (lv_at hl 0 rfl) ?_
  refine mr_get C0 hM fk_M_181 mu_s (v := .int (nI hs)) rfl dd_M_exclude_1 ?_
  refine lv_if_ne (tgt := 9) hx hb dd_M_exclude_4 rfl (fun h4 => ?_) (fun h4 => ?_)
  · skip
    have hh1 : hs = 1 := by
      have h2 : hs ≠ 0 := fun q => h4 (by rw [q]; rfl)
      omega
    refine lv_aload_n hx hb dd_M_exclude_9 rfl (lv_at hl 0 rfl) ?_
    refine lv_lload_n hx hb dd_M_exclude_10 rfl (lv_at hl 1 rfl) ?_
    refine mr_callV (As := [.long sx]) (rest := []) C0 hM hS vk_M_202 mu_s rfl (c_M_prime l mu_s (mu_n' (hne (i := 1) (j := 0) (by decide)) (mu_n' (hne (i := 1) (j := 10) (by decide)) (mu_n' (hne (i := 1) (j := 9) (by decide)) (mu_n' (hne (i := 1) (j := 8) (by decide)) (mu_n' (hne (i := 1) (j := 7) (by decide)) (mu_n' (hne (i := 1) (j := 6) (by decide)) (mu_n' (hne (i := 1) (j := 5) (by decide)) (mu_n' (hne (i := 1) (j := 4) (by decide)) (mu_n' (hne (i := 1) (j := 3) (by decide)) (mu_n' (hne (i := 1) (j := 2) (by decide)) hk)))))))))) (mu_n' (hne (i := 2) (j := 0) (by decide)) (mu_n' (hne (i := 2) (j := 10) (by decide)) (mu_n' (hne (i := 2) (j := 9) (by decide)) (mu_n' (hne (i := 2) (j := 8) (by decide)) (mu_n' (hne (i := 2) (j := 7) (by decide)) (mu_n' (hne (i := 2) (j := 6) (by decide)) (mu_n' (hne (i := 2) (j := 5) (by decide)) (mu_n' (hne (i := 2) (j := 4) (by decide)) (mu_n' (hne (i := 2) (j := 3) (by decide)) mu_s)))))))))  ) rfl rfl hl.1 (Nat.le_of_ble_eq_true rfl) rfl rfl (by subst hR; exact ⟨Nat.le_of_ble_eq_true rfl, Nat.le_of_ble_eq_true rfl⟩) (by subst hR; exact ⟨Nat.le_of_ble_eq_true rfl, Nat.le_of_ble_eq_true rfl⟩) dd_M_exclude_11 (fun v1 M1 H locs hp hM hS => ?_)
    obtain ⟨ev1, w1, eM1⟩ := hp
    subst ev1
    rw [eM1] at hM
    have hM := mr_M (mu_c10 (hne (i := 2) (j := 3) (by decide)) (hne (i := 2) (j := 4) (by decide)) (hne (i := 2) (j := 5) (by decide)) (hne (i := 2) (j := 6) (by decide)) (hne (i := 2) (j := 7) (by decide)) (hne (i := 2) (j := 8) (by decide)) (hne (i := 2) (j := 9) (by decide)) (hne (i := 2) (j := 10) (by decide)) (hne (i := 2) (j := 0) (by decide))) hM
    have hM : mm_ G (mu_ (mu_ (mu_ (mu_ (mu_ (mu_ (mu_ (mu_ (mu_ (mu_ M (am 2) (ia_ G 64 w1)) (am 3) (la_ G 10 f)) (am 4) (ia_ G 10 g0)) (am 5) (ia_ G 17 cf)) (am 6) (la_ G 170 sf)) (am 7) (ia_ G 170 qf)) (am 8) (la_ G 17 uf)) (am 9) (la_ G 17 lf)) (am 10) (ia_ G 32 xw)) (am 0) (ob_ 6 [.ref (am 1), .ref (am 2), .int (nI hs), .long (hi_ N), .long (lo_ N), .long (hi_ Vt), .long (lo_ Vt), .int (nI Pd.length), .ref (am 3), .ref (am 4), .int (nI nw), .ref (am 5), .ref (am 6), .ref (am 7), .ref (am 8), .ref (am 9), .long (hi_ Hd), .long (lo_ Hd), .int (nI fc), .long r1, .long r0, .ref (am 10)])) H := hM
    refine W.eq (g2 := F0 m 14 ls [.int (primeT_ sx)]) rfl ?_
    refine lv_istore_n (lv' := [(3, .int (primeT_ sx)), (0, .ref (am 0)), (1, .long sx)]) hx hb dd_M_exclude_14 rfl hl (by decide) rfl (fun ls hl => ?_)
    refine lv_iload_n hx hb dd_M_exclude_15 rfl (lv_at hl 0 rfl) ?_
    refine lv_bipush (v := (-2 : Int32)) hx hb dd_M_exclude_16 (by decide) ?_
    refine lv_icmp_ne (tgt := 24) hx hb dd_M_exclude_18 rfl (fun h18 => ?_) (fun h18 => ?_)
    · skip
      obtain ⟨x0, hxl, hxu, hxo, htd, hpx0⟩ := primeT_in h18
      refine lv_aload_n hx hb dd_M_exclude_24 rfl (lv_at hl 1 rfl) ?_
      refine lv_aload_n hx hb dd_M_exclude_25 rfl (lv_at hl 1 rfl) ?_
      refine mr_get C0 hM fk_M_209 mu_s (v := .int (nI nw)) rfl dd_M_exclude_26 ?_
      refine lv_lload_n hx hb dd_M_exclude_29 rfl (lv_at hl 2 rfl) ?_
      refine mr_callV (As := [.int (nI nw), .long sx]) (rest := []) C0 hM hS vk_M_216 mu_s rfl (c_M_placeIn l mu_s (mu_n' (hne (i := 5) (j := 0) (by decide)) (mu_n' (hne (i := 5) (j := 10) (by decide)) (mu_n' (hne (i := 5) (j := 9) (by decide)) (mu_n' (hne (i := 5) (j := 8) (by decide)) (mu_n' (hne (i := 5) (j := 7) (by decide)) (mu_n' (hne (i := 5) (j := 6) (by decide)) mu_s)))))) (mu_n' (hne (i := 6) (j := 0) (by decide)) (mu_n' (hne (i := 6) (j := 10) (by decide)) (mu_n' (hne (i := 6) (j := 9) (by decide)) (mu_n' (hne (i := 6) (j := 8) (by decide)) (mu_n' (hne (i := 6) (j := 7) (by decide)) mu_s)))))  hnw17 (hme nw hnw17).1 (hLn nw) (fun j hj => ((hme nw hnw17).2.2 j hj).1)) rfl rfl hl.1 (Nat.le_of_ble_eq_true rfl) rfl rfl (by subst hR; exact ⟨Nat.le_of_ble_eq_true rfl, Nat.le_of_ble_eq_true rfl⟩) (by subst hR; exact ⟨Nat.le_of_ble_eq_true rfl, Nat.le_of_ble_eq_true rfl⟩) dd_M_exclude_30 (fun v1 M1 H locs hp hM hS => ?_)
      obtain ⟨ev1, eM1⟩ := hp
      subst ev1
      rw [eM1] at hM
      refine W.eq (g2 := F0 m 33 ls [.int (mz_ (Ls nw) nw sx)]) rfl ?_
      refine lv_if_lt (tgt := 39) hx hb dd_M_exclude_33 rfl (fun h33 => ?_) (fun h33 => ?_)
      · skip
        have hv33 : hs_ (Ls nw) sx = false := (mz_neg (hLn nw) hnw17).mp h33
        refine lv_aload_n hx hb dd_M_exclude_39 rfl (lv_at hl 1 rfl) ?_
        refine mr_callV (As := []) (rest := []) C0 hM hS vk_M_239 mu_s rfl (c_M_beginWords l mu_s (mu_n' (hne (i := 10) (j := 0) (by decide)) mu_s)  ) rfl rfl hl.1 (Nat.le_of_ble_eq_true rfl) rfl rfl (by subst hR; exact ⟨Nat.le_of_ble_eq_true rfl, Nat.le_of_ble_eq_true rfl⟩) (by subst hR; exact ⟨Nat.le_of_ble_eq_true rfl, Nat.le_of_ble_eq_true rfl⟩) dd_M_exclude_40 (fun v1 M1 H locs hp hM hS => ?_)
        obtain ⟨ev1, eM1⟩ := hp
        subst ev1
        rw [eM1] at hM
        have hM := mr_M (mu_c2 (hne (i := 10) (j := 0) (by decide))) hM
        have hM : mm_ G (mu_ (mu_ (mu_ (mu_ (mu_ (mu_ (mu_ (mu_ (mu_ (mu_ M (am 2) (ia_ G 64 w1)) (am 3) (la_ G 10 f)) (am 4) (ia_ G 10 g0)) (am 5) (ia_ G 17 cf)) (am 6) (la_ G 170 sf)) (am 7) (ia_ G 170 qf)) (am 8) (la_ G 17 uf)) (am 9) (la_ G 17 lf)) (am 10) (ia_ G 32 (wl_ 1))) (am 0) (ob_ 6 [.ref (am 1), .ref (am 2), .int (nI hs), .long (hi_ N), .long (lo_ N), .long (hi_ Vt), .long (lo_ Vt), .int (nI Pd.length), .ref (am 3), .ref (am 4), .int (nI nw), .ref (am 5), .ref (am 6), .ref (am 7), .ref (am 8), .ref (am 9), .long (hi_ Hd), .long (lo_ Hd), .int (nI fc), .long r1, .long r0, .ref (am 10)])) H := hM
        refine W.eq (g2 := F0 m 43 ls []) rfl ?_
        refine lv_bipush (v := nI 10) hx hb dd_M_exclude_43 (by decide) ?_
        refine lv_aload_n hx hb dd_M_exclude_45 rfl (lv_at hl 1 rfl) ?_
        refine mr_get C0 hM fk_M_209 mu_s (v := .int (nI nw)) rfl dd_M_exclude_46 ?_
        refine lv_imul hx hb dd_M_exclude_49 ?_
        refine mr_vi (pk_mul 10 nw) ?_
        refine lv_istore (lv' := [(4, .int (nI (10 * nw))), (3, .int (primeT_ sx)), (0, .ref (am 0)), (1, .long sx)]) hx hb dd_M_exclude_50 hl (by decide) rfl (fun ls hl => ?_)
        have loop_52 : ∀ (k : Nat) (i : Nat) (H : Heap) (locs : List Loc) (ls : Array Slot), i + k = (Ls nw).length → (∀ j, j < i → nI (pr_ (Ls nw) j) ≠ primeT_ sx) → mm_ G (mu_ (mu_ (mu_ (mu_ (mu_ (mu_ (mu_ (mu_ (mu_ (mu_ M (am 2) (ia_ G 64 w1)) (am 3) (la_ G 10 f)) (am 4) (ia_ G 10 g0)) (am 5) (ia_ G 17 cf)) (am 6) (la_ G 170 sf)) (am 7) (ia_ G 170 qf)) (am 8) (la_ G 17 uf)) (am 9) (la_ G 17 lf)) (am 10) (ia_ G 32 (wl_ (pd_ (List.take i (Ls nw)))))) (am 0) (ob_ 6 [.ref (am 1), .ref (am 2), .int (nI hs), .long (hi_ N), .long (lo_ N), .long (hi_ Vt), .long (lo_ Vt), .int (nI Pd.length), .ref (am 3), .ref (am 4), .int (nI nw), .ref (am 5), .ref (am 6), .ref (am 7), .ref (am 8), .ref (am 9), .long (hi_ Hd), .long (lo_ Hd), .int (nI fc), .long r1, .long r0, .ref (am 10)])) H → va_S (fz_ G) s.heap H locs → lv_has ls 5 [(0, .ref (am 0)), (1, .long sx), (3, .int (primeT_ sx)), (4, .int (nI (10 * nw + i)))] → W p l e R s m args below meth c H locs 0 0 Q (F0 m 52 ls []) := by
          intro k
          induction k with
          | zero =>
            intro i H locs ls hi hb0 hM hS hl
            have hll := hLn nw
            refine lv_iload hx hb dd_M_exclude_52 (lv_at hl 3 rfl) ?_
            refine lv_bipush (v := nI 10) hx hb dd_M_exclude_54 (by decide) ?_
            refine lv_aload_n hx hb dd_M_exclude_56 rfl (lv_at hl 0 rfl) ?_
            refine mr_get C0 hM fk_M_209 mu_s (v := .int (nI nw)) rfl dd_M_exclude_57 ?_
            refine lv_imul hx hb dd_M_exclude_60 ?_
            refine mr_vi (pk_mul 10 nw) ?_
            refine lv_aload_n hx hb dd_M_exclude_61 rfl (lv_at hl 0 rfl) ?_
            refine mr_get C0 hM fk_M_87 mu_s (v := .ref (am 5)) rfl dd_M_exclude_62 ?_
            refine lv_aload_n hx hb dd_M_exclude_65 rfl (lv_at hl 0 rfl) ?_
            refine mr_get C0 hM fk_M_209 mu_s (v := .int (nI nw)) rfl dd_M_exclude_66 ?_
            refine mr_iald C0 hM (mu_n' (hne (i := 5) (j := 0) (by decide)) (mu_n' (hne (i := 5) (j := 10) (by decide)) (mu_n' (hne (i := 5) (j := 9) (by decide)) (mu_n' (hne (i := 5) (j := 8) (by decide)) (mu_n' (hne (i := 5) (j := 7) (by decide)) (mu_n' (hne (i := 5) (j := 6) (by decide)) mu_s)))))) (nw) (rfl) (by omega) (by decide) dd_M_exclude_69 ?_
            refine mr_vi (x' := nI (List.length (Ls nw))) (hcn) ?_
            refine lv_iadd hx hb dd_M_exclude_70 ?_
            refine mr_vi (nI_add (10 * nw) (List.length (Ls nw))) ?_
            refine lv_icmp_ge (tgt := 105) hx hb dd_M_exclude_71 rfl (fun _ => ?_) (fun hc => absurd (le_nI (a := ((10 * nw) + (List.length (Ls nw)))) (b := (10 * nw + i)) (by omega) (by omega) (by omega)) hc)
            rw [take_all (show (Ls nw).length ≤ i by omega)] at hM
            have hVl : (pd_ (Ls nw)) < 2 ^ 311 := pd_lt (hLp nw) (hLn nw)
            have hbl : (eb_ (pd_ (Ls nw)) x0) < 2147483648 := Nat.lt_trans (Nat.mod_lt _ (by omega)) hxu
            have hVtl : Vt < N := by rw [(hVt hh1).1]; exact (hVt hh1).2
            have hnp : ¬ hp_ (Ls nw) (primeT_ sx) = true := by rw [hp_no (fun j hj => hb0 j (by omega))]; decide
            have hM : mm_ G (mu_ (mu_ (mu_ (mu_ (mu_ (mu_ (mu_ (mu_ (mu_ (mu_ M (am 2) (ia_ G 64 w1)) (am 3) (la_ G 10 f)) (am 4) (ia_ G 10 g0)) (am 5) (ia_ G 17 cf)) (am 6) (la_ G 170 sf)) (am 7) (ia_ G 170 qf)) (am 8) (la_ G 17 uf)) (am 9) (la_ G 17 lf)) (am 10) (ia_ G 32 (wl_ (pd_ (Ls nw))))) (am 0) (ob_ 6 [.ref (am 1), .ref (am 2), .int (nI hs), .long (hi_ N), .long (lo_ N), .long (hi_ Vt), .long (lo_ Vt), .int (nI Pd.length), .ref (am 3), .ref (am 4), .int (nI nw), .ref (am 5), .ref (am 6), .ref (am 7), .ref (am 8), .ref (am 9), .long (hi_ Hd), .long (lo_ Hd), .int (nI fc), .long r1, .long r0, .ref (am 10)])) H := hM
            refine lv_aload_n hx hb dd_M_exclude_105 rfl (lv_at hl 0 rfl) ?_
            refine lv_aload_n hx hb dd_M_exclude_106 rfl (lv_at hl 0 rfl) ?_
            refine lv_iload_n hx hb dd_M_exclude_107 rfl (lv_at hl 2 rfl) ?_
            refine mr_vi (x' := nI x0) (hpx0) ?_
            refine mr_callV (As := [.int (nI x0)]) (rest := [.ref (am 0)]) C0 hM hS vk_M_242 mu_s rfl (c_M_invertWords l mu_s (mu_n' (hne (i := 10) (j := 0) (by decide)) mu_s)  (Nat.lt_trans hVl (by decide)) (Nat.lt_trans (vb_lt hVl hbl) (by decide)) (by omega) hxu) rfl rfl hl.1 (Nat.le_of_ble_eq_true rfl) rfl rfl (by subst hR; exact ⟨Nat.le_of_ble_eq_true rfl, Nat.le_of_ble_eq_true rfl⟩) (by subst hR; exact ⟨Nat.le_of_ble_eq_true rfl, Nat.le_of_ble_eq_true rfl⟩) dd_M_exclude_108 (fun v1 M1 H locs hp hM hS => ?_)
            obtain ⟨ev1, eM1⟩ := hp
            subst ev1
            rw [eM1] at hM
            have hM := mr_M (mu_c2 (hne (i := 10) (j := 0) (by decide))) hM
            have hM : mm_ G (mu_ (mu_ (mu_ (mu_ (mu_ (mu_ (mu_ (mu_ (mu_ (mu_ M (am 2) (ia_ G 64 w1)) (am 3) (la_ G 10 f)) (am 4) (ia_ G 10 g0)) (am 5) (ia_ G 17 cf)) (am 6) (la_ G 170 sf)) (am 7) (ia_ G 170 qf)) (am 8) (la_ G 17 uf)) (am 9) (la_ G 17 lf)) (am 10) (ia_ G 32 (wl_ (eq_ (pd_ (Ls nw)) x0)))) (am 0) (ob_ 6 [.ref (am 1), .ref (am 2), .int (nI hs), .long (hi_ N), .long (lo_ N), .long (hi_ Vt), .long (lo_ Vt), .int (nI Pd.length), .ref (am 3), .ref (am 4), .int (nI nw), .ref (am 5), .ref (am 6), .ref (am 7), .ref (am 8), .ref (am 9), .long (hi_ Hd), .long (lo_ Hd), .int (nI fc), .long r1, .long r0, .ref (am 10)])) H := hM
            refine W.eq (g2 := F0 m 111 ls [.int (nI (eb_ (pd_ (Ls nw)) x0)), .ref (am 0)]) rfl ?_
            refine mr_put C0 hM hS fk_M_232 fp_M_232 mu_s rfl (rfl) (rfl) (Nat.le_of_ble_eq_true rfl) dd_M_exclude_111 (fun H locs hM hS => ?_)
            have hM := mr_M mu_mu hM
            have hM : mm_ G (mu_ (mu_ (mu_ (mu_ (mu_ (mu_ (mu_ (mu_ (mu_ (mu_ M (am 2) (ia_ G 64 w1)) (am 3) (la_ G 10 f)) (am 4) (ia_ G 10 g0)) (am 5) (ia_ G 17 cf)) (am 6) (la_ G 170 sf)) (am 7) (ia_ G 170 qf)) (am 8) (la_ G 17 uf)) (am 9) (la_ G 17 lf)) (am 10) (ia_ G 32 (wl_ (eq_ (pd_ (Ls nw)) x0)))) (am 0) (ob_ 6 [.ref (am 1), .ref (am 2), .int (nI hs), .long (hi_ N), .long (lo_ N), .long (hi_ Vt), .long (lo_ Vt), .int (nI Pd.length), .ref (am 3), .ref (am 4), .int (nI nw), .ref (am 5), .ref (am 6), .ref (am 7), .ref (am 8), .ref (am 9), .long (hi_ Hd), .long (lo_ Hd), .int (nI (eb_ (pd_ (Ls nw)) x0)), .long r1, .long r0, .ref (am 10)])) H := hM
            refine lv_aload_n hx hb dd_M_exclude_114 rfl (lv_at hl 0 rfl) ?_
            refine lv_aload_n hx hb dd_M_exclude_115 rfl (lv_at hl 0 rfl) ?_
            refine mr_get C0 hM fk_M_192 mu_s (v := .long (hi_ Vt)) rfl dd_M_exclude_116 ?_
            refine lv_aload_n hx hb dd_M_exclude_119 rfl (lv_at hl 0 rfl) ?_
            refine mr_get C0 hM fk_M_195 mu_s (v := .long (lo_ Vt)) rfl dd_M_exclude_120 ?_
            refine mr_callV (As := [.long (hi_ Vt), .long (lo_ Vt)]) (rest := []) C0 hM hS vk_M_246 mu_s rfl (c_M_powerOfWords l mu_s (mu_n' (hne (i := 10) (j := 0) (by decide)) mu_s)  (hN hh1).1 hVtl (by have h := (hN hh1).2; omega) (Nat.lt_of_le_of_lt (Nat.div_le_self _ _) (Nat.lt_trans (vb_lt hVl hbl) (by decide)))) rfl rfl hl.1 (Nat.le_of_ble_eq_true rfl) rfl rfl (by subst hR; exact ⟨Nat.le_of_ble_eq_true rfl, Nat.le_of_ble_eq_true rfl⟩) (by subst hR; exact ⟨Nat.le_of_ble_eq_true rfl, Nat.le_of_ble_eq_true rfl⟩) dd_M_exclude_123 (fun v1 M1 H locs hp hM hS => ?_)
            obtain ⟨ev1, eM1⟩ := hp
            subst ev1
            rw [eM1] at hM
            have hM := mr_M mu_mu hM
            have hM : mm_ G (mu_ (mu_ (mu_ (mu_ (mu_ (mu_ (mu_ (mu_ (mu_ (mu_ M (am 2) (ia_ G 64 w1)) (am 3) (la_ G 10 f)) (am 4) (ia_ G 10 g0)) (am 5) (ia_ G 17 cf)) (am 6) (la_ G 170 sf)) (am 7) (ia_ G 170 qf)) (am 8) (la_ G 17 uf)) (am 9) (la_ G 17 lf)) (am 10) (ia_ G 32 (wl_ (eq_ (pd_ (Ls nw)) x0)))) (am 0) (ob_ 6 [.ref (am 1), .ref (am 2), .int (nI hs), .long (hi_ N), .long (lo_ N), .long (hi_ Vt), .long (lo_ Vt), .int (nI Pd.length), .ref (am 3), .ref (am 4), .int (nI nw), .ref (am 5), .ref (am 6), .ref (am 7), .ref (am 8), .ref (am 9), .long (hi_ Hd), .long (lo_ Hd), .int (nI (eb_ (pd_ (Ls nw)) x0)), .long (hi_ (Vt ^ (eq_ (pd_ (Ls nw)) x0) % N)), .long (lo_ (Vt ^ (eq_ (pd_ (Ls nw)) x0) % N)), .ref (am 10)])) H := hM
            refine W.eq (g2 := F0 m 126 ls []) rfl ?_
            refine lv_aload_n hx hb dd_M_exclude_126 rfl (lv_at hl 0 rfl) ?_
            refine lv_aload_n hx hb dd_M_exclude_127 rfl (lv_at hl 0 rfl) ?_
            refine mr_get C0 hM fk_M_154 mu_s (v := .long (hi_ (Vt ^ (eq_ (pd_ (Ls nw)) x0) % N))) rfl dd_M_exclude_128 ?_
            refine mr_put C0 hM hS fk_M_226 fp_M_226 mu_s rfl (rfl) (rfl) (Nat.le_of_ble_eq_true rfl) dd_M_exclude_131 (fun H locs hM hS => ?_)
            have hM := mr_M mu_mu hM
            have hM : mm_ G (mu_ (mu_ (mu_ (mu_ (mu_ (mu_ (mu_ (mu_ (mu_ (mu_ M (am 2) (ia_ G 64 w1)) (am 3) (la_ G 10 f)) (am 4) (ia_ G 10 g0)) (am 5) (ia_ G 17 cf)) (am 6) (la_ G 170 sf)) (am 7) (ia_ G 170 qf)) (am 8) (la_ G 17 uf)) (am 9) (la_ G 17 lf)) (am 10) (ia_ G 32 (wl_ (eq_ (pd_ (Ls nw)) x0)))) (am 0) (ob_ 6 [.ref (am 1), .ref (am 2), .int (nI hs), .long (hi_ N), .long (lo_ N), .long (hi_ Vt), .long (lo_ Vt), .int (nI Pd.length), .ref (am 3), .ref (am 4), .int (nI nw), .ref (am 5), .ref (am 6), .ref (am 7), .ref (am 8), .ref (am 9), .long (hi_ (Vt ^ (eq_ (pd_ (Ls nw)) x0) % N)), .long (lo_ Hd), .int (nI (eb_ (pd_ (Ls nw)) x0)), .long (hi_ (Vt ^ (eq_ (pd_ (Ls nw)) x0) % N)), .long (lo_ (Vt ^ (eq_ (pd_ (Ls nw)) x0) % N)), .ref (am 10)])) H := hM
            refine lv_aload_n hx hb dd_M_exclude_134 rfl (lv_at hl 0 rfl) ?_
            refine lv_aload_n hx hb dd_M_exclude_135 rfl (lv_at hl 0 rfl) ?_
            refine mr_get C0 hM fk_M_151 mu_s (v := .long (lo_ (Vt ^ (eq_ (pd_ (Ls nw)) x0) % N))) rfl dd_M_exclude_136 ?_
            refine mr_put C0 hM hS fk_M_229 fp_M_229 mu_s rfl (rfl) (rfl) (Nat.le_of_ble_eq_true rfl) dd_M_exclude_139 (fun H locs hM hS => ?_)
            have hM := mr_M mu_mu hM
            have hM : mm_ G (mu_ (mu_ (mu_ (mu_ (mu_ (mu_ (mu_ (mu_ (mu_ (mu_ M (am 2) (ia_ G 64 w1)) (am 3) (la_ G 10 f)) (am 4) (ia_ G 10 g0)) (am 5) (ia_ G 17 cf)) (am 6) (la_ G 170 sf)) (am 7) (ia_ G 170 qf)) (am 8) (la_ G 17 uf)) (am 9) (la_ G 17 lf)) (am 10) (ia_ G 32 (wl_ (eq_ (pd_ (Ls nw)) x0)))) (am 0) (ob_ 6 [.ref (am 1), .ref (am 2), .int (nI hs), .long (hi_ N), .long (lo_ N), .long (hi_ Vt), .long (lo_ Vt), .int (nI Pd.length), .ref (am 3), .ref (am 4), .int (nI nw), .ref (am 5), .ref (am 6), .ref (am 7), .ref (am 8), .ref (am 9), .long (hi_ (Vt ^ (eq_ (pd_ (Ls nw)) x0) % N)), .long (lo_ (Vt ^ (eq_ (pd_ (Ls nw)) x0) % N)), .int (nI (eb_ (pd_ (Ls nw)) x0)), .long (hi_ (Vt ^ (eq_ (pd_ (Ls nw)) x0) % N)), .long (lo_ (Vt ^ (eq_ (pd_ (Ls nw)) x0) % N)), .ref (am 10)])) H := hM
            refine lv_aload_n hx hb dd_M_exclude_142 rfl (lv_at hl 0 rfl) ?_
            refine mr_get C0 hM fk_M_232 mu_s (v := .int (nI (eb_ (pd_ (Ls nw)) x0))) rfl dd_M_exclude_143 ?_
            have hpn : pn_ (primeT_ sx) = x0 := by rw [hpx0]; exact pn_i hxu
            exact mr_ret hQ (mr_iret C0 hM hS (rfl) (⟨by unfold exR_; rw [if_neg (show ¬ hs = 0 by omega), if_neg h18, if_neg (show ¬ hs_ (Ls nw) sx = true by rw [hv33]; decide), if_neg hnp, hpn], _, _, _, _, _, _, _, _, _, _, _, hrl, by unfold exH_ exF_; rw [if_neg (show ¬ hs = 0 by omega), if_neg h18, if_neg (show ¬ hs_ (Ls nw) sx = true by rw [hv33]; decide), if_neg hnp, if_neg (show ¬ hs = 0 by omega), if_neg h18, if_neg (show ¬ hs_ (Ls nw) sx = true by rw [hv33]; decide), if_neg hnp, hpn, (hVt hh1).1]⟩) dd_M_exclude_146)
          | succ k ih =>
            intro i H locs ls hi hb0 hM hS hl
            have hil : i < (Ls nw).length := by omega
            have hll := hLn nw
            have hp0 : pr_ (Ls nw) i < 2147483648 := by rw [pr_at hil]; exact hLp nw _ (List.getElem_mem hil)
            refine lv_iload hx hb dd_M_exclude_52 (lv_at hl 3 rfl) ?_
            refine lv_bipush (v := nI 10) hx hb dd_M_exclude_54 (by decide) ?_
            refine lv_aload_n hx hb dd_M_exclude_56 rfl (lv_at hl 0 rfl) ?_
            refine mr_get C0 hM fk_M_209 mu_s (v := .int (nI nw)) rfl dd_M_exclude_57 ?_
            refine lv_imul hx hb dd_M_exclude_60 ?_
            refine mr_vi (pk_mul 10 nw) ?_
            refine lv_aload_n hx hb dd_M_exclude_61 rfl (lv_at hl 0 rfl) ?_
            refine mr_get C0 hM fk_M_87 mu_s (v := .ref (am 5)) rfl dd_M_exclude_62 ?_
            refine lv_aload_n hx hb dd_M_exclude_65 rfl (lv_at hl 0 rfl) ?_
            refine mr_get C0 hM fk_M_209 mu_s (v := .int (nI nw)) rfl dd_M_exclude_66 ?_
            refine mr_iald C0 hM (mu_n' (hne (i := 5) (j := 0) (by decide)) (mu_n' (hne (i := 5) (j := 10) (by decide)) (mu_n' (hne (i := 5) (j := 9) (by decide)) (mu_n' (hne (i := 5) (j := 8) (by decide)) (mu_n' (hne (i := 5) (j := 7) (by decide)) (mu_n' (hne (i := 5) (j := 6) (by decide)) mu_s)))))) (nw) (rfl) (by omega) (by decide) dd_M_exclude_69 ?_
            refine mr_vi (x' := nI (List.length (Ls nw))) (hcn) ?_
            refine lv_iadd hx hb dd_M_exclude_70 ?_
            refine mr_vi (nI_add (10 * nw) (List.length (Ls nw))) ?_
            refine lv_icmp_ge (tgt := 105) hx hb dd_M_exclude_71 rfl (fun hc => absurd hc (nle_nI (a := ((10 * nw) + (List.length (Ls nw)))) (b := (10 * nw + i)) (by omega) (by omega) (by omega))) (fun _ => ?_)
            refine lv_aload_n hx hb dd_M_exclude_74 rfl (lv_at hl 0 rfl) ?_
            refine mr_get C0 hM fk_M_93 mu_s (v := .ref (am 7)) rfl dd_M_exclude_75 ?_
            refine lv_iload hx hb dd_M_exclude_78 (lv_at hl 3 rfl) ?_
            refine mr_iald C0 hM (mu_n' (hne (i := 7) (j := 0) (by decide)) (mu_n' (hne (i := 7) (j := 10) (by decide)) (mu_n' (hne (i := 7) (j := 9) (by decide)) (mu_n' (hne (i := 7) (j := 8) (by decide)) mu_s)))) ((10 * nw + i)) (rfl) (by omega) (by decide) dd_M_exclude_80 ?_
            refine mr_vi (x' := nI (pr_ (Ls nw) i)) (((hme nw hnw17).2.2 i hil).2) ?_
            refine lv_iload_n hx hb dd_M_exclude_81 rfl (lv_at hl 2 rfl) ?_
            refine lv_icmp_ne (tgt := 88) hx hb dd_M_exclude_82 rfl (fun h82 => ?_) (fun h82 => ?_)
            · skip
              refine lv_aload_n hx hb dd_M_exclude_88 rfl (lv_at hl 0 rfl) ?_
              refine lv_aload_n hx hb dd_M_exclude_89 rfl (lv_at hl 0 rfl) ?_
              refine mr_get C0 hM fk_M_93 mu_s (v := .ref (am 7)) rfl dd_M_exclude_90 ?_
              refine lv_iload hx hb dd_M_exclude_93 (lv_at hl 3 rfl) ?_
              refine mr_iald C0 hM (mu_n' (hne (i := 7) (j := 0) (by decide)) (mu_n' (hne (i := 7) (j := 10) (by decide)) (mu_n' (hne (i := 7) (j := 9) (by decide)) (mu_n' (hne (i := 7) (j := 8) (by decide)) mu_s)))) ((10 * nw + i)) (rfl) (by omega) (by decide) dd_M_exclude_95 ?_
              refine mr_vi (x' := nI (pr_ (Ls nw) i)) (((hme nw hnw17).2.2 i hil).2) ?_
              refine mr_callV (As := [.int (nI (pr_ (Ls nw) i))]) (rest := []) C0 hM hS vk_M_175 mu_s rfl (c_M_multiplyWords l mu_s (mu_n' (hne (i := 10) (j := 0) (by decide)) mu_s)  hp0) rfl rfl hl.1 (Nat.le_of_ble_eq_true rfl) rfl rfl (by subst hR; exact ⟨Nat.le_of_ble_eq_true rfl, Nat.le_of_ble_eq_true rfl⟩) (by subst hR; exact ⟨Nat.le_of_ble_eq_true rfl, Nat.le_of_ble_eq_true rfl⟩) dd_M_exclude_96 (fun v1 M1 H locs hp hM hS => ?_)
              obtain ⟨ev1, eM1⟩ := hp
              subst ev1
              rw [eM1] at hM
              have hM := mr_M (mu_c2 (hne (i := 10) (j := 0) (by decide))) hM
              have hM : mm_ G (mu_ (mu_ (mu_ (mu_ (mu_ (mu_ (mu_ (mu_ (mu_ (mu_ M (am 2) (ia_ G 64 w1)) (am 3) (la_ G 10 f)) (am 4) (ia_ G 10 g0)) (am 5) (ia_ G 17 cf)) (am 6) (la_ G 170 sf)) (am 7) (ia_ G 170 qf)) (am 8) (la_ G 17 uf)) (am 9) (la_ G 17 lf)) (am 10) (ia_ G 32 (wl_ (pd_ (List.take i (Ls nw)) * pr_ (Ls nw) i)))) (am 0) (ob_ 6 [.ref (am 1), .ref (am 2), .int (nI hs), .long (hi_ N), .long (lo_ N), .long (hi_ Vt), .long (lo_ Vt), .int (nI Pd.length), .ref (am 3), .ref (am 4), .int (nI nw), .ref (am 5), .ref (am 6), .ref (am 7), .ref (am 8), .ref (am 9), .long (hi_ Hd), .long (lo_ Hd), .int (nI fc), .long r1, .long r0, .ref (am 10)])) H := hM
              refine W.eq (g2 := F0 m 99 ls []) rfl ?_
              rw [← pd_take hil] at hM
              have hM : mm_ G (mu_ (mu_ (mu_ (mu_ (mu_ (mu_ (mu_ (mu_ (mu_ (mu_ M (am 2) (ia_ G 64 w1)) (am 3) (la_ G 10 f)) (am 4) (ia_ G 10 g0)) (am 5) (ia_ G 17 cf)) (am 6) (la_ G 170 sf)) (am 7) (ia_ G 170 qf)) (am 8) (la_ G 17 uf)) (am 9) (la_ G 17 lf)) (am 10) (ia_ G 32 (wl_ (pd_ (List.take (i + 1) (Ls nw)))))) (am 0) (ob_ 6 [.ref (am 1), .ref (am 2), .int (nI hs), .long (hi_ N), .long (lo_ N), .long (hi_ Vt), .long (lo_ Vt), .int (nI Pd.length), .ref (am 3), .ref (am 4), .int (nI nw), .ref (am 5), .ref (am 6), .ref (am 7), .ref (am 8), .ref (am 9), .long (hi_ Hd), .long (lo_ Hd), .int (nI fc), .long r1, .long r0, .ref (am 10)])) H := hM
              refine lv_iinc (k := 3) (v := nI ((10 * nw + i) + 1)) (lv' := [(4, .int (nI ((10 * nw + i) + 1))), (0, .ref (am 0)), (1, .long sx), (3, .int (primeT_ sx))]) hx hb dd_M_exclude_99 hl rfl (inc_ (10 * nw + i)) (by decide) rfl (fun ls hl => ?_)
              refine lv_goto (tgt := 52) hx hb dd_M_exclude_102 rfl ?_
              exact ih (i + 1) _ _ _ (by omega) (fun j hj => by rcases (show j < i ∨ j = i by omega) with h | h; exact hb0 j h; subst h; exact h82) hM hS (lv_sub hl [1, 2, 3, 0] rfl)
            · skip
              refine lv_bipush (v := (-5 : Int32)) hx hb dd_M_exclude_85 (by decide) ?_
              exact mr_ret hQ (mr_iret C0 hM hS (rfl) (⟨by unfold exR_; rw [if_neg (show ¬ hs = 0 by omega), if_neg h18, if_neg (show ¬ hs_ (Ls nw) sx = true by rw [hv33]; decide), if_pos (hp_y (i := i) hil h82)], _, _, _, _, _, _, _, _, _, _, _, hrl, by unfold exH_ exF_; rw [if_neg (show ¬ hs = 0 by omega), if_neg h18, if_neg (show ¬ hs_ (Ls nw) sx = true by rw [hv33]; decide), if_pos (hp_y (i := i) hil h82), if_neg (show ¬ hs = 0 by omega), if_neg h18, if_neg (show ¬ hs_ (Ls nw) sx = true by rw [hv33]; decide), if_pos (hp_y (i := i) hil h82)]⟩) dd_M_exclude_87)
        exact loop_52 (Ls nw).length 0 _ _ _ (Nat.zero_add _) (fun j h => absurd h (Nat.not_lt_zero j)) hM hS (lv_sub hl [2, 3, 1, 0] rfl)
      · skip
        have hv33 : hs_ (Ls nw) sx = true := by
          cases h : hs_ (Ls nw) sx with
          | true => rfl
          | false => exact absurd ((mz_neg (hLn nw) hnw17).mpr h) h33
        refine lv_bipush (v := (-3 : Int32)) hx hb dd_M_exclude_36 (by decide) ?_
        exact mr_ret hQ (mr_iret C0 hM hS (rfl) (⟨by unfold exR_; rw [if_neg (show ¬ hs = 0 by omega), if_neg h18, if_pos hv33], _, _, _, _, _, _, _, _, _, _, _, hrl, by unfold exH_ exF_; rw [if_neg (show ¬ hs = 0 by omega), if_neg h18, if_pos hv33, if_neg (show ¬ hs = 0 by omega), if_neg h18, if_pos hv33]⟩) dd_M_exclude_38)
    · skip
      refine lv_bipush (v := (-2 : Int32)) hx hb dd_M_exclude_21 (by decide) ?_
      exact mr_ret hQ (mr_iret C0 hM hS (rfl) (⟨by unfold exR_; rw [if_neg (show ¬ hs = 0 by omega), if_pos h18], _, _, _, _, _, _, _, _, _, _, _, hrl, by unfold exH_ exF_; rw [if_neg (show ¬ hs = 0 by omega), if_pos h18, if_neg (show ¬ hs = 0 by omega), if_pos h18]⟩) dd_M_exclude_23)
  · skip
    have hh0 : hs = 0 := (nI_eq (by omega) (by decide)).mp h4
    refine lv_iconst (v := (-1 : Int32)) hx hb dd_M_exclude_7 (by decide) ?_
    exact mr_ret hQ (mr_iret C0 hM hS (rfl) (⟨by unfold exR_; rw [if_pos hh0], _, _, _, _, _, _, _, _, _, _, _, hrl, by unfold exH_ exF_; rw [if_pos hh0, if_pos hh0]⟩) dd_M_exclude_8)


def mvA_ (N : Nat) (Ls : Nat → rl_) (k Hd : Nat) : Nat := Hd ^ pd_ (fo_ (Ls k) (Ls (k - 1))) % N
def mv_ (N : Nat) (Ls : Nat → rl_) (p k Hd : Nat) : Nat := mvA_ N Ls k Hd ^ eb_ (pd_ (fo_ (Ls (k - 1)) (Ls k))) p % N * ((th_ N ^ pd_ (Ls k) % N) ^ eq_ (pd_ (fo_ (Ls (k - 1)) (Ls k))) p % N) % N
theorem fo_pd_lt {L O : rl_} (h : ∀ x ∈ L, x.2 < 2147483648) (hn : L.length ≤ 10) : pd_ (fo_ L O) < 2 ^ 311 := pd_lt (fun x hx => h x (fo_mem hx)) (Nat.le_trans (List.length_filter_le _ _) hn)

set_option maxHeartbeats 4000000 in
set_option maxRecDepth 100000 in
theorem c_M_moveTo (l : Launch) {G : mg_} {M : mw_} {am : Nat → Nat} {hs N Vt nw Hd fc : Nat} {Pd : rl_} {Ls : Nat → rl_} {w g0 cf qf xw : Nat → Int32} {f sf uf lf : Nat → Int64} {r1 r0 : Int64} {k1 p0 : Nat}   (hne : ∀ {i j : Nat}, i ≠ j → am i ≠ am j) (hk : M (am 1) = some (la_ G 32 mk_)) (hrl : mrl_ hs N Pd Ls nw f g0 cf sf qf uf lf) (hok : okS_ Pd Ls nw) (hhs : hs ≤ 1) (hN : hs = 1 → N < 340282366920938463463374607431768211456 ∧ 1267650600228229401496703205376 ≤ N) (hVt : hs = 1 → Vt = th_ N ∧ th_ N < N) (hHd : hs = 1 → Hd < N) (hfc : fc < 2147483648) (hh1 : hs = 1) (hk1 : 1 ≤ k1) (hk2 : k1 ≤ 16) (hp2 : 2 ≤ p0) (hp31 : p0 < 2147483648) : ct_ l my_M_moveTo cd_M_moveTo 5 none { frames := 5, cells := 0, slots := 0, locals := 143 } G [.ref (am 0), .int (nI k1), .int (nI p0)] (mu_ (mu_ (mu_ (mu_ (mu_ (mu_ (mu_ (mu_ (mu_ (mu_ M (am 2) (ia_ G 64 w)) (am 3) (la_ G 10 f)) (am 4) (ia_ G 10 g0)) (am 5) (ia_ G 17 cf)) (am 6) (la_ G 170 sf)) (am 7) (ia_ G 170 qf)) (am 8) (la_ G 17 uf)) (am 9) (la_ G 17 lf)) (am 10) (ia_ G 32 xw)) (am 0) (ob_ 6 [.ref (am 1), .ref (am 2), .int (nI hs), .long (hi_ N), .long (lo_ N), .long (hi_ Vt), .long (lo_ Vt), .int (nI Pd.length), .ref (am 3), .ref (am 4), .int (nI nw), .ref (am 5), .ref (am 6), .ref (am 7), .ref (am 8), .ref (am 9), .long (hi_ Hd), .long (lo_ Hd), .int (nI fc), .long r1, .long r0, .ref (am 10)])) (fun v0 M' => v0 = none ∧ MWx_ M am G hs N Vt Pd Ls nw (mv_ N Ls p0 k1 Hd) fc M') 0 0 := by
  refine ct_.intro2 (by decide) (Nat.le_of_ble_eq_true rfl) ?_
  intro p e s m args below meth c ls R Q hR hQ C0 hl hM hS
  have hx := C0.1
  have hb := C0.2.1
  have hl : lv_has ls 5 [(0, .ref (am 0)), (1, .int (nI k1)), (2, .int (nI p0))] := hl
  obtain ⟨hro, hme, hul⟩ := hrl
  have hrl : mrl_ hs N Pd Ls nw f g0 cf sf qf uf lf := ⟨hro, hme, hul⟩
  obtain ⟨hPn, hLn, hnw, hPp, hLp, hPd, hLd⟩ := hok
  have hnw17 : nw < 17 := by omega
  have hcn := (hme nw hnw17).1
  have hN1 : 1 < N := by have h := (hN hh1).2; omega
  have hN0 : 0 < N := by omega
  have hVtl : Vt < N := by rw [(hVt hh1).1]; exact (hVt hh1).2
  have hX : (pd_ (fo_ (Ls (k1 - 1)) (Ls k1))) < 2 ^ 311 := fo_pd_lt (hLp _) (hLn _)
  have hbl : (eb_ (pd_ (fo_ (Ls (k1 - 1)) (Ls k1))) p0) < 2147483648 := Nat.lt_trans (Nat.mod_lt _ (by omega)) hp31
  have hm1 := hme k1 (by omega)
  have hm0 := hme (k1 - 1) (by omega)
  refine lv_bipush (v := nI 10) hx hb dd_M_moveTo_0 (by decide) ?_
  refine lv_iload_n hx hb dd_M_moveTo_2 rfl (lv_at hl 1 rfl) ?_
  refine lv_imul hx hb dd_M_moveTo_3 ?_
  refine mr_vi (pk_mul 10 k1) ?_
  refine lv_istore_n (lv' := [(3, .int (nI (10 * k1))), (0, .ref (am 0)), (1, .int (nI k1)), (2, .int (nI p0))]) hx hb dd_M_moveTo_4 rfl hl (by decide) rfl (fun ls hl => ?_)
  have loop_5 : ∀ (k : Nat) (i : Nat) (x1 : Int64) (x0 : Int64) (H : Heap) (locs : List Loc) (ls : Array Slot), i + k = List.length (Ls k1) → mm_ G (mu_ (mu_ (mu_ (mu_ (mu_ (mu_ (mu_ (mu_ (mu_ (mu_ M (am 2) (ia_ G 64 w)) (am 3) (la_ G 10 f)) (am 4) (ia_ G 10 g0)) (am 5) (ia_ G 17 cf)) (am 6) (la_ G 170 sf)) (am 7) (ia_ G 170 qf)) (am 8) (la_ G 17 uf)) (am 9) (la_ G 17 lf)) (am 10) (ia_ G 32 xw)) (am 0) (ob_ 6 [.ref (am 1), .ref (am 2), .int (nI hs), .long (hi_ N), .long (lo_ N), .long (hi_ Vt), .long (lo_ Vt), .int (nI Pd.length), .ref (am 3), .ref (am 4), .int (nI nw), .ref (am 5), .ref (am 6), .ref (am 7), .ref (am 8), .ref (am 9), .long (hi_ (Hd ^ pd_ (fo_ (List.take i (Ls k1)) (Ls (k1 - 1))) % N)), .long (lo_ (Hd ^ pd_ (fo_ (List.take i (Ls k1)) (Ls (k1 - 1))) % N)), .int (nI fc), .long x1, .long x0, .ref (am 10)])) H → va_S (fz_ G) s.heap H locs → lv_has ls 5 [(0, .ref (am 0)), (1, .int (nI k1)), (2, .int (nI p0)), (3, .int (nI (10 * k1 + i)))] → W p l e R s m args below meth c H locs 0 0 Q (F0 m 5 ls []) := by
    intro k
    induction k with
    | zero =>
      intro i x1 x0 H locs ls hi hM hS hl
      have hll := hLn k1
      refine lv_iload_n hx hb dd_M_moveTo_5 rfl (lv_at hl 3 rfl) ?_
      refine lv_bipush (v := nI 10) hx hb dd_M_moveTo_6 (by decide) ?_
      refine lv_iload_n hx hb dd_M_moveTo_8 rfl (lv_at hl 1 rfl) ?_
      refine lv_imul hx hb dd_M_moveTo_9 ?_
      refine mr_vi (pk_mul 10 k1) ?_
      refine lv_aload_n hx hb dd_M_moveTo_10 rfl (lv_at hl 0 rfl) ?_
      refine mr_get C0 hM fk_M_87 mu_s (v := .ref (am 5)) rfl dd_M_moveTo_11 ?_
      refine lv_iload_n hx hb dd_M_moveTo_14 rfl (lv_at hl 1 rfl) ?_
      refine mr_iald C0 hM (mu_n' (hne (i := 5) (j := 0) (by decide)) (mu_n' (hne (i := 5) (j := 10) (by decide)) (mu_n' (hne (i := 5) (j := 9) (by decide)) (mu_n' (hne (i := 5) (j := 8) (by decide)) (mu_n' (hne (i := 5) (j := 7) (by decide)) (mu_n' (hne (i := 5) (j := 6) (by decide)) mu_s)))))) (k1) (rfl) (by omega) (by decide) dd_M_moveTo_15 ?_
      refine mr_vi (x' := nI (List.length (Ls k1))) (hm1.1) ?_
      refine lv_iadd hx hb dd_M_moveTo_16 ?_
      refine mr_vi (nI_add (10 * k1) (List.length (Ls k1))) ?_
      refine lv_icmp_ge (tgt := 76) hx hb dd_M_moveTo_17 rfl (fun _ => ?_) (fun hc => absurd (le_nI (a := ((10 * k1) + (List.length (Ls k1)))) (b := (10 * k1 + i)) (by omega) (by omega) (by omega)) hc)
      rw [take_all (show List.length (Ls k1) ≤ i by omega)] at hM
      have hM : mm_ G (mu_ (mu_ (mu_ (mu_ (mu_ (mu_ (mu_ (mu_ (mu_ (mu_ M (am 2) (ia_ G 64 w)) (am 3) (la_ G 10 f)) (am 4) (ia_ G 10 g0)) (am 5) (ia_ G 17 cf)) (am 6) (la_ G 170 sf)) (am 7) (ia_ G 170 qf)) (am 8) (la_ G 17 uf)) (am 9) (la_ G 17 lf)) (am 10) (ia_ G 32 xw)) (am 0) (ob_ 6 [.ref (am 1), .ref (am 2), .int (nI hs), .long (hi_ N), .long (lo_ N), .long (hi_ Vt), .long (lo_ Vt), .int (nI Pd.length), .ref (am 3), .ref (am 4), .int (nI nw), .ref (am 5), .ref (am 6), .ref (am 7), .ref (am 8), .ref (am 9), .long (hi_ (mvA_ N Ls k1 Hd)), .long (lo_ (mvA_ N Ls k1 Hd)), .int (nI fc), .long x1, .long x0, .ref (am 10)])) H := hM
      refine lv_aload_n hx hb dd_M_moveTo_76 rfl (lv_at hl 0 rfl) ?_
      refine mr_callV (As := []) (rest := []) C0 hM hS vk_M_239 mu_s rfl (c_M_beginWords l mu_s (mu_n' (hne (i := 10) (j := 0) (by decide)) mu_s)  ) rfl rfl hl.1 (Nat.le_of_ble_eq_true rfl) rfl rfl (by subst hR; exact ⟨Nat.le_of_ble_eq_true rfl, Nat.le_of_ble_eq_true rfl⟩) (by subst hR; exact ⟨Nat.le_of_ble_eq_true rfl, Nat.le_of_ble_eq_true rfl⟩) dd_M_moveTo_77 (fun v1 M1 H locs hp hM hS => ?_)
      obtain ⟨ev1, eM1⟩ := hp
      subst ev1
      rw [eM1] at hM
      have hM := mr_M (mu_c2 (hne (i := 10) (j := 0) (by decide))) hM
      have hM : mm_ G (mu_ (mu_ (mu_ (mu_ (mu_ (mu_ (mu_ (mu_ (mu_ (mu_ M (am 2) (ia_ G 64 w)) (am 3) (la_ G 10 f)) (am 4) (ia_ G 10 g0)) (am 5) (ia_ G 17 cf)) (am 6) (la_ G 170 sf)) (am 7) (ia_ G 170 qf)) (am 8) (la_ G 17 uf)) (am 9) (la_ G 17 lf)) (am 10) (ia_ G 32 (wl_ 1))) (am 0) (ob_ 6 [.ref (am 1), .ref (am 2), .int (nI hs), .long (hi_ N), .long (lo_ N), .long (hi_ Vt), .long (lo_ Vt), .int (nI Pd.length), .ref (am 3), .ref (am 4), .int (nI nw), .ref (am 5), .ref (am 6), .ref (am 7), .ref (am 8), .ref (am 9), .long (hi_ (mvA_ N Ls k1 Hd)), .long (lo_ (mvA_ N Ls k1 Hd)), .int (nI fc), .long x1, .long x0, .ref (am 10)])) H := hM
      refine W.eq (g2 := F0 m 80 ls []) rfl ?_
      refine lv_bipush (v := nI 10) hx hb dd_M_moveTo_80 (by decide) ?_
      refine lv_iload_n hx hb dd_M_moveTo_82 rfl (lv_at hl 1 rfl) ?_
      refine lv_imul hx hb dd_M_moveTo_83 ?_
      refine mr_vi (pk_mul 10 k1) ?_
      refine lv_bipush (v := nI 10) hx hb dd_M_moveTo_84 (by decide) ?_
      refine lv_isub hx hb dd_M_moveTo_86 ?_
      refine mr_vi (x' := nI (10 * (k1 - 1))) ((pk_sub (a := 10 * k1) (b := 10) (by omega)).trans (congrArg nI (by omega))) ?_
      refine lv_istore_n (lv' := [(3, .int (nI (10 * (k1 - 1)))), (0, .ref (am 0)), (1, .int (nI k1)), (2, .int (nI p0))]) hx hb dd_M_moveTo_87 rfl hl (by decide) rfl (fun ls hl => ?_)
      have loop_88 : ∀ (q : Nat) (i : Nat) (x1 : Int64) (x0 : Int64) (H : Heap) (locs : List Loc) (ls : Array Slot), i + q = List.length (Ls (k1 - 1)) → mm_ G (mu_ (mu_ (mu_ (mu_ (mu_ (mu_ (mu_ (mu_ (mu_ (mu_ M (am 2) (ia_ G 64 w)) (am 3) (la_ G 10 f)) (am 4) (ia_ G 10 g0)) (am 5) (ia_ G 17 cf)) (am 6) (la_ G 170 sf)) (am 7) (ia_ G 170 qf)) (am 8) (la_ G 17 uf)) (am 9) (la_ G 17 lf)) (am 10) (ia_ G 32 (wl_ (pd_ (fo_ (List.take i (Ls (k1 - 1))) (Ls k1)))))) (am 0) (ob_ 6 [.ref (am 1), .ref (am 2), .int (nI hs), .long (hi_ N), .long (lo_ N), .long (hi_ Vt), .long (lo_ Vt), .int (nI Pd.length), .ref (am 3), .ref (am 4), .int (nI nw), .ref (am 5), .ref (am 6), .ref (am 7), .ref (am 8), .ref (am 9), .long (hi_ (mvA_ N Ls k1 Hd)), .long (lo_ (mvA_ N Ls k1 Hd)), .int (nI fc), .long x1, .long x0, .ref (am 10)])) H → va_S (fz_ G) s.heap H locs → lv_has ls 5 [(0, .ref (am 0)), (1, .int (nI k1)), (2, .int (nI p0)), (3, .int (nI (10 * (k1 - 1) + i)))] → W p l e R s m args below meth c H locs 0 0 Q (F0 m 88 ls []) := by
        intro q
        induction q with
        | zero =>
          intro i x1 x0 H locs ls hi2 hM hS hl
          have hll := hLn (k1 - 1)
          refine lv_iload_n hx hb dd_M_moveTo_88 rfl (lv_at hl 3 rfl) ?_
          refine lv_bipush (v := nI 10) hx hb dd_M_moveTo_89 (by decide) ?_
          refine lv_iload_n hx hb dd_M_moveTo_91 rfl (lv_at hl 1 rfl) ?_
          refine lv_imul hx hb dd_M_moveTo_92 ?_
          refine mr_vi (pk_mul 10 k1) ?_
          refine lv_bipush (v := nI 10) hx hb dd_M_moveTo_93 (by decide) ?_
          refine lv_isub hx hb dd_M_moveTo_95 ?_
          refine mr_vi (x' := nI (10 * (k1 - 1))) ((pk_sub (a := 10 * k1) (b := 10) (by omega)).trans (congrArg nI (by omega))) ?_
          refine lv_aload_n hx hb dd_M_moveTo_96 rfl (lv_at hl 0 rfl) ?_
          refine mr_get C0 hM fk_M_87 mu_s (v := .ref (am 5)) rfl dd_M_moveTo_97 ?_
          refine lv_iload_n hx hb dd_M_moveTo_100 rfl (lv_at hl 1 rfl) ?_
          refine lv_iconst (v := nI 1) hx hb dd_M_moveTo_101 (by decide) ?_
          refine lv_isub hx hb dd_M_moveTo_102 ?_
          refine mr_vi (pk_sub (a := k1) (b := 1) (by omega)) ?_
          refine mr_iald C0 hM (mu_n' (hne (i := 5) (j := 0) (by decide)) (mu_n' (hne (i := 5) (j := 10) (by decide)) (mu_n' (hne (i := 5) (j := 9) (by decide)) (mu_n' (hne (i := 5) (j := 8) (by decide)) (mu_n' (hne (i := 5) (j := 7) (by decide)) (mu_n' (hne (i := 5) (j := 6) (by decide)) mu_s)))))) ((k1 - 1)) (rfl) (by omega) (by decide) dd_M_moveTo_103 ?_
          refine mr_vi (x' := nI (List.length (Ls (k1 - 1)))) (hm0.1) ?_
          refine lv_iadd hx hb dd_M_moveTo_104 ?_
          refine mr_vi (nI_add (10 * (k1 - 1)) (List.length (Ls (k1 - 1)))) ?_
          refine lv_icmp_ge (tgt := 138) hx hb dd_M_moveTo_105 rfl (fun _ => ?_) (fun hc => absurd (le_nI (a := ((10 * (k1 - 1)) + (List.length (Ls (k1 - 1))))) (b := (10 * (k1 - 1) + i)) (by omega) (by omega) (by omega)) hc)
          rw [take_all (show List.length (Ls (k1 - 1)) ≤ i by omega)] at hM
          have hM : mm_ G (mu_ (mu_ (mu_ (mu_ (mu_ (mu_ (mu_ (mu_ (mu_ (mu_ M (am 2) (ia_ G 64 w)) (am 3) (la_ G 10 f)) (am 4) (ia_ G 10 g0)) (am 5) (ia_ G 17 cf)) (am 6) (la_ G 170 sf)) (am 7) (ia_ G 170 qf)) (am 8) (la_ G 17 uf)) (am 9) (la_ G 17 lf)) (am 10) (ia_ G 32 (wl_ (pd_ (fo_ (Ls (k1 - 1)) (Ls k1)))))) (am 0) (ob_ 6 [.ref (am 1), .ref (am 2), .int (nI hs), .long (hi_ N), .long (lo_ N), .long (hi_ Vt), .long (lo_ Vt), .int (nI Pd.length), .ref (am 3), .ref (am 4), .int (nI nw), .ref (am 5), .ref (am 6), .ref (am 7), .ref (am 8), .ref (am 9), .long (hi_ (mvA_ N Ls k1 Hd)), .long (lo_ (mvA_ N Ls k1 Hd)), .int (nI fc), .long x1, .long x0, .ref (am 10)])) H := hM
          refine lv_aload_n hx hb dd_M_moveTo_138 rfl (lv_at hl 0 rfl) ?_
          refine lv_iload_n hx hb dd_M_moveTo_139 rfl (lv_at hl 2 rfl) ?_
          refine mr_callV (As := [.int (nI p0)]) (rest := []) C0 hM hS vk_M_242 mu_s rfl (c_M_invertWords l mu_s (mu_n' (hne (i := 10) (j := 0) (by decide)) mu_s)  (Nat.lt_trans hX (by decide)) (Nat.lt_trans (vb_lt hX hbl) (by decide)) hp2 hp31) rfl rfl hl.1 (Nat.le_of_ble_eq_true rfl) rfl rfl (by subst hR; exact ⟨Nat.le_of_ble_eq_true rfl, Nat.le_of_ble_eq_true rfl⟩) (by subst hR; exact ⟨Nat.le_of_ble_eq_true rfl, Nat.le_of_ble_eq_true rfl⟩) dd_M_moveTo_140 (fun v1 M1 H locs hp hM hS => ?_)
          obtain ⟨ev1, eM1⟩ := hp
          subst ev1
          rw [eM1] at hM
          have hM := mr_M (mu_c2 (hne (i := 10) (j := 0) (by decide))) hM
          have hM : mm_ G (mu_ (mu_ (mu_ (mu_ (mu_ (mu_ (mu_ (mu_ (mu_ (mu_ M (am 2) (ia_ G 64 w)) (am 3) (la_ G 10 f)) (am 4) (ia_ G 10 g0)) (am 5) (ia_ G 17 cf)) (am 6) (la_ G 170 sf)) (am 7) (ia_ G 170 qf)) (am 8) (la_ G 17 uf)) (am 9) (la_ G 17 lf)) (am 10) (ia_ G 32 (wl_ (eq_ (pd_ (fo_ (Ls (k1 - 1)) (Ls k1))) p0)))) (am 0) (ob_ 6 [.ref (am 1), .ref (am 2), .int (nI hs), .long (hi_ N), .long (lo_ N), .long (hi_ Vt), .long (lo_ Vt), .int (nI Pd.length), .ref (am 3), .ref (am 4), .int (nI nw), .ref (am 5), .ref (am 6), .ref (am 7), .ref (am 8), .ref (am 9), .long (hi_ (mvA_ N Ls k1 Hd)), .long (lo_ (mvA_ N Ls k1 Hd)), .int (nI fc), .long x1, .long x0, .ref (am 10)])) H := hM
          refine W.eq (g2 := F0 m 143 ls [.int (nI (eb_ (pd_ (fo_ (Ls (k1 - 1)) (Ls k1))) p0))]) rfl ?_
          refine lv_istore_n (lv' := [(3, .int (nI (eb_ (pd_ (fo_ (Ls (k1 - 1)) (Ls k1))) p0))), (0, .ref (am 0)), (1, .int (nI k1)), (2, .int (nI p0))]) hx hb dd_M_moveTo_143 rfl hl (by decide) rfl (fun ls hl => ?_)
          refine lv_aload_n hx hb dd_M_moveTo_144 rfl (lv_at hl 1 rfl) ?_
          refine lv_aload_n hx hb dd_M_moveTo_145 rfl (lv_at hl 1 rfl) ?_
          refine mr_get C0 hM fk_M_226 mu_s (v := .long (hi_ (mvA_ N Ls k1 Hd))) rfl dd_M_moveTo_146 ?_
          refine lv_aload_n hx hb dd_M_moveTo_149 rfl (lv_at hl 1 rfl) ?_
          refine mr_get C0 hM fk_M_229 mu_s (v := .long (lo_ (mvA_ N Ls k1 Hd))) rfl dd_M_moveTo_150 ?_
          refine lv_iload_n hx hb dd_M_moveTo_153 rfl (lv_at hl 0 rfl) ?_
          refine mr_callV (As := [.long (hi_ (mvA_ N Ls k1 Hd)), .long (lo_ (mvA_ N Ls k1 Hd)), .int (nI (eb_ (pd_ (fo_ (Ls (k1 - 1)) (Ls k1))) p0))]) (rest := []) C0 hM hS vk_M_212 mu_s rfl (c_M_power l mu_s  (hN hh1).1 (Nat.mod_lt _ hN0) hN1 hbl) rfl rfl hl.1 (Nat.le_of_ble_eq_true rfl) rfl rfl (by subst hR; exact ⟨Nat.le_of_ble_eq_true rfl, Nat.le_of_ble_eq_true rfl⟩) (by subst hR; exact ⟨Nat.le_of_ble_eq_true rfl, Nat.le_of_ble_eq_true rfl⟩) dd_M_moveTo_154 (fun v1 M1 H locs hp hM hS => ?_)
          obtain ⟨ev1, eM1⟩ := hp
          subst ev1
          rw [eM1] at hM
          have hM := mr_M mu_mu hM
          have hM : mm_ G (mu_ (mu_ (mu_ (mu_ (mu_ (mu_ (mu_ (mu_ (mu_ (mu_ M (am 2) (ia_ G 64 w)) (am 3) (la_ G 10 f)) (am 4) (ia_ G 10 g0)) (am 5) (ia_ G 17 cf)) (am 6) (la_ G 170 sf)) (am 7) (ia_ G 170 qf)) (am 8) (la_ G 17 uf)) (am 9) (la_ G 17 lf)) (am 10) (ia_ G 32 (wl_ (eq_ (pd_ (fo_ (Ls (k1 - 1)) (Ls k1))) p0)))) (am 0) (ob_ 6 [.ref (am 1), .ref (am 2), .int (nI hs), .long (hi_ N), .long (lo_ N), .long (hi_ Vt), .long (lo_ Vt), .int (nI Pd.length), .ref (am 3), .ref (am 4), .int (nI nw), .ref (am 5), .ref (am 6), .ref (am 7), .ref (am 8), .ref (am 9), .long (hi_ (mvA_ N Ls k1 Hd)), .long (lo_ (mvA_ N Ls k1 Hd)), .int (nI fc), .long (hi_ ((mvA_ N Ls k1 Hd) ^ (eb_ (pd_ (fo_ (Ls (k1 - 1)) (Ls k1))) p0) % N)), .long (lo_ ((mvA_ N Ls k1 Hd) ^ (eb_ (pd_ (fo_ (Ls (k1 - 1)) (Ls k1))) p0) % N)), .ref (am 10)])) H := hM
          refine W.eq (g2 := F0 m 157 ls []) rfl ?_
          refine lv_aload_n hx hb dd_M_moveTo_157 rfl (lv_at hl 1 rfl) ?_
          refine lv_aload_n hx hb dd_M_moveTo_158 rfl (lv_at hl 1 rfl) ?_
          refine mr_get C0 hM fk_M_154 mu_s (v := .long (hi_ ((mvA_ N Ls k1 Hd) ^ (eb_ (pd_ (fo_ (Ls (k1 - 1)) (Ls k1))) p0) % N))) rfl dd_M_moveTo_159 ?_
          refine mr_put C0 hM hS fk_M_226 fp_M_226 mu_s rfl (rfl) (rfl) (Nat.le_of_ble_eq_true rfl) dd_M_moveTo_162 (fun H locs hM hS => ?_)
          have hM := mr_M mu_mu hM
          have hM : mm_ G (mu_ (mu_ (mu_ (mu_ (mu_ (mu_ (mu_ (mu_ (mu_ (mu_ M (am 2) (ia_ G 64 w)) (am 3) (la_ G 10 f)) (am 4) (ia_ G 10 g0)) (am 5) (ia_ G 17 cf)) (am 6) (la_ G 170 sf)) (am 7) (ia_ G 170 qf)) (am 8) (la_ G 17 uf)) (am 9) (la_ G 17 lf)) (am 10) (ia_ G 32 (wl_ (eq_ (pd_ (fo_ (Ls (k1 - 1)) (Ls k1))) p0)))) (am 0) (ob_ 6 [.ref (am 1), .ref (am 2), .int (nI hs), .long (hi_ N), .long (lo_ N), .long (hi_ Vt), .long (lo_ Vt), .int (nI Pd.length), .ref (am 3), .ref (am 4), .int (nI nw), .ref (am 5), .ref (am 6), .ref (am 7), .ref (am 8), .ref (am 9), .long (hi_ ((mvA_ N Ls k1 Hd) ^ (eb_ (pd_ (fo_ (Ls (k1 - 1)) (Ls k1))) p0) % N)), .long (lo_ (mvA_ N Ls k1 Hd)), .int (nI fc), .long (hi_ ((mvA_ N Ls k1 Hd) ^ (eb_ (pd_ (fo_ (Ls (k1 - 1)) (Ls k1))) p0) % N)), .long (lo_ ((mvA_ N Ls k1 Hd) ^ (eb_ (pd_ (fo_ (Ls (k1 - 1)) (Ls k1))) p0) % N)), .ref (am 10)])) H := hM
          refine lv_aload_n hx hb dd_M_moveTo_165 rfl (lv_at hl 1 rfl) ?_
          refine lv_aload_n hx hb dd_M_moveTo_166 rfl (lv_at hl 1 rfl) ?_
          refine mr_get C0 hM fk_M_151 mu_s (v := .long (lo_ ((mvA_ N Ls k1 Hd) ^ (eb_ (pd_ (fo_ (Ls (k1 - 1)) (Ls k1))) p0) % N))) rfl dd_M_moveTo_167 ?_
          refine mr_put C0 hM hS fk_M_229 fp_M_229 mu_s rfl (rfl) (rfl) (Nat.le_of_ble_eq_true rfl) dd_M_moveTo_170 (fun H locs hM hS => ?_)
          have hM := mr_M mu_mu hM
          have hM : mm_ G (mu_ (mu_ (mu_ (mu_ (mu_ (mu_ (mu_ (mu_ (mu_ (mu_ M (am 2) (ia_ G 64 w)) (am 3) (la_ G 10 f)) (am 4) (ia_ G 10 g0)) (am 5) (ia_ G 17 cf)) (am 6) (la_ G 170 sf)) (am 7) (ia_ G 170 qf)) (am 8) (la_ G 17 uf)) (am 9) (la_ G 17 lf)) (am 10) (ia_ G 32 (wl_ (eq_ (pd_ (fo_ (Ls (k1 - 1)) (Ls k1))) p0)))) (am 0) (ob_ 6 [.ref (am 1), .ref (am 2), .int (nI hs), .long (hi_ N), .long (lo_ N), .long (hi_ Vt), .long (lo_ Vt), .int (nI Pd.length), .ref (am 3), .ref (am 4), .int (nI nw), .ref (am 5), .ref (am 6), .ref (am 7), .ref (am 8), .ref (am 9), .long (hi_ ((mvA_ N Ls k1 Hd) ^ (eb_ (pd_ (fo_ (Ls (k1 - 1)) (Ls k1))) p0) % N)), .long (lo_ ((mvA_ N Ls k1 Hd) ^ (eb_ (pd_ (fo_ (Ls (k1 - 1)) (Ls k1))) p0) % N)), .int (nI fc), .long (hi_ ((mvA_ N Ls k1 Hd) ^ (eb_ (pd_ (fo_ (Ls (k1 - 1)) (Ls k1))) p0) % N)), .long (lo_ ((mvA_ N Ls k1 Hd) ^ (eb_ (pd_ (fo_ (Ls (k1 - 1)) (Ls k1))) p0) % N)), .ref (am 10)])) H := hM
          refine lv_aload_n hx hb dd_M_moveTo_173 rfl (lv_at hl 1 rfl) ?_
          refine lv_aload_n hx hb dd_M_moveTo_174 rfl (lv_at hl 1 rfl) ?_
          refine mr_get C0 hM fk_M_192 mu_s (v := .long (hi_ Vt)) rfl dd_M_moveTo_175 ?_
          refine mr_vl (x' := hi_ (th_ N)) (by rw [(hVt hh1).1]) ?_
          refine mr_put C0 hM hS fk_M_154 fp_M_154 mu_s rfl (rfl) (rfl) (Nat.le_of_ble_eq_true rfl) dd_M_moveTo_178 (fun H locs hM hS => ?_)
          have hM := mr_M mu_mu hM
          have hM : mm_ G (mu_ (mu_ (mu_ (mu_ (mu_ (mu_ (mu_ (mu_ (mu_ (mu_ M (am 2) (ia_ G 64 w)) (am 3) (la_ G 10 f)) (am 4) (ia_ G 10 g0)) (am 5) (ia_ G 17 cf)) (am 6) (la_ G 170 sf)) (am 7) (ia_ G 170 qf)) (am 8) (la_ G 17 uf)) (am 9) (la_ G 17 lf)) (am 10) (ia_ G 32 (wl_ (eq_ (pd_ (fo_ (Ls (k1 - 1)) (Ls k1))) p0)))) (am 0) (ob_ 6 [.ref (am 1), .ref (am 2), .int (nI hs), .long (hi_ N), .long (lo_ N), .long (hi_ Vt), .long (lo_ Vt), .int (nI Pd.length), .ref (am 3), .ref (am 4), .int (nI nw), .ref (am 5), .ref (am 6), .ref (am 7), .ref (am 8), .ref (am 9), .long (hi_ ((mvA_ N Ls k1 Hd) ^ (eb_ (pd_ (fo_ (Ls (k1 - 1)) (Ls k1))) p0) % N)), .long (lo_ ((mvA_ N Ls k1 Hd) ^ (eb_ (pd_ (fo_ (Ls (k1 - 1)) (Ls k1))) p0) % N)), .int (nI fc), .long (hi_ (th_ N)), .long (lo_ ((mvA_ N Ls k1 Hd) ^ (eb_ (pd_ (fo_ (Ls (k1 - 1)) (Ls k1))) p0) % N)), .ref (am 10)])) H := hM
          refine lv_aload_n hx hb dd_M_moveTo_181 rfl (lv_at hl 1 rfl) ?_
          refine lv_aload_n hx hb dd_M_moveTo_182 rfl (lv_at hl 1 rfl) ?_
          refine mr_get C0 hM fk_M_195 mu_s (v := .long (lo_ Vt)) rfl dd_M_moveTo_183 ?_
          refine mr_vl (x' := lo_ (th_ N)) (by rw [(hVt hh1).1]) ?_
          refine mr_put C0 hM hS fk_M_151 fp_M_151 mu_s rfl (rfl) (rfl) (Nat.le_of_ble_eq_true rfl) dd_M_moveTo_186 (fun H locs hM hS => ?_)
          have hM := mr_M mu_mu hM
          have hM : mm_ G (mu_ (mu_ (mu_ (mu_ (mu_ (mu_ (mu_ (mu_ (mu_ (mu_ M (am 2) (ia_ G 64 w)) (am 3) (la_ G 10 f)) (am 4) (ia_ G 10 g0)) (am 5) (ia_ G 17 cf)) (am 6) (la_ G 170 sf)) (am 7) (ia_ G 170 qf)) (am 8) (la_ G 17 uf)) (am 9) (la_ G 17 lf)) (am 10) (ia_ G 32 (wl_ (eq_ (pd_ (fo_ (Ls (k1 - 1)) (Ls k1))) p0)))) (am 0) (ob_ 6 [.ref (am 1), .ref (am 2), .int (nI hs), .long (hi_ N), .long (lo_ N), .long (hi_ Vt), .long (lo_ Vt), .int (nI Pd.length), .ref (am 3), .ref (am 4), .int (nI nw), .ref (am 5), .ref (am 6), .ref (am 7), .ref (am 8), .ref (am 9), .long (hi_ ((mvA_ N Ls k1 Hd) ^ (eb_ (pd_ (fo_ (Ls (k1 - 1)) (Ls k1))) p0) % N)), .long (lo_ ((mvA_ N Ls k1 Hd) ^ (eb_ (pd_ (fo_ (Ls (k1 - 1)) (Ls k1))) p0) % N)), .int (nI fc), .long (hi_ (th_ N)), .long (lo_ (th_ N)), .ref (am 10)])) H := hM
          refine lv_bipush (v := nI 10) hx hb dd_M_moveTo_189 (by decide) ?_
          refine lv_iload_n hx hb dd_M_moveTo_191 rfl (lv_at hl 2 rfl) ?_
          refine lv_imul hx hb dd_M_moveTo_192 ?_
          refine mr_vi (pk_mul 10 k1) ?_
          refine lv_istore (lv' := [(4, .int (nI (10 * k1))), (3, .int (nI (eb_ (pd_ (fo_ (Ls (k1 - 1)) (Ls k1))) p0))), (0, .ref (am 0)), (1, .int (nI k1)), (2, .int (nI p0))]) hx hb dd_M_moveTo_193 hl (by decide) rfl (fun ls hl => ?_)
          have loop_195 : ∀ (z : Nat) (i : Nat) (H : Heap) (locs : List Loc) (ls : Array Slot), i + z = List.length (Ls k1) → mm_ G (mu_ (mu_ (mu_ (mu_ (mu_ (mu_ (mu_ (mu_ (mu_ (mu_ M (am 2) (ia_ G 64 w)) (am 3) (la_ G 10 f)) (am 4) (ia_ G 10 g0)) (am 5) (ia_ G 17 cf)) (am 6) (la_ G 170 sf)) (am 7) (ia_ G 170 qf)) (am 8) (la_ G 17 uf)) (am 9) (la_ G 17 lf)) (am 10) (ia_ G 32 (wl_ (eq_ (pd_ (fo_ (Ls (k1 - 1)) (Ls k1))) p0)))) (am 0) (ob_ 6 [.ref (am 1), .ref (am 2), .int (nI hs), .long (hi_ N), .long (lo_ N), .long (hi_ Vt), .long (lo_ Vt), .int (nI Pd.length), .ref (am 3), .ref (am 4), .int (nI nw), .ref (am 5), .ref (am 6), .ref (am 7), .ref (am 8), .ref (am 9), .long (hi_ ((mvA_ N Ls k1 Hd) ^ (eb_ (pd_ (fo_ (Ls (k1 - 1)) (Ls k1))) p0) % N)), .long (lo_ ((mvA_ N Ls k1 Hd) ^ (eb_ (pd_ (fo_ (Ls (k1 - 1)) (Ls k1))) p0) % N)), .int (nI fc), .long (hi_ (th_ N ^ pd_ (List.take i (Ls k1)) % N)), .long (lo_ (th_ N ^ pd_ (List.take i (Ls k1)) % N)), .ref (am 10)])) H → va_S (fz_ G) s.heap H locs → lv_has ls 5 [(0, .ref (am 0)), (1, .int (nI k1)), (4, .int (nI (10 * k1 + i)))] → W p l e R s m args below meth c H locs 0 0 Q (F0 m 195 ls []) := by
            intro z
            induction z with
            | zero =>
              intro i H locs ls hi3 hM hS hl
              have hll := hLn k1
              refine lv_iload hx hb dd_M_moveTo_195 (lv_at hl 2 rfl) ?_
              refine lv_bipush (v := nI 10) hx hb dd_M_moveTo_197 (by decide) ?_
              refine lv_iload_n hx hb dd_M_moveTo_199 rfl (lv_at hl 1 rfl) ?_
              refine lv_imul hx hb dd_M_moveTo_200 ?_
              refine mr_vi (pk_mul 10 k1) ?_
              refine lv_aload_n hx hb dd_M_moveTo_201 rfl (lv_at hl 0 rfl) ?_
              refine mr_get C0 hM fk_M_87 mu_s (v := .ref (am 5)) rfl dd_M_moveTo_202 ?_
              refine lv_iload_n hx hb dd_M_moveTo_205 rfl (lv_at hl 1 rfl) ?_
              refine mr_iald C0 hM (mu_n' (hne (i := 5) (j := 0) (by decide)) (mu_n' (hne (i := 5) (j := 10) (by decide)) (mu_n' (hne (i := 5) (j := 9) (by decide)) (mu_n' (hne (i := 5) (j := 8) (by decide)) (mu_n' (hne (i := 5) (j := 7) (by decide)) (mu_n' (hne (i := 5) (j := 6) (by decide)) mu_s)))))) (k1) (rfl) (by omega) (by decide) dd_M_moveTo_206 ?_
              refine mr_vi (x' := nI (List.length (Ls k1))) (hm1.1) ?_
              refine lv_iadd hx hb dd_M_moveTo_207 ?_
              refine mr_vi (nI_add (10 * k1) (List.length (Ls k1))) ?_
              refine lv_icmp_ge (tgt := 236) hx hb dd_M_moveTo_208 rfl (fun _ => ?_) (fun hc => absurd (le_nI (a := ((10 * k1) + (List.length (Ls k1)))) (b := (10 * k1 + i)) (by omega) (by omega) (by omega)) hc)
              rw [take_all (show List.length (Ls k1) ≤ i by omega)] at hM
              have hM : mm_ G (mu_ (mu_ (mu_ (mu_ (mu_ (mu_ (mu_ (mu_ (mu_ (mu_ M (am 2) (ia_ G 64 w)) (am 3) (la_ G 10 f)) (am 4) (ia_ G 10 g0)) (am 5) (ia_ G 17 cf)) (am 6) (la_ G 170 sf)) (am 7) (ia_ G 170 qf)) (am 8) (la_ G 17 uf)) (am 9) (la_ G 17 lf)) (am 10) (ia_ G 32 (wl_ (eq_ (pd_ (fo_ (Ls (k1 - 1)) (Ls k1))) p0)))) (am 0) (ob_ 6 [.ref (am 1), .ref (am 2), .int (nI hs), .long (hi_ N), .long (lo_ N), .long (hi_ Vt), .long (lo_ Vt), .int (nI Pd.length), .ref (am 3), .ref (am 4), .int (nI nw), .ref (am 5), .ref (am 6), .ref (am 7), .ref (am 8), .ref (am 9), .long (hi_ ((mvA_ N Ls k1 Hd) ^ (eb_ (pd_ (fo_ (Ls (k1 - 1)) (Ls k1))) p0) % N)), .long (lo_ ((mvA_ N Ls k1 Hd) ^ (eb_ (pd_ (fo_ (Ls (k1 - 1)) (Ls k1))) p0) % N)), .int (nI fc), .long (hi_ (th_ N ^ pd_ (Ls k1) % N)), .long (lo_ (th_ N ^ pd_ (Ls k1) % N)), .ref (am 10)])) H := hM
              refine lv_aload_n hx hb dd_M_moveTo_236 rfl (lv_at hl 0 rfl) ?_
              refine lv_aload_n hx hb dd_M_moveTo_237 rfl (lv_at hl 0 rfl) ?_
              refine mr_get C0 hM fk_M_154 mu_s (v := .long (hi_ (th_ N ^ pd_ (Ls k1) % N))) rfl dd_M_moveTo_238 ?_
              refine lv_aload_n hx hb dd_M_moveTo_241 rfl (lv_at hl 0 rfl) ?_
              refine mr_get C0 hM fk_M_151 mu_s (v := .long (lo_ (th_ N ^ pd_ (Ls k1) % N))) rfl dd_M_moveTo_242 ?_
              refine mr_callV (As := [.long (hi_ (th_ N ^ pd_ (Ls k1) % N)), .long (lo_ (th_ N ^ pd_ (Ls k1) % N))]) (rest := []) C0 hM hS vk_M_246 mu_s rfl (c_M_powerOfWords l mu_s (mu_n' (hne (i := 10) (j := 0) (by decide)) mu_s)  (hN hh1).1 (Nat.mod_lt _ hN0) hN1 (Nat.lt_of_le_of_lt (Nat.div_le_self _ _) (Nat.lt_trans (vb_lt hX hbl) (by decide)))) rfl rfl hl.1 (Nat.le_of_ble_eq_true rfl) rfl rfl (by subst hR; exact ⟨Nat.le_of_ble_eq_true rfl, Nat.le_of_ble_eq_true rfl⟩) (by subst hR; exact ⟨Nat.le_of_ble_eq_true rfl, Nat.le_of_ble_eq_true rfl⟩) dd_M_moveTo_245 (fun v1 M1 H locs hp hM hS => ?_)
              obtain ⟨ev1, eM1⟩ := hp
              subst ev1
              rw [eM1] at hM
              have hM := mr_M mu_mu hM
              have hM : mm_ G (mu_ (mu_ (mu_ (mu_ (mu_ (mu_ (mu_ (mu_ (mu_ (mu_ M (am 2) (ia_ G 64 w)) (am 3) (la_ G 10 f)) (am 4) (ia_ G 10 g0)) (am 5) (ia_ G 17 cf)) (am 6) (la_ G 170 sf)) (am 7) (ia_ G 170 qf)) (am 8) (la_ G 17 uf)) (am 9) (la_ G 17 lf)) (am 10) (ia_ G 32 (wl_ (eq_ (pd_ (fo_ (Ls (k1 - 1)) (Ls k1))) p0)))) (am 0) (ob_ 6 [.ref (am 1), .ref (am 2), .int (nI hs), .long (hi_ N), .long (lo_ N), .long (hi_ Vt), .long (lo_ Vt), .int (nI Pd.length), .ref (am 3), .ref (am 4), .int (nI nw), .ref (am 5), .ref (am 6), .ref (am 7), .ref (am 8), .ref (am 9), .long (hi_ ((mvA_ N Ls k1 Hd) ^ (eb_ (pd_ (fo_ (Ls (k1 - 1)) (Ls k1))) p0) % N)), .long (lo_ ((mvA_ N Ls k1 Hd) ^ (eb_ (pd_ (fo_ (Ls (k1 - 1)) (Ls k1))) p0) % N)), .int (nI fc), .long (hi_ ((th_ N ^ pd_ (Ls k1) % N) ^ (eq_ (pd_ (fo_ (Ls (k1 - 1)) (Ls k1))) p0) % N)), .long (lo_ ((th_ N ^ pd_ (Ls k1) % N) ^ (eq_ (pd_ (fo_ (Ls (k1 - 1)) (Ls k1))) p0) % N)), .ref (am 10)])) H := hM
              refine W.eq (g2 := F0 m 248 ls []) rfl ?_
              refine lv_aload_n hx hb dd_M_moveTo_248 rfl (lv_at hl 0 rfl) ?_
              refine lv_aload_n hx hb dd_M_moveTo_249 rfl (lv_at hl 0 rfl) ?_
              refine mr_get C0 hM fk_M_226 mu_s (v := .long (hi_ ((mvA_ N Ls k1 Hd) ^ (eb_ (pd_ (fo_ (Ls (k1 - 1)) (Ls k1))) p0) % N))) rfl dd_M_moveTo_250 ?_
              refine lv_aload_n hx hb dd_M_moveTo_253 rfl (lv_at hl 0 rfl) ?_
              refine mr_get C0 hM fk_M_229 mu_s (v := .long (lo_ ((mvA_ N Ls k1 Hd) ^ (eb_ (pd_ (fo_ (Ls (k1 - 1)) (Ls k1))) p0) % N))) rfl dd_M_moveTo_254 ?_
              refine lv_aload_n hx hb dd_M_moveTo_257 rfl (lv_at hl 0 rfl) ?_
              refine mr_get C0 hM fk_M_154 mu_s (v := .long (hi_ ((th_ N ^ pd_ (Ls k1) % N) ^ (eq_ (pd_ (fo_ (Ls (k1 - 1)) (Ls k1))) p0) % N))) rfl dd_M_moveTo_258 ?_
              refine lv_aload_n hx hb dd_M_moveTo_261 rfl (lv_at hl 0 rfl) ?_
              refine mr_get C0 hM fk_M_151 mu_s (v := .long (lo_ ((th_ N ^ pd_ (Ls k1) % N) ^ (eq_ (pd_ (fo_ (Ls (k1 - 1)) (Ls k1))) p0) % N))) rfl dd_M_moveTo_262 ?_
              refine mr_callV (As := [.long (hi_ ((mvA_ N Ls k1 Hd) ^ (eb_ (pd_ (fo_ (Ls (k1 - 1)) (Ls k1))) p0) % N)), .long (lo_ ((mvA_ N Ls k1 Hd) ^ (eb_ (pd_ (fo_ (Ls (k1 - 1)) (Ls k1))) p0) % N)), .long (hi_ ((th_ N ^ pd_ (Ls k1) % N) ^ (eq_ (pd_ (fo_ (Ls (k1 - 1)) (Ls k1))) p0) % N)), .long (lo_ ((th_ N ^ pd_ (Ls k1) % N) ^ (eq_ (pd_ (fo_ (Ls (k1 - 1)) (Ls k1))) p0) % N))]) (rest := []) C0 hM hS vk_M_164 mu_s rfl (c_M_multiply l mu_s  (hN hh1).1 (Nat.mod_lt _ hN0) (Nat.lt_trans (Nat.mod_lt _ hN0) (hN hh1).1)) rfl rfl hl.1 (Nat.le_of_ble_eq_true rfl) rfl rfl (by subst hR; exact ⟨Nat.le_of_ble_eq_true rfl, Nat.le_of_ble_eq_true rfl⟩) (by subst hR; exact ⟨Nat.le_of_ble_eq_true rfl, Nat.le_of_ble_eq_true rfl⟩) dd_M_moveTo_265 (fun v1 M1 H locs hp hM hS => ?_)
              obtain ⟨ev1, eM1⟩ := hp
              subst ev1
              rw [eM1] at hM
              have hM := mr_M mu_mu hM
              have hM : mm_ G (mu_ (mu_ (mu_ (mu_ (mu_ (mu_ (mu_ (mu_ (mu_ (mu_ M (am 2) (ia_ G 64 w)) (am 3) (la_ G 10 f)) (am 4) (ia_ G 10 g0)) (am 5) (ia_ G 17 cf)) (am 6) (la_ G 170 sf)) (am 7) (ia_ G 170 qf)) (am 8) (la_ G 17 uf)) (am 9) (la_ G 17 lf)) (am 10) (ia_ G 32 (wl_ (eq_ (pd_ (fo_ (Ls (k1 - 1)) (Ls k1))) p0)))) (am 0) (ob_ 6 [.ref (am 1), .ref (am 2), .int (nI hs), .long (hi_ N), .long (lo_ N), .long (hi_ Vt), .long (lo_ Vt), .int (nI Pd.length), .ref (am 3), .ref (am 4), .int (nI nw), .ref (am 5), .ref (am 6), .ref (am 7), .ref (am 8), .ref (am 9), .long (hi_ ((mvA_ N Ls k1 Hd) ^ (eb_ (pd_ (fo_ (Ls (k1 - 1)) (Ls k1))) p0) % N)), .long (lo_ ((mvA_ N Ls k1 Hd) ^ (eb_ (pd_ (fo_ (Ls (k1 - 1)) (Ls k1))) p0) % N)), .int (nI fc), .long (hi_ (mv_ N Ls p0 k1 Hd)), .long (lo_ (mv_ N Ls p0 k1 Hd)), .ref (am 10)])) H := hM
              refine W.eq (g2 := F0 m 268 ls []) rfl ?_
              refine lv_aload_n hx hb dd_M_moveTo_268 rfl (lv_at hl 0 rfl) ?_
              refine lv_aload_n hx hb dd_M_moveTo_269 rfl (lv_at hl 0 rfl) ?_
              refine mr_get C0 hM fk_M_154 mu_s (v := .long (hi_ (mv_ N Ls p0 k1 Hd))) rfl dd_M_moveTo_270 ?_
              refine mr_put C0 hM hS fk_M_226 fp_M_226 mu_s rfl (rfl) (rfl) (Nat.le_of_ble_eq_true rfl) dd_M_moveTo_273 (fun H locs hM hS => ?_)
              have hM := mr_M mu_mu hM
              have hM : mm_ G (mu_ (mu_ (mu_ (mu_ (mu_ (mu_ (mu_ (mu_ (mu_ (mu_ M (am 2) (ia_ G 64 w)) (am 3) (la_ G 10 f)) (am 4) (ia_ G 10 g0)) (am 5) (ia_ G 17 cf)) (am 6) (la_ G 170 sf)) (am 7) (ia_ G 170 qf)) (am 8) (la_ G 17 uf)) (am 9) (la_ G 17 lf)) (am 10) (ia_ G 32 (wl_ (eq_ (pd_ (fo_ (Ls (k1 - 1)) (Ls k1))) p0)))) (am 0) (ob_ 6 [.ref (am 1), .ref (am 2), .int (nI hs), .long (hi_ N), .long (lo_ N), .long (hi_ Vt), .long (lo_ Vt), .int (nI Pd.length), .ref (am 3), .ref (am 4), .int (nI nw), .ref (am 5), .ref (am 6), .ref (am 7), .ref (am 8), .ref (am 9), .long (hi_ (mv_ N Ls p0 k1 Hd)), .long (lo_ ((mvA_ N Ls k1 Hd) ^ (eb_ (pd_ (fo_ (Ls (k1 - 1)) (Ls k1))) p0) % N)), .int (nI fc), .long (hi_ (mv_ N Ls p0 k1 Hd)), .long (lo_ (mv_ N Ls p0 k1 Hd)), .ref (am 10)])) H := hM
              refine lv_aload_n hx hb dd_M_moveTo_276 rfl (lv_at hl 0 rfl) ?_
              refine lv_aload_n hx hb dd_M_moveTo_277 rfl (lv_at hl 0 rfl) ?_
              refine mr_get C0 hM fk_M_151 mu_s (v := .long (lo_ (mv_ N Ls p0 k1 Hd))) rfl dd_M_moveTo_278 ?_
              refine mr_put C0 hM hS fk_M_229 fp_M_229 mu_s rfl (rfl) (rfl) (Nat.le_of_ble_eq_true rfl) dd_M_moveTo_281 (fun H locs hM hS => ?_)
              have hM := mr_M mu_mu hM
              have hM : mm_ G (mu_ (mu_ (mu_ (mu_ (mu_ (mu_ (mu_ (mu_ (mu_ (mu_ M (am 2) (ia_ G 64 w)) (am 3) (la_ G 10 f)) (am 4) (ia_ G 10 g0)) (am 5) (ia_ G 17 cf)) (am 6) (la_ G 170 sf)) (am 7) (ia_ G 170 qf)) (am 8) (la_ G 17 uf)) (am 9) (la_ G 17 lf)) (am 10) (ia_ G 32 (wl_ (eq_ (pd_ (fo_ (Ls (k1 - 1)) (Ls k1))) p0)))) (am 0) (ob_ 6 [.ref (am 1), .ref (am 2), .int (nI hs), .long (hi_ N), .long (lo_ N), .long (hi_ Vt), .long (lo_ Vt), .int (nI Pd.length), .ref (am 3), .ref (am 4), .int (nI nw), .ref (am 5), .ref (am 6), .ref (am 7), .ref (am 8), .ref (am 9), .long (hi_ (mv_ N Ls p0 k1 Hd)), .long (lo_ (mv_ N Ls p0 k1 Hd)), .int (nI fc), .long (hi_ (mv_ N Ls p0 k1 Hd)), .long (lo_ (mv_ N Ls p0 k1 Hd)), .ref (am 10)])) H := hM
              exact mr_ret hQ (mr_vret C0 hM hS (⟨rfl, _, _, _, _, _, _, _, _, _, _, _, hrl, rfl⟩) dd_M_moveTo_284)
            | succ z ih3 =>
              intro i H locs ls hi3 hM hS hl
              have hil : i < List.length (Ls k1) := by omega
              have hll := hLn k1
              have hp0 : pr_ (Ls k1) i < 2147483648 := by rw [pr_at hil]; exact hLp _ _ (List.getElem_mem hil)
              refine lv_iload hx hb dd_M_moveTo_195 (lv_at hl 2 rfl) ?_
              refine lv_bipush (v := nI 10) hx hb dd_M_moveTo_197 (by decide) ?_
              refine lv_iload_n hx hb dd_M_moveTo_199 rfl (lv_at hl 1 rfl) ?_
              refine lv_imul hx hb dd_M_moveTo_200 ?_
              refine mr_vi (pk_mul 10 k1) ?_
              refine lv_aload_n hx hb dd_M_moveTo_201 rfl (lv_at hl 0 rfl) ?_
              refine mr_get C0 hM fk_M_87 mu_s (v := .ref (am 5)) rfl dd_M_moveTo_202 ?_
              refine lv_iload_n hx hb dd_M_moveTo_205 rfl (lv_at hl 1 rfl) ?_
              refine mr_iald C0 hM (mu_n' (hne (i := 5) (j := 0) (by decide)) (mu_n' (hne (i := 5) (j := 10) (by decide)) (mu_n' (hne (i := 5) (j := 9) (by decide)) (mu_n' (hne (i := 5) (j := 8) (by decide)) (mu_n' (hne (i := 5) (j := 7) (by decide)) (mu_n' (hne (i := 5) (j := 6) (by decide)) mu_s)))))) (k1) (rfl) (by omega) (by decide) dd_M_moveTo_206 ?_
              refine mr_vi (x' := nI (List.length (Ls k1))) (hm1.1) ?_
              refine lv_iadd hx hb dd_M_moveTo_207 ?_
              refine mr_vi (nI_add (10 * k1) (List.length (Ls k1))) ?_
              refine lv_icmp_ge (tgt := 236) hx hb dd_M_moveTo_208 rfl (fun hc => absurd hc (nle_nI (a := ((10 * k1) + (List.length (Ls k1)))) (b := (10 * k1 + i)) (by omega) (by omega) (by omega))) (fun _ => ?_)
              refine lv_aload_n hx hb dd_M_moveTo_211 rfl (lv_at hl 0 rfl) ?_
              refine lv_aload_n hx hb dd_M_moveTo_212 rfl (lv_at hl 0 rfl) ?_
              refine mr_get C0 hM fk_M_154 mu_s (v := .long (hi_ (th_ N ^ pd_ (List.take i (Ls k1)) % N))) rfl dd_M_moveTo_213 ?_
              refine lv_aload_n hx hb dd_M_moveTo_216 rfl (lv_at hl 0 rfl) ?_
              refine mr_get C0 hM fk_M_151 mu_s (v := .long (lo_ (th_ N ^ pd_ (List.take i (Ls k1)) % N))) rfl dd_M_moveTo_217 ?_
              refine lv_aload_n hx hb dd_M_moveTo_220 rfl (lv_at hl 0 rfl) ?_
              refine mr_get C0 hM fk_M_93 mu_s (v := .ref (am 7)) rfl dd_M_moveTo_221 ?_
              refine lv_iload hx hb dd_M_moveTo_224 (lv_at hl 2 rfl) ?_
              refine mr_iald C0 hM (mu_n' (hne (i := 7) (j := 0) (by decide)) (mu_n' (hne (i := 7) (j := 10) (by decide)) (mu_n' (hne (i := 7) (j := 9) (by decide)) (mu_n' (hne (i := 7) (j := 8) (by decide)) mu_s)))) ((10 * k1 + i)) (rfl) (by omega) (by decide) dd_M_moveTo_226 ?_
              refine mr_vi (x' := nI (pr_ (Ls k1) i)) ((hm1.2.2 i hil).2) ?_
              refine mr_callV (As := [.long (hi_ (th_ N ^ pd_ (List.take i (Ls k1)) % N)), .long (lo_ (th_ N ^ pd_ (List.take i (Ls k1)) % N)), .int (nI (pr_ (Ls k1) i))]) (rest := []) C0 hM hS vk_M_212 mu_s rfl (c_M_power l mu_s  (hN hh1).1 (Nat.mod_lt _ hN0) hN1 hp0) rfl rfl hl.1 (Nat.le_of_ble_eq_true rfl) rfl rfl (by subst hR; exact ⟨Nat.le_of_ble_eq_true rfl, Nat.le_of_ble_eq_true rfl⟩) (by subst hR; exact ⟨Nat.le_of_ble_eq_true rfl, Nat.le_of_ble_eq_true rfl⟩) dd_M_moveTo_227 (fun v1 M1 H locs hp hM hS => ?_)
              obtain ⟨ev1, eM1⟩ := hp
              subst ev1
              rw [eM1] at hM
              have hM := mr_M mu_mu hM
              have hM : mm_ G (mu_ (mu_ (mu_ (mu_ (mu_ (mu_ (mu_ (mu_ (mu_ (mu_ M (am 2) (ia_ G 64 w)) (am 3) (la_ G 10 f)) (am 4) (ia_ G 10 g0)) (am 5) (ia_ G 17 cf)) (am 6) (la_ G 170 sf)) (am 7) (ia_ G 170 qf)) (am 8) (la_ G 17 uf)) (am 9) (la_ G 17 lf)) (am 10) (ia_ G 32 (wl_ (eq_ (pd_ (fo_ (Ls (k1 - 1)) (Ls k1))) p0)))) (am 0) (ob_ 6 [.ref (am 1), .ref (am 2), .int (nI hs), .long (hi_ N), .long (lo_ N), .long (hi_ Vt), .long (lo_ Vt), .int (nI Pd.length), .ref (am 3), .ref (am 4), .int (nI nw), .ref (am 5), .ref (am 6), .ref (am 7), .ref (am 8), .ref (am 9), .long (hi_ ((mvA_ N Ls k1 Hd) ^ (eb_ (pd_ (fo_ (Ls (k1 - 1)) (Ls k1))) p0) % N)), .long (lo_ ((mvA_ N Ls k1 Hd) ^ (eb_ (pd_ (fo_ (Ls (k1 - 1)) (Ls k1))) p0) % N)), .int (nI fc), .long (hi_ ((th_ N ^ pd_ (List.take i (Ls k1)) % N) ^ pr_ (Ls k1) i % N)), .long (lo_ ((th_ N ^ pd_ (List.take i (Ls k1)) % N) ^ pr_ (Ls k1) i % N)), .ref (am 10)])) H := hM
              refine W.eq (g2 := F0 m 230 ls []) rfl ?_
              rw [pw_pw, ← pd_take hil] at hM
              have hM : mm_ G (mu_ (mu_ (mu_ (mu_ (mu_ (mu_ (mu_ (mu_ (mu_ (mu_ M (am 2) (ia_ G 64 w)) (am 3) (la_ G 10 f)) (am 4) (ia_ G 10 g0)) (am 5) (ia_ G 17 cf)) (am 6) (la_ G 170 sf)) (am 7) (ia_ G 170 qf)) (am 8) (la_ G 17 uf)) (am 9) (la_ G 17 lf)) (am 10) (ia_ G 32 (wl_ (eq_ (pd_ (fo_ (Ls (k1 - 1)) (Ls k1))) p0)))) (am 0) (ob_ 6 [.ref (am 1), .ref (am 2), .int (nI hs), .long (hi_ N), .long (lo_ N), .long (hi_ Vt), .long (lo_ Vt), .int (nI Pd.length), .ref (am 3), .ref (am 4), .int (nI nw), .ref (am 5), .ref (am 6), .ref (am 7), .ref (am 8), .ref (am 9), .long (hi_ ((mvA_ N Ls k1 Hd) ^ (eb_ (pd_ (fo_ (Ls (k1 - 1)) (Ls k1))) p0) % N)), .long (lo_ ((mvA_ N Ls k1 Hd) ^ (eb_ (pd_ (fo_ (Ls (k1 - 1)) (Ls k1))) p0) % N)), .int (nI fc), .long (hi_ (th_ N ^ pd_ (List.take (i + 1) (Ls k1)) % N)), .long (lo_ (th_ N ^ pd_ (List.take (i + 1) (Ls k1)) % N)), .ref (am 10)])) H := hM
              refine lv_iinc (k := 2) (v := nI ((10 * k1 + i) + 1)) (lv' := [(4, .int (nI ((10 * k1 + i) + 1))), (0, .ref (am 0)), (1, .int (nI k1))]) hx hb dd_M_moveTo_230 hl rfl (inc_ (10 * k1 + i)) (by decide) rfl (fun ls hl => ?_)
              refine lv_goto (tgt := 195) hx hb dd_M_moveTo_233 rfl ?_
              exact ih3 (i + 1) _ _ _ (by omega) hM hS (lv_sub hl [1, 2, 0] rfl)
          rw [show hi_ (th_ N) = hi_ (th_ N ^ pd_ (List.take 0 (Ls k1)) % N) by rw [pd_0, Nat.pow_one, Nat.mod_eq_of_lt (hVt hh1).2], show lo_ (th_ N) = lo_ (th_ N ^ pd_ (List.take 0 (Ls k1)) % N) by rw [pd_0, Nat.pow_one, Nat.mod_eq_of_lt (hVt hh1).2]] at hM
          exact loop_195 (List.length (Ls k1)) 0 _ _ _ (Nat.zero_add _) hM hS (lv_sub hl [2, 3, 0] rfl)
        | succ q ih2 =>
          intro i x1 x0 H locs ls hi2 hM hS hl
          have hil : i < List.length (Ls (k1 - 1)) := by omega
          have hll := hLn (k1 - 1)
          have hp0 : pr_ (Ls (k1 - 1)) i < 2147483648 := by rw [pr_at hil]; exact hLp _ _ (List.getElem_mem hil)
          refine lv_iload_n hx hb dd_M_moveTo_88 rfl (lv_at hl 3 rfl) ?_
          refine lv_bipush (v := nI 10) hx hb dd_M_moveTo_89 (by decide) ?_
          refine lv_iload_n hx hb dd_M_moveTo_91 rfl (lv_at hl 1 rfl) ?_
          refine lv_imul hx hb dd_M_moveTo_92 ?_
          refine mr_vi (pk_mul 10 k1) ?_
          refine lv_bipush (v := nI 10) hx hb dd_M_moveTo_93 (by decide) ?_
          refine lv_isub hx hb dd_M_moveTo_95 ?_
          refine mr_vi (x' := nI (10 * (k1 - 1))) ((pk_sub (a := 10 * k1) (b := 10) (by omega)).trans (congrArg nI (by omega))) ?_
          refine lv_aload_n hx hb dd_M_moveTo_96 rfl (lv_at hl 0 rfl) ?_
          refine mr_get C0 hM fk_M_87 mu_s (v := .ref (am 5)) rfl dd_M_moveTo_97 ?_
          refine lv_iload_n hx hb dd_M_moveTo_100 rfl (lv_at hl 1 rfl) ?_
          refine lv_iconst (v := nI 1) hx hb dd_M_moveTo_101 (by decide) ?_
          refine lv_isub hx hb dd_M_moveTo_102 ?_
          refine mr_vi (pk_sub (a := k1) (b := 1) (by omega)) ?_
          refine mr_iald C0 hM (mu_n' (hne (i := 5) (j := 0) (by decide)) (mu_n' (hne (i := 5) (j := 10) (by decide)) (mu_n' (hne (i := 5) (j := 9) (by decide)) (mu_n' (hne (i := 5) (j := 8) (by decide)) (mu_n' (hne (i := 5) (j := 7) (by decide)) (mu_n' (hne (i := 5) (j := 6) (by decide)) mu_s)))))) ((k1 - 1)) (rfl) (by omega) (by decide) dd_M_moveTo_103 ?_
          refine mr_vi (x' := nI (List.length (Ls (k1 - 1)))) (hm0.1) ?_
          refine lv_iadd hx hb dd_M_moveTo_104 ?_
          refine mr_vi (nI_add (10 * (k1 - 1)) (List.length (Ls (k1 - 1)))) ?_
          refine lv_icmp_ge (tgt := 138) hx hb dd_M_moveTo_105 rfl (fun hc => absurd hc (nle_nI (a := ((10 * (k1 - 1)) + (List.length (Ls (k1 - 1))))) (b := (10 * (k1 - 1) + i)) (by omega) (by omega) (by omega))) (fun _ => ?_)
          refine lv_aload_n hx hb dd_M_moveTo_108 rfl (lv_at hl 0 rfl) ?_
          refine lv_iload_n hx hb dd_M_moveTo_109 rfl (lv_at hl 1 rfl) ?_
          refine lv_aload_n hx hb dd_M_moveTo_110 rfl (lv_at hl 0 rfl) ?_
          refine mr_get C0 hM fk_M_90 mu_s (v := .ref (am 6)) rfl dd_M_moveTo_111 ?_
          refine lv_iload_n hx hb dd_M_moveTo_114 rfl (lv_at hl 3 rfl) ?_
          refine mr_lald C0 hM (mu_n' (hne (i := 6) (j := 0) (by decide)) (mu_n' (hne (i := 6) (j := 10) (by decide)) (mu_n' (hne (i := 6) (j := 9) (by decide)) (mu_n' (hne (i := 6) (j := 8) (by decide)) (mu_n' (hne (i := 6) (j := 7) (by decide)) mu_s))))) ((10 * (k1 - 1) + i)) (rfl) (by omega) (by decide) dd_M_moveTo_115 ?_
          refine mr_vl (x' := sr_ (Ls (k1 - 1)) i) ((hm0.2.2 i hil).1) ?_
          refine mr_callV (As := [.int (nI k1), .long (sr_ (Ls (k1 - 1)) i)]) (rest := []) C0 hM hS vk_M_216 mu_s rfl (c_M_placeIn l mu_s (mu_n' (hne (i := 5) (j := 0) (by decide)) (mu_n' (hne (i := 5) (j := 10) (by decide)) (mu_n' (hne (i := 5) (j := 9) (by decide)) (mu_n' (hne (i := 5) (j := 8) (by decide)) (mu_n' (hne (i := 5) (j := 7) (by decide)) (mu_n' (hne (i := 5) (j := 6) (by decide)) mu_s)))))) (mu_n' (hne (i := 6) (j := 0) (by decide)) (mu_n' (hne (i := 6) (j := 10) (by decide)) (mu_n' (hne (i := 6) (j := 9) (by decide)) (mu_n' (hne (i := 6) (j := 8) (by decide)) (mu_n' (hne (i := 6) (j := 7) (by decide)) mu_s)))))  (by omega) (hme k1 (by omega)).1 (hLn k1) (fun j hj => ((hme k1 (by omega)).2.2 j hj).1)) rfl rfl hl.1 (Nat.le_of_ble_eq_true rfl) rfl rfl (by subst hR; exact ⟨Nat.le_of_ble_eq_true rfl, Nat.le_of_ble_eq_true rfl⟩) (by subst hR; exact ⟨Nat.le_of_ble_eq_true rfl, Nat.le_of_ble_eq_true rfl⟩) dd_M_moveTo_116 (fun v1 M1 H locs hp hM hS => ?_)
          obtain ⟨ev1, eM1⟩ := hp
          subst ev1
          rw [eM1] at hM
          refine W.eq (g2 := F0 m 119 ls [.int (mz_ (Ls k1) k1 (sr_ (Ls (k1 - 1)) i))]) rfl ?_
          refine lv_if_ge (tgt := 132) hx hb dd_M_moveTo_119 rfl (fun h119 => ?_) (fun h119 => ?_)
          · skip
            have hv : hs_ (Ls k1) (sr_ (Ls (k1 - 1)) i) = true := by
              cases h : hs_ (Ls k1) (sr_ (Ls (k1 - 1)) i) with
              | true => rfl
              | false => exact absurd ((mz_neg (hLn _) (by omega)).mpr h) (Int32.not_lt.mpr h119)
            rw [show fo_ (List.take i (Ls (k1 - 1))) (Ls k1) = fo_ (List.take (i + 1) (Ls (k1 - 1))) (Ls k1) by rw [fo_s hil, hv, if_pos rfl, List.append_nil]] at hM
            have hM : mm_ G (mu_ (mu_ (mu_ (mu_ (mu_ (mu_ (mu_ (mu_ (mu_ (mu_ M (am 2) (ia_ G 64 w)) (am 3) (la_ G 10 f)) (am 4) (ia_ G 10 g0)) (am 5) (ia_ G 17 cf)) (am 6) (la_ G 170 sf)) (am 7) (ia_ G 170 qf)) (am 8) (la_ G 17 uf)) (am 9) (la_ G 17 lf)) (am 10) (ia_ G 32 (wl_ (pd_ (fo_ (List.take (i + 1) (Ls (k1 - 1))) (Ls k1)))))) (am 0) (ob_ 6 [.ref (am 1), .ref (am 2), .int (nI hs), .long (hi_ N), .long (lo_ N), .long (hi_ Vt), .long (lo_ Vt), .int (nI Pd.length), .ref (am 3), .ref (am 4), .int (nI nw), .ref (am 5), .ref (am 6), .ref (am 7), .ref (am 8), .ref (am 9), .long (hi_ (mvA_ N Ls k1 Hd)), .long (lo_ (mvA_ N Ls k1 Hd)), .int (nI fc), .long x1, .long x0, .ref (am 10)])) H := hM
            refine lv_iinc (k := 3) (v := nI ((10 * (k1 - 1) + i) + 1)) (lv' := [(3, .int (nI ((10 * (k1 - 1) + i) + 1))), (0, .ref (am 0)), (1, .int (nI k1)), (2, .int (nI p0))]) hx hb dd_M_moveTo_132 hl rfl (inc_ (10 * (k1 - 1) + i)) (by decide) rfl (fun ls hl => ?_)
            refine lv_goto (tgt := 88) hx hb dd_M_moveTo_135 rfl ?_
            exact ih2 (i + 1) _ _ _ _ _ (by omega) hM hS (lv_sub hl [1, 2, 3, 0] rfl)
          · skip
            have hv : hs_ (Ls k1) (sr_ (Ls (k1 - 1)) i) = false := (mz_neg (hLn _) (by omega)).mp (Int32.not_le.mp h119)
            refine lv_aload_n hx hb dd_M_moveTo_122 rfl (lv_at hl 0 rfl) ?_
            refine lv_aload_n hx hb dd_M_moveTo_123 rfl (lv_at hl 0 rfl) ?_
            refine mr_get C0 hM fk_M_93 mu_s (v := .ref (am 7)) rfl dd_M_moveTo_124 ?_
            refine lv_iload_n hx hb dd_M_moveTo_127 rfl (lv_at hl 3 rfl) ?_
            refine mr_iald C0 hM (mu_n' (hne (i := 7) (j := 0) (by decide)) (mu_n' (hne (i := 7) (j := 10) (by decide)) (mu_n' (hne (i := 7) (j := 9) (by decide)) (mu_n' (hne (i := 7) (j := 8) (by decide)) mu_s)))) ((10 * (k1 - 1) + i)) (rfl) (by omega) (by decide) dd_M_moveTo_128 ?_
            refine mr_vi (x' := nI (pr_ (Ls (k1 - 1)) i)) ((hm0.2.2 i hil).2) ?_
            refine mr_callV (As := [.int (nI (pr_ (Ls (k1 - 1)) i))]) (rest := []) C0 hM hS vk_M_175 mu_s rfl (c_M_multiplyWords l mu_s (mu_n' (hne (i := 10) (j := 0) (by decide)) mu_s)  hp0) rfl rfl hl.1 (Nat.le_of_ble_eq_true rfl) rfl rfl (by subst hR; exact ⟨Nat.le_of_ble_eq_true rfl, Nat.le_of_ble_eq_true rfl⟩) (by subst hR; exact ⟨Nat.le_of_ble_eq_true rfl, Nat.le_of_ble_eq_true rfl⟩) dd_M_moveTo_129 (fun v1 M1 H locs hp hM hS => ?_)
            obtain ⟨ev1, eM1⟩ := hp
            subst ev1
            rw [eM1] at hM
            have hM := mr_M (mu_c2 (hne (i := 10) (j := 0) (by decide))) hM
            have hM : mm_ G (mu_ (mu_ (mu_ (mu_ (mu_ (mu_ (mu_ (mu_ (mu_ (mu_ M (am 2) (ia_ G 64 w)) (am 3) (la_ G 10 f)) (am 4) (ia_ G 10 g0)) (am 5) (ia_ G 17 cf)) (am 6) (la_ G 170 sf)) (am 7) (ia_ G 170 qf)) (am 8) (la_ G 17 uf)) (am 9) (la_ G 17 lf)) (am 10) (ia_ G 32 (wl_ (pd_ (fo_ (List.take i (Ls (k1 - 1))) (Ls k1)) * pr_ (Ls (k1 - 1)) i)))) (am 0) (ob_ 6 [.ref (am 1), .ref (am 2), .int (nI hs), .long (hi_ N), .long (lo_ N), .long (hi_ Vt), .long (lo_ Vt), .int (nI Pd.length), .ref (am 3), .ref (am 4), .int (nI nw), .ref (am 5), .ref (am 6), .ref (am 7), .ref (am 8), .ref (am 9), .long (hi_ (mvA_ N Ls k1 Hd)), .long (lo_ (mvA_ N Ls k1 Hd)), .int (nI fc), .long x1, .long x0, .ref (am 10)])) H := hM
            refine W.eq (g2 := F0 m 132 ls []) rfl ?_
            rw [show pd_ (fo_ (List.take i (Ls (k1 - 1))) (Ls k1)) * pr_ (Ls (k1 - 1)) i = pd_ (fo_ (List.take (i + 1) (Ls (k1 - 1))) (Ls k1)) by rw [fo_s hil, hv, if_neg (by decide), pd_snoc]] at hM
            have hM : mm_ G (mu_ (mu_ (mu_ (mu_ (mu_ (mu_ (mu_ (mu_ (mu_ (mu_ M (am 2) (ia_ G 64 w)) (am 3) (la_ G 10 f)) (am 4) (ia_ G 10 g0)) (am 5) (ia_ G 17 cf)) (am 6) (la_ G 170 sf)) (am 7) (ia_ G 170 qf)) (am 8) (la_ G 17 uf)) (am 9) (la_ G 17 lf)) (am 10) (ia_ G 32 (wl_ (pd_ (fo_ (List.take (i + 1) (Ls (k1 - 1))) (Ls k1)))))) (am 0) (ob_ 6 [.ref (am 1), .ref (am 2), .int (nI hs), .long (hi_ N), .long (lo_ N), .long (hi_ Vt), .long (lo_ Vt), .int (nI Pd.length), .ref (am 3), .ref (am 4), .int (nI nw), .ref (am 5), .ref (am 6), .ref (am 7), .ref (am 8), .ref (am 9), .long (hi_ (mvA_ N Ls k1 Hd)), .long (lo_ (mvA_ N Ls k1 Hd)), .int (nI fc), .long x1, .long x0, .ref (am 10)])) H := hM
            refine lv_iinc (k := 3) (v := nI ((10 * (k1 - 1) + i) + 1)) (lv' := [(3, .int (nI ((10 * (k1 - 1) + i) + 1))), (0, .ref (am 0)), (1, .int (nI k1)), (2, .int (nI p0))]) hx hb dd_M_moveTo_132 hl rfl (inc_ (10 * (k1 - 1) + i)) (by decide) rfl (fun ls hl => ?_)
            refine lv_goto (tgt := 88) hx hb dd_M_moveTo_135 rfl ?_
            exact ih2 (i + 1) _ _ _ _ _ (by omega) hM hS (lv_sub hl [1, 2, 3, 0] rfl)
      rw [show wl_ 1 = wl_ (pd_ (fo_ (List.take 0 (Ls (k1 - 1))) (Ls k1))) by simp [fo_, pd_]] at hM
      exact loop_88 (List.length (Ls (k1 - 1))) 0 _ _ _ _ _ (Nat.zero_add _) hM hS (lv_sub hl [1, 2, 3, 0] rfl)
    | succ k ih =>
      intro i x1 x0 H locs ls hi hM hS hl
      have hil : i < List.length (Ls k1) := by omega
      have hll := hLn k1
      have hp0 : pr_ (Ls k1) i < 2147483648 := by rw [pr_at hil]; exact hLp _ _ (List.getElem_mem hil)
      refine lv_iload_n hx hb dd_M_moveTo_5 rfl (lv_at hl 3 rfl) ?_
      refine lv_bipush (v := nI 10) hx hb dd_M_moveTo_6 (by decide) ?_
      refine lv_iload_n hx hb dd_M_moveTo_8 rfl (lv_at hl 1 rfl) ?_
      refine lv_imul hx hb dd_M_moveTo_9 ?_
      refine mr_vi (pk_mul 10 k1) ?_
      refine lv_aload_n hx hb dd_M_moveTo_10 rfl (lv_at hl 0 rfl) ?_
      refine mr_get C0 hM fk_M_87 mu_s (v := .ref (am 5)) rfl dd_M_moveTo_11 ?_
      refine lv_iload_n hx hb dd_M_moveTo_14 rfl (lv_at hl 1 rfl) ?_
      refine mr_iald C0 hM (mu_n' (hne (i := 5) (j := 0) (by decide)) (mu_n' (hne (i := 5) (j := 10) (by decide)) (mu_n' (hne (i := 5) (j := 9) (by decide)) (mu_n' (hne (i := 5) (j := 8) (by decide)) (mu_n' (hne (i := 5) (j := 7) (by decide)) (mu_n' (hne (i := 5) (j := 6) (by decide)) mu_s)))))) (k1) (rfl) (by omega) (by decide) dd_M_moveTo_15 ?_
      refine mr_vi (x' := nI (List.length (Ls k1))) (hm1.1) ?_
      refine lv_iadd hx hb dd_M_moveTo_16 ?_
      refine mr_vi (nI_add (10 * k1) (List.length (Ls k1))) ?_
      refine lv_icmp_ge (tgt := 76) hx hb dd_M_moveTo_17 rfl (fun hc => absurd hc (nle_nI (a := ((10 * k1) + (List.length (Ls k1)))) (b := (10 * k1 + i)) (by omega) (by omega) (by omega))) (fun _ => ?_)
      refine lv_aload_n hx hb dd_M_moveTo_20 rfl (lv_at hl 0 rfl) ?_
      refine lv_iload_n hx hb dd_M_moveTo_21 rfl (lv_at hl 1 rfl) ?_
      refine lv_iconst (v := nI 1) hx hb dd_M_moveTo_22 (by decide) ?_
      refine lv_isub hx hb dd_M_moveTo_23 ?_
      refine mr_vi (pk_sub (a := k1) (b := 1) (by omega)) ?_
      refine lv_aload_n hx hb dd_M_moveTo_24 rfl (lv_at hl 0 rfl) ?_
      refine mr_get C0 hM fk_M_90 mu_s (v := .ref (am 6)) rfl dd_M_moveTo_25 ?_
      refine lv_iload_n hx hb dd_M_moveTo_28 rfl (lv_at hl 3 rfl) ?_
      refine mr_lald C0 hM (mu_n' (hne (i := 6) (j := 0) (by decide)) (mu_n' (hne (i := 6) (j := 10) (by decide)) (mu_n' (hne (i := 6) (j := 9) (by decide)) (mu_n' (hne (i := 6) (j := 8) (by decide)) (mu_n' (hne (i := 6) (j := 7) (by decide)) mu_s))))) ((10 * k1 + i)) (rfl) (by omega) (by decide) dd_M_moveTo_29 ?_
      refine mr_vl (x' := sr_ (Ls k1) i) ((hm1.2.2 i hil).1) ?_
      refine mr_callV (As := [.int (nI (k1 - 1)), .long (sr_ (Ls k1) i)]) (rest := []) C0 hM hS vk_M_216 mu_s rfl (c_M_placeIn l mu_s (mu_n' (hne (i := 5) (j := 0) (by decide)) (mu_n' (hne (i := 5) (j := 10) (by decide)) (mu_n' (hne (i := 5) (j := 9) (by decide)) (mu_n' (hne (i := 5) (j := 8) (by decide)) (mu_n' (hne (i := 5) (j := 7) (by decide)) (mu_n' (hne (i := 5) (j := 6) (by decide)) mu_s)))))) (mu_n' (hne (i := 6) (j := 0) (by decide)) (mu_n' (hne (i := 6) (j := 10) (by decide)) (mu_n' (hne (i := 6) (j := 9) (by decide)) (mu_n' (hne (i := 6) (j := 8) (by decide)) (mu_n' (hne (i := 6) (j := 7) (by decide)) mu_s)))))  (by omega) (hme (k1 - 1) (by omega)).1 (hLn (k1 - 1)) (fun j hj => ((hme (k1 - 1) (by omega)).2.2 j hj).1)) rfl rfl hl.1 (Nat.le_of_ble_eq_true rfl) rfl rfl (by subst hR; exact ⟨Nat.le_of_ble_eq_true rfl, Nat.le_of_ble_eq_true rfl⟩) (by subst hR; exact ⟨Nat.le_of_ble_eq_true rfl, Nat.le_of_ble_eq_true rfl⟩) dd_M_moveTo_30 (fun v1 M1 H locs hp hM hS => ?_)
      obtain ⟨ev1, eM1⟩ := hp
      subst ev1
      rw [eM1] at hM
      refine W.eq (g2 := F0 m 33 ls [.int (mz_ (Ls (k1 - 1)) (k1 - 1) (sr_ (Ls k1) i))]) rfl ?_
      refine lv_if_ge (tgt := 70) hx hb dd_M_moveTo_33 rfl (fun h33 => ?_) (fun h33 => ?_)
      · skip
        have hv : hs_ (Ls (k1 - 1)) (sr_ (Ls k1) i) = true := by
          cases h : hs_ (Ls (k1 - 1)) (sr_ (Ls k1) i) with
          | true => rfl
          | false => exact absurd ((mz_neg (hLn _) (by omega)).mpr h) (Int32.not_lt.mpr h33)
        rw [show fo_ (List.take i (Ls k1)) (Ls (k1 - 1)) = fo_ (List.take (i + 1) (Ls k1)) (Ls (k1 - 1)) by rw [fo_s hil, hv, if_pos rfl, List.append_nil]] at hM
        have hM : mm_ G (mu_ (mu_ (mu_ (mu_ (mu_ (mu_ (mu_ (mu_ (mu_ (mu_ M (am 2) (ia_ G 64 w)) (am 3) (la_ G 10 f)) (am 4) (ia_ G 10 g0)) (am 5) (ia_ G 17 cf)) (am 6) (la_ G 170 sf)) (am 7) (ia_ G 170 qf)) (am 8) (la_ G 17 uf)) (am 9) (la_ G 17 lf)) (am 10) (ia_ G 32 xw)) (am 0) (ob_ 6 [.ref (am 1), .ref (am 2), .int (nI hs), .long (hi_ N), .long (lo_ N), .long (hi_ Vt), .long (lo_ Vt), .int (nI Pd.length), .ref (am 3), .ref (am 4), .int (nI nw), .ref (am 5), .ref (am 6), .ref (am 7), .ref (am 8), .ref (am 9), .long (hi_ (Hd ^ pd_ (fo_ (List.take (i + 1) (Ls k1)) (Ls (k1 - 1))) % N)), .long (lo_ (Hd ^ pd_ (fo_ (List.take (i + 1) (Ls k1)) (Ls (k1 - 1))) % N)), .int (nI fc), .long x1, .long x0, .ref (am 10)])) H := hM
        refine lv_iinc (k := 3) (v := nI ((10 * k1 + i) + 1)) (lv' := [(3, .int (nI ((10 * k1 + i) + 1))), (0, .ref (am 0)), (1, .int (nI k1)), (2, .int (nI p0))]) hx hb dd_M_moveTo_70 hl rfl (inc_ (10 * k1 + i)) (by decide) rfl (fun ls hl => ?_)
        refine lv_goto (tgt := 5) hx hb dd_M_moveTo_73 rfl ?_
        exact ih (i + 1) _ _ _ _ _ (by omega) hM hS (lv_sub hl [1, 2, 3, 0] rfl)
      · skip
        have hv : hs_ (Ls (k1 - 1)) (sr_ (Ls k1) i) = false := (mz_neg (hLn _) (by omega)).mp (Int32.not_le.mp h33)
        refine lv_aload_n hx hb dd_M_moveTo_36 rfl (lv_at hl 0 rfl) ?_
        refine lv_aload_n hx hb dd_M_moveTo_37 rfl (lv_at hl 0 rfl) ?_
        refine mr_get C0 hM fk_M_226 mu_s (v := .long (hi_ (Hd ^ pd_ (fo_ (List.take i (Ls k1)) (Ls (k1 - 1))) % N))) rfl dd_M_moveTo_38 ?_
        refine lv_aload_n hx hb dd_M_moveTo_41 rfl (lv_at hl 0 rfl) ?_
        refine mr_get C0 hM fk_M_229 mu_s (v := .long (lo_ (Hd ^ pd_ (fo_ (List.take i (Ls k1)) (Ls (k1 - 1))) % N))) rfl dd_M_moveTo_42 ?_
        refine lv_aload_n hx hb dd_M_moveTo_45 rfl (lv_at hl 0 rfl) ?_
        refine mr_get C0 hM fk_M_93 mu_s (v := .ref (am 7)) rfl dd_M_moveTo_46 ?_
        refine lv_iload_n hx hb dd_M_moveTo_49 rfl (lv_at hl 3 rfl) ?_
        refine mr_iald C0 hM (mu_n' (hne (i := 7) (j := 0) (by decide)) (mu_n' (hne (i := 7) (j := 10) (by decide)) (mu_n' (hne (i := 7) (j := 9) (by decide)) (mu_n' (hne (i := 7) (j := 8) (by decide)) mu_s)))) ((10 * k1 + i)) (rfl) (by omega) (by decide) dd_M_moveTo_50 ?_
        refine mr_vi (x' := nI (pr_ (Ls k1) i)) ((hm1.2.2 i hil).2) ?_
        refine mr_callV (As := [.long (hi_ (Hd ^ pd_ (fo_ (List.take i (Ls k1)) (Ls (k1 - 1))) % N)), .long (lo_ (Hd ^ pd_ (fo_ (List.take i (Ls k1)) (Ls (k1 - 1))) % N)), .int (nI (pr_ (Ls k1) i))]) (rest := []) C0 hM hS vk_M_212 mu_s rfl (c_M_power l mu_s  (hN hh1).1 (Nat.mod_lt _ hN0) hN1 hp0) rfl rfl hl.1 (Nat.le_of_ble_eq_true rfl) rfl rfl (by subst hR; exact ⟨Nat.le_of_ble_eq_true rfl, Nat.le_of_ble_eq_true rfl⟩) (by subst hR; exact ⟨Nat.le_of_ble_eq_true rfl, Nat.le_of_ble_eq_true rfl⟩) dd_M_moveTo_51 (fun v1 M1 H locs hp hM hS => ?_)
        obtain ⟨ev1, eM1⟩ := hp
        subst ev1
        rw [eM1] at hM
        have hM := mr_M mu_mu hM
        have hM : mm_ G (mu_ (mu_ (mu_ (mu_ (mu_ (mu_ (mu_ (mu_ (mu_ (mu_ M (am 2) (ia_ G 64 w)) (am 3) (la_ G 10 f)) (am 4) (ia_ G 10 g0)) (am 5) (ia_ G 17 cf)) (am 6) (la_ G 170 sf)) (am 7) (ia_ G 170 qf)) (am 8) (la_ G 17 uf)) (am 9) (la_ G 17 lf)) (am 10) (ia_ G 32 xw)) (am 0) (ob_ 6 [.ref (am 1), .ref (am 2), .int (nI hs), .long (hi_ N), .long (lo_ N), .long (hi_ Vt), .long (lo_ Vt), .int (nI Pd.length), .ref (am 3), .ref (am 4), .int (nI nw), .ref (am 5), .ref (am 6), .ref (am 7), .ref (am 8), .ref (am 9), .long (hi_ (Hd ^ pd_ (fo_ (List.take i (Ls k1)) (Ls (k1 - 1))) % N)), .long (lo_ (Hd ^ pd_ (fo_ (List.take i (Ls k1)) (Ls (k1 - 1))) % N)), .int (nI fc), .long (hi_ ((Hd ^ pd_ (fo_ (List.take i (Ls k1)) (Ls (k1 - 1))) % N) ^ pr_ (Ls k1) i % N)), .long (lo_ ((Hd ^ pd_ (fo_ (List.take i (Ls k1)) (Ls (k1 - 1))) % N) ^ pr_ (Ls k1) i % N)), .ref (am 10)])) H := hM
        refine W.eq (g2 := F0 m 54 ls []) rfl ?_
        refine lv_aload_n hx hb dd_M_moveTo_54 rfl (lv_at hl 0 rfl) ?_
        refine lv_aload_n hx hb dd_M_moveTo_55 rfl (lv_at hl 0 rfl) ?_
        refine mr_get C0 hM fk_M_154 mu_s (v := .long (hi_ ((Hd ^ pd_ (fo_ (List.take i (Ls k1)) (Ls (k1 - 1))) % N) ^ pr_ (Ls k1) i % N))) rfl dd_M_moveTo_56 ?_
        refine mr_put C0 hM hS fk_M_226 fp_M_226 mu_s rfl (rfl) (rfl) (Nat.le_of_ble_eq_true rfl) dd_M_moveTo_59 (fun H locs hM hS => ?_)
        have hM := mr_M mu_mu hM
        have hM : mm_ G (mu_ (mu_ (mu_ (mu_ (mu_ (mu_ (mu_ (mu_ (mu_ (mu_ M (am 2) (ia_ G 64 w)) (am 3) (la_ G 10 f)) (am 4) (ia_ G 10 g0)) (am 5) (ia_ G 17 cf)) (am 6) (la_ G 170 sf)) (am 7) (ia_ G 170 qf)) (am 8) (la_ G 17 uf)) (am 9) (la_ G 17 lf)) (am 10) (ia_ G 32 xw)) (am 0) (ob_ 6 [.ref (am 1), .ref (am 2), .int (nI hs), .long (hi_ N), .long (lo_ N), .long (hi_ Vt), .long (lo_ Vt), .int (nI Pd.length), .ref (am 3), .ref (am 4), .int (nI nw), .ref (am 5), .ref (am 6), .ref (am 7), .ref (am 8), .ref (am 9), .long (hi_ ((Hd ^ pd_ (fo_ (List.take i (Ls k1)) (Ls (k1 - 1))) % N) ^ pr_ (Ls k1) i % N)), .long (lo_ (Hd ^ pd_ (fo_ (List.take i (Ls k1)) (Ls (k1 - 1))) % N)), .int (nI fc), .long (hi_ ((Hd ^ pd_ (fo_ (List.take i (Ls k1)) (Ls (k1 - 1))) % N) ^ pr_ (Ls k1) i % N)), .long (lo_ ((Hd ^ pd_ (fo_ (List.take i (Ls k1)) (Ls (k1 - 1))) % N) ^ pr_ (Ls k1) i % N)), .ref (am 10)])) H := hM
        refine lv_aload_n hx hb dd_M_moveTo_62 rfl (lv_at hl 0 rfl) ?_
        refine lv_aload_n hx hb dd_M_moveTo_63 rfl (lv_at hl 0 rfl) ?_
        refine mr_get C0 hM fk_M_151 mu_s (v := .long (lo_ ((Hd ^ pd_ (fo_ (List.take i (Ls k1)) (Ls (k1 - 1))) % N) ^ pr_ (Ls k1) i % N))) rfl dd_M_moveTo_64 ?_
        refine mr_put C0 hM hS fk_M_229 fp_M_229 mu_s rfl (rfl) (rfl) (Nat.le_of_ble_eq_true rfl) dd_M_moveTo_67 (fun H locs hM hS => ?_)
        have hM := mr_M mu_mu hM
        have hM : mm_ G (mu_ (mu_ (mu_ (mu_ (mu_ (mu_ (mu_ (mu_ (mu_ (mu_ M (am 2) (ia_ G 64 w)) (am 3) (la_ G 10 f)) (am 4) (ia_ G 10 g0)) (am 5) (ia_ G 17 cf)) (am 6) (la_ G 170 sf)) (am 7) (ia_ G 170 qf)) (am 8) (la_ G 17 uf)) (am 9) (la_ G 17 lf)) (am 10) (ia_ G 32 xw)) (am 0) (ob_ 6 [.ref (am 1), .ref (am 2), .int (nI hs), .long (hi_ N), .long (lo_ N), .long (hi_ Vt), .long (lo_ Vt), .int (nI Pd.length), .ref (am 3), .ref (am 4), .int (nI nw), .ref (am 5), .ref (am 6), .ref (am 7), .ref (am 8), .ref (am 9), .long (hi_ ((Hd ^ pd_ (fo_ (List.take i (Ls k1)) (Ls (k1 - 1))) % N) ^ pr_ (Ls k1) i % N)), .long (lo_ ((Hd ^ pd_ (fo_ (List.take i (Ls k1)) (Ls (k1 - 1))) % N) ^ pr_ (Ls k1) i % N)), .int (nI fc), .long (hi_ ((Hd ^ pd_ (fo_ (List.take i (Ls k1)) (Ls (k1 - 1))) % N) ^ pr_ (Ls k1) i % N)), .long (lo_ ((Hd ^ pd_ (fo_ (List.take i (Ls k1)) (Ls (k1 - 1))) % N) ^ pr_ (Ls k1) i % N)), .ref (am 10)])) H := hM
        rw [pw_pw, show pd_ (fo_ (List.take i (Ls k1)) (Ls (k1 - 1))) * pr_ (Ls k1) i = pd_ (fo_ (List.take (i + 1) (Ls k1)) (Ls (k1 - 1))) by rw [fo_s hil, hv, if_neg (by decide), pd_snoc]] at hM
        have hM : mm_ G (mu_ (mu_ (mu_ (mu_ (mu_ (mu_ (mu_ (mu_ (mu_ (mu_ M (am 2) (ia_ G 64 w)) (am 3) (la_ G 10 f)) (am 4) (ia_ G 10 g0)) (am 5) (ia_ G 17 cf)) (am 6) (la_ G 170 sf)) (am 7) (ia_ G 170 qf)) (am 8) (la_ G 17 uf)) (am 9) (la_ G 17 lf)) (am 10) (ia_ G 32 xw)) (am 0) (ob_ 6 [.ref (am 1), .ref (am 2), .int (nI hs), .long (hi_ N), .long (lo_ N), .long (hi_ Vt), .long (lo_ Vt), .int (nI Pd.length), .ref (am 3), .ref (am 4), .int (nI nw), .ref (am 5), .ref (am 6), .ref (am 7), .ref (am 8), .ref (am 9), .long (hi_ (Hd ^ pd_ (fo_ (List.take (i + 1) (Ls k1)) (Ls (k1 - 1))) % N)), .long (lo_ (Hd ^ pd_ (fo_ (List.take (i + 1) (Ls k1)) (Ls (k1 - 1))) % N)), .int (nI fc), .long (hi_ (Hd ^ pd_ (fo_ (List.take (i + 1) (Ls k1)) (Ls (k1 - 1))) % N)), .long (lo_ (Hd ^ pd_ (fo_ (List.take (i + 1) (Ls k1)) (Ls (k1 - 1))) % N)), .ref (am 10)])) H := hM
        refine lv_iinc (k := 3) (v := nI ((10 * k1 + i) + 1)) (lv' := [(3, .int (nI ((10 * k1 + i) + 1))), (0, .ref (am 0)), (1, .int (nI k1)), (2, .int (nI p0))]) hx hb dd_M_moveTo_70 hl rfl (inc_ (10 * k1 + i)) (by decide) rfl (fun ls hl => ?_)
        refine lv_goto (tgt := 5) hx hb dd_M_moveTo_73 rfl ?_
        exact ih (i + 1) _ _ _ _ _ (by omega) hM hS (lv_sub hl [1, 2, 3, 0] rfl)
  rw [show Hd = Hd ^ pd_ (fo_ (List.take 0 (Ls k1)) (Ls (k1 - 1))) % N by simp [fo_, pd_, Nat.mod_eq_of_lt (hHd hh1)]] at hM
  exact loop_5 (List.length (Ls k1)) 0 _ _ _ _ _ (Nat.zero_add _) hM hS (lv_sub hl [1, 2, 3, 0] rfl)
