theorem mu_c7 {M : mw_} {a b1 b2 b3 b4 b5 b6 : Nat} {e e' f_b1 f_b2 f_b3 f_b4 f_b5 f_b6 : va_E} (h_b1 : a ≠ b1) (h_b2 : a ≠ b2) (h_b3 : a ≠ b3) (h_b4 : a ≠ b4) (h_b5 : a ≠ b5) (h_b6 : a ≠ b6) : mu_ (mu_ (mu_ (mu_ (mu_ (mu_ (mu_ (mu_ M a e) b1 f_b1) b2 f_b2) b3 f_b3) b4 f_b4) b5 f_b5) b6 f_b6) a e' = mu_ (mu_ (mu_ (mu_ (mu_ (mu_ (mu_ M a e') b1 f_b1) b2 f_b2) b3 f_b3) b4 f_b4) b5 f_b5) b6 f_b6 := by
  rw [← mu_sw h_b6, mu_c6 h_b1 h_b2 h_b3 h_b4 h_b5]
theorem mu_c8 {M : mw_} {a b1 b2 b3 b4 b5 b6 b7 : Nat} {e e' f_b1 f_b2 f_b3 f_b4 f_b5 f_b6 f_b7 : va_E} (h_b1 : a ≠ b1) (h_b2 : a ≠ b2) (h_b3 : a ≠ b3) (h_b4 : a ≠ b4) (h_b5 : a ≠ b5) (h_b6 : a ≠ b6) (h_b7 : a ≠ b7) : mu_ (mu_ (mu_ (mu_ (mu_ (mu_ (mu_ (mu_ (mu_ M a e) b1 f_b1) b2 f_b2) b3 f_b3) b4 f_b4) b5 f_b5) b6 f_b6) b7 f_b7) a e' = mu_ (mu_ (mu_ (mu_ (mu_ (mu_ (mu_ (mu_ M a e') b1 f_b1) b2 f_b2) b3 f_b3) b4 f_b4) b5 f_b5) b6 f_b6) b7 f_b7 := by
  rw [← mu_sw h_b7, mu_c7 h_b1 h_b2 h_b3 h_b4 h_b5 h_b6]
theorem mu_c9 {M : mw_} {a b1 b2 b3 b4 b5 b6 b7 b8 : Nat} {e e' f_b1 f_b2 f_b3 f_b4 f_b5 f_b6 f_b7 f_b8 : va_E} (h_b1 : a ≠ b1) (h_b2 : a ≠ b2) (h_b3 : a ≠ b3) (h_b4 : a ≠ b4) (h_b5 : a ≠ b5) (h_b6 : a ≠ b6) (h_b7 : a ≠ b7) (h_b8 : a ≠ b8) : mu_ (mu_ (mu_ (mu_ (mu_ (mu_ (mu_ (mu_ (mu_ (mu_ M a e) b1 f_b1) b2 f_b2) b3 f_b3) b4 f_b4) b5 f_b5) b6 f_b6) b7 f_b7) b8 f_b8) a e' = mu_ (mu_ (mu_ (mu_ (mu_ (mu_ (mu_ (mu_ (mu_ M a e') b1 f_b1) b2 f_b2) b3 f_b3) b4 f_b4) b5 f_b5) b6 f_b6) b7 f_b7) b8 f_b8 := by
  rw [← mu_sw h_b8, mu_c8 h_b1 h_b2 h_b3 h_b4 h_b5 h_b6 h_b7]
theorem mu_c10 {M : mw_} {a b1 b2 b3 b4 b5 b6 b7 b8 b9 : Nat} {e e' f_b1 f_b2 f_b3 f_b4 f_b5 f_b6 f_b7 f_b8 f_b9 : va_E} (h_b1 : a ≠ b1) (h_b2 : a ≠ b2) (h_b3 : a ≠ b3) (h_b4 : a ≠ b4) (h_b5 : a ≠ b5) (h_b6 : a ≠ b6) (h_b7 : a ≠ b7) (h_b8 : a ≠ b8) (h_b9 : a ≠ b9) : mu_ (mu_ (mu_ (mu_ (mu_ (mu_ (mu_ (mu_ (mu_ (mu_ (mu_ M a e) b1 f_b1) b2 f_b2) b3 f_b3) b4 f_b4) b5 f_b5) b6 f_b6) b7 f_b7) b8 f_b8) b9 f_b9) a e' = mu_ (mu_ (mu_ (mu_ (mu_ (mu_ (mu_ (mu_ (mu_ (mu_ M a e') b1 f_b1) b2 f_b2) b3 f_b3) b4 f_b4) b5 f_b5) b6 f_b6) b7 f_b7) b8 f_b8) b9 f_b9 := by
  rw [← mu_sw h_b9, mu_c9 h_b1 h_b2 h_b3 h_b4 h_b5 h_b6 h_b7 h_b8]
theorem mu_c11 {M : mw_} {a b1 b2 b3 b4 b5 b6 b7 b8 b9 b10 : Nat} {e e' f_b1 f_b2 f_b3 f_b4 f_b5 f_b6 f_b7 f_b8 f_b9 f_b10 : va_E} (h_b1 : a ≠ b1) (h_b2 : a ≠ b2) (h_b3 : a ≠ b3) (h_b4 : a ≠ b4) (h_b5 : a ≠ b5) (h_b6 : a ≠ b6) (h_b7 : a ≠ b7) (h_b8 : a ≠ b8) (h_b9 : a ≠ b9) (h_b10 : a ≠ b10) : mu_ (mu_ (mu_ (mu_ (mu_ (mu_ (mu_ (mu_ (mu_ (mu_ (mu_ (mu_ M a e) b1 f_b1) b2 f_b2) b3 f_b3) b4 f_b4) b5 f_b5) b6 f_b6) b7 f_b7) b8 f_b8) b9 f_b9) b10 f_b10) a e' = mu_ (mu_ (mu_ (mu_ (mu_ (mu_ (mu_ (mu_ (mu_ (mu_ (mu_ M a e') b1 f_b1) b2 f_b2) b3 f_b3) b4 f_b4) b5 f_b5) b6 f_b6) b7 f_b7) b8 f_b8) b9 f_b9) b10 f_b10 := by
  rw [← mu_sw h_b10, mu_c10 h_b1 h_b2 h_b3 h_b4 h_b5 h_b6 h_b7 h_b8 h_b9]
theorem mu_c12 {M : mw_} {a b1 b2 b3 b4 b5 b6 b7 b8 b9 b10 b11 : Nat} {e e' f_b1 f_b2 f_b3 f_b4 f_b5 f_b6 f_b7 f_b8 f_b9 f_b10 f_b11 : va_E} (h_b1 : a ≠ b1) (h_b2 : a ≠ b2) (h_b3 : a ≠ b3) (h_b4 : a ≠ b4) (h_b5 : a ≠ b5) (h_b6 : a ≠ b6) (h_b7 : a ≠ b7) (h_b8 : a ≠ b8) (h_b9 : a ≠ b9) (h_b10 : a ≠ b10) (h_b11 : a ≠ b11) : mu_ (mu_ (mu_ (mu_ (mu_ (mu_ (mu_ (mu_ (mu_ (mu_ (mu_ (mu_ (mu_ M a e) b1 f_b1) b2 f_b2) b3 f_b3) b4 f_b4) b5 f_b5) b6 f_b6) b7 f_b7) b8 f_b8) b9 f_b9) b10 f_b10) b11 f_b11) a e' = mu_ (mu_ (mu_ (mu_ (mu_ (mu_ (mu_ (mu_ (mu_ (mu_ (mu_ (mu_ M a e') b1 f_b1) b2 f_b2) b3 f_b3) b4 f_b4) b5 f_b5) b6 f_b6) b7 f_b7) b8 f_b8) b9 f_b9) b10 f_b10) b11 f_b11 := by
  rw [← mu_sw h_b11, mu_c11 h_b1 h_b2 h_b3 h_b4 h_b5 h_b6 h_b7 h_b8 h_b9 h_b10]

def ac_ (N : Nat) (L : rl_) : Nat := 3 ^ pd_ L % N
/-- what the model's arrays hold of the state -/
def mrl_ (hs N : Nat) (Pd : rl_) (Ls : Nat → rl_) (nw : Nat) (f : Nat → Int64) (g cf : Nat → Int32) (sf : Nat → Int64) (qf : Nat → Int32) (uf lf : Nat → Int64) : Prop := ro_ f g Pd ∧ me_ cf sf qf Ls ∧ (hs = 1 → ∀ e, e ≤ nw → uf e = hi_ (ac_ N (Ls e)) ∧ lf e = lo_ (ac_ N (Ls e)))
/-- what holds of every state of the register -/
def okS_ (Pd : rl_) (Ls : Nat → rl_) (nw : Nat) : Prop := Pd.length ≤ 10 ∧ (∀ e, (Ls e).length ≤ 10) ∧ nw ≤ 16 ∧ (∀ x ∈ Pd, x.2 < 2147483648) ∧ (∀ e, ∀ x ∈ Ls e, x.2 < 2147483648) ∧ (Pd.map (·.1)).Nodup ∧ (∀ e, ((Ls e).map (·.1)).Nodup)
def pn_ (p : Int32) : Nat := p.toBitVec.toNat
def szR_ (hs : Nat) (Pd : rl_) (Ls : Nat → rl_) (nw : Nat) (k : Int32) : Int32 := if hs = 0 then (-1) else if k = 0 then nI (Ls nw).length else if k = nI 1 then nI Pd.length else if k = nI 2 then nI nw else (-2)
theorem pz_ge {L : rl_} {s : Int64} (hn : L.length ≤ 10) : ¬ pz_ L s < 0 ↔ hs_ L s = true := by
  rw [pz_neg hn]; cases hs_ L s <;> simp
theorem mz_neg {L : rl_} {s : Int64} {e : Nat} (hn : L.length ≤ 10) (he : e < 17) : mz_ L e s < 0 ↔ hs_ L s = false := by
  rw [hs_px]
  unfold mz_
  cases h : px_ L s with
  | none => simp
  | some i =>
    have := (px_lt h).1
    simp
    exact nI_pos' (by omega)

/-- the model's memory over M, for a state of the register -/
def MWx_ (M : mw_) (am : Nat → Nat) (G : mg_) (hs N Vt : Nat) (Pd : rl_) (Ls : Nat → rl_) (nw Hd fc : Nat) (M' : mw_) : Prop := ∃ (w g0 cf qf xw : Nat → Int32) (f sf uf lf : Nat → Int64) (r1 r0 : Int64), mrl_ hs N Pd Ls nw f g0 cf sf qf uf lf ∧ M' = mu_ (mu_ (mu_ (mu_ (mu_ (mu_ (mu_ (mu_ (mu_ (mu_ M (am 2) (ia_ G 64 w)) (am 3) (la_ G 10 f)) (am 4) (ia_ G 10 g0)) (am 5) (ia_ G 17 cf)) (am 6) (la_ G 170 sf)) (am 7) (ia_ G 170 qf)) (am 8) (la_ G 17 uf)) (am 9) (la_ G 17 lf)) (am 10) (ia_ G 32 xw)) (am 0) (ob_ 6 [.ref (am 1), .ref (am 2), .int (nI hs), .long (hi_ N), .long (lo_ N), .long (hi_ Vt), .long (lo_ Vt), .int (nI Pd.length), .ref (am 3), .ref (am 4), .int (nI nw), .ref (am 5), .ref (am 6), .ref (am 7), .ref (am 8), .ref (am 9), .long (hi_ Hd), .long (lo_ Hd), .int (nI fc), .long r1, .long r0, .ref (am 10)])

def hdR_ (Hd : Nat) (b : Int32) : Int64 := if b = 0 then lo_ Hd else hi_ Hd
def fcR_ (hs fc : Nat) : Int32 := if hs = 0 then (-1) else nI fc
noncomputable def acR_ (hs N : Nat) (Ls : Nat → rl_) (nw : Nat) (e b : Int32) : Int64 := @ite _ (hs = 1 ∧ ep_ e nw) (Classical.propDecidable _) (hdR_ (ac_ N (Ls (pn_ e))) b) (lN 0)
theorem pn_i {k : Nat} (h : k < 2147483648) : pn_ (nI k) = k := pk_tn (by omega)
theorem acR_n {hs N : Nat} {Ls : Nat → rl_} {nw : Nat} {e b : Int32} (h : ¬ (hs = 1 ∧ ep_ e nw)) : acR_ hs N Ls nw e b = lN 0 := by unfold acR_; exact if_neg h
theorem acR_y {hs N : Nat} {Ls : Nat → rl_} {nw : Nat} {b : Int32} {k : Nat} (h : hs = 1) (hk : k ≤ nw) (hn : nw ≤ 16) : acR_ hs N Ls nw (nI k) b = hdR_ (ac_ N (Ls k)) b := by
  unfold acR_
  rw [if_pos ⟨h, k, hk, rfl⟩, pn_i (by omega)]

def hoR_ (hs N V : Nat) (c : Int32) : Prop := hs = 1 ∧ V < N ∧ ¬ c < 0
noncomputable def hoI_ (hs N V : Nat) (c : Int32) : Int32 := @ite _ (hoR_ hs N V c) (Classical.propDecidable _) (nI 1) (nI 0)
theorem hoI_y {hs N V : Nat} {c : Int32} (h : hoR_ hs N V c) : hoI_ hs N V c = nI 1 := by unfold hoI_; exact if_pos h
theorem hoI_n {hs N V : Nat} {c : Int32} (h : ¬ hoR_ hs N V c) : hoI_ hs N V c = nI 0 := by unfold hoI_; exact if_neg h
noncomputable def hoH_ (hs N V : Nat) (c : Int32) (Hd : Nat) : Nat := @ite _ (hoR_ hs N V c) (Classical.propDecidable _) V Hd
noncomputable def hoF_ (hs N V : Nat) (c : Int32) (fc : Nat) : Nat := @ite _ (hoR_ hs N V c) (Classical.propDecidable _) (pn_ c) fc
theorem hoH_y {hs N V : Nat} {c : Int32} {Hd : Nat} (h : hoR_ hs N V c) : hoH_ hs N V c Hd = V := by unfold hoH_; exact if_pos h
theorem hoH_n {hs N V : Nat} {c : Int32} {Hd : Nat} (h : ¬ hoR_ hs N V c) : hoH_ hs N V c Hd = Hd := by unfold hoH_; exact if_neg h
theorem hoF_y {hs N V : Nat} {c : Int32} {fc : Nat} (h : hoR_ hs N V c) : hoF_ hs N V c fc = pn_ c := by unfold hoF_; exact if_pos h
theorem hoF_n {hs N V : Nat} {c : Int32} {fc : Nat} (h : ¬ hoR_ hs N V c) : hoF_ hs N V c fc = fc := by unfold hoF_; exact if_neg h
theorem i_pn (c : Int32) : nI (pn_ c) = c := by
  apply Int32.toBitVec_inj.mp
  show BitVec.ofNat 32 _ = _
  simp [pn_]

set_option maxHeartbeats 4000000 in
set_option maxRecDepth 100000 in
theorem c_M_size (l : Launch) {G : mg_} {M : mw_} {am : Nat → Nat} {hs N Vt nw Hd fc : Nat} {Pd : rl_} {Ls : Nat → rl_} {w g0 cf qf xw : Nat → Int32} {f sf uf lf : Nat → Int64} {r1 r0 : Int64} {k0 : Int32}   (hne : ∀ {i j : Nat}, i ≠ j → am i ≠ am j) (hk : M (am 1) = some (la_ G 32 mk_)) (hrl : mrl_ hs N Pd Ls nw f g0 cf sf qf uf lf) (hok : okS_ Pd Ls nw) (hhs : hs ≤ 1)  : ct_ l my_M_size cd_M_size 2 (some .int) { frames := 0, cells := 0, slots := 0, locals := 0 } G [.ref (am 0), .int k0] (mu_ (mu_ (mu_ (mu_ (mu_ (mu_ (mu_ (mu_ (mu_ (mu_ M (am 2) (ia_ G 64 w)) (am 3) (la_ G 10 f)) (am 4) (ia_ G 10 g0)) (am 5) (ia_ G 17 cf)) (am 6) (la_ G 170 sf)) (am 7) (ia_ G 170 qf)) (am 8) (la_ G 17 uf)) (am 9) (la_ G 17 lf)) (am 10) (ia_ G 32 xw)) (am 0) (ob_ 6 [.ref (am 1), .ref (am 2), .int (nI hs), .long (hi_ N), .long (lo_ N), .long (hi_ Vt), .long (lo_ Vt), .int (nI Pd.length), .ref (am 3), .ref (am 4), .int (nI nw), .ref (am 5), .ref (am 6), .ref (am 7), .ref (am 8), .ref (am 9), .long (hi_ Hd), .long (lo_ Hd), .int (nI fc), .long r1, .long r0, .ref (am 10)])) (fun v0 M' => v0 = (some (.int (szR_ hs Pd Ls nw k0))) ∧ MWx_ M am G hs N Vt Pd Ls nw Hd fc M') 0 0 := by
  refine ct_.intro2 (by decide) (Nat.le_of_ble_eq_true rfl) ?_
  intro p e s m args below meth c ls R Q hR hQ C0 hl hM hS
  have hx := C0.1
  have hb := C0.2.1
  have hl : lv_has ls 2 [(0, .ref (am 0)), (1, .int k0)] := hl
  obtain ⟨hro, hme, hul⟩ := hrl
  have hrl : mrl_ hs N Pd Ls nw f g0 cf sf qf uf lf := ⟨hro, hme, hul⟩
  obtain ⟨hPn, hLn, hnw, hPp, hLp, hPd, hLd⟩ := hok
  have hnw17 : nw < 17 := by omega
  have hcn := (hme nw hnw17).1
  refine lv_aload_n hx hb dd_M_size_0 rfl (lv_at hl 0 rfl) ?_
  refine mr_get C0 hM fk_M_181 mu_s (v := .int (nI hs)) rfl dd_M_size_1 ?_
  refine lv_if_ne (tgt := 9) hx hb dd_M_size_4 rfl (fun h4 => ?_) (fun h4 => ?_)
  · skip
    have hh1 : hs = 1 := by
      have h2 : hs ≠ 0 := fun q => h4 (by rw [q]; rfl)
      omega
    refine lv_iload_n hx hb dd_M_size_9 rfl (lv_at hl 1 rfl) ?_
    refine lv_if_ne (tgt := 25) hx hb dd_M_size_10 rfl (fun h10 => ?_) (fun h10 => ?_)
    · skip
      refine lv_iload_n hx hb dd_M_size_25 rfl (lv_at hl 1 rfl) ?_
      refine lv_iconst (v := nI 1) hx hb dd_M_size_26 (by decide) ?_
      refine lv_icmp_ne (tgt := 37) hx hb dd_M_size_27 rfl (fun h27 => ?_) (fun h27 => ?_)
      · skip
        refine lv_iload_n hx hb dd_M_size_37 rfl (lv_at hl 1 rfl) ?_
        refine lv_iconst (v := nI 2) hx hb dd_M_size_38 (by decide) ?_
        refine lv_icmp_ne (tgt := 49) hx hb dd_M_size_39 rfl (fun h39 => ?_) (fun h39 => ?_)
        · skip
          refine lv_bipush (v := (-2 : Int32)) hx hb dd_M_size_49 (by decide) ?_
          exact mr_ret hQ (mr_iret C0 hM hS (rfl) (⟨by unfold szR_; rw [if_neg (by omega), if_neg h10, if_neg h27, if_neg h39], _, _, _, _, _, _, _, _, _, _, _, hrl, rfl⟩) dd_M_size_51)
        · skip
          refine lv_aload_n hx hb dd_M_size_42 rfl (lv_at hl 0 rfl) ?_
          refine mr_get C0 hM fk_M_209 mu_s (v := .int (nI nw)) rfl dd_M_size_43 ?_
          refine lv_goto (tgt := 51) hx hb dd_M_size_46 rfl ?_
          exact mr_ret hQ (mr_iret C0 hM hS (rfl) (⟨by unfold szR_; rw [if_neg (by omega), if_neg h10, if_neg h27, if_pos h39], _, _, _, _, _, _, _, _, _, _, _, hrl, rfl⟩) dd_M_size_51)
      · skip
        refine lv_aload_n hx hb dd_M_size_30 rfl (lv_at hl 0 rfl) ?_
        refine mr_get C0 hM fk_M_198 mu_s (v := .int (nI Pd.length)) rfl dd_M_size_31 ?_
        refine lv_goto (tgt := 51) hx hb dd_M_size_34 rfl ?_
        exact mr_ret hQ (mr_iret C0 hM hS (rfl) (⟨by unfold szR_; rw [if_neg (by omega), if_neg h10, if_pos h27], _, _, _, _, _, _, _, _, _, _, _, hrl, rfl⟩) dd_M_size_51)
    · skip
      refine lv_aload_n hx hb dd_M_size_13 rfl (lv_at hl 0 rfl) ?_
      refine mr_get C0 hM fk_M_87 mu_s (v := .ref (am 5)) rfl dd_M_size_14 ?_
      refine lv_aload_n hx hb dd_M_size_17 rfl (lv_at hl 0 rfl) ?_
      refine mr_get C0 hM fk_M_209 mu_s (v := .int (nI nw)) rfl dd_M_size_18 ?_
      refine mr_iald C0 hM (mu_n' (hne (i := 5) (j := 0) (by decide)) (mu_n' (hne (i := 5) (j := 10) (by decide)) (mu_n' (hne (i := 5) (j := 9) (by decide)) (mu_n' (hne (i := 5) (j := 8) (by decide)) (mu_n' (hne (i := 5) (j := 7) (by decide)) (mu_n' (hne (i := 5) (j := 6) (by decide)) mu_s)))))) (nw) (rfl) (by omega) (by decide) dd_M_size_21 ?_
      refine mr_vi (x' := nI (Ls nw).length) (hcn) ?_
      refine lv_goto (tgt := 51) hx hb dd_M_size_22 rfl ?_
      exact mr_ret hQ (mr_iret C0 hM hS (rfl) (⟨by unfold szR_; rw [if_neg (by omega), if_pos h10], _, _, _, _, _, _, _, _, _, _, _, hrl, rfl⟩) dd_M_size_51)
  · skip
    have hh0 : hs = 0 := (nI_eq (by omega) (by decide)).mp h4
    refine lv_iconst (v := (-1 : Int32)) hx hb dd_M_size_7 (by decide) ?_
    exact mr_ret hQ (mr_iret C0 hM hS (rfl) (⟨by simp [szR_, hh0], _, _, _, _, _, _, _, _, _, _, _, hrl, rfl⟩) dd_M_size_8)

set_option maxHeartbeats 4000000 in
set_option maxRecDepth 100000 in
theorem c_M_hand (l : Launch) {G : mg_} {M : mw_} {am : Nat → Nat} {hs N Vt nw Hd fc : Nat} {Pd : rl_} {Ls : Nat → rl_} {w g0 cf qf xw : Nat → Int32} {f sf uf lf : Nat → Int64} {r1 r0 : Int64} {b0 : Int32}   (hne : ∀ {i j : Nat}, i ≠ j → am i ≠ am j) (hk : M (am 1) = some (la_ G 32 mk_)) (hrl : mrl_ hs N Pd Ls nw f g0 cf sf qf uf lf) (hok : okS_ Pd Ls nw) (hhs : hs ≤ 1)  : ct_ l my_M_hand cd_M_hand 2 (some .long) { frames := 0, cells := 0, slots := 0, locals := 0 } G [.ref (am 0), .int b0] (mu_ (mu_ (mu_ (mu_ (mu_ (mu_ (mu_ (mu_ (mu_ (mu_ M (am 2) (ia_ G 64 w)) (am 3) (la_ G 10 f)) (am 4) (ia_ G 10 g0)) (am 5) (ia_ G 17 cf)) (am 6) (la_ G 170 sf)) (am 7) (ia_ G 170 qf)) (am 8) (la_ G 17 uf)) (am 9) (la_ G 17 lf)) (am 10) (ia_ G 32 xw)) (am 0) (ob_ 6 [.ref (am 1), .ref (am 2), .int (nI hs), .long (hi_ N), .long (lo_ N), .long (hi_ Vt), .long (lo_ Vt), .int (nI Pd.length), .ref (am 3), .ref (am 4), .int (nI nw), .ref (am 5), .ref (am 6), .ref (am 7), .ref (am 8), .ref (am 9), .long (hi_ Hd), .long (lo_ Hd), .int (nI fc), .long r1, .long r0, .ref (am 10)])) (fun v0 M' => v0 = (some (.long (hdR_ Hd b0))) ∧ MWx_ M am G hs N Vt Pd Ls nw Hd fc M') 0 0 := by
  refine ct_.intro2 (by decide) (Nat.le_of_ble_eq_true rfl) ?_
  intro p e s m args below meth c ls R Q hR hQ C0 hl hM hS
  have hx := C0.1
  have hb := C0.2.1
  have hl : lv_has ls 2 [(0, .ref (am 0)), (1, .int b0)] := hl
  obtain ⟨hro, hme, hul⟩ := hrl
  have hrl : mrl_ hs N Pd Ls nw f g0 cf sf qf uf lf := ⟨hro, hme, hul⟩
  obtain ⟨hPn, hLn, hnw, hPp, hLp, hPd, hLd⟩ := hok
  have hnw17 : nw < 17 := by omega
  have hcn := (hme nw hnw17).1
  refine lv_iload_n hx hb dd_M_hand_0 rfl (lv_at hl 1 rfl) ?_
  refine lv_if_eq (tgt := 11) hx hb dd_M_hand_1 rfl (fun h1 => ?_) (fun h1 => ?_)
  · skip
    refine lv_aload_n hx hb dd_M_hand_11 rfl (lv_at hl 0 rfl) ?_
    refine mr_get C0 hM fk_M_229 mu_s (v := .long (lo_ Hd)) rfl dd_M_hand_12 ?_
    exact mr_ret hQ (mr_lret C0 hM hS (⟨by simp [hdR_, h1], _, _, _, _, _, _, _, _, _, _, _, hrl, rfl⟩) dd_M_hand_15)
  · skip
    refine lv_aload_n hx hb dd_M_hand_4 rfl (lv_at hl 0 rfl) ?_
    refine mr_get C0 hM fk_M_226 mu_s (v := .long (hi_ Hd)) rfl dd_M_hand_5 ?_
    refine lv_goto (tgt := 15) hx hb dd_M_hand_8 rfl ?_
    exact mr_ret hQ (mr_lret C0 hM hS (⟨by simp [hdR_, h1], _, _, _, _, _, _, _, _, _, _, _, hrl, rfl⟩) dd_M_hand_15)

set_option maxHeartbeats 4000000 in
set_option maxRecDepth 100000 in
theorem c_M_factor (l : Launch) {G : mg_} {M : mw_} {am : Nat → Nat} {hs N Vt nw Hd fc : Nat} {Pd : rl_} {Ls : Nat → rl_} {w g0 cf qf xw : Nat → Int32} {f sf uf lf : Nat → Int64} {r1 r0 : Int64}    (hne : ∀ {i j : Nat}, i ≠ j → am i ≠ am j) (hk : M (am 1) = some (la_ G 32 mk_)) (hrl : mrl_ hs N Pd Ls nw f g0 cf sf qf uf lf) (hok : okS_ Pd Ls nw) (hhs : hs ≤ 1)  : ct_ l my_M_factor cd_M_factor 1 (some .int) { frames := 0, cells := 0, slots := 0, locals := 0 } G [.ref (am 0)] (mu_ (mu_ (mu_ (mu_ (mu_ (mu_ (mu_ (mu_ (mu_ (mu_ M (am 2) (ia_ G 64 w)) (am 3) (la_ G 10 f)) (am 4) (ia_ G 10 g0)) (am 5) (ia_ G 17 cf)) (am 6) (la_ G 170 sf)) (am 7) (ia_ G 170 qf)) (am 8) (la_ G 17 uf)) (am 9) (la_ G 17 lf)) (am 10) (ia_ G 32 xw)) (am 0) (ob_ 6 [.ref (am 1), .ref (am 2), .int (nI hs), .long (hi_ N), .long (lo_ N), .long (hi_ Vt), .long (lo_ Vt), .int (nI Pd.length), .ref (am 3), .ref (am 4), .int (nI nw), .ref (am 5), .ref (am 6), .ref (am 7), .ref (am 8), .ref (am 9), .long (hi_ Hd), .long (lo_ Hd), .int (nI fc), .long r1, .long r0, .ref (am 10)])) (fun v0 M' => v0 = (some (.int (fcR_ hs fc))) ∧ MWx_ M am G hs N Vt Pd Ls nw Hd fc M') 0 0 := by
  refine ct_.intro2 (by decide) (Nat.le_of_ble_eq_true rfl) ?_
  intro p e s m args below meth c ls R Q hR hQ C0 hl hM hS
  have hx := C0.1
  have hb := C0.2.1
  have hl : lv_has ls 1 [(0, .ref (am 0))] := hl
  obtain ⟨hro, hme, hul⟩ := hrl
  have hrl : mrl_ hs N Pd Ls nw f g0 cf sf qf uf lf := ⟨hro, hme, hul⟩
  obtain ⟨hPn, hLn, hnw, hPp, hLp, hPd, hLd⟩ := hok
  have hnw17 : nw < 17 := by omega
  have hcn := (hme nw hnw17).1
  refine lv_aload_n hx hb dd_M_factor_0 rfl (lv_at hl 0 rfl) ?_
  refine mr_get C0 hM fk_M_181 mu_s (v := .int (nI hs)) rfl dd_M_factor_1 ?_
  refine lv_if_eq (tgt := 14) hx hb dd_M_factor_4 rfl (fun h4 => ?_) (fun h4 => ?_)
  · skip
    have hh0 : hs = 0 := (nI_eq (by omega) (by decide)).mp h4
    refine lv_iconst (v := (-1 : Int32)) hx hb dd_M_factor_14 (by decide) ?_
    exact mr_ret hQ (mr_iret C0 hM hS (rfl) (⟨by first | simp [fcR_, hh0] | simp [fcR_, hh1], _, _, _, _, _, _, _, _, _, _, _, hrl, rfl⟩) dd_M_factor_15)
  · skip
    have hh1 : hs = 1 := by
      have h2 : hs ≠ 0 := fun q => h4 (by rw [q]; rfl)
      omega
    refine lv_aload_n hx hb dd_M_factor_7 rfl (lv_at hl 0 rfl) ?_
    refine mr_get C0 hM fk_M_232 mu_s (v := .int (nI fc)) rfl dd_M_factor_8 ?_
    refine lv_goto (tgt := 15) hx hb dd_M_factor_11 rfl ?_
    exact mr_ret hQ (mr_iret C0 hM hS (rfl) (⟨by first | simp [fcR_, hh0] | simp [fcR_, hh1], _, _, _, _, _, _, _, _, _, _, _, hrl, rfl⟩) dd_M_factor_15)

set_option maxHeartbeats 4000000 in
set_option maxRecDepth 100000 in
theorem c_M_accumulator (l : Launch) {G : mg_} {M : mw_} {am : Nat → Nat} {hs N Vt nw Hd fc : Nat} {Pd : rl_} {Ls : Nat → rl_} {w g0 cf qf xw : Nat → Int32} {f sf uf lf : Nat → Int64} {r1 r0 : Int64} {ev b0 : Int32}   (hne : ∀ {i j : Nat}, i ≠ j → am i ≠ am j) (hk : M (am 1) = some (la_ G 32 mk_)) (hrl : mrl_ hs N Pd Ls nw f g0 cf sf qf uf lf) (hok : okS_ Pd Ls nw) (hhs : hs ≤ 1)  : ct_ l my_M_accumulator cd_M_accumulator 3 (some .long) { frames := 1, cells := 0, slots := 0, locals := 21 } G [.ref (am 0), .int ev, .int b0] (mu_ (mu_ (mu_ (mu_ (mu_ (mu_ (mu_ (mu_ (mu_ (mu_ M (am 2) (ia_ G 64 w)) (am 3) (la_ G 10 f)) (am 4) (ia_ G 10 g0)) (am 5) (ia_ G 17 cf)) (am 6) (la_ G 170 sf)) (am 7) (ia_ G 170 qf)) (am 8) (la_ G 17 uf)) (am 9) (la_ G 17 lf)) (am 10) (ia_ G 32 xw)) (am 0) (ob_ 6 [.ref (am 1), .ref (am 2), .int (nI hs), .long (hi_ N), .long (lo_ N), .long (hi_ Vt), .long (lo_ Vt), .int (nI Pd.length), .ref (am 3), .ref (am 4), .int (nI nw), .ref (am 5), .ref (am 6), .ref (am 7), .ref (am 8), .ref (am 9), .long (hi_ Hd), .long (lo_ Hd), .int (nI fc), .long r1, .long r0, .ref (am 10)])) (fun v0 M' => v0 = (some (.long (acR_ hs N Ls nw ev b0))) ∧ MWx_ M am G hs N Vt Pd Ls nw Hd fc M') 0 0 := by
  refine ct_.intro2 (by decide) (Nat.le_of_ble_eq_true rfl) ?_
  intro p e s m args below meth c ls R Q hR hQ C0 hl hM hS
  have hx := C0.1
  have hb := C0.2.1
  have hl : lv_has ls 3 [(0, .ref (am 0)), (1, .int ev), (2, .int b0)] := hl
  obtain ⟨hro, hme, hul⟩ := hrl
  have hrl : mrl_ hs N Pd Ls nw f g0 cf sf qf uf lf := ⟨hro, hme, hul⟩
  obtain ⟨hPn, hLn, hnw, hPp, hLp, hPd, hLd⟩ := hok
  have hnw17 : nw < 17 := by omega
  have hcn := (hme nw hnw17).1
  refine lv_aload_n hx hb dd_M_accumulator_0 rfl (lv_at hl 0 rfl) ?_
  refine mr_get C0 hM fk_M_181 mu_s (v := .int (nI hs)) rfl dd_M_accumulator_1 ?_
  refine lv_if_eq (tgt := 15) hx hb dd_M_accumulator_4 rfl (fun h4 => ?_) (fun h4 => ?_)
  · skip
    have hh0 : hs = 0 := (nI_eq (by omega) (by decide)).mp h4
    refine lv_lconst (v := lN 0) hx hb dd_M_accumulator_15 rfl ?_
    refine lv_goto (tgt := 38) hx hb dd_M_accumulator_16 rfl ?_
    exact mr_ret hQ (mr_lret C0 hM hS (⟨by first | rw [acR_n (fun q => by omega)] | rw [acR_n (fun q => hep q.2)], _, _, _, _, _, _, _, _, _, _, _, hrl, rfl⟩) dd_M_accumulator_38)
  · skip
    have hh1 : hs = 1 := by
      have h2 : hs ≠ 0 := fun q => h4 (by rw [q]; rfl)
      omega
    refine lv_aload_n hx hb dd_M_accumulator_7 rfl (lv_at hl 0 rfl) ?_
    refine lv_iload_n hx hb dd_M_accumulator_8 rfl (lv_at hl 1 rfl) ?_
    refine mr_callV (As := [.int ev]) (rest := []) C0 hM hS vk_M_220 mu_s rfl (c_M_isEpoch l mu_s  hnw) rfl rfl hl.1 (Nat.le_of_ble_eq_true rfl) rfl rfl (by subst hR; exact ⟨Nat.le_of_ble_eq_true rfl, Nat.le_of_ble_eq_true rfl⟩) (by subst hR; exact ⟨Nat.le_of_ble_eq_true rfl, Nat.le_of_ble_eq_true rfl⟩) dd_M_accumulator_9 (fun v1 M1 H locs hp hM hS => ?_)
    obtain ⟨ev1, eM1⟩ := hp
    subst ev1
    rw [eM1] at hM
    refine W.eq (g2 := F0 m 12 ls [.int (ie_ ev nw)]) rfl ?_
    refine lv_if_ne (tgt := 19) hx hb dd_M_accumulator_12 rfl (fun h12 => ?_) (fun h12 => ?_)
    · skip
      have hep : ep_ ev nw := Classical.byContradiction (fun q => h12 (ie_n q))
      obtain ⟨k0, hk0, hev⟩ := hep
      have hk17 : k0 < 17 := by omega
      refine lv_iload_n hx hb dd_M_accumulator_19 rfl (lv_at hl 2 rfl) ?_
      refine lv_if_eq (tgt := 32) hx hb dd_M_accumulator_20 rfl (fun h20 => ?_) (fun h20 => ?_)
      · skip
        refine lv_aload_n hx hb dd_M_accumulator_32 rfl (lv_at hl 0 rfl) ?_
        refine mr_get C0 hM fk_M_99 mu_s (v := .ref (am 9)) rfl dd_M_accumulator_33 ?_
        refine lv_iload_n hx hb dd_M_accumulator_36 rfl (lv_at hl 1 rfl) ?_
        refine mr_lald C0 hM (mu_n' (hne (i := 9) (j := 0) (by decide)) (mu_n' (hne (i := 9) (j := 10) (by decide)) mu_s)) (k0) (hev) (hk17) (by decide) dd_M_accumulator_37 ?_
        refine mr_vl (x' := lo_ (ac_ N (Ls k0))) ((hul hh1 k0 hk0).2) ?_
        exact mr_ret hQ (mr_lret C0 hM hS (⟨by rw [hev, acR_y hh1 hk0 hnw]; simp [hdR_, h20], _, _, _, _, _, _, _, _, _, _, _, hrl, rfl⟩) dd_M_accumulator_38)
      · skip
        refine lv_aload_n hx hb dd_M_accumulator_23 rfl (lv_at hl 0 rfl) ?_
        refine mr_get C0 hM fk_M_96 mu_s (v := .ref (am 8)) rfl dd_M_accumulator_24 ?_
        refine lv_iload_n hx hb dd_M_accumulator_27 rfl (lv_at hl 1 rfl) ?_
        refine mr_lald C0 hM (mu_n' (hne (i := 8) (j := 0) (by decide)) (mu_n' (hne (i := 8) (j := 10) (by decide)) (mu_n' (hne (i := 8) (j := 9) (by decide)) mu_s))) (k0) (hev) (hk17) (by decide) dd_M_accumulator_28 ?_
        refine mr_vl (x' := hi_ (ac_ N (Ls k0))) ((hul hh1 k0 hk0).1) ?_
        refine lv_goto (tgt := 38) hx hb dd_M_accumulator_29 rfl ?_
        exact mr_ret hQ (mr_lret C0 hM hS (⟨by rw [hev, acR_y hh1 hk0 hnw]; simp [hdR_, h20], _, _, _, _, _, _, _, _, _, _, _, hrl, rfl⟩) dd_M_accumulator_38)
    · skip
      have hep : ¬ ep_ ev nw := fun q => absurd ((ie_y q).symm.trans h12) (by decide)
      refine lv_lconst (v := lN 0) hx hb dd_M_accumulator_15 rfl ?_
      refine lv_goto (tgt := 38) hx hb dd_M_accumulator_16 rfl ?_
      exact mr_ret hQ (mr_lret C0 hM hS (⟨by first | rw [acR_n (fun q => by omega)] | rw [acR_n (fun q => hep q.2)], _, _, _, _, _, _, _, _, _, _, _, hrl, rfl⟩) dd_M_accumulator_38)

set_option maxHeartbeats 4000000 in
set_option maxRecDepth 100000 in
theorem c_M_hold (l : Launch) {G : mg_} {M : mw_} {am : Nat → Nat} {hs N Vt nw Hd fc : Nat} {Pd : rl_} {Ls : Nat → rl_} {w g0 cf qf xw : Nat → Int32} {f sf uf lf : Nat → Int64} {r1 r0 : Int64} {V : Nat} {c0 : Int32}   (hne : ∀ {i j : Nat}, i ≠ j → am i ≠ am j) (hk : M (am 1) = some (la_ G 32 mk_)) (hrl : mrl_ hs N Pd Ls nw f g0 cf sf qf uf lf) (hok : okS_ Pd Ls nw) (hhs : hs ≤ 1) (hN : hs = 1 → N < 340282366920938463463374607431768211456 ∧ 1267650600228229401496703205376 ≤ N) (hHd : hs = 1 → Hd < N) (hfc : fc < 2147483648) (hV : V < 340282366920938463463374607431768211456) : ct_ l my_M_hold cd_M_hold 6 (some .boolean) { frames := 2, cells := 0, slots := 0, locals := 47 } G [.ref (am 0), .long (hi_ V), .long (lo_ V), .int c0] (mu_ (mu_ (mu_ (mu_ (mu_ (mu_ (mu_ (mu_ (mu_ (mu_ M (am 2) (ia_ G 64 w)) (am 3) (la_ G 10 f)) (am 4) (ia_ G 10 g0)) (am 5) (ia_ G 17 cf)) (am 6) (la_ G 170 sf)) (am 7) (ia_ G 170 qf)) (am 8) (la_ G 17 uf)) (am 9) (la_ G 17 lf)) (am 10) (ia_ G 32 xw)) (am 0) (ob_ 6 [.ref (am 1), .ref (am 2), .int (nI hs), .long (hi_ N), .long (lo_ N), .long (hi_ Vt), .long (lo_ Vt), .int (nI Pd.length), .ref (am 3), .ref (am 4), .int (nI nw), .ref (am 5), .ref (am 6), .ref (am 7), .ref (am 8), .ref (am 9), .long (hi_ Hd), .long (lo_ Hd), .int (nI fc), .long r1, .long r0, .ref (am 10)])) (fun v0 M' => v0 = (some (.int (hoI_ hs N V c0))) ∧ MWx_ M am G hs N Vt Pd Ls nw (hoH_ hs N V c0 Hd) (hoF_ hs N V c0 fc) M') 0 0 := by
  refine ct_.intro2 (by decide) (Nat.le_of_ble_eq_true rfl) ?_
  intro p e s m args below meth c ls R Q hR hQ C0 hl hM hS
  have hx := C0.1
  have hb := C0.2.1
  have hl : lv_has ls 6 [(0, .ref (am 0)), (1, .long (hi_ V)), (3, .long (lo_ V)), (5, .int c0)] := hl
  obtain ⟨hro, hme, hul⟩ := hrl
  have hrl : mrl_ hs N Pd Ls nw f g0 cf sf qf uf lf := ⟨hro, hme, hul⟩
  obtain ⟨hPn, hLn, hnw, hPp, hLp, hPd, hLd⟩ := hok
  have hnw17 : nw < 17 := by omega
  have hcn := (hme nw hnw17).1
  refine lv_aload_n hx hb dd_M_hold_0 rfl (lv_at hl 0 rfl) ?_
  refine mr_get C0 hM fk_M_181 mu_s (v := .int (nI hs)) rfl dd_M_hold_1 ?_
  refine lv_if_eq (tgt := 21) hx hb dd_M_hold_4 rfl (fun h4 => ?_) (fun h4 => ?_)
  · skip
    have hh0 : hs = 0 := (nI_eq (by omega) (by decide)).mp h4
    refine lv_iconst (v := nI 0) hx hb dd_M_hold_21 (by decide) ?_
    have hno : ¬ hoR_ hs N V c0 := by
      rintro ⟨q1, q2, q3⟩
      first | omega | exact hv13 q2 | exact q3 (Int32.not_le.mp h18)
    exact mr_ret hQ (mr_iret C0 hM hS (rfl) (⟨by rw [hoI_n hno], _, _, _, _, _, _, _, _, _, _, _, hrl, by rw [hoH_n hno, hoF_n hno]⟩) dd_M_hold_22)
  · skip
    have hh1 : hs = 1 := by
      have h2 : hs ≠ 0 := fun q => h4 (by rw [q]; rfl)
      omega
    refine lv_aload_n hx hb dd_M_hold_7 rfl (lv_at hl 0 rfl) ?_
    refine lv_lload_n hx hb dd_M_hold_8 rfl (lv_at hl 1 rfl) ?_
    refine lv_lload_n hx hb dd_M_hold_9 rfl (lv_at hl 2 rfl) ?_
    refine mr_callV (As := [.long (hi_ V), .long (lo_ V)]) (rest := []) C0 hM hS vk_M_157 mu_s rfl (c_M_isBelowN l mu_s  (hN hh1).1 hV) rfl rfl hl.1 (Nat.le_of_ble_eq_true rfl) rfl rfl (by subst hR; exact ⟨Nat.le_of_ble_eq_true rfl, Nat.le_of_ble_eq_true rfl⟩) (by subst hR; exact ⟨Nat.le_of_ble_eq_true rfl, Nat.le_of_ble_eq_true rfl⟩) dd_M_hold_10 (fun v1 M1 H locs hp hM hS => ?_)
    obtain ⟨ev1, eM1⟩ := hp
    subst ev1
    rw [eM1] at hM
    refine W.eq (g2 := F0 m 13 ls [.int (nI (if V < N then 1 else 0))]) rfl ?_
    refine lv_if_eq (tgt := 21) hx hb dd_M_hold_13 rfl (fun h13 => ?_) (fun h13 => ?_)
    · skip
      have hv13 : ¬ V < N := fun q => absurd h13 (by rw [if_pos q]; decide)
      refine lv_iconst (v := nI 0) hx hb dd_M_hold_21 (by decide) ?_
      have hno : ¬ hoR_ hs N V c0 := by
        rintro ⟨q1, q2, q3⟩
        first | omega | exact hv13 q2 | exact q3 (Int32.not_le.mp h18)
      exact mr_ret hQ (mr_iret C0 hM hS (rfl) (⟨by rw [hoI_n hno], _, _, _, _, _, _, _, _, _, _, _, hrl, by rw [hoH_n hno, hoF_n hno]⟩) dd_M_hold_22)
    · skip
      have hv13 : V < N := Classical.byContradiction (fun q => h13 (by rw [if_neg q]; rfl))
      refine lv_iload hx hb dd_M_hold_16 (lv_at hl 3 rfl) ?_
      refine lv_if_ge (tgt := 23) hx hb dd_M_hold_18 rfl (fun h18 => ?_) (fun h18 => ?_)
      · skip
        refine lv_aload_n hx hb dd_M_hold_23 rfl (lv_at hl 0 rfl) ?_
        refine lv_lload_n hx hb dd_M_hold_24 rfl (lv_at hl 1 rfl) ?_
        refine lv_topl (fun v1 e2 => ?_)
        refine mr_put C0 hM hS fk_M_226 fp_M_226 mu_s rfl (rfl) (rfl) (Nat.le_of_ble_eq_true rfl) dd_M_hold_25 (fun H locs hM hS => ?_)
        have hM := mr_M mu_mu hM
        have hM : mm_ G (mu_ (mu_ (mu_ (mu_ (mu_ (mu_ (mu_ (mu_ (mu_ (mu_ M (am 2) (ia_ G 64 w)) (am 3) (la_ G 10 f)) (am 4) (ia_ G 10 g0)) (am 5) (ia_ G 17 cf)) (am 6) (la_ G 170 sf)) (am 7) (ia_ G 170 qf)) (am 8) (la_ G 17 uf)) (am 9) (la_ G 17 lf)) (am 10) (ia_ G 32 xw)) (am 0) (ob_ 6 [.ref (am 1), .ref (am 2), .int (nI hs), .long (hi_ N), .long (lo_ N), .long (hi_ Vt), .long (lo_ Vt), .int (nI Pd.length), .ref (am 3), .ref (am 4), .int (nI nw), .ref (am 5), .ref (am 6), .ref (am 7), .ref (am 8), .ref (am 9), .long v1, .long (lo_ Hd), .int (nI fc), .long r1, .long r0, .ref (am 10)])) H := hM
        refine lv_aload_n hx hb dd_M_hold_28 rfl (lv_at hl 0 rfl) ?_
        refine lv_lload_n hx hb dd_M_hold_29 rfl (lv_at hl 2 rfl) ?_
        refine lv_topl (fun v3 e4 => ?_)
        refine mr_put C0 hM hS fk_M_229 fp_M_229 mu_s rfl (rfl) (rfl) (Nat.le_of_ble_eq_true rfl) dd_M_hold_30 (fun H locs hM hS => ?_)
        have hM := mr_M mu_mu hM
        have hM : mm_ G (mu_ (mu_ (mu_ (mu_ (mu_ (mu_ (mu_ (mu_ (mu_ (mu_ M (am 2) (ia_ G 64 w)) (am 3) (la_ G 10 f)) (am 4) (ia_ G 10 g0)) (am 5) (ia_ G 17 cf)) (am 6) (la_ G 170 sf)) (am 7) (ia_ G 170 qf)) (am 8) (la_ G 17 uf)) (am 9) (la_ G 17 lf)) (am 10) (ia_ G 32 xw)) (am 0) (ob_ 6 [.ref (am 1), .ref (am 2), .int (nI hs), .long (hi_ N), .long (lo_ N), .long (hi_ Vt), .long (lo_ Vt), .int (nI Pd.length), .ref (am 3), .ref (am 4), .int (nI nw), .ref (am 5), .ref (am 6), .ref (am 7), .ref (am 8), .ref (am 9), .long v1, .long v3, .int (nI fc), .long r1, .long r0, .ref (am 10)])) H := hM
        refine lv_aload_n hx hb dd_M_hold_33 rfl (lv_at hl 0 rfl) ?_
        refine lv_iload hx hb dd_M_hold_34 (lv_at hl 3 rfl) ?_
        refine mr_put C0 hM hS fk_M_232 fp_M_232 mu_s rfl (rfl) (rfl) (Nat.le_of_ble_eq_true rfl) dd_M_hold_36 (fun H locs hM hS => ?_)
        have hM := mr_M mu_mu hM
        have hM : mm_ G (mu_ (mu_ (mu_ (mu_ (mu_ (mu_ (mu_ (mu_ (mu_ (mu_ M (am 2) (ia_ G 64 w)) (am 3) (la_ G 10 f)) (am 4) (ia_ G 10 g0)) (am 5) (ia_ G 17 cf)) (am 6) (la_ G 170 sf)) (am 7) (ia_ G 170 qf)) (am 8) (la_ G 17 uf)) (am 9) (la_ G 17 lf)) (am 10) (ia_ G 32 xw)) (am 0) (ob_ 6 [.ref (am 1), .ref (am 2), .int (nI hs), .long (hi_ N), .long (lo_ N), .long (hi_ Vt), .long (lo_ Vt), .int (nI Pd.length), .ref (am 3), .ref (am 4), .int (nI nw), .ref (am 5), .ref (am 6), .ref (am 7), .ref (am 8), .ref (am 9), .long v1, .long v3, .int c0, .long r1, .long r0, .ref (am 10)])) H := hM
        refine lv_iconst (v := nI 1) hx hb dd_M_hold_39 (by decide) ?_
        subst e4 e2
        have hyo : hoR_ hs N V c0 := ⟨hh1, hv13, fun q => absurd h18 (Int32.not_le.mpr q)⟩
        exact mr_ret hQ (mr_iret C0 hM hS (rfl) (⟨by rw [hoI_y hyo], _, _, _, _, _, _, _, _, _, _, _, hrl, by rw [hoH_y hyo, hoF_y hyo, i_pn]⟩) dd_M_hold_40)
      · skip
        refine lv_iconst (v := nI 0) hx hb dd_M_hold_21 (by decide) ?_
        have hno : ¬ hoR_ hs N V c0 := by
          rintro ⟨q1, q2, q3⟩
          first | omega | exact hv13 q2 | exact q3 (Int32.not_le.mp h18)
        exact mr_ret hQ (mr_iret C0 hM hS (rfl) (⟨by rw [hoI_n hno], _, _, _, _, _, _, _, _, _, _, _, hrl, by rw [hoH_n hno, hoF_n hno]⟩) dd_M_hold_22)
