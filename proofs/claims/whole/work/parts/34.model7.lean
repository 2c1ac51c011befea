
def ntA_ (w k : Nat) : Nat := if w % 2 = 0 then k else k - 1
def ntB_ (w k : Nat) : Nat := if w % 2 = 0 then k - 1 else k
noncomputable def ntR_ (hs : Nat) (Ls : Nat → rl_) (nw : Nat) (e what i : Int32) : Int32 := if hs = 0 then (-1) else @ite _ (ep_ e nw ∧ ¬ e = 0 ∧ ∃ w, w ≤ 3 ∧ what = nI w) (Classical.propDecidable _) (if pn_ what ≤ 1 then nI (cf_ (Ls (ntA_ (pn_ what) (pn_ e))) (Ls (ntB_ (pn_ what) (pn_ e)))) else po_ (Ls (ntA_ (pn_ what) (pn_ e))) (Ls (ntB_ (pn_ what) (pn_ e))) i) (-2)
theorem ntR_b {hs : Nat} {Ls : Nat → rl_} {nw : Nat} {e what i : Int32} (h1 : hs = 1) (h : ¬ (ep_ e nw ∧ ¬ e = 0 ∧ ∃ w, w ≤ 3 ∧ what = nI w)) : ntR_ hs Ls nw e what i = (-2) := by unfold ntR_; rw [if_neg (by omega), if_neg h]
theorem ntR_g {hs : Nat} {Ls : Nat → rl_} {nw : Nat} {e what i : Int32} {k w : Nat} (h1 : hs = 1) (hk : k ≤ nw) (hn : nw ≤ 16) (he : e = nI k) (h0 : ¬ e = 0) (hw : w ≤ 3) (hwe : what = nI w) : ntR_ hs Ls nw e what i = if w ≤ 1 then nI (cf_ (Ls (ntA_ w k)) (Ls (ntB_ w k))) else po_ (Ls (ntA_ w k)) (Ls (ntB_ w k)) i := by
  unfold ntR_
  rw [if_neg (by omega), if_pos ⟨⟨k, hk, he⟩, h0, w, hw, hwe⟩, he, hwe, pn_i (by omega), pn_i (by omega)]
def clR_ (hs nw : Nat) : Int32 := if hs = 0 then (-1) else if nw = 16 then (-6) else nI (nw + 1)
def clW_ (hs nw : Nat) : Nat := if hs = 0 then nw else if nw = 16 then nw else nw + 1
def clL_ (hs nw : Nat) (Pd : rl_) (Ls : Nat → rl_) : Nat → rl_ := if hs = 0 then Ls else if nw = 16 then Ls else fun e => if e = nw + 1 then Pd else Ls e
def cs_ {α : Type} (f : Nat → α) (g : Nat → α) (b i : Nat) : Nat → α := fun j => if b ≤ j ∧ j < b + i then g (j - b) else f j
theorem cs_0 {α : Type} (f g : Nat → α) (b : Nat) : f = cs_ f g b 0 := by
  funext j
  simp only [cs_]
  rw [if_neg (by omega)]
theorem cs_sL (f g : Nat → Int64) (b i : Nat) : vp_updL (cs_ f g b i) (b + i) (g i) = cs_ f g b (i + 1) := by
  funext j
  simp only [vp_updL, cs_]
  by_cases h1 : j = b + i
  · subst h1; rw [if_pos rfl, if_pos (by omega), Nat.add_sub_cancel_left]
  · rw [if_neg h1]
    by_cases h2 : b ≤ j ∧ j < b + i
    · rw [if_pos h2, if_pos (by omega)]
    · rw [if_neg h2, if_neg (by omega)]
theorem cs_sI (f g : Nat → Int32) (b i : Nat) : upd (cs_ f g b i) (b + i) (g i) = cs_ f g b (i + 1) := by
  funext j
  simp only [upd, cs_]
  by_cases h1 : j = b + i
  · subst h1; rw [if_pos rfl, if_pos (by omega), Nat.add_sub_cancel_left]
  · rw [if_neg h1]
    by_cases h2 : b ≤ j ∧ j < b + i
    · rw [if_pos h2, if_pos (by omega)]
    · rw [if_neg h2, if_neg (by omega)]
theorem me_close {cf qf g : Nat → Int32} {sf f : Nat → Int64} {Ls : Nat → rl_} {Pd : rl_} {e0 : Nat} (hme : me_ cf sf qf Ls) (hro : ro_ f g Pd) (hPn : Pd.length ≤ 10) : me_ (upd cf e0 (nI Pd.length)) (cs_ sf f (10 * e0) Pd.length) (cs_ qf g (10 * e0) Pd.length) (fun e => if e = e0 then Pd else Ls e) := by
  intro e he
  by_cases h : e = e0
  · subst h
    simp only [if_true]
    refine ⟨by simp [upd], hPn, fun j hj => ?_⟩
    simp only [cs_]
    rw [if_pos (by omega), if_pos (by omega), Nat.add_sub_cancel_left]
    exact hro j hj
  · simp only [h, if_false]
    obtain ⟨h1, h2, h3⟩ := hme e he
    refine ⟨by simp [upd, h, h1], h2, fun j hj => ?_⟩
    simp only [cs_]
    rw [if_neg (by omega), if_neg (by omega)]
    exact h3 j hj

set_option maxHeartbeats 4000000 in
set_option maxRecDepth 100000 in
theorem c_M_checkExclude (l : Launch) {G : mg_} {M : mw_} {am : Nat → Nat} {hs N Vt nw Hd fc : Nat} {Pd : rl_} {Ls : Nat → rl_} {w g0 cf qf xw : Nat → Int32} {f sf uf lf : Nat → Int64} {r1 r0 : Int64} {sx : Int64} {ev : Int32}   (hne : ∀ {i j : Nat}, i ≠ j → am i ≠ am j) (hk : M (am 1) = some (la_ G 32 mk_)) (hrl : mrl_ hs N Pd Ls nw f g0 cf sf qf uf lf) (hok : okS_ Pd Ls nw) (hhs : hs ≤ 1) (hN : hs = 1 → N < 340282366920938463463374607431768211456 ∧ 1267650600228229401496703205376 ≤ N) (hHd : hs = 1 → Hd < N) (hfc : fc < 2147483648)  : ct_ l my_M_checkExclude cd_M_checkExclude 9 (some .int) { frames := 5, cells := 0, slots := 0, locals := 143 } G [.ref (am 0), .long sx, .int ev] (mu_ (mu_ (mu_ (mu_ (mu_ (mu_ (mu_ (mu_ (mu_ (mu_ M (am 2) (ia_ G 64 w)) (am 3) (la_ G 10 f)) (am 4) (ia_ G 10 g0)) (am 5) (ia_ G 17 cf)) (am 6) (la_ G 170 sf)) (am 7) (ia_ G 170 qf)) (am 8) (la_ G 17 uf)) (am 9) (la_ G 17 lf)) (am 10) (ia_ G 32 xw)) (am 0) (ob_ 6 [.ref (am 1), .ref (am 2), .int (nI hs), .long (hi_ N), .long (lo_ N), .long (hi_ Vt), .long (lo_ Vt), .int (nI Pd.length), .ref (am 3), .ref (am 4), .int (nI nw), .ref (am 5), .ref (am 6), .ref (am 7), .ref (am 8), .ref (am 9), .long (hi_ Hd), .long (lo_ Hd), .int (nI fc), .long r1, .long r0, .ref (am 10)])) (fun v0 M' => v0 = (some (.int (ceR_ hs N (primeT_ sx) Ls nw Hd fc ev))) ∧ MWx_ M am G hs N Vt Pd Ls nw Hd fc M') 0 0 := by
  refine ct_.intro2 (by decide) (Nat.le_of_ble_eq_true rfl) ?_
  intro p e s m args below meth c ls R Q hR hQ C0 hl hM hS
  have hx := C0.1
  have hb := C0.2.1
  have hl : lv_has ls 9 [(0, .ref (am 0)), (1, .long sx), (3, .int ev)] := hl
  obtain ⟨hro, hme, hul⟩ := hrl
  have hrl : mrl_ hs N Pd Ls nw f g0 cf sf qf uf lf := ⟨hro, hme, hul⟩
  obtain ⟨hPn, hLn, hnw, hPp, hLp, hPd, hLd⟩ := hok
  have hnw17 : nw < 17 := by omega
  have hcn := (hme nw hnw17).1
  refine lv_aload_n hx hb dd_M_checkExclude_0 rfl (lv_at hl 0 rfl) ?_
  refine mr_get C0 hM fk_M_181 mu_s (v := .int (nI hs)) rfl dd_M_checkExclude_1 ?_
  refine lv_if_ne (tgt := 9) hx hb dd_M_checkExclude_4 rfl (fun h4 => ?_) (fun h4 => ?_)
  · skip
    have hh1 : hs = 1 := by
      have h2 : hs ≠ 0 := fun q => h4 (by rw [q]; rfl)
      omega
    refine lv_aload_n hx hb dd_M_checkExclude_9 rfl (lv_at hl 0 rfl) ?_
    refine lv_lload_n hx hb dd_M_checkExclude_10 rfl (lv_at hl 1 rfl) ?_
    refine mr_callV (As := [.long sx]) (rest := []) C0 hM hS vk_M_202 mu_s rfl (c_M_prime l mu_s (mu_n' (hne (i := 1) (j := 0) (by decide)) (mu_n' (hne (i := 1) (j := 10) (by decide)) (mu_n' (hne (i := 1) (j := 9) (by decide)) (mu_n' (hne (i := 1) (j := 8) (by decide)) (mu_n' (hne (i := 1) (j := 7) (by decide)) (mu_n' (hne (i := 1) (j := 6) (by decide)) (mu_n' (hne (i := 1) (j := 5) (by decide)) (mu_n' (hne (i := 1) (j := 4) (by decide)) (mu_n' (hne (i := 1) (j := 3) (by decide)) (mu_n' (hne (i := 1) (j := 2) (by decide)) hk)))))))))) (mu_n' (hne (i := 2) (j := 0) (by decide)) (mu_n' (hne (i := 2) (j := 10) (by decide)) (mu_n' (hne (i := 2) (j := 9) (by decide)) (mu_n' (hne (i := 2) (j := 8) (by decide)) (mu_n' (hne (i := 2) (j := 7) (by decide)) (mu_n' (hne (i := 2) (j := 6) (by decide)) (mu_n' (hne (i := 2) (j := 5) (by decide)) (mu_n' (hne (i := 2) (j := 4) (by decide)) (mu_n' (hne (i := 2) (j := 3) (by decide)) mu_s)))))))))  ) rfl rfl hl.1 (Nat.le_of_ble_eq_true rfl) rfl rfl (by subst hR; exact ⟨Nat.le_of_ble_eq_true rfl, Nat.le_of_ble_eq_true rfl⟩) (by subst hR; exact ⟨Nat.le_of_ble_eq_true rfl, Nat.le_of_ble_eq_true rfl⟩) dd_M_checkExclude_11 (fun v1 M1 H locs hp hM hS => ?_)
    obtain ⟨ev1, w1, eM1⟩ := hp
    subst ev1
    rw [eM1] at hM
    have hM := mr_M (mu_c10 (hne (i := 2) (j := 3) (by decide)) (hne (i := 2) (j := 4) (by decide)) (hne (i := 2) (j := 5) (by decide)) (hne (i := 2) (j := 6) (by decide)) (hne (i := 2) (j := 7) (by decide)) (hne (i := 2) (j := 8) (by decide)) (hne (i := 2) (j := 9) (by decide)) (hne (i := 2) (j := 10) (by decide)) (hne (i := 2) (j := 0) (by decide))) hM
    have hM : mm_ G (mu_ (mu_ (mu_ (mu_ (mu_ (mu_ (mu_ (mu_ (mu_ (mu_ M (am 2) (ia_ G 64 w1)) (am 3) (la_ G 10 f)) (am 4) (ia_ G 10 g0)) (am 5) (ia_ G 17 cf)) (am 6) (la_ G 170 sf)) (am 7) (ia_ G 170 qf)) (am 8) (la_ G 17 uf)) (am 9) (la_ G 17 lf)) (am 10) (ia_ G 32 xw)) (am 0) (ob_ 6 [.ref (am 1), .ref (am 2), .int (nI hs), .long (hi_ N), .long (lo_ N), .long (hi_ Vt), .long (lo_ Vt), .int (nI Pd.length), .ref (am 3), .ref (am 4), .int (nI nw), .ref (am 5), .ref (am 6), .ref (am 7), .ref (am 8), .ref (am 9), .long (hi_ Hd), .long (lo_ Hd), .int (nI fc), .long r1, .long r0, .ref (am 10)])) H := hM
    refine W.eq (g2 := F0 m 14 ls [.int (primeT_ sx)]) rfl ?_
    refine lv_istore (lv' := [(4, .int (primeT_ sx)), (0, .ref (am 0)), (1, .long sx), (3, .int ev)]) hx hb dd_M_checkExclude_14 hl (by decide) rfl (fun ls hl => ?_)
    refine lv_iload hx hb dd_M_checkExclude_16 (lv_at hl 0 rfl) ?_
    refine lv_bipush (v := (-2 : Int32)) hx hb dd_M_checkExclude_18 (by decide) ?_
    refine lv_icmp_eq (tgt := 31) hx hb dd_M_checkExclude_20 rfl (fun h20 => ?_) (fun h20 => ?_)
    · skip
      refine lv_bipush (v := (-2 : Int32)) hx hb dd_M_checkExclude_31 (by decide) ?_
      exact mr_ret hQ (mr_iret C0 hM hS (rfl) (⟨by first | rw [ceR_b hh1 (Or.inl h20)] | rw [ceR_b hh1 (Or.inr hep)], _, _, _, _, _, _, _, _, _, _, _, hrl, rfl⟩) dd_M_checkExclude_33)
    · skip
      obtain ⟨x0, hxl, hxu, hxo, htd, hpx0⟩ := primeT_in h20
      refine lv_aload_n hx hb dd_M_checkExclude_23 rfl (lv_at hl 1 rfl) ?_
      refine lv_iload_n hx hb dd_M_checkExclude_24 rfl (lv_at hl 3 rfl) ?_
      refine mr_callV (As := [.int ev]) (rest := []) C0 hM hS vk_M_220 mu_s rfl (c_M_isEpoch l mu_s  hnw) rfl rfl hl.1 (Nat.le_of_ble_eq_true rfl) rfl rfl (by subst hR; exact ⟨Nat.le_of_ble_eq_true rfl, Nat.le_of_ble_eq_true rfl⟩) (by subst hR; exact ⟨Nat.le_of_ble_eq_true rfl, Nat.le_of_ble_eq_true rfl⟩) dd_M_checkExclude_25 (fun v1 M1 H locs hp hM hS => ?_)
      obtain ⟨ev1, eM1⟩ := hp
      subst ev1
      rw [eM1] at hM
      refine W.eq (g2 := F0 m 28 ls [.int (ie_ ev nw)]) rfl ?_
      refine lv_if_ne (tgt := 34) hx hb dd_M_checkExclude_28 rfl (fun h28 => ?_) (fun h28 => ?_)
      · skip
        have hep : ep_ ev nw := Classical.byContradiction (fun q => h28 (ie_n q))
        obtain ⟨k0, hk0, hev⟩ := hep
        have hk17 : k0 < 17 := by omega
        refine lv_aload_n hx hb dd_M_checkExclude_34 rfl (lv_at hl 1 rfl) ?_
        refine lv_aload_n hx hb dd_M_checkExclude_35 rfl (lv_at hl 1 rfl) ?_
        refine mr_get C0 hM fk_M_226 mu_s (v := .long (hi_ Hd)) rfl dd_M_checkExclude_36 ?_
        refine lv_aload_n hx hb dd_M_checkExclude_39 rfl (lv_at hl 1 rfl) ?_
        refine mr_get C0 hM fk_M_229 mu_s (v := .long (lo_ Hd)) rfl dd_M_checkExclude_40 ?_
        refine lv_iload hx hb dd_M_checkExclude_43 (lv_at hl 0 rfl) ?_
        refine mr_vi (x' := nI x0) (hpx0) ?_
        refine mr_callV (As := [.long (hi_ Hd), .long (lo_ Hd), .int (nI x0)]) (rest := []) C0 hM hS vk_M_212 mu_s rfl (c_M_power l mu_s  (hN hh1).1 (hHd hh1) (by have h := (hN hh1).2; omega) hxu) rfl rfl hl.1 (Nat.le_of_ble_eq_true rfl) rfl rfl (by subst hR; exact ⟨Nat.le_of_ble_eq_true rfl, Nat.le_of_ble_eq_true rfl⟩) (by subst hR; exact ⟨Nat.le_of_ble_eq_true rfl, Nat.le_of_ble_eq_true rfl⟩) dd_M_checkExclude_45 (fun v1 M1 H locs hp hM hS => ?_)
        obtain ⟨ev1, eM1⟩ := hp
        subst ev1
        rw [eM1] at hM
        have hM := mr_M mu_mu hM
        have hM : mm_ G (mu_ (mu_ (mu_ (mu_ (mu_ (mu_ (mu_ (mu_ (mu_ (mu_ M (am 2) (ia_ G 64 w1)) (am 3) (la_ G 10 f)) (am 4) (ia_ G 10 g0)) (am 5) (ia_ G 17 cf)) (am 6) (la_ G 170 sf)) (am 7) (ia_ G 170 qf)) (am 8) (la_ G 17 uf)) (am 9) (la_ G 17 lf)) (am 10) (ia_ G 32 xw)) (am 0) (ob_ 6 [.ref (am 1), .ref (am 2), .int (nI hs), .long (hi_ N), .long (lo_ N), .long (hi_ Vt), .long (lo_ Vt), .int (nI Pd.length), .ref (am 3), .ref (am 4), .int (nI nw), .ref (am 5), .ref (am 6), .ref (am 7), .ref (am 8), .ref (am 9), .long (hi_ Hd), .long (lo_ Hd), .int (nI fc), .long (hi_ (Hd ^ x0 % N)), .long (lo_ (Hd ^ x0 % N)), .ref (am 10)])) H := hM
        refine W.eq (g2 := F0 m 48 ls []) rfl ?_
        refine lv_aload_n hx hb dd_M_checkExclude_48 rfl (lv_at hl 1 rfl) ?_
        refine mr_get C0 hM fk_M_154 mu_s (v := .long (hi_ (Hd ^ x0 % N))) rfl dd_M_checkExclude_49 ?_
        refine lv_lstore (lv' := [(5, .long (hi_ (Hd ^ x0 % N))), (4, .int (primeT_ sx)), (0, .ref (am 0)), (1, .long sx), (3, .int ev)]) hx hb dd_M_checkExclude_52 hl (by decide) rfl (fun ls hl => ?_)
        refine lv_aload_n hx hb dd_M_checkExclude_54 rfl (lv_at hl 2 rfl) ?_
        refine mr_get C0 hM fk_M_151 mu_s (v := .long (lo_ (Hd ^ x0 % N))) rfl dd_M_checkExclude_55 ?_
        refine lv_lstore (lv' := [(7, .long (lo_ (Hd ^ x0 % N))), (5, .long (hi_ (Hd ^ x0 % N))), (4, .int (primeT_ sx)), (0, .ref (am 0)), (1, .long sx), (3, .int ev)]) hx hb dd_M_checkExclude_58 hl (by decide) rfl (fun ls hl => ?_)
        refine lv_aload_n hx hb dd_M_checkExclude_60 rfl (lv_at hl 3 rfl) ?_
        refine lv_aload_n hx hb dd_M_checkExclude_61 rfl (lv_at hl 3 rfl) ?_
        refine mr_get C0 hM fk_M_96 mu_s (v := .ref (am 8)) rfl dd_M_checkExclude_62 ?_
        refine lv_iload_n hx hb dd_M_checkExclude_65 rfl (lv_at hl 5 rfl) ?_
        refine mr_lald C0 hM (mu_n' (hne (i := 8) (j := 0) (by decide)) (mu_n' (hne (i := 8) (j := 10) (by decide)) (mu_n' (hne (i := 8) (j := 9) (by decide)) mu_s))) (k0) (hev) (hk17) (by decide) dd_M_checkExclude_66 ?_
        refine mr_vl (x' := hi_ (ac_ N (Ls k0))) ((hul hh1 k0 hk0).1) ?_
        refine lv_aload_n hx hb dd_M_checkExclude_67 rfl (lv_at hl 3 rfl) ?_
        refine mr_get C0 hM fk_M_99 mu_s (v := .ref (am 9)) rfl dd_M_checkExclude_68 ?_
        refine lv_iload_n hx hb dd_M_checkExclude_71 rfl (lv_at hl 5 rfl) ?_
        refine mr_lald C0 hM (mu_n' (hne (i := 9) (j := 0) (by decide)) (mu_n' (hne (i := 9) (j := 10) (by decide)) mu_s)) (k0) (hev) (hk17) (by decide) dd_M_checkExclude_72 ?_
        refine mr_vl (x' := lo_ (ac_ N (Ls k0))) ((hul hh1 k0 hk0).2) ?_
        refine lv_aload_n hx hb dd_M_checkExclude_73 rfl (lv_at hl 3 rfl) ?_
        refine mr_get C0 hM fk_M_232 mu_s (v := .int (nI fc)) rfl dd_M_checkExclude_74 ?_
        refine mr_callV (As := [.long (hi_ (ac_ N (Ls k0))), .long (lo_ (ac_ N (Ls k0))), .int (nI fc)]) (rest := []) C0 hM hS vk_M_212 mu_s rfl (c_M_power l mu_s  (hN hh1).1 (Nat.mod_lt _ (by have h := (hN hh1).2; omega)) (by have h := (hN hh1).2; omega) hfc) rfl rfl hl.1 (Nat.le_of_ble_eq_true rfl) rfl rfl (by subst hR; exact ⟨Nat.le_of_ble_eq_true rfl, Nat.le_of_ble_eq_true rfl⟩) (by subst hR; exact ⟨Nat.le_of_ble_eq_true rfl, Nat.le_of_ble_eq_true rfl⟩) dd_M_checkExclude_77 (fun v1 M1 H locs hp hM hS => ?_)
        obtain ⟨ev1, eM1⟩ := hp
        subst ev1
        rw [eM1] at hM
        have hM := mr_M mu_mu hM
        have hM : mm_ G (mu_ (mu_ (mu_ (mu_ (mu_ (mu_ (mu_ (mu_ (mu_ (mu_ M (am 2) (ia_ G 64 w1)) (am 3) (la_ G 10 f)) (am 4) (ia_ G 10 g0)) (am 5) (ia_ G 17 cf)) (am 6) (la_ G 170 sf)) (am 7) (ia_ G 170 qf)) (am 8) (la_ G 17 uf)) (am 9) (la_ G 17 lf)) (am 10) (ia_ G 32 xw)) (am 0) (ob_ 6 [.ref (am 1), .ref (am 2), .int (nI hs), .long (hi_ N), .long (lo_ N), .long (hi_ Vt), .long (lo_ Vt), .int (nI Pd.length), .ref (am 3), .ref (am 4), .int (nI nw), .ref (am 5), .ref (am 6), .ref (am 7), .ref (am 8), .ref (am 9), .long (hi_ Hd), .long (lo_ Hd), .int (nI fc), .long (hi_ (ac_ N (Ls k0) ^ fc % N)), .long (lo_ (ac_ N (Ls k0) ^ fc % N)), .ref (am 10)])) H := hM
        refine W.eq (g2 := F0 m 80 ls []) rfl ?_
        refine lv_aload_n hx hb dd_M_checkExclude_80 rfl (lv_at hl 3 rfl) ?_
        refine lv_lload hx hb dd_M_checkExclude_81 (lv_at hl 1 rfl) ?_
        refine lv_lload hx hb dd_M_checkExclude_83 (lv_at hl 0 rfl) ?_
        refine lv_aload_n hx hb dd_M_checkExclude_85 rfl (lv_at hl 3 rfl) ?_
        refine mr_get C0 hM fk_M_154 mu_s (v := .long (hi_ (ac_ N (Ls k0) ^ fc % N))) rfl dd_M_checkExclude_86 ?_
        refine lv_aload_n hx hb dd_M_checkExclude_89 rfl (lv_at hl 3 rfl) ?_
        refine mr_get C0 hM fk_M_151 mu_s (v := .long (lo_ (ac_ N (Ls k0) ^ fc % N))) rfl dd_M_checkExclude_90 ?_
        refine mr_callV (As := [.long (hi_ (Hd ^ x0 % N)), .long (lo_ (Hd ^ x0 % N)), .long (hi_ (ac_ N (Ls k0) ^ fc % N)), .long (lo_ (ac_ N (Ls k0) ^ fc % N))]) (rest := []) C0 hM hS vk_M_164 mu_s rfl (c_M_multiply l mu_s  (hN hh1).1 (Nat.mod_lt _ (by have h := (hN hh1).2; omega)) (Nat.lt_trans (Nat.mod_lt _ (by have h := (hN hh1).2; omega)) (hN hh1).1)) rfl rfl hl.1 (Nat.le_of_ble_eq_true rfl) rfl rfl (by subst hR; exact ⟨Nat.le_of_ble_eq_true rfl, Nat.le_of_ble_eq_true rfl⟩) (by subst hR; exact ⟨Nat.le_of_ble_eq_true rfl, Nat.le_of_ble_eq_true rfl⟩) dd_M_checkExclude_93 (fun v1 M1 H locs hp hM hS => ?_)
        obtain ⟨ev1, eM1⟩ := hp
        subst ev1
        rw [eM1] at hM
        have hM := mr_M mu_mu hM
        have hM : mm_ G (mu_ (mu_ (mu_ (mu_ (mu_ (mu_ (mu_ (mu_ (mu_ (mu_ M (am 2) (ia_ G 64 w1)) (am 3) (la_ G 10 f)) (am 4) (ia_ G 10 g0)) (am 5) (ia_ G 17 cf)) (am 6) (la_ G 170 sf)) (am 7) (ia_ G 170 qf)) (am 8) (la_ G 17 uf)) (am 9) (la_ G 17 lf)) (am 10) (ia_ G 32 xw)) (am 0) (ob_ 6 [.ref (am 1), .ref (am 2), .int (nI hs), .long (hi_ N), .long (lo_ N), .long (hi_ Vt), .long (lo_ Vt), .int (nI Pd.length), .ref (am 3), .ref (am 4), .int (nI nw), .ref (am 5), .ref (am 6), .ref (am 7), .ref (am 8), .ref (am 9), .long (hi_ Hd), .long (lo_ Hd), .int (nI fc), .long (hi_ ((Hd ^ x0 % N) * (ac_ N (Ls k0) ^ fc % N) % N)), .long (lo_ ((Hd ^ x0 % N) * (ac_ N (Ls k0) ^ fc % N) % N)), .ref (am 10)])) H := hM
        refine W.eq (g2 := F0 m 96 ls []) rfl ?_
        have hM0 : ((Hd ^ x0 % N) * (ac_ N (Ls k0) ^ fc % N) % N) < N := Nat.mod_lt _ (by have h := (hN hh1).2; omega)
        have hM1 : ((Hd ^ x0 % N) * (ac_ N (Ls k0) ^ fc % N) % N) / 18446744073709551616 < 18446744073709551616 := by have h := (hN hh1).1; omega
        refine lv_aload_n hx hb dd_M_checkExclude_96 rfl (lv_at hl 3 rfl) ?_
        refine mr_get C0 hM fk_M_154 mu_s (v := .long (hi_ ((Hd ^ x0 % N) * (ac_ N (Ls k0) ^ fc % N) % N))) rfl dd_M_checkExclude_97 ?_
        refine lv_lconst (v := lN 0) hx hb dd_M_checkExclude_100 rfl ?_
        refine mr_lif_ne (tgt := 120) hx hb dd_M_checkExclude_101 dd_M_checkExclude_102 rfl (fun h101 => ?_) (fun h101 => ?_)
        · skip
          have hv : ¬ ((Hd ^ x0 % N) * (ac_ N (Ls k0) ^ fc % N) % N) = 3 := fun q => h101 (by rw [q]; rfl)
          refine lv_iconst (v := nI 0) hx hb dd_M_checkExclude_120 (by decide) ?_
          exact mr_ret hQ (mr_iret C0 hM hS (rfl) (⟨by rw [ceR_g hh1 h20 hpx0 hxu hk0 hnw hev]; rw [if_neg hv], _, _, _, _, _, _, _, _, _, _, _, hrl, rfl⟩) dd_M_checkExclude_121)
        · skip
          have hv1 : ((Hd ^ x0 % N) * (ac_ N (Ls k0) ^ fc % N) % N) / 18446744073709551616 = 0 := (lE_ hM1 (by decide)).mp h101
          refine lv_aload_n hx hb dd_M_checkExclude_105 rfl (lv_at hl 3 rfl) ?_
          refine mr_get C0 hM fk_M_151 mu_s (v := .long (lo_ ((Hd ^ x0 % N) * (ac_ N (Ls k0) ^ fc % N) % N))) rfl dd_M_checkExclude_106 ?_
          refine mr_ldc2 (v := lN 3) C0 tw_591 dd_M_checkExclude_109 ?_
          refine mr_lif_ne (tgt := 120) hx hb dd_M_checkExclude_112 dd_M_checkExclude_113 rfl (fun h112 => ?_) (fun h112 => ?_)
          · skip
            have hv : ¬ ((Hd ^ x0 % N) * (ac_ N (Ls k0) ^ fc % N) % N) = 3 := fun q => h112 (by rw [q]; rfl)
            refine lv_iconst (v := nI 0) hx hb dd_M_checkExclude_120 (by decide) ?_
            exact mr_ret hQ (mr_iret C0 hM hS (rfl) (⟨by rw [ceR_g hh1 h20 hpx0 hxu hk0 hnw hev]; rw [if_neg hv], _, _, _, _, _, _, _, _, _, _, _, hrl, rfl⟩) dd_M_checkExclude_121)
          · skip
            have hv : ((Hd ^ x0 % N) * (ac_ N (Ls k0) ^ fc % N) % N) = 3 := is_3.mp ⟨hv1, (lE_ (Nat.mod_lt _ (by decide)) (by decide)).mp h112⟩
            refine lv_iconst (v := nI 1) hx hb dd_M_checkExclude_116 (by decide) ?_
            refine lv_goto (tgt := 121) hx hb dd_M_checkExclude_117 rfl ?_
            exact mr_ret hQ (mr_iret C0 hM hS (rfl) (⟨by rw [ceR_g hh1 h20 hpx0 hxu hk0 hnw hev]; rw [if_pos hv], _, _, _, _, _, _, _, _, _, _, _, hrl, rfl⟩) dd_M_checkExclude_121)
      · skip
        have hep : ¬ ep_ ev nw := fun q => absurd ((ie_y q).symm.trans h28) (by decide)
        refine lv_bipush (v := (-2 : Int32)) hx hb dd_M_checkExclude_31 (by decide) ?_
        exact mr_ret hQ (mr_iret C0 hM hS (rfl) (⟨by first | rw [ceR_b hh1 (Or.inl h20)] | rw [ceR_b hh1 (Or.inr hep)], _, _, _, _, _, _, _, _, _, _, _, hrl, rfl⟩) dd_M_checkExclude_33)
  · skip
    have hh0 : hs = 0 := (nI_eq (by omega) (by decide)).mp h4
    refine lv_iconst (v := (-1 : Int32)) hx hb dd_M_checkExclude_7 (by decide) ?_
    exact mr_ret hQ (mr_iret C0 hM hS (rfl) (⟨by simp [ceR_, hh0], _, _, _, _, _, _, _, _, _, _, _, hrl, rfl⟩) dd_M_checkExclude_8)

set_option maxHeartbeats 4000000 in
set_option maxRecDepth 100000 in
theorem c_M_note (l : Launch) {G : mg_} {M : mw_} {am : Nat → Nat} {hs N Vt nw Hd fc : Nat} {Pd : rl_} {Ls : Nat → rl_} {w g0 cf qf xw : Nat → Int32} {f sf uf lf : Nat → Int64} {r1 r0 : Int64} {ev wh ix : Int32}   (hne : ∀ {i j : Nat}, i ≠ j → am i ≠ am j) (hk : M (am 1) = some (la_ G 32 mk_)) (hrl : mrl_ hs N Pd Ls nw f g0 cf sf qf uf lf) (hok : okS_ Pd Ls nw) (hhs : hs ≤ 1)  : ct_ l my_M_note cd_M_note 8 (some .int) { frames := 1, cells := 0, slots := 0, locals := 24 } G [.ref (am 0), .int ev, .int wh, .int ix] (mu_ (mu_ (mu_ (mu_ (mu_ (mu_ (mu_ (mu_ (mu_ (mu_ M (am 2) (ia_ G 64 w)) (am 3) (la_ G 10 f)) (am 4) (ia_ G 10 g0)) (am 5) (ia_ G 17 cf)) (am 6) (la_ G 170 sf)) (am 7) (ia_ G 170 qf)) (am 8) (la_ G 17 uf)) (am 9) (la_ G 17 lf)) (am 10) (ia_ G 32 xw)) (am 0) (ob_ 6 [.ref (am 1), .ref (am 2), .int (nI hs), .long (hi_ N), .long (lo_ N), .long (hi_ Vt), .long (lo_ Vt), .int (nI Pd.length), .ref (am 3), .ref (am 4), .int (nI nw), .ref (am 5), .ref (am 6), .ref (am 7), .ref (am 8), .ref (am 9), .long (hi_ Hd), .long (lo_ Hd), .int (nI fc), .long r1, .long r0, .ref (am 10)])) (fun v0 M' => v0 = (some (.int (ntR_ hs Ls nw ev wh ix))) ∧ MWx_ M am G hs N Vt Pd Ls nw Hd fc M') 0 0 := by
  refine ct_.intro2 (by decide) (Nat.le_of_ble_eq_true rfl) ?_
  intro p e s m args below meth c ls R Q hR hQ C0 hl hM hS
  have hx := C0.1
  have hb := C0.2.1
  have hl : lv_has ls 8 [(0, .ref (am 0)), (1, .int ev), (2, .int wh), (3, .int ix)] := hl
  obtain ⟨hro, hme, hul⟩ := hrl
  have hrl : mrl_ hs N Pd Ls nw f g0 cf sf qf uf lf := ⟨hro, hme, hul⟩
  obtain ⟨hPn, hLn, hnw, hPp, hLp, hPd, hLd⟩ := hok
  have hnw17 : nw < 17 := by omega
  have hcn := (hme nw hnw17).1
  refine lv_aload_n hx hb dd_M_note_0 rfl (lv_at hl 0 rfl) ?_
  refine mr_get C0 hM fk_M_181 mu_s (v := .int (nI hs)) rfl dd_M_note_1 ?_
  refine lv_if_ne (tgt := 9) hx hb dd_M_note_4 rfl (fun h4 => ?_) (fun h4 => ?_)
  · skip
    have hh1 : hs = 1 := by
      have h2 : hs ≠ 0 := fun q => h4 (by rw [q]; rfl)
      omega
    refine lv_aload_n hx hb dd_M_note_9 rfl (lv_at hl 0 rfl) ?_
    refine lv_iload_n hx hb dd_M_note_10 rfl (lv_at hl 1 rfl) ?_
    refine mr_callV (As := [.int ev]) (rest := []) C0 hM hS vk_M_220 mu_s rfl (c_M_isEpoch l mu_s  hnw) rfl rfl hl.1 (Nat.le_of_ble_eq_true rfl) rfl rfl (by subst hR; exact ⟨Nat.le_of_ble_eq_true rfl, Nat.le_of_ble_eq_true rfl⟩) (by subst hR; exact ⟨Nat.le_of_ble_eq_true rfl, Nat.le_of_ble_eq_true rfl⟩) dd_M_note_11 (fun v1 M1 H locs hp hM hS => ?_)
    obtain ⟨ev1, eM1⟩ := hp
    subst ev1
    rw [eM1] at hM
    refine W.eq (g2 := F0 m 14 ls [.int (ie_ ev nw)]) rfl ?_
    refine lv_if_eq (tgt := 30) hx hb dd_M_note_14 rfl (fun h14 => ?_) (fun h14 => ?_)
    · skip
      have hep : ¬ ep_ ev nw := fun q => absurd ((ie_y q).symm.trans h14) (by decide)
      refine lv_bipush (v := (-2 : Int32)) hx hb dd_M_note_30 (by decide) ?_
      exact mr_ret hQ (mr_iret C0 hM hS (rfl) (⟨by rw [ntR_b hh1 (by first | exact fun q => hep q.1 | exact fun q => q.2.1 h18 | exact (fun ⟨_, _, z, hz, hz2⟩ => absurd h22 (by rw [hz2]; exact nI_pos (by omega))) | exact (fun ⟨_, _, z, hz, hz2⟩ => h27 (by rw [hz2]; exact le_nI hz (by omega) (by decide))))], _, _, _, _, _, _, _, _, _, _, _, hrl, rfl⟩) dd_M_note_32)
    · skip
      have hep : ep_ ev nw := Classical.byContradiction (fun q => h14 (ie_n q))
      obtain ⟨k0, hk0, hev⟩ := hep
      have hk17 : k0 < 17 := by omega
      refine lv_iload_n hx hb dd_M_note_17 rfl (lv_at hl 1 rfl) ?_
      refine lv_if_eq (tgt := 30) hx hb dd_M_note_18 rfl (fun h18 => ?_) (fun h18 => ?_)
      · skip
        refine lv_bipush (v := (-2 : Int32)) hx hb dd_M_note_30 (by decide) ?_
        exact mr_ret hQ (mr_iret C0 hM hS (rfl) (⟨by rw [ntR_b hh1 (by first | exact fun q => hep q.1 | exact fun q => q.2.1 h18 | exact (fun ⟨_, _, z, hz, hz2⟩ => absurd h22 (by rw [hz2]; exact nI_pos (by omega))) | exact (fun ⟨_, _, z, hz, hz2⟩ => h27 (by rw [hz2]; exact le_nI hz (by omega) (by decide))))], _, _, _, _, _, _, _, _, _, _, _, hrl, rfl⟩) dd_M_note_32)
      · skip
        have hk1 : 1 ≤ k0 := by
          have h2 : k0 ≠ 0 := fun q => h18 (by rw [hev, q]; rfl)
          omega
        refine lv_iload_n hx hb dd_M_note_21 rfl (lv_at hl 2 rfl) ?_
        refine lv_if_lt (tgt := 30) hx hb dd_M_note_22 rfl (fun h22 => ?_) (fun h22 => ?_)
        · skip
          refine lv_bipush (v := (-2 : Int32)) hx hb dd_M_note_30 (by decide) ?_
          exact mr_ret hQ (mr_iret C0 hM hS (rfl) (⟨by rw [ntR_b hh1 (by first | exact fun q => hep q.1 | exact fun q => q.2.1 h18 | exact (fun ⟨_, _, z, hz, hz2⟩ => absurd h22 (by rw [hz2]; exact nI_pos (by omega))) | exact (fun ⟨_, _, z, hz, hz2⟩ => h27 (by rw [hz2]; exact le_nI hz (by omega) (by decide))))], _, _, _, _, _, _, _, _, _, _, _, hrl, rfl⟩) dd_M_note_32)
        · skip
          refine lv_iload_n hx hb dd_M_note_25 rfl (lv_at hl 2 rfl) ?_
          refine lv_iconst (v := nI 3) hx hb dd_M_note_26 (by decide) ?_
          refine lv_icmp_le (tgt := 33) hx hb dd_M_note_27 rfl (fun h27 => ?_) (fun h27 => ?_)
          · skip
            obtain ⟨wn, hwn, hwe⟩ := nI_of2 (n := 3) (by decide) h22 h27
            refine lv_iload_n hx hb dd_M_note_33 rfl (lv_at hl 2 rfl) ?_
            refine lv_iconst (v := nI 2) hx hb dd_M_note_34 (by decide) ?_
            refine lv_irem hx hb dd_M_note_35 (by decide) ?_
            refine mr_vi (x' := nI (wn % 2)) (by rw [hwe]; exact pk_rem (d := 2) (by omega) (by decide) (by decide)) ?_
            have join_63 : ∀ (aa : Nat) (bb : Nat) (H : Heap) (locs : List Loc) (ls : Array Slot), aa = ntA_ wn k0 → bb = ntB_ wn k0 → mm_ G (mu_ (mu_ (mu_ (mu_ (mu_ (mu_ (mu_ (mu_ (mu_ (mu_ M (am 2) (ia_ G 64 w)) (am 3) (la_ G 10 f)) (am 4) (ia_ G 10 g0)) (am 5) (ia_ G 17 cf)) (am 6) (la_ G 170 sf)) (am 7) (ia_ G 170 qf)) (am 8) (la_ G 17 uf)) (am 9) (la_ G 17 lf)) (am 10) (ia_ G 32 xw)) (am 0) (ob_ 6 [.ref (am 1), .ref (am 2), .int (nI hs), .long (hi_ N), .long (lo_ N), .long (hi_ Vt), .long (lo_ Vt), .int (nI Pd.length), .ref (am 3), .ref (am 4), .int (nI nw), .ref (am 5), .ref (am 6), .ref (am 7), .ref (am 8), .ref (am 9), .long (hi_ Hd), .long (lo_ Hd), .int (nI fc), .long r1, .long r0, .ref (am 10)])) H → va_S (fz_ G) s.heap H locs → lv_has ls 8 [(0, .ref (am 0)), (1, .int ev), (2, .int wh), (3, .int ix), (4, .int (nI aa)), (5, .int (nI bb))] → W p l e R s m args below meth c H locs 0 0 Q (F0 m 63 ls []) := by
              intro aa bb H locs ls haa hbb hM hS hl
              have ha17 : aa < 17 := by rw [haa, ntA_]; split <;> omega
              have hb17 : bb < 17 := by rw [hbb, ntB_]; split <;> omega
              refine lv_iconst (v := nI 0) hx hb dd_M_note_63 (by decide) ?_
              refine lv_istore (lv' := [(6, .int (nI 0)), (0, .ref (am 0)), (1, .int ev), (2, .int wh), (3, .int ix), (4, .int (nI aa)), (5, .int (nI bb))]) hx hb dd_M_note_64 hl (by decide) rfl (fun ls hl => ?_)
              refine lv_bipush (v := nI 10) hx hb dd_M_note_66 (by decide) ?_
              refine lv_iload hx hb dd_M_note_68 (lv_at hl 5 rfl) ?_
              refine lv_imul hx hb dd_M_note_70 ?_
              refine mr_vi (pk_mul 10 aa) ?_
              refine lv_istore (lv' := [(7, .int (nI (10 * aa))), (6, .int (nI 0)), (0, .ref (am 0)), (1, .int ev), (2, .int wh), (3, .int ix), (4, .int (nI aa)), (5, .int (nI bb))]) hx hb dd_M_note_71 hl (by decide) rfl (fun ls hl => ?_)
              have loop_73 : ∀ (k : Nat) (i : Nat) (H : Heap) (locs : List Loc) (ls : Array Slot), i + k = (Ls aa).length → (1 < wn → ∀ j, j < cf_ (List.take i (Ls aa)) (Ls bb) → nI j ≠ ix) → mm_ G (mu_ (mu_ (mu_ (mu_ (mu_ (mu_ (mu_ (mu_ (mu_ (mu_ M (am 2) (ia_ G 64 w)) (am 3) (la_ G 10 f)) (am 4) (ia_ G 10 g0)) (am 5) (ia_ G 17 cf)) (am 6) (la_ G 170 sf)) (am 7) (ia_ G 170 qf)) (am 8) (la_ G 17 uf)) (am 9) (la_ G 17 lf)) (am 10) (ia_ G 32 xw)) (am 0) (ob_ 6 [.ref (am 1), .ref (am 2), .int (nI hs), .long (hi_ N), .long (lo_ N), .long (hi_ Vt), .long (lo_ Vt), .int (nI Pd.length), .ref (am 3), .ref (am 4), .int (nI nw), .ref (am 5), .ref (am 6), .ref (am 7), .ref (am 8), .ref (am 9), .long (hi_ Hd), .long (lo_ Hd), .int (nI fc), .long r1, .long r0, .ref (am 10)])) H → va_S (fz_ G) s.heap H locs → lv_has ls 8 [(0, .ref (am 0)), (1, .int ev), (2, .int wh), (3, .int ix), (4, .int (nI aa)), (5, .int (nI bb)), (6, .int (nI (cf_ (List.take i (Ls aa)) (Ls bb)))), (7, .int (nI (10 * aa + i)))] → W p l e R s m args below meth c H locs 0 0 Q (F0 m 73 ls []) := by
                intro k
                induction k with
                | zero =>
                  intro i H locs ls hi hw hM hS hl
                  have hll := hLn aa
                  refine lv_iload hx hb dd_M_note_73 (lv_at hl 7 rfl) ?_
                  refine lv_bipush (v := nI 10) hx hb dd_M_note_75 (by decide) ?_
                  refine lv_iload hx hb dd_M_note_77 (lv_at hl 4 rfl) ?_
                  refine lv_imul hx hb dd_M_note_79 ?_
                  refine mr_vi (pk_mul 10 aa) ?_
                  refine lv_aload_n hx hb dd_M_note_80 rfl (lv_at hl 0 rfl) ?_
                  refine mr_get C0 hM fk_M_87 mu_s (v := .ref (am 5)) rfl dd_M_note_81 ?_
                  refine lv_iload hx hb dd_M_note_84 (lv_at hl 4 rfl) ?_
                  refine mr_iald C0 hM (mu_n' (hne (i := 5) (j := 0) (by decide)) (mu_n' (hne (i := 5) (j := 10) (by decide)) (mu_n' (hne (i := 5) (j := 9) (by decide)) (mu_n' (hne (i := 5) (j := 8) (by decide)) (mu_n' (hne (i := 5) (j := 7) (by decide)) (mu_n' (hne (i := 5) (j := 6) (by decide)) mu_s)))))) (aa) (rfl) (ha17) (by decide) dd_M_note_86 ?_
                  refine mr_vi (x' := nI (List.length (Ls aa))) ((hme aa ha17).1) ?_
                  refine lv_iadd hx hb dd_M_note_87 ?_
                  refine mr_vi (nI_add (10 * aa) (List.length (Ls aa))) ?_
                  refine lv_icmp_ge (tgt := 135) hx hb dd_M_note_88 rfl (fun _ => ?_) (fun hc => absurd (le_nI (a := ((10 * aa) + (List.length (Ls aa)))) (b := (10 * aa + i)) (by omega) (by omega) (by omega)) hc)
                  refine lv_iload_n hx hb dd_M_note_135 rfl (lv_at hl 2 rfl) ?_
                  refine lv_iconst (v := nI 1) hx hb dd_M_note_136 (by decide) ?_
                  refine lv_icmp_le (tgt := 145) hx hb dd_M_note_137 rfl (fun h137 => ?_) (fun h137 => ?_)
                  · skip
                    have hw1 : wn ≤ 1 := by
                      rw [hwe] at h137
                      exact (nI_leI (by omega) (by decide)).mp h137
                    refine lv_iload hx hb dd_M_note_145 (lv_at hl 6 rfl) ?_
                    exact mr_ret hQ (mr_iret C0 hM hS (rfl) (⟨by rw [ntR_g hh1 hk0 hnw hev h18 hwn hwe, ← haa, ← hbb]; rw [if_pos hw1, take_all (show (Ls aa).length ≤ i by omega)], _, _, _, _, _, _, _, _, _, _, _, hrl, rfl⟩) dd_M_note_147)
                  · skip
                    have hw1 : 1 < wn := by
                      rw [hwe] at h137
                      have h := mt (nI_leI (by omega) (by decide)).mpr h137
                      omega
                    refine lv_bipush (v := (-2 : Int32)) hx hb dd_M_note_140 (by decide) ?_
                    refine lv_goto (tgt := 147) hx hb dd_M_note_142 rfl ?_
                    exact mr_ret hQ (mr_iret C0 hM hS (rfl) (⟨by rw [ntR_g hh1 hk0 hnw hev h18 hwn hwe, ← haa, ← hbb]; rw [if_neg (by omega)]; have hw3 := hw hw1; rw [take_all (show (Ls aa).length ≤ i by omega)] at hw3; rw [po_n hw3], _, _, _, _, _, _, _, _, _, _, _, hrl, rfl⟩) dd_M_note_147)
                | succ k ih =>
                  intro i H locs ls hi hw hM hS hl
                  have hil : i < (Ls aa).length := by omega
                  have hll := hLn aa
                  have hle := cf_le (L := (Ls aa)) (O := (Ls bb)) i
                  refine lv_iload hx hb dd_M_note_73 (lv_at hl 7 rfl) ?_
                  refine lv_bipush (v := nI 10) hx hb dd_M_note_75 (by decide) ?_
                  refine lv_iload hx hb dd_M_note_77 (lv_at hl 4 rfl) ?_
                  refine lv_imul hx hb dd_M_note_79 ?_
                  refine mr_vi (pk_mul 10 aa) ?_
                  refine lv_aload_n hx hb dd_M_note_80 rfl (lv_at hl 0 rfl) ?_
                  refine mr_get C0 hM fk_M_87 mu_s (v := .ref (am 5)) rfl dd_M_note_81 ?_
                  refine lv_iload hx hb dd_M_note_84 (lv_at hl 4 rfl) ?_
                  refine mr_iald C0 hM (mu_n' (hne (i := 5) (j := 0) (by decide)) (mu_n' (hne (i := 5) (j := 10) (by decide)) (mu_n' (hne (i := 5) (j := 9) (by decide)) (mu_n' (hne (i := 5) (j := 8) (by decide)) (mu_n' (hne (i := 5) (j := 7) (by decide)) (mu_n' (hne (i := 5) (j := 6) (by decide)) mu_s)))))) (aa) (rfl) (ha17) (by decide) dd_M_note_86 ?_
                  refine mr_vi (x' := nI (List.length (Ls aa))) ((hme aa ha17).1) ?_
                  refine lv_iadd hx hb dd_M_note_87 ?_
                  refine mr_vi (nI_add (10 * aa) (List.length (Ls aa))) ?_
                  refine lv_icmp_ge (tgt := 135) hx hb dd_M_note_88 rfl (fun hc => absurd hc (nle_nI (a := ((10 * aa) + (List.length (Ls aa)))) (b := (10 * aa + i)) (by omega) (by omega) (by omega))) (fun _ => ?_)
                  refine lv_aload_n hx hb dd_M_note_91 rfl (lv_at hl 0 rfl) ?_
                  refine lv_iload hx hb dd_M_note_92 (lv_at hl 5 rfl) ?_
                  refine lv_aload_n hx hb dd_M_note_94 rfl (lv_at hl 0 rfl) ?_
                  refine mr_get C0 hM fk_M_90 mu_s (v := .ref (am 6)) rfl dd_M_note_95 ?_
                  refine lv_iload hx hb dd_M_note_98 (lv_at hl 7 rfl) ?_
                  refine mr_lald C0 hM (mu_n' (hne (i := 6) (j := 0) (by decide)) (mu_n' (hne (i := 6) (j := 10) (by decide)) (mu_n' (hne (i := 6) (j := 9) (by decide)) (mu_n' (hne (i := 6) (j := 8) (by decide)) (mu_n' (hne (i := 6) (j := 7) (by decide)) mu_s))))) ((10 * aa + i)) (rfl) (by omega) (by decide) dd_M_note_100 ?_
                  refine mr_vl (x' := sr_ (Ls aa) i) (((hme aa ha17).2.2 i hil).1) ?_
                  refine mr_callV (As := [.int (nI bb), .long (sr_ (Ls aa) i)]) (rest := []) C0 hM hS vk_M_216 mu_s rfl (c_M_placeIn l mu_s (mu_n' (hne (i := 5) (j := 0) (by decide)) (mu_n' (hne (i := 5) (j := 10) (by decide)) (mu_n' (hne (i := 5) (j := 9) (by decide)) (mu_n' (hne (i := 5) (j := 8) (by decide)) (mu_n' (hne (i := 5) (j := 7) (by decide)) (mu_n' (hne (i := 5) (j := 6) (by decide)) mu_s)))))) (mu_n' (hne (i := 6) (j := 0) (by decide)) (mu_n' (hne (i := 6) (j := 10) (by decide)) (mu_n' (hne (i := 6) (j := 9) (by decide)) (mu_n' (hne (i := 6) (j := 8) (by decide)) (mu_n' (hne (i := 6) (j := 7) (by decide)) mu_s)))))  hb17 (hme bb hb17).1 (hLn bb) (fun j hj => ((hme bb hb17).2.2 j hj).1)) rfl rfl hl.1 (Nat.le_of_ble_eq_true rfl) rfl rfl (by subst hR; exact ⟨Nat.le_of_ble_eq_true rfl, Nat.le_of_ble_eq_true rfl⟩) (by subst hR; exact ⟨Nat.le_of_ble_eq_true rfl, Nat.le_of_ble_eq_true rfl⟩) dd_M_note_101 (fun v1 M1 H locs hp hM hS => ?_)
                  obtain ⟨ev1, eM1⟩ := hp
                  subst ev1
                  rw [eM1] at hM
                  refine W.eq (g2 := F0 m 104 ls [.int (mz_ (Ls bb) bb (sr_ (Ls aa) i))]) rfl ?_
                  refine lv_if_ge (tgt := 129) hx hb dd_M_note_104 rfl (fun h104 => ?_) (fun h104 => ?_)
                  · skip
                    have hv : hs_ (Ls bb) (sr_ (Ls aa) i) = true := by
                      cases h : hs_ (Ls bb) (sr_ (Ls aa) i) with
                      | true => rfl
                      | false => exact absurd ((mz_neg (hLn bb) hb17).mpr h) (Int32.not_lt.mpr h104)
                    have hnx := cf_t hil hv
                    have hw2 : 1 < wn → ∀ j, j < cf_ (List.take (i + 1) (Ls aa)) (Ls bb) → nI j ≠ ix := by rw [hnx]; exact hw
                    refine lv_iinc (k := 7) (v := nI ((10 * aa + i) + 1)) (lv' := [(7, .int (nI ((10 * aa + i) + 1))), (0, .ref (am 0)), (1, .int ev), (2, .int wh), (3, .int ix), (4, .int (nI aa)), (5, .int (nI bb)), (6, .int (nI (cf_ (List.take i (Ls aa)) (Ls bb))))]) hx hb dd_M_note_129 hl rfl (inc_ (10 * aa + i)) (by decide) rfl (fun ls hl => ?_)
                    refine lv_goto (tgt := 73) hx hb dd_M_note_132 rfl ?_
                    exact ih (i + 1) _ _ _ (by omega) (hw2) hM hS (by rw [hnx]; exact lv_sub hl [1, 2, 3, 4, 5, 6, 7, 0] rfl)
                  · skip
                    have hv : hs_ (Ls bb) (sr_ (Ls aa) i) = false := (mz_neg (hLn bb) hb17).mp (Int32.not_le.mp h104)
                    have hnx := cf_f hil hv
                    refine lv_iload_n hx hb dd_M_note_107 rfl (lv_at hl 2 rfl) ?_
                    refine lv_iconst (v := nI 1) hx hb dd_M_note_108 (by decide) ?_
                    refine lv_icmp_le (tgt := 126) hx hb dd_M_note_109 rfl (fun h109 => ?_) (fun h109 => ?_)
                    · skip
                      have hw1 : wn ≤ 1 := by
                        rw [hwe] at h109
                        exact (nI_leI (by omega) (by decide)).mp h109
                      have hw2 : 1 < wn → ∀ j, j < cf_ (List.take (i + 1) (Ls aa)) (Ls bb) → nI j ≠ ix := fun q => by omega
                      refine lv_iinc (k := 6) (v := nI ((cf_ (List.take i (Ls aa)) (Ls bb)) + 1)) (lv' := [(6, .int (nI ((cf_ (List.take i (Ls aa)) (Ls bb)) + 1))), (0, .ref (am 0)), (1, .int ev), (2, .int wh), (3, .int ix), (4, .int (nI aa)), (5, .int (nI bb)), (7, .int (nI (10 * aa + i)))]) hx hb dd_M_note_126 hl rfl (inc_ (cf_ (List.take i (Ls aa)) (Ls bb))) (by decide) rfl (fun ls hl => ?_)
                      refine lv_iinc (k := 7) (v := nI ((10 * aa + i) + 1)) (lv' := [(7, .int (nI ((10 * aa + i) + 1))), (6, .int (nI ((cf_ (List.take i (Ls aa)) (Ls bb)) + 1))), (0, .ref (am 0)), (1, .int ev), (2, .int wh), (3, .int ix), (4, .int (nI aa)), (5, .int (nI bb))]) hx hb dd_M_note_129 hl rfl (inc_ (10 * aa + i)) (by decide) rfl (fun ls hl => ?_)
                      refine lv_goto (tgt := 73) hx hb dd_M_note_132 rfl ?_
                      exact ih (i + 1) _ _ _ (by omega) (hw2) hM hS (by rw [hnx]; exact lv_sub hl [2, 3, 4, 5, 6, 7, 1, 0] rfl)
                    · skip
                      have hw1 : 1 < wn := by
                        rw [hwe] at h109
                        have h := mt (nI_leI (by omega) (by decide)).mpr h109
                        omega
                      refine lv_iload hx hb dd_M_note_112 (lv_at hl 6 rfl) ?_
                      refine lv_iload_n hx hb dd_M_note_114 rfl (lv_at hl 3 rfl) ?_
                      refine lv_icmp_ne (tgt := 126) hx hb dd_M_note_115 rfl (fun h115 => ?_) (fun h115 => ?_)
                      · skip
                        have hw2 : 1 < wn → ∀ j, j < cf_ (List.take (i + 1) (Ls aa)) (Ls bb) → nI j ≠ ix := fun q j hj => by
                          rw [hnx] at hj
                          rcases (show j < cf_ (List.take i (Ls aa)) (Ls bb) ∨ j = cf_ (List.take i (Ls aa)) (Ls bb) by omega) with h | h
                          · exact hw q j h
                          · rw [h]; exact h115
                        refine lv_iinc (k := 6) (v := nI ((cf_ (List.take i (Ls aa)) (Ls bb)) + 1)) (lv' := [(6, .int (nI ((cf_ (List.take i (Ls aa)) (Ls bb)) + 1))), (0, .ref (am 0)), (1, .int ev), (2, .int wh), (3, .int ix), (4, .int (nI aa)), (5, .int (nI bb)), (7, .int (nI (10 * aa + i)))]) hx hb dd_M_note_126 hl rfl (inc_ (cf_ (List.take i (Ls aa)) (Ls bb))) (by decide) rfl (fun ls hl => ?_)
                        refine lv_iinc (k := 7) (v := nI ((10 * aa + i) + 1)) (lv' := [(7, .int (nI ((10 * aa + i) + 1))), (6, .int (nI ((cf_ (List.take i (Ls aa)) (Ls bb)) + 1))), (0, .ref (am 0)), (1, .int ev), (2, .int wh), (3, .int ix), (4, .int (nI aa)), (5, .int (nI bb))]) hx hb dd_M_note_129 hl rfl (inc_ (10 * aa + i)) (by decide) rfl (fun ls hl => ?_)
                        refine lv_goto (tgt := 73) hx hb dd_M_note_132 rfl ?_
                        exact ih (i + 1) _ _ _ (by omega) (hw2) hM hS (by rw [hnx]; exact lv_sub hl [2, 3, 4, 5, 6, 7, 1, 0] rfl)
                      · skip
                        refine lv_aload_n hx hb dd_M_note_118 rfl (lv_at hl 0 rfl) ?_
                        refine mr_get C0 hM fk_M_93 mu_s (v := .ref (am 7)) rfl dd_M_note_119 ?_
                        refine lv_iload hx hb dd_M_note_122 (lv_at hl 7 rfl) ?_
                        refine mr_iald C0 hM (mu_n' (hne (i := 7) (j := 0) (by decide)) (mu_n' (hne (i := 7) (j := 10) (by decide)) (mu_n' (hne (i := 7) (j := 9) (by decide)) (mu_n' (hne (i := 7) (j := 8) (by decide)) mu_s)))) ((10 * aa + i)) (rfl) (by omega) (by decide) dd_M_note_124 ?_
                        refine mr_vi (x' := nI (pr_ (Ls aa) i)) (((hme aa ha17).2.2 i hil).2) ?_
                        exact mr_ret hQ (mr_iret C0 hM hS (rfl) (⟨by rw [ntR_g hh1 hk0 hnw hev h18 hwn hwe, if_neg (by omega), ← haa, ← hbb, po_y (hLn aa) (fo_pick hil hv).1 h115, (fo_pick hil hv).2], _, _, _, _, _, _, _, _, _, _, _, hrl, rfl⟩) dd_M_note_125)
              exact loop_73 (Ls aa).length 0 _ _ _ (Nat.zero_add _) (fun _ j h => absurd h (by simp [cf_, fo_])) hM hS (lv_sub hl [2, 3, 4, 5, 6, 7, 1, 0] rfl)
            refine lv_if_ne (tgt := 43) hx hb dd_M_note_36 rfl (fun h36 => ?_) (fun h36 => ?_)
            · skip
              have hpar : wn % 2 ≠ 0 := fun q => h36 (by rw [q]; rfl)
              refine lv_iload_n hx hb dd_M_note_43 rfl (lv_at hl 1 rfl) ?_
              refine lv_iconst (v := nI 1) hx hb dd_M_note_44 (by decide) ?_
              refine lv_isub hx hb dd_M_note_45 ?_
              refine mr_vi (x' := nI (k0 - 1)) (by rw [hev]; exact pk_sub hk1) ?_
              refine lv_istore (lv' := [(4, .int (nI (k0 - 1))), (0, .ref (am 0)), (1, .int ev), (2, .int wh), (3, .int ix)]) hx hb dd_M_note_46 hl (by decide) rfl (fun ls hl => ?_)
              refine lv_iload_n hx hb dd_M_note_48 rfl (lv_at hl 3 rfl) ?_
              refine lv_iconst (v := nI 2) hx hb dd_M_note_49 (by decide) ?_
              refine lv_irem hx hb dd_M_note_50 (by decide) ?_
              refine mr_vi (x' := nI (wn % 2)) (by rw [hwe]; exact pk_rem (d := 2) (by omega) (by decide) (by decide)) ?_
              refine lv_if_ne (tgt := 60) hx hb dd_M_note_51 rfl (fun h51 => ?_) (fun h51 => ?_)
              · skip
                have hpar2 : wn % 2 ≠ 0 := fun q => h51 (by rw [q]; rfl)
                refine lv_iload_n hx hb dd_M_note_60 rfl (lv_at hl 2 rfl) ?_
                refine mr_vi (x' := nI k0) (hev) ?_
                refine lv_istore (lv' := [(5, .int (nI k0)), (4, .int (nI (k0 - 1))), (0, .ref (am 0)), (1, .int ev), (2, .int wh), (3, .int ix)]) hx hb dd_M_note_61 hl (by decide) rfl (fun ls hl => ?_)
                exact join_63 _ _ _ _ _ (by unfold ntA_; first | rw [if_pos hpar] | rw [if_neg hpar]) (by unfold ntB_; first | rw [if_pos hpar2] | rw [if_neg hpar2]) hM hS (lv_sub hl [2, 3, 4, 5, 1, 0] rfl)
              · skip
                have hpar2 : wn % 2 = 0 := (nI_eq (by omega) (by decide)).mp h51
                refine lv_iload_n hx hb dd_M_note_54 rfl (lv_at hl 2 rfl) ?_
                refine lv_iconst (v := nI 1) hx hb dd_M_note_55 (by decide) ?_
                refine lv_isub hx hb dd_M_note_56 ?_
                refine mr_vi (x' := nI (k0 - 1)) (by rw [hev]; exact pk_sub hk1) ?_
                refine lv_goto (tgt := 61) hx hb dd_M_note_57 rfl ?_
                refine lv_istore (lv' := [(5, .int (nI (k0 - 1))), (4, .int (nI (k0 - 1))), (0, .ref (am 0)), (1, .int ev), (2, .int wh), (3, .int ix)]) hx hb dd_M_note_61 hl (by decide) rfl (fun ls hl => ?_)
                exact join_63 _ _ _ _ _ (by unfold ntA_; first | rw [if_pos hpar] | rw [if_neg hpar]) (by unfold ntB_; first | rw [if_pos hpar2] | rw [if_neg hpar2]) hM hS (lv_sub hl [2, 3, 4, 5, 1, 0] rfl)
            · skip
              have hpar : wn % 2 = 0 := (nI_eq (by omega) (by decide)).mp h36
              refine lv_iload_n hx hb dd_M_note_39 rfl (lv_at hl 1 rfl) ?_
              refine mr_vi (x' := nI k0) (hev) ?_
              refine lv_goto (tgt := 46) hx hb dd_M_note_40 rfl ?_
              refine lv_istore (lv' := [(4, .int (nI k0)), (0, .ref (am 0)), (1, .int ev), (2, .int wh), (3, .int ix)]) hx hb dd_M_note_46 hl (by decide) rfl (fun ls hl => ?_)
              refine lv_iload_n hx hb dd_M_note_48 rfl (lv_at hl 3 rfl) ?_
              refine lv_iconst (v := nI 2) hx hb dd_M_note_49 (by decide) ?_
              refine lv_irem hx hb dd_M_note_50 (by decide) ?_
              refine mr_vi (x' := nI (wn % 2)) (by rw [hwe]; exact pk_rem (d := 2) (by omega) (by decide) (by decide)) ?_
              refine lv_if_ne (tgt := 60) hx hb dd_M_note_51 rfl (fun h51 => ?_) (fun h51 => ?_)
              · skip
                have hpar2 : wn % 2 ≠ 0 := fun q => h51 (by rw [q]; rfl)
                refine lv_iload_n hx hb dd_M_note_60 rfl (lv_at hl 2 rfl) ?_
                refine mr_vi (x' := nI k0) (hev) ?_
                refine lv_istore (lv' := [(5, .int (nI k0)), (4, .int (nI k0)), (0, .ref (am 0)), (1, .int ev), (2, .int wh), (3, .int ix)]) hx hb dd_M_note_61 hl (by decide) rfl (fun ls hl => ?_)
                exact join_63 _ _ _ _ _ (by unfold ntA_; first | rw [if_pos hpar] | rw [if_neg hpar]) (by unfold ntB_; first | rw [if_pos hpar2] | rw [if_neg hpar2]) hM hS (lv_sub hl [2, 3, 4, 5, 1, 0] rfl)
              · skip
                have hpar2 : wn % 2 = 0 := (nI_eq (by omega) (by decide)).mp h51
                refine lv_iload_n hx hb dd_M_note_54 rfl (lv_at hl 2 rfl) ?_
                refine lv_iconst (v := nI 1) hx hb dd_M_note_55 (by decide) ?_
                refine lv_isub hx hb dd_M_note_56 ?_
                refine mr_vi (x' := nI (k0 - 1)) (by rw [hev]; exact pk_sub hk1) ?_
                refine lv_goto (tgt := 61) hx hb dd_M_note_57 rfl ?_
                refine lv_istore (lv' := [(5, .int (nI (k0 - 1))), (4, .int (nI k0)), (0, .ref (am 0)), (1, .int ev), (2, .int wh), (3, .int ix)]) hx hb dd_M_note_61 hl (by decide) rfl (fun ls hl => ?_)
                exact join_63 _ _ _ _ _ (by unfold ntA_; first | rw [if_pos hpar] | rw [if_neg hpar]) (by unfold ntB_; first | rw [if_pos hpar2] | rw [if_neg hpar2]) hM hS (lv_sub hl [2, 3, 4, 5, 1, 0] rfl)
          · skip
            refine lv_bipush (v := (-2 : Int32)) hx hb dd_M_note_30 (by decide) ?_
            exact mr_ret hQ (mr_iret C0 hM hS (rfl) (⟨by rw [ntR_b hh1 (by first | exact fun q => hep q.1 | exact fun q => q.2.1 h18 | exact (fun ⟨_, _, z, hz, hz2⟩ => absurd h22 (by rw [hz2]; exact nI_pos (by omega))) | exact (fun ⟨_, _, z, hz, hz2⟩ => h27 (by rw [hz2]; exact le_nI hz (by omega) (by decide))))], _, _, _, _, _, _, _, _, _, _, _, hrl, rfl⟩) dd_M_note_32)
  · skip
    have hh0 : hs = 0 := (nI_eq (by omega) (by decide)).mp h4
    refine lv_iconst (v := (-1 : Int32)) hx hb dd_M_note_7 (by decide) ?_
    exact mr_ret hQ (mr_iret C0 hM hS (rfl) (⟨by simp [ntR_, hh0], _, _, _, _, _, _, _, _, _, _, _, hrl, rfl⟩) dd_M_note_8)
