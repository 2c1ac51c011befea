
theorem pfT_in (s : Int64) : ∀ k c, pfT_ s k c = (-2) ∨ ∃ x, 1073741825 ≤ x ∧ x < 2147483648 ∧ x % 2 = 1 ∧ TD_ x ∧ pfT_ s k c = nI x
  | 0, _ => Or.inl rfl
  | k + 1, c => by
    by_cases h : TD_ (xn_ (hash_ s (nI c)))
    · have hx := xn_in (hash_ s (nI c))
      exact Or.inr ⟨_, hx.1, hx.2.1, hx.2.2, h, pfT_y h⟩
    · rw [pfT_n h]
      exact pfT_in s k (c + 1)
theorem primeT_in {s : Int64} (h : ¬ primeT_ s = (-2)) : ∃ x, 1073741825 ≤ x ∧ x < 2147483648 ∧ x % 2 = 1 ∧ TD_ x ∧ primeT_ s = nI x := by
  by_cases hs : s < 0 ∨ (1099511627776 : Int64) ≤ s
  · exact absurd (primeT_b hs) h
  · rw [primeT_g hs] at h ⊢
    exact (pfT_in s 256 0).resolve_left h
def stR_ (hs : Nat) (p : Int32) (Pd : rl_) (Ls : Nat → rl_) (nw : Nat) (s : Int64) : Int32 := if hs = 0 then (-1) else if p = (-2) then (-2) else nI ((if hs_ (Ls nw) s then 1 else 0) + (if hs_ Pd s then 2 else 0))
def adR_ (hs : Nat) (p : Int32) (Pd : rl_) (s : Int64) : Int32 := if hs = 0 then (-1) else if p = (-2) then (-2) else if hs_ Pd s = true then (-3) else if hp_ Pd p = true then (-5) else if Pd.length = 10 then (-6) else nI (Pd.length + 1)
def adL_ (hs : Nat) (p : Int32) (Pd : rl_) (s : Int64) : rl_ := if hs = 0 then Pd else if p = (-2) then Pd else if hs_ Pd s = true then Pd else if hp_ Pd p = true then Pd else if Pd.length = 10 then Pd else ins_ Pd s (pn_ p)
def rmR_ (hs : Nat) (p : Int32) (Pd : rl_) (s : Int64) : Int32 := if hs = 0 then (-1) else if p = (-2) then (-2) else if hs_ Pd s = true then nI (Pd.length - 1) else (-4)
def rmL_ (hs : Nat) (p : Int32) (Pd : rl_) (s : Int64) : rl_ := if hs = 0 then Pd else if p = (-2) then Pd else match px_ Pd s with
  | some i => Pd.eraseIdx i
  | none => Pd
theorem pz_some {L : rl_} {s : Int64} (h : hs_ L s = true) : ∃ q, px_ L s = some q ∧ pz_ L s = nI q ∧ q < L.length ∧ sr_ L q = s := by
  rw [hs_px] at h
  obtain ⟨q, hq⟩ := Option.isSome_iff_exists.mp h
  exact ⟨q, hq, by unfold pz_; rw [hq], (px_lt hq).1, (px_lt hq).2⟩
theorem mz_some {L : rl_} {s : Int64} (e : Nat) (h : hs_ L s = true) : ∃ q, px_ L s = some q ∧ mz_ L e s = nI (10 * e + q) ∧ q < L.length ∧ sr_ L q = s := by
  rw [hs_px] at h
  obtain ⟨q, hq⟩ := Option.isSome_iff_exists.mp h
  exact ⟨q, hq, by unfold mz_; rw [hq], (px_lt hq).1, (px_lt hq).2⟩
def wt_ (N : Nat) (L : rl_) (s : Int64) : Nat := 3 ^ pd_ (fs_ L s) % N
theorem sr_inj {L : rl_} (hd : (L.map (·.1)).Nodup) {i j : Nat} (hi : i < L.length) (hj : j < L.length) (h : sr_ L i = sr_ L j) : i = j := by
  rw [sr_at hi, sr_at hj] at h
  have h1 : (L.map (·.1))[i]'(by rw [List.length_map]; exact hi) = (L.map (·.1))[j]'(by rw [List.length_map]; exact hj) := by simp [h]
  exact (List.getElem_inj hd).mp h1
theorem pe_fs {L : rl_} {s : Int64} {q : Nat} (hd : (L.map (·.1)).Nodup) (hq : q < L.length) (h : sr_ L q = s) : ∀ i, i ≤ L.length → pe_ L q i = pd_ (fs_ (L.take i) s)
  | 0, _ => by simp [pe_, fs_, pd_]
  | i + 1, hi => by
    have ih := pe_fs hd hq h i (by omega)
    rw [pe_, fs_s (by omega)]
    by_cases h1 : i = q
    · rw [if_pos h1, if_pos (by rw [h1]; exact h), List.append_nil, ih]
    · rw [if_neg h1, if_neg (fun z => h1 (sr_inj hd (by omega) hq (z.trans h.symm))), pd_snoc, ih]
theorem pe_wt {L : rl_} {s : Int64} {q N : Nat} (hd : (L.map (·.1)).Nodup) (hq : q < L.length) (h : sr_ L q = s) : 3 ^ pe_ L q L.length % N = wt_ N L s := by
  rw [pe_fs hd hq h _ (Nat.le_refl _), List.take_length, wt_]
def wiR_ (hs N : Nat) (Ls : Nat → rl_) (nw : Nat) (s : Int64) (b : Int32) : Int64 := if hs = 1 ∧ hs_ (Ls nw) s = true then hdR_ (wt_ N (Ls nw) s) b else lN 0
def isR_ (hs : Nat) (p : Int32) (Ls : Nat → rl_) (nw : Nat) (s : Int64) : Int32 := if hs = 0 then (-1) else if p = (-2) then (-2) else if hs_ (Ls nw) s = true then nI ((Ls nw).length - 1) else (-4)
def isH_ (hs N : Nat) (p : Int32) (Ls : Nat → rl_) (nw : Nat) (s : Int64) (Hd : Nat) : Nat := if hs = 0 then Hd else if p = (-2) then Hd else if hs_ (Ls nw) s = true then wt_ N (Ls nw) s else Hd
def isF_ (hs : Nat) (p : Int32) (Ls : Nat → rl_) (nw : Nat) (s : Int64) (fc : Nat) : Nat := if hs = 0 then fc else if p = (-2) then fc else if hs_ (Ls nw) s = true then 0 else fc
noncomputable def ckR_ (hs N : Nat) (p : Int32) (Ls : Nat → rl_) (nw Hd : Nat) (e : Int32) : Int32 := if hs = 0 then (-1) else @ite _ (p = (-2) ∨ ¬ ep_ e nw) (Classical.propDecidable _) (-2) (nI (if Hd ^ pn_ p % N = ac_ N (Ls (pn_ e)) then 1 else 0))
noncomputable def ceR_ (hs N : Nat) (p : Int32) (Ls : Nat → rl_) (nw Hd fc : Nat) (e : Int32) : Int32 := if hs = 0 then (-1) else @ite _ (p = (-2) ∨ ¬ ep_ e nw) (Classical.propDecidable _) (-2) (nI (if Hd ^ pn_ p % N * (ac_ N (Ls (pn_ e)) ^ fc % N) % N = 3 then 1 else 0))
theorem ckR_b {hs N : Nat} {p : Int32} {Ls : Nat → rl_} {nw Hd : Nat} {e : Int32} (h1 : hs = 1) (h : p = (-2) ∨ ¬ ep_ e nw) : ckR_ hs N p Ls nw Hd e = (-2) := by unfold ckR_; rw [if_neg (by omega), if_pos h]
theorem ckR_g {hs N : Nat} {p : Int32} {Ls : Nat → rl_} {nw Hd x k : Nat} {e : Int32} (h1 : hs = 1) (hp : ¬ p = (-2)) (hx : p = nI x) (hxl : x < 2147483648) (hk : k ≤ nw) (hn : nw ≤ 16) (he : e = nI k) : ckR_ hs N p Ls nw Hd e = nI (if Hd ^ x % N = ac_ N (Ls k) then 1 else 0) := by
  unfold ckR_
  rw [if_neg (by omega), if_neg (fun q => q.elim hp (fun z => z ⟨k, hk, he⟩)), hx, he, pn_i hxl, pn_i (by omega)]
theorem ceR_b {hs N : Nat} {p : Int32} {Ls : Nat → rl_} {nw Hd fc : Nat} {e : Int32} (h1 : hs = 1) (h : p = (-2) ∨ ¬ ep_ e nw) : ceR_ hs N p Ls nw Hd fc e = (-2) := by unfold ceR_; rw [if_neg (by omega), if_pos h]
theorem ceR_g {hs N : Nat} {p : Int32} {Ls : Nat → rl_} {nw Hd fc x k : Nat} {e : Int32} (h1 : hs = 1) (hp : ¬ p = (-2)) (hx : p = nI x) (hxl : x < 2147483648) (hk : k ≤ nw) (hn : nw ≤ 16) (he : e = nI k) : ceR_ hs N p Ls nw Hd fc e = nI (if Hd ^ x % N * (ac_ N (Ls k) ^ fc % N) % N = 3 then 1 else 0) := by
  unfold ceR_
  rw [if_neg (by omega), if_neg (fun q => q.elim hp (fun z => z ⟨k, hk, he⟩)), hx, he, pn_i hxl, pn_i (by omega)]
theorem is_3 {X : Nat} : (X / 18446744073709551616 = 0 ∧ X % 18446744073709551616 = 3) ↔ X = 3 := by omega

set_option maxHeartbeats 4000000 in
set_option maxRecDepth 100000 in
theorem c_M_state (l : Launch) {G : mg_} {M : mw_} {am : Nat → Nat} {hs N Vt nw Hd fc : Nat} {Pd : rl_} {Ls : Nat → rl_} {w g0 cf qf xw : Nat → Int32} {f sf uf lf : Nat → Int64} {r1 r0 : Int64} {sx : Int64}   (hne : ∀ {i j : Nat}, i ≠ j → am i ≠ am j) (hk : M (am 1) = some (la_ G 32 mk_)) (hrl : mrl_ hs N Pd Ls nw f g0 cf sf qf uf lf) (hok : okS_ Pd Ls nw) (hhs : hs ≤ 1)  : ct_ l my_M_state cd_M_state 3 (some .int) { frames := 3, cells := 0, slots := 0, locals := 79 } G [.ref (am 0), .long sx] (mu_ (mu_ (mu_ (mu_ (mu_ (mu_ (mu_ (mu_ (mu_ (mu_ M (am 2) (ia_ G 64 w)) (am 3) (la_ G 10 f)) (am 4) (ia_ G 10 g0)) (am 5) (ia_ G 17 cf)) (am 6) (la_ G 170 sf)) (am 7) (ia_ G 170 qf)) (am 8) (la_ G 17 uf)) (am 9) (la_ G 17 lf)) (am 10) (ia_ G 32 xw)) (am 0) (ob_ 6 [.ref (am 1), .ref (am 2), .int (nI hs), .long (hi_ N), .long (lo_ N), .long (hi_ Vt), .long (lo_ Vt), .int (nI Pd.length), .ref (am 3), .ref (am 4), .int (nI nw), .ref (am 5), .ref (am 6), .ref (am 7), .ref (am 8), .ref (am 9), .long (hi_ Hd), .long (lo_ Hd), .int (nI fc), .long r1, .long r0, .ref (am 10)])) (fun v0 M' => v0 = (some (.int (stR_ hs (primeT_ sx) Pd Ls nw sx))) ∧ MWx_ M am G hs N Vt Pd Ls nw Hd fc M') 0 0 := by
  refine ct_.intro2 (by decide) (Nat.le_of_ble_eq_true rfl) ?_
  intro p e s m args below meth c ls R Q hR hQ C0 hl hM hS
  have hx := C0.1
  have hb := C0.2.1
  have hl : lv_has ls 3 [(0, .ref (am 0)), (1, .long sx)] := hl
  obtain ⟨hro, hme, hul⟩ := hrl
  have hrl : mrl_ hs N Pd Ls nw f g0 cf sf qf uf lf := ⟨hro, hme, hul⟩
  obtain ⟨hPn, hLn, hnw, hPp, hLp, hPd, hLd⟩ := hok
  have hnw17 : nw < 17 := by omega
  have hcn := (hme nw hnw17).1
  refine lv_aload_n hx hb dd_M_state_0 rfl (lv_at hl 0 rfl) ?_
  refine mr_get C0 hM fk_M_181 mu_s (v := .int (nI hs)) rfl dd_M_state_1 ?_
  refine lv_if_ne (tgt := 9) hx hb dd_M_state_4 rfl (fun h4 => ?_) (fun h4 => ?_)
  · skip
    have hh1 : hs = 1 := by
      have h2 : hs ≠ 0 := fun q => h4 (by rw [q]; rfl)
      omega
    refine lv_aload_n hx hb dd_M_state_9 rfl (lv_at hl 0 rfl) ?_
    refine lv_lload_n hx hb dd_M_state_10 rfl (lv_at hl 1 rfl) ?_
    refine mr_callV (As := [.long sx]) (rest := []) C0 hM hS vk_M_202 mu_s rfl (c_M_prime l mu_s (mu_n' (hne (i := 1) (j := 0) (by decide)) (mu_n' (hne (i := 1) (j := 10) (by decide)) (mu_n' (hne (i := 1) (j := 9) (by decide)) (mu_n' (hne (i := 1) (j := 8) (by decide)) (mu_n' (hne (i := 1) (j := 7) (by decide)) (mu_n' (hne (i := 1) (j := 6) (by decide)) (mu_n' (hne (i := 1) (j := 5) (by decide)) (mu_n' (hne (i := 1) (j := 4) (by decide)) (mu_n' (hne (i := 1) (j := 3) (by decide)) (mu_n' (hne (i := 1) (j := 2) (by decide)) hk)))))))))) (mu_n' (hne (i := 2) (j := 0) (by decide)) (mu_n' (hne (i := 2) (j := 10) (by decide)) (mu_n' (hne (i := 2) (j := 9) (by decide)) (mu_n' (hne (i := 2) (j := 8) (by decide)) (mu_n' (hne (i := 2) (j := 7) (by decide)) (mu_n' (hne (i := 2) (j := 6) (by decide)) (mu_n' (hne (i := 2) (j := 5) (by decide)) (mu_n' (hne (i := 2) (j := 4) (by decide)) (mu_n' (hne (i := 2) (j := 3) (by decide)) mu_s)))))))))  ) rfl rfl hl.1 (Nat.le_of_ble_eq_true rfl) rfl rfl (by subst hR; exact ⟨Nat.le_of_ble_eq_true rfl, Nat.le_of_ble_eq_true rfl⟩) (by subst hR; exact ⟨Nat.le_of_ble_eq_true rfl, Nat.le_of_ble_eq_true rfl⟩) dd_M_state_11 (fun v1 M1 H locs hp hM hS => ?_)
    obtain ⟨ev1, w1, eM1⟩ := hp
    subst ev1
    rw [eM1] at hM
    have hM := mr_M (mu_c10 (hne (i := 2) (j := 3) (by decide)) (hne (i := 2) (j := 4) (by decide)) (hne (i := 2) (j := 5) (by decide)) (hne (i := 2) (j := 6) (by decide)) (hne (i := 2) (j := 7) (by decide)) (hne (i := 2) (j := 8) (by decide)) (hne (i := 2) (j := 9) (by decide)) (hne (i := 2) (j := 10) (by decide)) (hne (i := 2) (j := 0) (by decide))) hM
    have hM : mm_ G (mu_ (mu_ (mu_ (mu_ (mu_ (mu_ (mu_ (mu_ (mu_ (mu_ M (am 2) (ia_ G 64 w1)) (am 3) (la_ G 10 f)) (am 4) (ia_ G 10 g0)) (am 5) (ia_ G 17 cf)) (am 6) (la_ G 170 sf)) (am 7) (ia_ G 170 qf)) (am 8) (la_ G 17 uf)) (am 9) (la_ G 17 lf)) (am 10) (ia_ G 32 xw)) (am 0) (ob_ 6 [.ref (am 1), .ref (am 2), .int (nI hs), .long (hi_ N), .long (lo_ N), .long (hi_ Vt), .long (lo_ Vt), .int (nI Pd.length), .ref (am 3), .ref (am 4), .int (nI nw), .ref (am 5), .ref (am 6), .ref (am 7), .ref (am 8), .ref (am 9), .long (hi_ Hd), .long (lo_ Hd), .int (nI fc), .long r1, .long r0, .ref (am 10)])) H := hM
    refine W.eq (g2 := F0 m 14 ls [.int (primeT_ sx)]) rfl ?_
    refine lv_bipush (v := (-2 : Int32)) hx hb dd_M_state_14 (by decide) ?_
    refine lv_icmp_ne (tgt := 22) hx hb dd_M_state_16 rfl (fun h16 => ?_) (fun h16 => ?_)
    · skip
      refine lv_aload_n hx hb dd_M_state_22 rfl (lv_at hl 0 rfl) ?_
      refine lv_aload_n hx hb dd_M_state_23 rfl (lv_at hl 0 rfl) ?_
      refine mr_get C0 hM fk_M_209 mu_s (v := .int (nI nw)) rfl dd_M_state_24 ?_
      refine lv_lload_n hx hb dd_M_state_27 rfl (lv_at hl 1 rfl) ?_
      refine mr_callV (As := [.int (nI nw), .long sx]) (rest := []) C0 hM hS vk_M_216 mu_s rfl (c_M_placeIn l mu_s (mu_n' (hne (i := 5) (j := 0) (by decide)) (mu_n' (hne (i := 5) (j := 10) (by decide)) (mu_n' (hne (i := 5) (j := 9) (by decide)) (mu_n' (hne (i := 5) (j := 8) (by decide)) (mu_n' (hne (i := 5) (j := 7) (by decide)) (mu_n' (hne (i := 5) (j := 6) (by decide)) mu_s)))))) (mu_n' (hne (i := 6) (j := 0) (by decide)) (mu_n' (hne (i := 6) (j := 10) (by decide)) (mu_n' (hne (i := 6) (j := 9) (by decide)) (mu_n' (hne (i := 6) (j := 8) (by decide)) (mu_n' (hne (i := 6) (j := 7) (by decide)) mu_s)))))  hnw17 (hme nw hnw17).1 (hLn nw) (fun j hj => ((hme nw hnw17).2.2 j hj).1)) rfl rfl hl.1 (Nat.le_of_ble_eq_true rfl) rfl rfl (by subst hR; exact ⟨Nat.le_of_ble_eq_true rfl, Nat.le_of_ble_eq_true rfl⟩) (by subst hR; exact ⟨Nat.le_of_ble_eq_true rfl, Nat.le_of_ble_eq_true rfl⟩) dd_M_state_28 (fun v1 M1 H locs hp hM hS => ?_)
      obtain ⟨ev1, eM1⟩ := hp
      subst ev1
      rw [eM1] at hM
      refine W.eq (g2 := F0 m 31 ls [.int (mz_ (Ls nw) nw sx)]) rfl ?_
      refine lv_if_lt (tgt := 38) hx hb dd_M_state_31 rfl (fun h31 => ?_) (fun h31 => ?_)
      · skip
        have hv31 : hs_ (Ls nw) sx = false := (mz_neg (hLn nw) hnw17).mp h31
        refine lv_iconst (v := nI 0) hx hb dd_M_state_38 (by decide) ?_
        refine lv_aload_n hx hb dd_M_state_39 rfl (lv_at hl 0 rfl) ?_
        refine lv_lload_n hx hb dd_M_state_40 rfl (lv_at hl 1 rfl) ?_
        refine mr_callV (As := [.long sx]) (rest := [.int (nI 0)]) C0 hM hS vk_M_206 mu_s rfl (c_M_pendingAt l mu_s (mu_n' (hne (i := 3) (j := 0) (by decide)) (mu_n' (hne (i := 3) (j := 10) (by decide)) (mu_n' (hne (i := 3) (j := 9) (by decide)) (mu_n' (hne (i := 3) (j := 8) (by decide)) (mu_n' (hne (i := 3) (j := 7) (by decide)) (mu_n' (hne (i := 3) (j := 6) (by decide)) (mu_n' (hne (i := 3) (j := 5) (by decide)) (mu_n' (hne (i := 3) (j := 4) (by decide)) mu_s))))))))  (fun j hj => (hro j hj).1) hPn) rfl rfl hl.1 (Nat.le_of_ble_eq_true rfl) rfl rfl (by subst hR; exact ⟨Nat.le_of_ble_eq_true rfl, Nat.le_of_ble_eq_true rfl⟩) (by subst hR; exact ⟨Nat.le_of_ble_eq_true rfl, Nat.le_of_ble_eq_true rfl⟩) dd_M_state_41 (fun v1 M1 H locs hp hM hS => ?_)
        obtain ⟨ev1, eM1⟩ := hp
        subst ev1
        rw [eM1] at hM
        refine W.eq (g2 := F0 m 44 ls [.int (pz_ Pd sx), .int (nI 0)]) rfl ?_
        refine lv_if_lt (tgt := 51) hx hb dd_M_state_44 rfl (fun h44 => ?_) (fun h44 => ?_)
        · skip
          have hv44 : hs_ Pd sx = false := (pz_neg hPn).mp h44
          refine lv_iconst (v := nI 0) hx hb dd_M_state_51 (by decide) ?_
          refine lv_iadd hx hb dd_M_state_52 ?_
          refine mr_vi (nI_add 0 0) ?_
          exact mr_ret hQ (mr_iret C0 hM hS (rfl) (⟨by unfold stR_; rw [if_neg (by omega), if_neg h16, hv31, hv44]; rfl, _, _, _, _, _, _, _, _, _, _, _, hrl, rfl⟩) dd_M_state_53)
        · skip
          have hv44 : hs_ Pd sx = true := by
            cases h : hs_ Pd sx with
            | true => rfl
            | false => exact absurd ((pz_neg hPn).mpr h) h44
          refine lv_iconst (v := nI 2) hx hb dd_M_state_47 (by decide) ?_
          refine lv_goto (tgt := 52) hx hb dd_M_state_48 rfl ?_
          refine lv_iadd hx hb dd_M_state_52 ?_
          refine mr_vi (nI_add 0 2) ?_
          exact mr_ret hQ (mr_iret C0 hM hS (rfl) (⟨by unfold stR_; rw [if_neg (by omega), if_neg h16, hv31, hv44]; rfl, _, _, _, _, _, _, _, _, _, _, _, hrl, rfl⟩) dd_M_state_53)
      · skip
        have hv31 : hs_ (Ls nw) sx = true := by
          cases h : hs_ (Ls nw) sx with
          | true => rfl
          | false => exact absurd ((mz_neg (hLn nw) hnw17).mpr h) h31
        refine lv_iconst (v := nI 1) hx hb dd_M_state_34 (by decide) ?_
        refine lv_goto (tgt := 39) hx hb dd_M_state_35 rfl ?_
        refine lv_aload_n hx hb dd_M_state_39 rfl (lv_at hl 0 rfl) ?_
        refine lv_lload_n hx hb dd_M_state_40 rfl (lv_at hl 1 rfl) ?_
        refine mr_callV (As := [.long sx]) (rest := [.int (nI 1)]) C0 hM hS vk_M_206 mu_s rfl (c_M_pendingAt l mu_s (mu_n' (hne (i := 3) (j := 0) (by decide)) (mu_n' (hne (i := 3) (j := 10) (by decide)) (mu_n' (hne (i := 3) (j := 9) (by decide)) (mu_n' (hne (i := 3) (j := 8) (by decide)) (mu_n' (hne (i := 3) (j := 7) (by decide)) (mu_n' (hne (i := 3) (j := 6) (by decide)) (mu_n' (hne (i := 3) (j := 5) (by decide)) (mu_n' (hne (i := 3) (j := 4) (by decide)) mu_s))))))))  (fun j hj => (hro j hj).1) hPn) rfl rfl hl.1 (Nat.le_of_ble_eq_true rfl) rfl rfl (by subst hR; exact ⟨Nat.le_of_ble_eq_true rfl, Nat.le_of_ble_eq_true rfl⟩) (by subst hR; exact ⟨Nat.le_of_ble_eq_true rfl, Nat.le_of_ble_eq_true rfl⟩) dd_M_state_41 (fun v1 M1 H locs hp hM hS => ?_)
        obtain ⟨ev1, eM1⟩ := hp
        subst ev1
        rw [eM1] at hM
        refine W.eq (g2 := F0 m 44 ls [.int (pz_ Pd sx), .int (nI 1)]) rfl ?_
        refine lv_if_lt (tgt := 51) hx hb dd_M_state_44 rfl (fun h44 => ?_) (fun h44 => ?_)
        · skip
          have hv44 : hs_ Pd sx = false := (pz_neg hPn).mp h44
          refine lv_iconst (v := nI 0) hx hb dd_M_state_51 (by decide) ?_
          refine lv_iadd hx hb dd_M_state_52 ?_
          refine mr_vi (nI_add 1 0) ?_
          exact mr_ret hQ (mr_iret C0 hM hS (rfl) (⟨by unfold stR_; rw [if_neg (by omega), if_neg h16, hv31, hv44]; rfl, _, _, _, _, _, _, _, _, _, _, _, hrl, rfl⟩) dd_M_state_53)
        · skip
          have hv44 : hs_ Pd sx = true := by
            cases h : hs_ Pd sx with
            | true => rfl
            | false => exact absurd ((pz_neg hPn).mpr h) h44
          refine lv_iconst (v := nI 2) hx hb dd_M_state_47 (by decide) ?_
          refine lv_goto (tgt := 52) hx hb dd_M_state_48 rfl ?_
          refine lv_iadd hx hb dd_M_state_52 ?_
          refine mr_vi (nI_add 1 2) ?_
          exact mr_ret hQ (mr_iret C0 hM hS (rfl) (⟨by unfold stR_; rw [if_neg (by omega), if_neg h16, hv31, hv44]; rfl, _, _, _, _, _, _, _, _, _, _, _, hrl, rfl⟩) dd_M_state_53)
    · skip
      refine lv_bipush (v := (-2 : Int32)) hx hb dd_M_state_19 (by decide) ?_
      exact mr_ret hQ (mr_iret C0 hM hS (rfl) (⟨by unfold stR_; rw [if_neg (by omega), if_pos h16], _, _, _, _, _, _, _, _, _, _, _, hrl, rfl⟩) dd_M_state_21)
  · skip
    have hh0 : hs = 0 := (nI_eq (by omega) (by decide)).mp h4
    refine lv_iconst (v := (-1 : Int32)) hx hb dd_M_state_7 (by decide) ?_
    exact mr_ret hQ (mr_iret C0 hM hS (rfl) (⟨by simp [stR_, hh0], _, _, _, _, _, _, _, _, _, _, _, hrl, rfl⟩) dd_M_state_8)

set_option maxHeartbeats 4000000 in
set_option maxRecDepth 100000 in
theorem c_M_add (l : Launch) {G : mg_} {M : mw_} {am : Nat → Nat} {hs N Vt nw Hd fc : Nat} {Pd : rl_} {Ls : Nat → rl_} {w g0 cf qf xw : Nat → Int32} {f sf uf lf : Nat → Int64} {r1 r0 : Int64} {sx : Int64}   (hne : ∀ {i j : Nat}, i ≠ j → am i ≠ am j) (hk : M (am 1) = some (la_ G 32 mk_)) (hrl : mrl_ hs N Pd Ls nw f g0 cf sf qf uf lf) (hok : okS_ Pd Ls nw) (hhs : hs ≤ 1)  : ct_ l my_M_add cd_M_add 5 (some .int) { frames := 3, cells := 0, slots := 0, locals := 79 } G [.ref (am 0), .long sx] (mu_ (mu_ (mu_ (mu_ (mu_ (mu_ (mu_ (mu_ (mu_ (mu_ M (am 2) (ia_ G 64 w)) (am 3) (la_ G 10 f)) (am 4) (ia_ G 10 g0)) (am 5) (ia_ G 17 cf)) (am 6) (la_ G 170 sf)) (am 7) (ia_ G 170 qf)) (am 8) (la_ G 17 uf)) (am 9) (la_ G 17 lf)) (am 10) (ia_ G 32 xw)) (am 0) (ob_ 6 [.ref (am 1), .ref (am 2), .int (nI hs), .long (hi_ N), .long (lo_ N), .long (hi_ Vt), .long (lo_ Vt), .int (nI Pd.length), .ref (am 3), .ref (am 4), .int (nI nw), .ref (am 5), .ref (am 6), .ref (am 7), .ref (am 8), .ref (am 9), .long (hi_ Hd), .long (lo_ Hd), .int (nI fc), .long r1, .long r0, .ref (am 10)])) (fun v0 M' => v0 = (some (.int (adR_ hs (primeT_ sx) Pd sx))) ∧ MWx_ M am G hs N Vt (adL_ hs (primeT_ sx) Pd sx) Ls nw Hd fc M') 0 0 := by
  refine ct_.intro2 (by decide) (Nat.le_of_ble_eq_true rfl) ?_
  intro p e s m args below meth c ls R Q hR hQ C0 hl hM hS
  have hx := C0.1
  have hb := C0.2.1
  have hl : lv_has ls 5 [(0, .ref (am 0)), (1, .long sx)] := hl
  obtain ⟨hro, hme, hul⟩ := hrl
  have hrl : mrl_ hs N Pd Ls nw f g0 cf sf qf uf lf := ⟨hro, hme, hul⟩
  obtain ⟨hPn, hLn, hnw, hPp, hLp, hPd, hLd⟩ := hok
  have hnw17 : nw < 17 := by omega
  have hcn := (hme nw hnw17).1
  refine lv_aload_n hx hb dd_M_add_0 rfl (lv_at hl 0 rfl) ?_
  refine mr_get C0 hM fk_M_181 mu_s (v := .int (nI hs)) rfl dd_M_add_1 ?_
  refine lv_if_ne (tgt := 9) hx hb dd_M_add_4 rfl (fun h4 => ?_) (fun h4 => ?_)
  · skip
    have hh1 : hs = 1 := by
      have h2 : hs ≠ 0 := fun q => h4 (by rw [q]; rfl)
      omega
    refine lv_aload_n hx hb dd_M_add_9 rfl (lv_at hl 0 rfl) ?_
    refine lv_lload_n hx hb dd_M_add_10 rfl (lv_at hl 1 rfl) ?_
    refine mr_callV (As := [.long sx]) (rest := []) C0 hM hS vk_M_202 mu_s rfl (c_M_prime l mu_s (mu_n' (hne (i := 1) (j := 0) (by decide)) (mu_n' (hne (i := 1) (j := 10) (by decide)) (mu_n' (hne (i := 1) (j := 9) (by decide)) (mu_n' (hne (i := 1) (j := 8) (by decide)) (mu_n' (hne (i := 1) (j := 7) (by decide)) (mu_n' (hne (i := 1) (j := 6) (by decide)) (mu_n' (hne (i := 1) (j := 5) (by decide)) (mu_n' (hne (i := 1) (j := 4) (by decide)) (mu_n' (hne (i := 1) (j := 3) (by decide)) (mu_n' (hne (i := 1) (j := 2) (by decide)) hk)))))))))) (mu_n' (hne (i := 2) (j := 0) (by decide)) (mu_n' (hne (i := 2) (j := 10) (by decide)) (mu_n' (hne (i := 2) (j := 9) (by decide)) (mu_n' (hne (i := 2) (j := 8) (by decide)) (mu_n' (hne (i := 2) (j := 7) (by decide)) (mu_n' (hne (i := 2) (j := 6) (by decide)) (mu_n' (hne (i := 2) (j := 5) (by decide)) (mu_n' (hne (i := 2) (j := 4) (by decide)) (mu_n' (hne (i := 2) (j := 3) (by decide)) mu_s)))))))))  ) rfl rfl hl.1 (Nat.le_of_ble_eq_true rfl) rfl rfl (by subst hR; exact ⟨Nat.le_of_ble_eq_true rfl, Nat.le_of_ble_eq_true rfl⟩) (by subst hR; exact ⟨Nat.le_of_ble_eq_true rfl, Nat.le_of_ble_eq_true rfl⟩) dd_M_add_11 (fun v1 M1 H locs hp hM hS => ?_)
    obtain ⟨ev1, w1, eM1⟩ := hp
    subst ev1
    rw [eM1] at hM
    have hM := mr_M (mu_c10 (hne (i := 2) (j := 3) (by decide)) (hne (i := 2) (j := 4) (by decide)) (hne (i := 2) (j := 5) (by decide)) (hne (i := 2) (j := 6) (by decide)) (hne (i := 2) (j := 7) (by decide)) (hne (i := 2) (j := 8) (by decide)) (hne (i := 2) (j := 9) (by decide)) (hne (i := 2) (j := 10) (by decide)) (hne (i := 2) (j := 0) (by decide))) hM
    have hM : mm_ G (mu_ (mu_ (mu_ (mu_ (mu_ (mu_ (mu_ (mu_ (mu_ (mu_ M (am 2) (ia_ G 64 w1)) (am 3) (la_ G 10 f)) (am 4) (ia_ G 10 g0)) (am 5) (ia_ G 17 cf)) (am 6) (la_ G 170 sf)) (am 7) (ia_ G 170 qf)) (am 8) (la_ G 17 uf)) (am 9) (la_ G 17 lf)) (am 10) (ia_ G 32 xw)) (am 0) (ob_ 6 [.ref (am 1), .ref (am 2), .int (nI hs), .long (hi_ N), .long (lo_ N), .long (hi_ Vt), .long (lo_ Vt), .int (nI Pd.length), .ref (am 3), .ref (am 4), .int (nI nw), .ref (am 5), .ref (am 6), .ref (am 7), .ref (am 8), .ref (am 9), .long (hi_ Hd), .long (lo_ Hd), .int (nI fc), .long r1, .long r0, .ref (am 10)])) H := hM
    refine W.eq (g2 := F0 m 14 ls [.int (primeT_ sx)]) rfl ?_
    refine lv_istore_n (lv' := [(3, .int (primeT_ sx)), (0, .ref (am 0)), (1, .long sx)]) hx hb dd_M_add_14 rfl hl (by decide) rfl (fun ls hl => ?_)
    refine lv_iload_n hx hb dd_M_add_15 rfl (lv_at hl 0 rfl) ?_
    refine lv_bipush (v := (-2 : Int32)) hx hb dd_M_add_16 (by decide) ?_
    refine lv_icmp_ne (tgt := 24) hx hb dd_M_add_18 rfl (fun h18 => ?_) (fun h18 => ?_)
    · skip
      refine lv_aload_n hx hb dd_M_add_24 rfl (lv_at hl 1 rfl) ?_
      refine lv_lload_n hx hb dd_M_add_25 rfl (lv_at hl 2 rfl) ?_
      refine mr_callV (As := [.long sx]) (rest := []) C0 hM hS vk_M_206 mu_s rfl (c_M_pendingAt l mu_s (mu_n' (hne (i := 3) (j := 0) (by decide)) (mu_n' (hne (i := 3) (j := 10) (by decide)) (mu_n' (hne (i := 3) (j := 9) (by decide)) (mu_n' (hne (i := 3) (j := 8) (by decide)) (mu_n' (hne (i := 3) (j := 7) (by decide)) (mu_n' (hne (i := 3) (j := 6) (by decide)) (mu_n' (hne (i := 3) (j := 5) (by decide)) (mu_n' (hne (i := 3) (j := 4) (by decide)) mu_s))))))))  (fun j hj => (hro j hj).1) hPn) rfl rfl hl.1 (Nat.le_of_ble_eq_true rfl) rfl rfl (by subst hR; exact ⟨Nat.le_of_ble_eq_true rfl, Nat.le_of_ble_eq_true rfl⟩) (by subst hR; exact ⟨Nat.le_of_ble_eq_true rfl, Nat.le_of_ble_eq_true rfl⟩) dd_M_add_26 (fun v1 M1 H locs hp hM hS => ?_)
      obtain ⟨ev1, eM1⟩ := hp
      subst ev1
      rw [eM1] at hM
      refine W.eq (g2 := F0 m 29 ls [.int (pz_ Pd sx)]) rfl ?_
      refine lv_if_lt (tgt := 35) hx hb dd_M_add_29 rfl (fun h29 => ?_) (fun h29 => ?_)
      · skip
        have hv29 : hs_ Pd sx = false := (pz_neg hPn).mp h29
        refine lv_iconst (v := nI 0) hx hb dd_M_add_35 (by decide) ?_
        refine lv_istore (lv' := [(4, .int (nI 0)), (3, .int (primeT_ sx)), (0, .ref (am 0)), (1, .long sx)]) hx hb dd_M_add_36 hl (by decide) rfl (fun ls hl => ?_)
        have loop_38 : ∀ (z : Nat) (i : Nat) (H : Heap) (locs : List Loc) (ls : Array Slot), i + z = Pd.length → (∀ j, j < i → nI (pr_ Pd j) ≠ primeT_ sx) → mm_ G (mu_ (mu_ (mu_ (mu_ (mu_ (mu_ (mu_ (mu_ (mu_ (mu_ M (am 2) (ia_ G 64 w1)) (am 3) (la_ G 10 f)) (am 4) (ia_ G 10 g0)) (am 5) (ia_ G 17 cf)) (am 6) (la_ G 170 sf)) (am 7) (ia_ G 170 qf)) (am 8) (la_ G 17 uf)) (am 9) (la_ G 17 lf)) (am 10) (ia_ G 32 xw)) (am 0) (ob_ 6 [.ref (am 1), .ref (am 2), .int (nI hs), .long (hi_ N), .long (lo_ N), .long (hi_ Vt), .long (lo_ Vt), .int (nI Pd.length), .ref (am 3), .ref (am 4), .int (nI nw), .ref (am 5), .ref (am 6), .ref (am 7), .ref (am 8), .ref (am 9), .long (hi_ Hd), .long (lo_ Hd), .int (nI fc), .long r1, .long r0, .ref (am 10)])) H → va_S (fz_ G) s.heap H locs → lv_has ls 5 [(0, .ref (am 0)), (1, .long sx), (3, .int (primeT_ sx)), (4, .int (nI i))] → W p l e R s m args below meth c H locs 0 0 Q (F0 m 38 ls []) := by
          intro z
          induction z with
          | zero =>
            intro i H locs ls hi hb0 hM hS hl
            refine lv_iload hx hb dd_M_add_38 (lv_at hl 3 rfl) ?_
            refine lv_aload_n hx hb dd_M_add_40 rfl (lv_at hl 0 rfl) ?_
            refine mr_get C0 hM fk_M_198 mu_s (v := .int (nI Pd.length)) rfl dd_M_add_41 ?_
            refine lv_icmp_ge (tgt := 67) hx hb dd_M_add_44 rfl (fun _ => ?_) (fun hc => absurd (le_nI (a := Pd.length) (b := i) (by omega) (by omega) (by omega)) hc)
            have hnp : ¬ hp_ Pd (primeT_ sx) = true := by rw [hp_no (fun j hj => hb0 j (by omega))]; decide
            refine lv_aload_n hx hb dd_M_add_67 rfl (lv_at hl 0 rfl) ?_
            refine mr_get C0 hM fk_M_198 mu_s (v := .int (nI Pd.length)) rfl dd_M_add_68 ?_
            refine lv_bipush (v := nI 10) hx hb dd_M_add_71 (by decide) ?_
            refine lv_icmp_ne (tgt := 79) hx hb dd_M_add_73 rfl (fun h73 => ?_) (fun h73 => ?_)
            · skip
              have hl10 : Pd.length < 10 := by
                have h : Pd.length ≠ 10 := fun q => h73 (by rw [q])
                omega
              refine lv_aload_n hx hb dd_M_add_79 rfl (lv_at hl 0 rfl) ?_
              refine mr_get C0 hM fk_M_198 mu_s (v := .int (nI Pd.length)) rfl dd_M_add_80 ?_
              refine lv_istore (lv' := [(4, .int (nI Pd.length)), (0, .ref (am 0)), (1, .long sx), (3, .int (primeT_ sx))]) hx hb dd_M_add_83 hl (by decide) rfl (fun ls hl => ?_)
              have loop_85 : ∀ (k : Nat)  (H : Heap) (locs : List Loc) (ls : Array Slot), k ≤ Pd.length → mi_ Pd sx k = mi_ Pd sx Pd.length → mm_ G (mu_ (mu_ (mu_ (mu_ (mu_ (mu_ (mu_ (mu_ (mu_ (mu_ M (am 2) (ia_ G 64 w1)) (am 3) (la_ G 10 (sh_ f k Pd.length))) (am 4) (ia_ G 10 (sh_ g0 k Pd.length))) (am 5) (ia_ G 17 cf)) (am 6) (la_ G 170 sf)) (am 7) (ia_ G 170 qf)) (am 8) (la_ G 17 uf)) (am 9) (la_ G 17 lf)) (am 10) (ia_ G 32 xw)) (am 0) (ob_ 6 [.ref (am 1), .ref (am 2), .int (nI hs), .long (hi_ N), .long (lo_ N), .long (hi_ Vt), .long (lo_ Vt), .int (nI Pd.length), .ref (am 3), .ref (am 4), .int (nI nw), .ref (am 5), .ref (am 6), .ref (am 7), .ref (am 8), .ref (am 9), .long (hi_ Hd), .long (lo_ Hd), .int (nI fc), .long r1, .long r0, .ref (am 10)])) H → va_S (fz_ G) s.heap H locs → lv_has ls 5 [(0, .ref (am 0)), (1, .long sx), (3, .int (primeT_ sx)), (4, .int (nI k))] → W p l e R s m args below meth c H locs 0 0 Q (F0 m 85 ls []) := by
                intro k
                induction k with
                | zero =>
                  intro  H locs ls hk0 hm hM hS hl
                  have hl : lv_has ls 5 [(0, .ref (am 0)), (1, .long sx), (3, .int (primeT_ sx)), (4, .int (nI 0))] := by exact hl
                  have hM : mm_ G (mu_ (mu_ (mu_ (mu_ (mu_ (mu_ (mu_ (mu_ (mu_ (mu_ M (am 2) (ia_ G 64 w1)) (am 3) (la_ G 10 (sh_ f 0 Pd.length))) (am 4) (ia_ G 10 (sh_ g0 0 Pd.length))) (am 5) (ia_ G 17 cf)) (am 6) (la_ G 170 sf)) (am 7) (ia_ G 170 qf)) (am 8) (la_ G 17 uf)) (am 9) (la_ G 17 lf)) (am 10) (ia_ G 32 xw)) (am 0) (ob_ 6 [.ref (am 1), .ref (am 2), .int (nI hs), .long (hi_ N), .long (lo_ N), .long (hi_ Vt), .long (lo_ Vt), .int (nI Pd.length), .ref (am 3), .ref (am 4), .int (nI nw), .ref (am 5), .ref (am 6), .ref (am 7), .ref (am 8), .ref (am 9), .long (hi_ Hd), .long (lo_ Hd), .int (nI fc), .long r1, .long r0, .ref (am 10)])) H := hM
                  refine lv_iload hx hb dd_M_add_85 (lv_at hl 3 rfl) ?_
                  refine lv_if_le (tgt := 142) hx hb dd_M_add_87 rfl (fun _ => ?_) (fun hc => absurd (by decide) hc)
                  refine lv_aload_n hx hb dd_M_add_142 rfl (lv_at hl 0 rfl) ?_
                  refine mr_get C0 hM fk_M_81 mu_s (v := .ref (am 3)) rfl dd_M_add_143 ?_
                  refine lv_iload hx hb dd_M_add_146 (lv_at hl 3 rfl) ?_
                  refine lv_lload_n hx hb dd_M_add_148 rfl (lv_at hl 1 rfl) ?_
                  refine mr_last C0 hM hS (mu_n' (hne (i := 3) (j := 0) (by decide)) (mu_n' (hne (i := 3) (j := 10) (by decide)) (mu_n' (hne (i := 3) (j := 9) (by decide)) (mu_n' (hne (i := 3) (j := 8) (by decide)) (mu_n' (hne (i := 3) (j := 7) (by decide)) (mu_n' (hne (i := 3) (j := 6) (by decide)) (mu_n' (hne (i := 3) (j := 5) (by decide)) (mu_n' (hne (i := 3) (j := 4) (by decide)) mu_s)))))))) (0) (rfl) (by omega) (by decide) dd_M_add_149 (fun H locs hM hS => ?_)
                  have hM := mr_M (mu_c9 (hne (i := 3) (j := 4) (by decide)) (hne (i := 3) (j := 5) (by decide)) (hne (i := 3) (j := 6) (by decide)) (hne (i := 3) (j := 7) (by decide)) (hne (i := 3) (j := 8) (by decide)) (hne (i := 3) (j := 9) (by decide)) (hne (i := 3) (j := 10) (by decide)) (hne (i := 3) (j := 0) (by decide))) hM
                  refine lv_aload_n hx hb dd_M_add_150 rfl (lv_at hl 0 rfl) ?_
                  refine mr_get C0 hM fk_M_84 mu_s (v := .ref (am 4)) rfl dd_M_add_151 ?_
                  refine lv_iload hx hb dd_M_add_154 (lv_at hl 3 rfl) ?_
                  refine lv_iload_n hx hb dd_M_add_156 rfl (lv_at hl 2 rfl) ?_
                  refine mr_iast C0 hM hS (mu_n' (hne (i := 4) (j := 0) (by decide)) (mu_n' (hne (i := 4) (j := 10) (by decide)) (mu_n' (hne (i := 4) (j := 9) (by decide)) (mu_n' (hne (i := 4) (j := 8) (by decide)) (mu_n' (hne (i := 4) (j := 7) (by decide)) (mu_n' (hne (i := 4) (j := 6) (by decide)) (mu_n' (hne (i := 4) (j := 5) (by decide)) mu_s))))))) (0) (rfl) (by omega) (by decide) dd_M_add_157 (fun H locs hM hS => ?_)
                  have hM := mr_M (mu_c8 (hne (i := 4) (j := 5) (by decide)) (hne (i := 4) (j := 6) (by decide)) (hne (i := 4) (j := 7) (by decide)) (hne (i := 4) (j := 8) (by decide)) (hne (i := 4) (j := 9) (by decide)) (hne (i := 4) (j := 10) (by decide)) (hne (i := 4) (j := 0) (by decide))) hM
                  refine lv_aload_n hx hb dd_M_add_158 rfl (lv_at hl 0 rfl) ?_
                  refine lv_dup hx hb dd_M_add_159 rfl ?_
                  refine mr_get C0 hM fk_M_198 mu_s (v := .int (nI Pd.length)) rfl dd_M_add_160 ?_
                  refine lv_iconst (v := nI 1) hx hb dd_M_add_163 (by decide) ?_
                  refine lv_iadd hx hb dd_M_add_164 ?_
                  refine mr_vi (nI_add Pd.length 1) ?_
                  refine mr_put C0 hM hS fk_M_198 fp_M_198 mu_s rfl (rfl) (rfl) (Nat.le_of_ble_eq_true rfl) dd_M_add_165 (fun H locs hM hS => ?_)
                  have hM := mr_M mu_mu hM
                  have hM : mm_ G (mu_ (mu_ (mu_ (mu_ (mu_ (mu_ (mu_ (mu_ (mu_ (mu_ M (am 2) (ia_ G 64 w1)) (am 3) (la_ G 10 (vp_updL (sh_ f 0 Pd.length) 0 sx))) (am 4) (ia_ G 10 (upd (sh_ g0 0 Pd.length) 0 (primeT_ sx)))) (am 5) (ia_ G 17 cf)) (am 6) (la_ G 170 sf)) (am 7) (ia_ G 170 qf)) (am 8) (la_ G 17 uf)) (am 9) (la_ G 17 lf)) (am 10) (ia_ G 32 xw)) (am 0) (ob_ 6 [.ref (am 1), .ref (am 2), .int (nI hs), .long (hi_ N), .long (lo_ N), .long (hi_ Vt), .long (lo_ Vt), .int (nI (Pd.length + 1)), .ref (am 3), .ref (am 4), .int (nI nw), .ref (am 5), .ref (am 6), .ref (am 7), .ref (am 8), .ref (am 9), .long (hi_ Hd), .long (lo_ Hd), .int (nI fc), .long r1, .long r0, .ref (am 10)])) H := hM
                  refine lv_aload_n hx hb dd_M_add_168 rfl (lv_at hl 0 rfl) ?_
                  refine mr_get C0 hM fk_M_198 mu_s (v := .int (nI (Pd.length + 1))) rfl dd_M_add_169 ?_
                  have hins := ro_ins hro sx (pn_ (primeT_ sx))
                  rw [show mi_ Pd sx Pd.length = 0 from hm.symm, i_pn] at hins
                  have eL : adL_ hs (primeT_ sx) Pd sx = ins_ Pd sx (pn_ (primeT_ sx)) := by
                    unfold adL_; rw [if_neg (show ¬ hs = 0 by omega), if_neg h18, if_neg (show ¬ hs_ Pd sx = true by rw [hv29]; decide), if_neg hnp, if_neg (show ¬ Pd.length = 10 by omega)]
                  exact mr_ret hQ (mr_iret C0 hM hS (rfl) (⟨by unfold adR_; rw [if_neg (show ¬ hs = 0 by omega), if_neg h18, if_neg (show ¬ hs_ Pd sx = true by rw [hv29]; decide), if_neg hnp, if_neg (show ¬ Pd.length = 10 by omega)], _, _, _, _, _, _, _, _, _, _, _, by rw [eL]; exact ⟨hins, hme, hul⟩, by rw [eL, ins_len]⟩) dd_M_add_172)
                | succ k ih =>
                  intro  H locs ls hk0 hm hM hS hl
                  have hkk : k < Pd.length := by omega
                  have hsk : sh_ f (k + 1) Pd.length k = sr_ Pd k := by
                    show (if k + 1 < k ∧ k ≤ Pd.length then f (k - 1) else f k) = _
                    rw [if_neg (by omega)]
                    exact (hro k hkk).1
                  have hl : lv_has ls 5 [(0, .ref (am 0)), (1, .long sx), (3, .int (primeT_ sx)), (4, .int (nI (k + 1)))] := hl
                  have hM : mm_ G (mu_ (mu_ (mu_ (mu_ (mu_ (mu_ (mu_ (mu_ (mu_ (mu_ M (am 2) (ia_ G 64 w1)) (am 3) (la_ G 10 (sh_ f (k + 1) Pd.length))) (am 4) (ia_ G 10 (sh_ g0 (k + 1) Pd.length))) (am 5) (ia_ G 17 cf)) (am 6) (la_ G 170 sf)) (am 7) (ia_ G 170 qf)) (am 8) (la_ G 17 uf)) (am 9) (la_ G 17 lf)) (am 10) (ia_ G 32 xw)) (am 0) (ob_ 6 [.ref (am 1), .ref (am 2), .int (nI hs), .long (hi_ N), .long (lo_ N), .long (hi_ Vt), .long (lo_ Vt), .int (nI Pd.length), .ref (am 3), .ref (am 4), .int (nI nw), .ref (am 5), .ref (am 6), .ref (am 7), .ref (am 8), .ref (am 9), .long (hi_ Hd), .long (lo_ Hd), .int (nI fc), .long r1, .long r0, .ref (am 10)])) H := hM
                  refine lv_iload hx hb dd_M_add_85 (lv_at hl 3 rfl) ?_
                  refine lv_if_le (tgt := 142) hx hb dd_M_add_87 rfl (fun hc => absurd hc (nI_nle (by omega) (by omega))) (fun _ => ?_)
                  refine lv_aload_n hx hb dd_M_add_90 rfl (lv_at hl 0 rfl) ?_
                  refine mr_get C0 hM fk_M_81 mu_s (v := .ref (am 3)) rfl dd_M_add_91 ?_
                  refine lv_iload hx hb dd_M_add_94 (lv_at hl 3 rfl) ?_
                  refine lv_iconst (v := nI 1) hx hb dd_M_add_96 (by decide) ?_
                  refine lv_isub hx hb dd_M_add_97 ?_
                  refine mr_vi (x' := nI k) (pk_sub (a := k + 1) (b := 1) (by omega)) ?_
                  refine mr_lald C0 hM (mu_n' (hne (i := 3) (j := 0) (by decide)) (mu_n' (hne (i := 3) (j := 10) (by decide)) (mu_n' (hne (i := 3) (j := 9) (by decide)) (mu_n' (hne (i := 3) (j := 8) (by decide)) (mu_n' (hne (i := 3) (j := 7) (by decide)) (mu_n' (hne (i := 3) (j := 6) (by decide)) (mu_n' (hne (i := 3) (j := 5) (by decide)) (mu_n' (hne (i := 3) (j := 4) (by decide)) mu_s)))))))) (k) (rfl) (by omega) (by decide) dd_M_add_98 ?_
                  refine lv_lload_n hx hb dd_M_add_99 rfl (lv_at hl 1 rfl) ?_
                  refine mr_lif_le (tgt := 142) hx hb dd_M_add_100 dd_M_add_101 rfl (fun h100 => ?_) (fun h100 => ?_)
                  · skip
                    have hmk : mi_ Pd sx Pd.length = k + 1 := by
                      rw [← hm]
                      show (if sx < sr_ Pd k then _ else _) = _
                      rw [if_neg (fun q => absurd h100 (by rw [hsk]; exact Int64.not_le.mpr q))]
                    refine lv_aload_n hx hb dd_M_add_142 rfl (lv_at hl 0 rfl) ?_
                    refine mr_get C0 hM fk_M_81 mu_s (v := .ref (am 3)) rfl dd_M_add_143 ?_
                    refine lv_iload hx hb dd_M_add_146 (lv_at hl 3 rfl) ?_
                    refine lv_lload_n hx hb dd_M_add_148 rfl (lv_at hl 1 rfl) ?_
                    refine mr_last C0 hM hS (mu_n' (hne (i := 3) (j := 0) (by decide)) (mu_n' (hne (i := 3) (j := 10) (by decide)) (mu_n' (hne (i := 3) (j := 9) (by decide)) (mu_n' (hne (i := 3) (j := 8) (by decide)) (mu_n' (hne (i := 3) (j := 7) (by decide)) (mu_n' (hne (i := 3) (j := 6) (by decide)) (mu_n' (hne (i := 3) (j := 5) (by decide)) (mu_n' (hne (i := 3) (j := 4) (by decide)) mu_s)))))))) ((k + 1)) (rfl) (by omega) (by decide) dd_M_add_149 (fun H locs hM hS => ?_)
                    have hM := mr_M (mu_c9 (hne (i := 3) (j := 4) (by decide)) (hne (i := 3) (j := 5) (by decide)) (hne (i := 3) (j := 6) (by decide)) (hne (i := 3) (j := 7) (by decide)) (hne (i := 3) (j := 8) (by decide)) (hne (i := 3) (j := 9) (by decide)) (hne (i := 3) (j := 10) (by decide)) (hne (i := 3) (j := 0) (by decide))) hM
                    refine lv_aload_n hx hb dd_M_add_150 rfl (lv_at hl 0 rfl) ?_
                    refine mr_get C0 hM fk_M_84 mu_s (v := .ref (am 4)) rfl dd_M_add_151 ?_
                    refine lv_iload hx hb dd_M_add_154 (lv_at hl 3 rfl) ?_
                    refine lv_iload_n hx hb dd_M_add_156 rfl (lv_at hl 2 rfl) ?_
                    refine mr_iast C0 hM hS (mu_n' (hne (i := 4) (j := 0) (by decide)) (mu_n' (hne (i := 4) (j := 10) (by decide)) (mu_n' (hne (i := 4) (j := 9) (by decide)) (mu_n' (hne (i := 4) (j := 8) (by decide)) (mu_n' (hne (i := 4) (j := 7) (by decide)) (mu_n' (hne (i := 4) (j := 6) (by decide)) (mu_n' (hne (i := 4) (j := 5) (by decide)) mu_s))))))) ((k + 1)) (rfl) (by omega) (by decide) dd_M_add_157 (fun H locs hM hS => ?_)
                    have hM := mr_M (mu_c8 (hne (i := 4) (j := 5) (by decide)) (hne (i := 4) (j := 6) (by decide)) (hne (i := 4) (j := 7) (by decide)) (hne (i := 4) (j := 8) (by decide)) (hne (i := 4) (j := 9) (by decide)) (hne (i := 4) (j := 10) (by decide)) (hne (i := 4) (j := 0) (by decide))) hM
                    refine lv_aload_n hx hb dd_M_add_158 rfl (lv_at hl 0 rfl) ?_
                    refine lv_dup hx hb dd_M_add_159 rfl ?_
                    refine mr_get C0 hM fk_M_198 mu_s (v := .int (nI Pd.length)) rfl dd_M_add_160 ?_
                    refine lv_iconst (v := nI 1) hx hb dd_M_add_163 (by decide) ?_
                    refine lv_iadd hx hb dd_M_add_164 ?_
                    refine mr_vi (nI_add Pd.length 1) ?_
                    refine mr_put C0 hM hS fk_M_198 fp_M_198 mu_s rfl (rfl) (rfl) (Nat.le_of_ble_eq_true rfl) dd_M_add_165 (fun H locs hM hS => ?_)
                    have hM := mr_M mu_mu hM
                    have hM : mm_ G (mu_ (mu_ (mu_ (mu_ (mu_ (mu_ (mu_ (mu_ (mu_ (mu_ M (am 2) (ia_ G 64 w1)) (am 3) (la_ G 10 (vp_updL (sh_ f (k + 1) Pd.length) (k + 1) sx))) (am 4) (ia_ G 10 (upd (sh_ g0 (k + 1) Pd.length) (k + 1) (primeT_ sx)))) (am 5) (ia_ G 17 cf)) (am 6) (la_ G 170 sf)) (am 7) (ia_ G 170 qf)) (am 8) (la_ G 17 uf)) (am 9) (la_ G 17 lf)) (am 10) (ia_ G 32 xw)) (am 0) (ob_ 6 [.ref (am 1), .ref (am 2), .int (nI hs), .long (hi_ N), .long (lo_ N), .long (hi_ Vt), .long (lo_ Vt), .int (nI (Pd.length + 1)), .ref (am 3), .ref (am 4), .int (nI nw), .ref (am 5), .ref (am 6), .ref (am 7), .ref (am 8), .ref (am 9), .long (hi_ Hd), .long (lo_ Hd), .int (nI fc), .long r1, .long r0, .ref (am 10)])) H := hM
                    refine lv_aload_n hx hb dd_M_add_168 rfl (lv_at hl 0 rfl) ?_
                    refine mr_get C0 hM fk_M_198 mu_s (v := .int (nI (Pd.length + 1))) rfl dd_M_add_169 ?_
                    have hins := ro_ins hro sx (pn_ (primeT_ sx))
                    rw [hmk, i_pn] at hins
                    have eL : adL_ hs (primeT_ sx) Pd sx = ins_ Pd sx (pn_ (primeT_ sx)) := by
                      unfold adL_; rw [if_neg (show ¬ hs = 0 by omega), if_neg h18, if_neg (show ¬ hs_ Pd sx = true by rw [hv29]; decide), if_neg hnp, if_neg (show ¬ Pd.length = 10 by omega)]
                    exact mr_ret hQ (mr_iret C0 hM hS (rfl) (⟨by unfold adR_; rw [if_neg (show ¬ hs = 0 by omega), if_neg h18, if_neg (show ¬ hs_ Pd sx = true by rw [hv29]; decide), if_neg hnp, if_neg (show ¬ Pd.length = 10 by omega)], _, _, _, _, _, _, _, _, _, _, _, by rw [eL]; exact ⟨hins, hme, hul⟩, by rw [eL, ins_len]⟩) dd_M_add_172)
                  · skip
                    have hlt : sx < sr_ Pd k := by rw [← hsk]; exact Int64.not_le.mp h100
                    refine lv_aload_n hx hb dd_M_add_104 rfl (lv_at hl 0 rfl) ?_
                    refine mr_get C0 hM fk_M_81 mu_s (v := .ref (am 3)) rfl dd_M_add_105 ?_
                    refine lv_iload hx hb dd_M_add_108 (lv_at hl 3 rfl) ?_
                    refine lv_aload_n hx hb dd_M_add_110 rfl (lv_at hl 0 rfl) ?_
                    refine mr_get C0 hM fk_M_81 mu_s (v := .ref (am 3)) rfl dd_M_add_111 ?_
                    refine lv_iload hx hb dd_M_add_114 (lv_at hl 3 rfl) ?_
                    refine lv_iconst (v := nI 1) hx hb dd_M_add_116 (by decide) ?_
                    refine lv_isub hx hb dd_M_add_117 ?_
                    refine mr_vi (x' := nI k) (pk_sub (a := k + 1) (b := 1) (by omega)) ?_
                    refine mr_lald C0 hM (mu_n' (hne (i := 3) (j := 0) (by decide)) (mu_n' (hne (i := 3) (j := 10) (by decide)) (mu_n' (hne (i := 3) (j := 9) (by decide)) (mu_n' (hne (i := 3) (j := 8) (by decide)) (mu_n' (hne (i := 3) (j := 7) (by decide)) (mu_n' (hne (i := 3) (j := 6) (by decide)) (mu_n' (hne (i := 3) (j := 5) (by decide)) (mu_n' (hne (i := 3) (j := 4) (by decide)) mu_s)))))))) (k) (rfl) (by omega) (by decide) dd_M_add_118 ?_
                    refine mr_last C0 hM hS (mu_n' (hne (i := 3) (j := 0) (by decide)) (mu_n' (hne (i := 3) (j := 10) (by decide)) (mu_n' (hne (i := 3) (j := 9) (by decide)) (mu_n' (hne (i := 3) (j := 8) (by decide)) (mu_n' (hne (i := 3) (j := 7) (by decide)) (mu_n' (hne (i := 3) (j := 6) (by decide)) (mu_n' (hne (i := 3) (j := 5) (by decide)) (mu_n' (hne (i := 3) (j := 4) (by decide)) mu_s)))))))) ((k + 1)) (rfl) (by omega) (by decide) dd_M_add_119 (fun H locs hM hS => ?_)
                    have hM := mr_M (mu_c9 (hne (i := 3) (j := 4) (by decide)) (hne (i := 3) (j := 5) (by decide)) (hne (i := 3) (j := 6) (by decide)) (hne (i := 3) (j := 7) (by decide)) (hne (i := 3) (j := 8) (by decide)) (hne (i := 3) (j := 9) (by decide)) (hne (i := 3) (j := 10) (by decide)) (hne (i := 3) (j := 0) (by decide))) hM
                    have hM := mr_M (congrArg (fun z__ => mu_ (mu_ (mu_ (mu_ (mu_ (mu_ (mu_ (mu_ (mu_ (mu_ M (am 2) (ia_ G 64 w1)) (am 3) (la_ G 10 z__)) (am 4) (ia_ G 10 (sh_ g0 (k + 1) Pd.length))) (am 5) (ia_ G 17 cf)) (am 6) (la_ G 170 sf)) (am 7) (ia_ G 170 qf)) (am 8) (la_ G 17 uf)) (am 9) (la_ G 17 lf)) (am 10) (ia_ G 32 xw)) (am 0) (ob_ 6 [.ref (am 1), .ref (am 2), .int (nI hs), .long (hi_ N), .long (lo_ N), .long (hi_ Vt), .long (lo_ Vt), .int (nI Pd.length), .ref (am 3), .ref (am 4), .int (nI nw), .ref (am 5), .ref (am 6), .ref (am 7), .ref (am 8), .ref (am 9), .long (hi_ Hd), .long (lo_ Hd), .int (nI fc), .long r1, .long r0, .ref (am 10)])) (show (vp_updL (sh_ f (k + 1) Pd.length) (k + 1) ((sh_ f (k + 1) Pd.length) k) : Nat → Int64) = (sh_ f k Pd.length) from sh_sL hkk)) hM
                    have hM : mm_ G (mu_ (mu_ (mu_ (mu_ (mu_ (mu_ (mu_ (mu_ (mu_ (mu_ M (am 2) (ia_ G 64 w1)) (am 3) (la_ G 10 (sh_ f k Pd.length))) (am 4) (ia_ G 10 (sh_ g0 (k + 1) Pd.length))) (am 5) (ia_ G 17 cf)) (am 6) (la_ G 170 sf)) (am 7) (ia_ G 170 qf)) (am 8) (la_ G 17 uf)) (am 9) (la_ G 17 lf)) (am 10) (ia_ G 32 xw)) (am 0) (ob_ 6 [.ref (am 1), .ref (am 2), .int (nI hs), .long (hi_ N), .long (lo_ N), .long (hi_ Vt), .long (lo_ Vt), .int (nI Pd.length), .ref (am 3), .ref (am 4), .int (nI nw), .ref (am 5), .ref (am 6), .ref (am 7), .ref (am 8), .ref (am 9), .long (hi_ Hd), .long (lo_ Hd), .int (nI fc), .long r1, .long r0, .ref (am 10)])) H := hM
                    refine lv_aload_n hx hb dd_M_add_120 rfl (lv_at hl 0 rfl) ?_
                    refine mr_get C0 hM fk_M_84 mu_s (v := .ref (am 4)) rfl dd_M_add_121 ?_
                    refine lv_iload hx hb dd_M_add_124 (lv_at hl 3 rfl) ?_
                    refine lv_aload_n hx hb dd_M_add_126 rfl (lv_at hl 0 rfl) ?_
                    refine mr_get C0 hM fk_M_84 mu_s (v := .ref (am 4)) rfl dd_M_add_127 ?_
                    refine lv_iload hx hb dd_M_add_130 (lv_at hl 3 rfl) ?_
                    refine lv_iconst (v := nI 1) hx hb dd_M_add_132 (by decide) ?_
                    refine lv_isub hx hb dd_M_add_133 ?_
                    refine mr_vi (x' := nI k) (pk_sub (a := k + 1) (b := 1) (by omega)) ?_
                    refine mr_iald C0 hM (mu_n' (hne (i := 4) (j := 0) (by decide)) (mu_n' (hne (i := 4) (j := 10) (by decide)) (mu_n' (hne (i := 4) (j := 9) (by decide)) (mu_n' (hne (i := 4) (j := 8) (by decide)) (mu_n' (hne (i := 4) (j := 7) (by decide)) (mu_n' (hne (i := 4) (j := 6) (by decide)) (mu_n' (hne (i := 4) (j := 5) (by decide)) mu_s))))))) (k) (rfl) (by omega) (by decide) dd_M_add_134 ?_
                    refine mr_iast C0 hM hS (mu_n' (hne (i := 4) (j := 0) (by decide)) (mu_n' (hne (i := 4) (j := 10) (by decide)) (mu_n' (hne (i := 4) (j := 9) (by decide)) (mu_n' (hne (i := 4) (j := 8) (by decide)) (mu_n' (hne (i := 4) (j := 7) (by decide)) (mu_n' (hne (i := 4) (j := 6) (by decide)) (mu_n' (hne (i := 4) (j := 5) (by decide)) mu_s))))))) ((k + 1)) (rfl) (by omega) (by decide) dd_M_add_135 (fun H locs hM hS => ?_)
                    have hM := mr_M (mu_c8 (hne (i := 4) (j := 5) (by decide)) (hne (i := 4) (j := 6) (by decide)) (hne (i := 4) (j := 7) (by decide)) (hne (i := 4) (j := 8) (by decide)) (hne (i := 4) (j := 9) (by decide)) (hne (i := 4) (j := 10) (by decide)) (hne (i := 4) (j := 0) (by decide))) hM
                    have hM := mr_M (congrArg (fun z__ => mu_ (mu_ (mu_ (mu_ (mu_ (mu_ (mu_ (mu_ (mu_ (mu_ M (am 2) (ia_ G 64 w1)) (am 3) (la_ G 10 (sh_ f k Pd.length))) (am 4) (ia_ G 10 z__)) (am 5) (ia_ G 17 cf)) (am 6) (la_ G 170 sf)) (am 7) (ia_ G 170 qf)) (am 8) (la_ G 17 uf)) (am 9) (la_ G 17 lf)) (am 10) (ia_ G 32 xw)) (am 0) (ob_ 6 [.ref (am 1), .ref (am 2), .int (nI hs), .long (hi_ N), .long (lo_ N), .long (hi_ Vt), .long (lo_ Vt), .int (nI Pd.length), .ref (am 3), .ref (am 4), .int (nI nw), .ref (am 5), .ref (am 6), .ref (am 7), .ref (am 8), .ref (am 9), .long (hi_ Hd), .long (lo_ Hd), .int (nI fc), .long r1, .long r0, .ref (am 10)])) (show (upd (sh_ g0 (k + 1) Pd.length) (k + 1) ((sh_ g0 (k + 1) Pd.length) k) : Nat → Int32) = (sh_ g0 k Pd.length) from sh_sI hkk)) hM
                    have hM : mm_ G (mu_ (mu_ (mu_ (mu_ (mu_ (mu_ (mu_ (mu_ (mu_ (mu_ M (am 2) (ia_ G 64 w1)) (am 3) (la_ G 10 (sh_ f k Pd.length))) (am 4) (ia_ G 10 (sh_ g0 k Pd.length))) (am 5) (ia_ G 17 cf)) (am 6) (la_ G 170 sf)) (am 7) (ia_ G 170 qf)) (am 8) (la_ G 17 uf)) (am 9) (la_ G 17 lf)) (am 10) (ia_ G 32 xw)) (am 0) (ob_ 6 [.ref (am 1), .ref (am 2), .int (nI hs), .long (hi_ N), .long (lo_ N), .long (hi_ Vt), .long (lo_ Vt), .int (nI Pd.length), .ref (am 3), .ref (am 4), .int (nI nw), .ref (am 5), .ref (am 6), .ref (am 7), .ref (am 8), .ref (am 9), .long (hi_ Hd), .long (lo_ Hd), .int (nI fc), .long r1, .long r0, .ref (am 10)])) H := hM
                    refine lv_iinc (k := 3) (v := nI k) (lv' := [(4, .int (nI k)), (0, .ref (am 0)), (1, .long sx), (3, .int (primeT_ sx))]) hx hb dd_M_add_136 hl rfl (pk_m1 k) (by decide) rfl (fun ls hl => ?_)
                    refine lv_goto (tgt := 85) hx hb dd_M_add_139 rfl ?_
                    exact ih  _ _ _ (by omega) (by rw [← hm]; show _ = if sx < sr_ Pd k then _ else _; rw [if_pos hlt]) hM hS (lv_sub hl [1, 2, 3, 0] rfl)
              rw [show (la_ G 10 f : va_E) = la_ G 10 (sh_ f Pd.length Pd.length) by rw [← sh_n], show (ia_ G 10 g0 : va_E) = ia_ G 10 (sh_ g0 Pd.length Pd.length) by rw [← sh_n]] at hM
              exact loop_85 Pd.length  _ _ _ (Nat.le_refl _) (rfl) hM hS (lv_sub hl [1, 2, 3, 0] rfl)
            · skip
              have hl10 : Pd.length = 10 := (nI_eq (by omega) (by decide)).mp h73
              refine lv_bipush (v := (-6 : Int32)) hx hb dd_M_add_76 (by decide) ?_
              exact mr_ret hQ (mr_iret C0 hM hS (rfl) (⟨by unfold adR_; rw [if_neg (show ¬ hs = 0 by omega), if_neg h18, if_neg (show ¬ hs_ Pd sx = true by rw [hv29]; decide), if_neg hnp, if_pos hl10], _, _, _, _, _, _, _, _, _, _, _, by unfold adL_; rw [if_neg (show ¬ hs = 0 by omega), if_neg h18, if_neg (show ¬ hs_ Pd sx = true by rw [hv29]; decide), if_neg hnp, if_pos hl10]; exact hrl, by unfold adL_; rw [if_neg (show ¬ hs = 0 by omega), if_neg h18, if_neg (show ¬ hs_ Pd sx = true by rw [hv29]; decide), if_neg hnp, if_pos hl10]⟩) dd_M_add_78)
          | succ z ihz =>
            intro i H locs ls hi hb0 hM hS hl
            refine lv_iload hx hb dd_M_add_38 (lv_at hl 3 rfl) ?_
            refine lv_aload_n hx hb dd_M_add_40 rfl (lv_at hl 0 rfl) ?_
            refine mr_get C0 hM fk_M_198 mu_s (v := .int (nI Pd.length)) rfl dd_M_add_41 ?_
            refine lv_icmp_ge (tgt := 67) hx hb dd_M_add_44 rfl (fun hc => absurd hc (nle_nI (a := Pd.length) (b := i) (by omega) (by omega) (by omega))) (fun _ => ?_)
            refine lv_aload_n hx hb dd_M_add_47 rfl (lv_at hl 0 rfl) ?_
            refine mr_get C0 hM fk_M_84 mu_s (v := .ref (am 4)) rfl dd_M_add_48 ?_
            refine lv_iload hx hb dd_M_add_51 (lv_at hl 3 rfl) ?_
            refine mr_iald C0 hM (mu_n' (hne (i := 4) (j := 0) (by decide)) (mu_n' (hne (i := 4) (j := 10) (by decide)) (mu_n' (hne (i := 4) (j := 9) (by decide)) (mu_n' (hne (i := 4) (j := 8) (by decide)) (mu_n' (hne (i := 4) (j := 7) (by decide)) (mu_n' (hne (i := 4) (j := 6) (by decide)) (mu_n' (hne (i := 4) (j := 5) (by decide)) mu_s))))))) (i) (rfl) (by omega) (by decide) dd_M_add_53 ?_
            refine lv_iload_n hx hb dd_M_add_54 rfl (lv_at hl 2 rfl) ?_
            refine lv_icmp_ne (tgt := 61) hx hb dd_M_add_55 rfl (fun h55 => ?_) (fun h55 => ?_)
            · skip
              refine lv_iinc (k := 3) (v := nI (i + 1)) (lv' := [(4, .int (nI (i + 1))), (0, .ref (am 0)), (1, .long sx), (3, .int (primeT_ sx))]) hx hb dd_M_add_61 hl rfl (inc_ i) (by decide) rfl (fun ls hl => ?_)
              refine lv_goto (tgt := 38) hx hb dd_M_add_64 rfl ?_
              exact ihz (i + 1) _ _ _ (by omega) (fun j hj => by rcases (show j < i ∨ j = i by omega) with h | h; exact hb0 j h; subst h; rw [← (hro j (by omega)).2]; exact h55) hM hS (lv_sub hl [1, 2, 3, 0] rfl)
            · skip
              refine lv_bipush (v := (-5 : Int32)) hx hb dd_M_add_58 (by decide) ?_
              exact mr_ret hQ (mr_iret C0 hM hS (rfl) (⟨by unfold adR_; rw [if_neg (show ¬ hs = 0 by omega), if_neg h18, if_neg (show ¬ hs_ Pd sx = true by rw [hv29]; decide), if_pos (hp_y (i := i) (by omega) (by rw [← (hro i (by omega)).2]; exact h55))], _, _, _, _, _, _, _, _, _, _, _, by unfold adL_; rw [if_neg (show ¬ hs = 0 by omega), if_neg h18, if_neg (show ¬ hs_ Pd sx = true by rw [hv29]; decide), if_pos (hp_y (i := i) (by omega) (by rw [← (hro i (by omega)).2]; exact h55))]; exact hrl, by unfold adL_; rw [if_neg (show ¬ hs = 0 by omega), if_neg h18, if_neg (show ¬ hs_ Pd sx = true by rw [hv29]; decide), if_pos (hp_y (i := i) (by omega) (by rw [← (hro i (by omega)).2]; exact h55))]⟩) dd_M_add_60)
        exact loop_38 Pd.length 0 _ _ _ (Nat.zero_add _) (fun j h => absurd h (Nat.not_lt_zero j)) hM hS (lv_sub hl [2, 3, 1, 0] rfl)
      · skip
        have hv29 : hs_ Pd sx = true := by
          cases h : hs_ Pd sx with
          | true => rfl
          | false => exact absurd ((pz_neg hPn).mpr h) h29
        refine lv_bipush (v := (-3 : Int32)) hx hb dd_M_add_32 (by decide) ?_
        exact mr_ret hQ (mr_iret C0 hM hS (rfl) (⟨by unfold adR_; rw [if_neg (show ¬ hs = 0 by omega), if_neg h18, if_pos hv29], _, _, _, _, _, _, _, _, _, _, _, by unfold adL_; rw [if_neg (show ¬ hs = 0 by omega), if_neg h18, if_pos hv29]; exact hrl, by unfold adL_; rw [if_neg (show ¬ hs = 0 by omega), if_neg h18, if_pos hv29]⟩) dd_M_add_34)
    · skip
      refine lv_bipush (v := (-2 : Int32)) hx hb dd_M_add_21 (by decide) ?_
      exact mr_ret hQ (mr_iret C0 hM hS (rfl) (⟨by unfold adR_; rw [if_neg (show ¬ hs = 0 by omega), if_pos h18], _, _, _, _, _, _, _, _, _, _, _, by unfold adL_; rw [if_neg (show ¬ hs = 0 by omega), if_pos h18]; exact hrl, by unfold adL_; rw [if_neg (show ¬ hs = 0 by omega), if_pos h18]⟩) dd_M_add_23)
  · skip
    have hh0 : hs = 0 := (nI_eq (by omega) (by decide)).mp h4
    refine lv_iconst (v := (-1 : Int32)) hx hb dd_M_add_7 (by decide) ?_
    exact mr_ret hQ (mr_iret C0 hM hS (rfl) (⟨by unfold adR_; rw [if_pos hh0], _, _, _, _, _, _, _, _, _, _, _, by unfold adL_; rw [if_pos hh0]; exact hrl, by unfold adL_; rw [if_pos hh0]⟩) dd_M_add_8)

set_option maxHeartbeats 4000000 in
set_option maxRecDepth 100000 in
theorem c_M_remove (l : Launch) {G : mg_} {M : mw_} {am : Nat → Nat} {hs N Vt nw Hd fc : Nat} {Pd : rl_} {Ls : Nat → rl_} {w g0 cf qf xw : Nat → Int32} {f sf uf lf : Nat → Int64} {r1 r0 : Int64} {sx : Int64}   (hne : ∀ {i j : Nat}, i ≠ j → am i ≠ am j) (hk : M (am 1) = some (la_ G 32 mk_)) (hrl : mrl_ hs N Pd Ls nw f g0 cf sf qf uf lf) (hok : okS_ Pd Ls nw) (hhs : hs ≤ 1)  : ct_ l my_M_remove cd_M_remove 5 (some .int) { frames := 3, cells := 0, slots := 0, locals := 79 } G [.ref (am 0), .long sx] (mu_ (mu_ (mu_ (mu_ (mu_ (mu_ (mu_ (mu_ (mu_ (mu_ M (am 2) (ia_ G 64 w)) (am 3) (la_ G 10 f)) (am 4) (ia_ G 10 g0)) (am 5) (ia_ G 17 cf)) (am 6) (la_ G 170 sf)) (am 7) (ia_ G 170 qf)) (am 8) (la_ G 17 uf)) (am 9) (la_ G 17 lf)) (am 10) (ia_ G 32 xw)) (am 0) (ob_ 6 [.ref (am 1), .ref (am 2), .int (nI hs), .long (hi_ N), .long (lo_ N), .long (hi_ Vt), .long (lo_ Vt), .int (nI Pd.length), .ref (am 3), .ref (am 4), .int (nI nw), .ref (am 5), .ref (am 6), .ref (am 7), .ref (am 8), .ref (am 9), .long (hi_ Hd), .long (lo_ Hd), .int (nI fc), .long r1, .long r0, .ref (am 10)])) (fun v0 M' => v0 = (some (.int (rmR_ hs (primeT_ sx) Pd sx))) ∧ MWx_ M am G hs N Vt (rmL_ hs (primeT_ sx) Pd sx) Ls nw Hd fc M') 0 0 := by
  refine ct_.intro2 (by decide) (Nat.le_of_ble_eq_true rfl) ?_
  intro p e s m args below meth c ls R Q hR hQ C0 hl hM hS
  have hx := C0.1
  have hb := C0.2.1
  have hl : lv_has ls 5 [(0, .ref (am 0)), (1, .long sx)] := hl
  obtain ⟨hro, hme, hul⟩ := hrl
  have hrl : mrl_ hs N Pd Ls nw f g0 cf sf qf uf lf := ⟨hro, hme, hul⟩
  obtain ⟨hPn, hLn, hnw, hPp, hLp, hPd, hLd⟩ := hok
  have hnw17 : nw < 17 := by omega
  have hcn := (hme nw hnw17).1
  refine lv_aload_n hx hb dd_M_remove_0 rfl (lv_at hl 0 rfl) ?_
  refine mr_get C0 hM fk_M_181 mu_s (v := .int (nI hs)) rfl dd_M_remove_1 ?_
  refine lv_if_ne (tgt := 9) hx hb dd_M_remove_4 rfl (fun h4 => ?_) (fun h4 => ?_)
  · skip
    have hh1 : hs = 1 := by
      have h2 : hs ≠ 0 := fun q => h4 (by rw [q]; rfl)
      omega
    refine lv_aload_n hx hb dd_M_remove_9 rfl (lv_at hl 0 rfl) ?_
    refine lv_lload_n hx hb dd_M_remove_10 rfl (lv_at hl 1 rfl) ?_
    refine mr_callV (As := [.long sx]) (rest := []) C0 hM hS vk_M_202 mu_s rfl (c_M_prime l mu_s (mu_n' (hne (i := 1) (j := 0) (by decide)) (mu_n' (hne (i := 1) (j := 10) (by decide)) (mu_n' (hne (i := 1) (j := 9) (by decide)) (mu_n' (hne (i := 1) (j := 8) (by decide)) (mu_n' (hne (i := 1) (j := 7) (by decide)) (mu_n' (hne (i := 1) (j := 6) (by decide)) (mu_n' (hne (i := 1) (j := 5) (by decide)) (mu_n' (hne (i := 1) (j := 4) (by decide)) (mu_n' (hne (i := 1) (j := 3) (by decide)) (mu_n' (hne (i := 1) (j := 2) (by decide)) hk)))))))))) (mu_n' (hne (i := 2) (j := 0) (by decide)) (mu_n' (hne (i := 2) (j := 10) (by decide)) (mu_n' (hne (i := 2) (j := 9) (by decide)) (mu_n' (hne (i := 2) (j := 8) (by decide)) (mu_n' (hne (i := 2) (j := 7) (by decide)) (mu_n' (hne (i := 2) (j := 6) (by decide)) (mu_n' (hne (i := 2) (j := 5) (by decide)) (mu_n' (hne (i := 2) (j := 4) (by decide)) (mu_n' (hne (i := 2) (j := 3) (by decide)) mu_s)))))))))  ) rfl rfl hl.1 (Nat.le_of_ble_eq_true rfl) rfl rfl (by subst hR; exact ⟨Nat.le_of_ble_eq_true rfl, Nat.le_of_ble_eq_true rfl⟩) (by subst hR; exact ⟨Nat.le_of_ble_eq_true rfl, Nat.le_of_ble_eq_true rfl⟩) dd_M_remove_11 (fun v1 M1 H locs hp hM hS => ?_)
    obtain ⟨ev1, w1, eM1⟩ := hp
    subst ev1
    rw [eM1] at hM
    have hM := mr_M (mu_c10 (hne (i := 2) (j := 3) (by decide)) (hne (i := 2) (j := 4) (by decide)) (hne (i := 2) (j := 5) (by decide)) (hne (i := 2) (j := 6) (by decide)) (hne (i := 2) (j := 7) (by decide)) (hne (i := 2) (j := 8) (by decide)) (hne (i := 2) (j := 9) (by decide)) (hne (i := 2) (j := 10) (by decide)) (hne (i := 2) (j := 0) (by decide))) hM
    have hM : mm_ G (mu_ (mu_ (mu_ (mu_ (mu_ (mu_ (mu_ (mu_ (mu_ (mu_ M (am 2) (ia_ G 64 w1)) (am 3) (la_ G 10 f)) (am 4) (ia_ G 10 g0)) (am 5) (ia_ G 17 cf)) (am 6) (la_ G 170 sf)) (am 7) (ia_ G 170 qf)) (am 8) (la_ G 17 uf)) (am 9) (la_ G 17 lf)) (am 10) (ia_ G 32 xw)) (am 0) (ob_ 6 [.ref (am 1), .ref (am 2), .int (nI hs), .long (hi_ N), .long (lo_ N), .long (hi_ Vt), .long (lo_ Vt), .int (nI Pd.length), .ref (am 3), .ref (am 4), .int (nI nw), .ref (am 5), .ref (am 6), .ref (am 7), .ref (am 8), .ref (am 9), .long (hi_ Hd), .long (lo_ Hd), .int (nI fc), .long r1, .long r0, .ref (am 10)])) H := hM
    refine W.eq (g2 := F0 m 14 ls [.int (primeT_ sx)]) rfl ?_
    refine lv_bipush (v := (-2 : Int32)) hx hb dd_M_remove_14 (by decide) ?_
    refine lv_icmp_ne (tgt := 22) hx hb dd_M_remove_16 rfl (fun h16 => ?_) (fun h16 => ?_)
    · skip
      refine lv_aload_n hx hb dd_M_remove_22 rfl (lv_at hl 0 rfl) ?_
      refine lv_lload_n hx hb dd_M_remove_23 rfl (lv_at hl 1 rfl) ?_
      refine mr_callV (As := [.long sx]) (rest := []) C0 hM hS vk_M_206 mu_s rfl (c_M_pendingAt l mu_s (mu_n' (hne (i := 3) (j := 0) (by decide)) (mu_n' (hne (i := 3) (j := 10) (by decide)) (mu_n' (hne (i := 3) (j := 9) (by decide)) (mu_n' (hne (i := 3) (j := 8) (by decide)) (mu_n' (hne (i := 3) (j := 7) (by decide)) (mu_n' (hne (i := 3) (j := 6) (by decide)) (mu_n' (hne (i := 3) (j := 5) (by decide)) (mu_n' (hne (i := 3) (j := 4) (by decide)) mu_s))))))))  (fun j hj => (hro j hj).1) hPn) rfl rfl hl.1 (Nat.le_of_ble_eq_true rfl) rfl rfl (by subst hR; exact ⟨Nat.le_of_ble_eq_true rfl, Nat.le_of_ble_eq_true rfl⟩) (by subst hR; exact ⟨Nat.le_of_ble_eq_true rfl, Nat.le_of_ble_eq_true rfl⟩) dd_M_remove_24 (fun v1 M1 H locs hp hM hS => ?_)
      obtain ⟨ev1, eM1⟩ := hp
      subst ev1
      rw [eM1] at hM
      refine W.eq (g2 := F0 m 27 ls [.int (pz_ Pd sx)]) rfl ?_
      refine lv_istore_n (lv' := [(3, .int (pz_ Pd sx)), (0, .ref (am 0)), (1, .long sx)]) hx hb dd_M_remove_27 rfl hl (by decide) rfl (fun ls hl => ?_)
      refine lv_iload_n hx hb dd_M_remove_28 rfl (lv_at hl 0 rfl) ?_
      refine lv_if_ge (tgt := 35) hx hb dd_M_remove_29 rfl (fun h29 => ?_) (fun h29 => ?_)
      · skip
        have hv29 : hs_ Pd sx = true := by
          cases h : hs_ Pd sx with
          | true => rfl
          | false => exact absurd ((pz_neg hPn).mpr h) (Int32.not_lt.mpr h29)
        obtain ⟨q0, hpx, hpz, hq0, hsq⟩ := pz_some hv29
        refine lv_aload_n hx hb dd_M_remove_35 rfl (lv_at hl 1 rfl) ?_
        refine lv_dup hx hb dd_M_remove_36 rfl ?_
        refine mr_get C0 hM fk_M_198 mu_s (v := .int (nI Pd.length)) rfl dd_M_remove_37 ?_
        refine lv_iconst (v := nI 1) hx hb dd_M_remove_40 (by decide) ?_
        refine lv_isub hx hb dd_M_remove_41 ?_
        refine mr_vi (pk_sub (a := Pd.length) (b := 1) (by omega)) ?_
        refine mr_put C0 hM hS fk_M_198 fp_M_198 mu_s rfl (rfl) (rfl) (Nat.le_of_ble_eq_true rfl) dd_M_remove_42 (fun H locs hM hS => ?_)
        have hM := mr_M mu_mu hM
        have hM : mm_ G (mu_ (mu_ (mu_ (mu_ (mu_ (mu_ (mu_ (mu_ (mu_ (mu_ M (am 2) (ia_ G 64 w1)) (am 3) (la_ G 10 f)) (am 4) (ia_ G 10 g0)) (am 5) (ia_ G 17 cf)) (am 6) (la_ G 170 sf)) (am 7) (ia_ G 170 qf)) (am 8) (la_ G 17 uf)) (am 9) (la_ G 17 lf)) (am 10) (ia_ G 32 xw)) (am 0) (ob_ 6 [.ref (am 1), .ref (am 2), .int (nI hs), .long (hi_ N), .long (lo_ N), .long (hi_ Vt), .long (lo_ Vt), .int (nI (Pd.length - 1)), .ref (am 3), .ref (am 4), .int (nI nw), .ref (am 5), .ref (am 6), .ref (am 7), .ref (am 8), .ref (am 9), .long (hi_ Hd), .long (lo_ Hd), .int (nI fc), .long r1, .long r0, .ref (am 10)])) H := hM
        refine lv_iload_n hx hb dd_M_remove_45 rfl (lv_at hl 0 rfl) ?_
        refine mr_vi (x' := nI q0) (hpz) ?_
        refine lv_istore (lv' := [(4, .int (nI q0)), (3, .int (pz_ Pd sx)), (0, .ref (am 0)), (1, .long sx)]) hx hb dd_M_remove_46 hl (by decide) rfl (fun ls hl => ?_)
        have loop_48 : ∀ (k : Nat) (i : Nat) (H : Heap) (locs : List Loc) (ls : Array Slot), i + k = Pd.length - 1 → q0 ≤ i → mm_ G (mu_ (mu_ (mu_ (mu_ (mu_ (mu_ (mu_ (mu_ (mu_ (mu_ M (am 2) (ia_ G 64 w1)) (am 3) (la_ G 10 (de_ f q0 (i + 1)))) (am 4) (ia_ G 10 (de_ g0 q0 (i + 1)))) (am 5) (ia_ G 17 cf)) (am 6) (la_ G 170 sf)) (am 7) (ia_ G 170 qf)) (am 8) (la_ G 17 uf)) (am 9) (la_ G 17 lf)) (am 10) (ia_ G 32 xw)) (am 0) (ob_ 6 [.ref (am 1), .ref (am 2), .int (nI hs), .long (hi_ N), .long (lo_ N), .long (hi_ Vt), .long (lo_ Vt), .int (nI (Pd.length - 1)), .ref (am 3), .ref (am 4), .int (nI nw), .ref (am 5), .ref (am 6), .ref (am 7), .ref (am 8), .ref (am 9), .long (hi_ Hd), .long (lo_ Hd), .int (nI fc), .long r1, .long r0, .ref (am 10)])) H → va_S (fz_ G) s.heap H locs → lv_has ls 5 [(0, .ref (am 0)), (1, .long sx), (4, .int (nI i))] → W p l e R s m args below meth c H locs 0 0 Q (F0 m 48 ls []) := by
          intro k
          induction k with
          | zero =>
            intro i H locs ls hi hqi hM hS hl
            refine lv_iload hx hb dd_M_remove_48 (lv_at hl 2 rfl) ?_
            refine lv_aload_n hx hb dd_M_remove_50 rfl (lv_at hl 0 rfl) ?_
            refine mr_get C0 hM fk_M_198 mu_s (v := .int (nI (Pd.length - 1))) rfl dd_M_remove_51 ?_
            refine lv_icmp_ge (tgt := 95) hx hb dd_M_remove_54 rfl (fun _ => ?_) (fun hc => absurd (le_nI (a := (Pd.length - 1)) (b := i) (by omega) (by omega) (by omega)) hc)
            refine lv_aload_n hx hb dd_M_remove_95 rfl (lv_at hl 0 rfl) ?_
            refine mr_get C0 hM fk_M_198 mu_s (v := .int (nI (Pd.length - 1))) rfl dd_M_remove_96 ?_
            have eL : rmL_ hs (primeT_ sx) Pd sx = Pd.eraseIdx q0 := by
              unfold rmL_
              rw [if_neg (show ¬ hs = 0 by omega), if_neg h16, hpx]
            rw [show i + 1 = Pd.length by omega] at hM
            have hdel := ro_del hro hq0
            have elen : (Pd.eraseIdx q0).length = Pd.length - 1 := by rw [List.length_eraseIdx, if_pos hq0]
            exact mr_ret hQ (mr_iret C0 hM hS (rfl) (⟨by unfold rmR_; rw [if_neg (show ¬ hs = 0 by omega), if_neg h16, if_pos hv29], _, _, _, _, _, _, _, _, _, _, _, by rw [eL]; exact ⟨hdel, hme, hul⟩, by rw [eL, elen]⟩) dd_M_remove_99)
          | succ k ih =>
            intro i H locs ls hi hqi hM hS hl
            refine lv_iload hx hb dd_M_remove_48 (lv_at hl 2 rfl) ?_
            refine lv_aload_n hx hb dd_M_remove_50 rfl (lv_at hl 0 rfl) ?_
            refine mr_get C0 hM fk_M_198 mu_s (v := .int (nI (Pd.length - 1))) rfl dd_M_remove_51 ?_
            refine lv_icmp_ge (tgt := 95) hx hb dd_M_remove_54 rfl (fun hc => absurd hc (nle_nI (a := (Pd.length - 1)) (b := i) (by omega) (by omega) (by omega))) (fun _ => ?_)
            refine lv_aload_n hx hb dd_M_remove_57 rfl (lv_at hl 0 rfl) ?_
            refine mr_get C0 hM fk_M_81 mu_s (v := .ref (am 3)) rfl dd_M_remove_58 ?_
            refine lv_iload hx hb dd_M_remove_61 (lv_at hl 2 rfl) ?_
            refine lv_aload_n hx hb dd_M_remove_63 rfl (lv_at hl 0 rfl) ?_
            refine mr_get C0 hM fk_M_81 mu_s (v := .ref (am 3)) rfl dd_M_remove_64 ?_
            refine lv_iload hx hb dd_M_remove_67 (lv_at hl 2 rfl) ?_
            refine lv_iconst (v := nI 1) hx hb dd_M_remove_69 (by decide) ?_
            refine lv_iadd hx hb dd_M_remove_70 ?_
            refine mr_vi (nI_add i 1) ?_
            refine mr_lald C0 hM (mu_n' (hne (i := 3) (j := 0) (by decide)) (mu_n' (hne (i := 3) (j := 10) (by decide)) (mu_n' (hne (i := 3) (j := 9) (by decide)) (mu_n' (hne (i := 3) (j := 8) (by decide)) (mu_n' (hne (i := 3) (j := 7) (by decide)) (mu_n' (hne (i := 3) (j := 6) (by decide)) (mu_n' (hne (i := 3) (j := 5) (by decide)) (mu_n' (hne (i := 3) (j := 4) (by decide)) mu_s)))))))) ((i + 1)) (rfl) (by omega) (by decide) dd_M_remove_71 ?_
            refine mr_last C0 hM hS (mu_n' (hne (i := 3) (j := 0) (by decide)) (mu_n' (hne (i := 3) (j := 10) (by decide)) (mu_n' (hne (i := 3) (j := 9) (by decide)) (mu_n' (hne (i := 3) (j := 8) (by decide)) (mu_n' (hne (i := 3) (j := 7) (by decide)) (mu_n' (hne (i := 3) (j := 6) (by decide)) (mu_n' (hne (i := 3) (j := 5) (by decide)) (mu_n' (hne (i := 3) (j := 4) (by decide)) mu_s)))))))) (i) (rfl) (by omega) (by decide) dd_M_remove_72 (fun H locs hM hS => ?_)
            have hM := mr_M (mu_c9 (hne (i := 3) (j := 4) (by decide)) (hne (i := 3) (j := 5) (by decide)) (hne (i := 3) (j := 6) (by decide)) (hne (i := 3) (j := 7) (by decide)) (hne (i := 3) (j := 8) (by decide)) (hne (i := 3) (j := 9) (by decide)) (hne (i := 3) (j := 10) (by decide)) (hne (i := 3) (j := 0) (by decide))) hM
            have hM := mr_M (congrArg (fun z__ => mu_ (mu_ (mu_ (mu_ (mu_ (mu_ (mu_ (mu_ (mu_ (mu_ M (am 2) (ia_ G 64 w1)) (am 3) (la_ G 10 z__)) (am 4) (ia_ G 10 (de_ g0 q0 (i + 1)))) (am 5) (ia_ G 17 cf)) (am 6) (la_ G 170 sf)) (am 7) (ia_ G 170 qf)) (am 8) (la_ G 17 uf)) (am 9) (la_ G 17 lf)) (am 10) (ia_ G 32 xw)) (am 0) (ob_ 6 [.ref (am 1), .ref (am 2), .int (nI hs), .long (hi_ N), .long (lo_ N), .long (hi_ Vt), .long (lo_ Vt), .int (nI (Pd.length - 1)), .ref (am 3), .ref (am 4), .int (nI nw), .ref (am 5), .ref (am 6), .ref (am 7), .ref (am 8), .ref (am 9), .long (hi_ Hd), .long (lo_ Hd), .int (nI fc), .long r1, .long r0, .ref (am 10)])) (show (vp_updL (de_ f q0 (i + 1)) i ((de_ f q0 (i + 1)) (i + 1)) : Nat → Int64) = (de_ f q0 (i + 1 + 1)) from de_sL (i := i + 1) (by omega))) hM
            have hM : mm_ G (mu_ (mu_ (mu_ (mu_ (mu_ (mu_ (mu_ (mu_ (mu_ (mu_ M (am 2) (ia_ G 64 w1)) (am 3) (la_ G 10 (de_ f q0 (i + 1 + 1)))) (am 4) (ia_ G 10 (de_ g0 q0 (i + 1)))) (am 5) (ia_ G 17 cf)) (am 6) (la_ G 170 sf)) (am 7) (ia_ G 170 qf)) (am 8) (la_ G 17 uf)) (am 9) (la_ G 17 lf)) (am 10) (ia_ G 32 xw)) (am 0) (ob_ 6 [.ref (am 1), .ref (am 2), .int (nI hs), .long (hi_ N), .long (lo_ N), .long (hi_ Vt), .long (lo_ Vt), .int (nI (Pd.length - 1)), .ref (am 3), .ref (am 4), .int (nI nw), .ref (am 5), .ref (am 6), .ref (am 7), .ref (am 8), .ref (am 9), .long (hi_ Hd), .long (lo_ Hd), .int (nI fc), .long r1, .long r0, .ref (am 10)])) H := hM
            refine lv_aload_n hx hb dd_M_remove_73 rfl (lv_at hl 0 rfl) ?_
            refine mr_get C0 hM fk_M_84 mu_s (v := .ref (am 4)) rfl dd_M_remove_74 ?_
            refine lv_iload hx hb dd_M_remove_77 (lv_at hl 2 rfl) ?_
            refine lv_aload_n hx hb dd_M_remove_79 rfl (lv_at hl 0 rfl) ?_
            refine mr_get C0 hM fk_M_84 mu_s (v := .ref (am 4)) rfl dd_M_remove_80 ?_
            refine lv_iload hx hb dd_M_remove_83 (lv_at hl 2 rfl) ?_
            refine lv_iconst (v := nI 1) hx hb dd_M_remove_85 (by decide) ?_
            refine lv_iadd hx hb dd_M_remove_86 ?_
            refine mr_vi (nI_add i 1) ?_
            refine mr_iald C0 hM (mu_n' (hne (i := 4) (j := 0) (by decide)) (mu_n' (hne (i := 4) (j := 10) (by decide)) (mu_n' (hne (i := 4) (j := 9) (by decide)) (mu_n' (hne (i := 4) (j := 8) (by decide)) (mu_n' (hne (i := 4) (j := 7) (by decide)) (mu_n' (hne (i := 4) (j := 6) (by decide)) (mu_n' (hne (i := 4) (j := 5) (by decide)) mu_s))))))) ((i + 1)) (rfl) (by omega) (by decide) dd_M_remove_87 ?_
            refine mr_iast C0 hM hS (mu_n' (hne (i := 4) (j := 0) (by decide)) (mu_n' (hne (i := 4) (j := 10) (by decide)) (mu_n' (hne (i := 4) (j := 9) (by decide)) (mu_n' (hne (i := 4) (j := 8) (by decide)) (mu_n' (hne (i := 4) (j := 7) (by decide)) (mu_n' (hne (i := 4) (j := 6) (by decide)) (mu_n' (hne (i := 4) (j := 5) (by decide)) mu_s))))))) (i) (rfl) (by omega) (by decide) dd_M_remove_88 (fun H locs hM hS => ?_)
            have hM := mr_M (mu_c8 (hne (i := 4) (j := 5) (by decide)) (hne (i := 4) (j := 6) (by decide)) (hne (i := 4) (j := 7) (by decide)) (hne (i := 4) (j := 8) (by decide)) (hne (i := 4) (j := 9) (by decide)) (hne (i := 4) (j := 10) (by decide)) (hne (i := 4) (j := 0) (by decide))) hM
            have hM := mr_M (congrArg (fun z__ => mu_ (mu_ (mu_ (mu_ (mu_ (mu_ (mu_ (mu_ (mu_ (mu_ M (am 2) (ia_ G 64 w1)) (am 3) (la_ G 10 (de_ f q0 (i + 1 + 1)))) (am 4) (ia_ G 10 z__)) (am 5) (ia_ G 17 cf)) (am 6) (la_ G 170 sf)) (am 7) (ia_ G 170 qf)) (am 8) (la_ G 17 uf)) (am 9) (la_ G 17 lf)) (am 10) (ia_ G 32 xw)) (am 0) (ob_ 6 [.ref (am 1), .ref (am 2), .int (nI hs), .long (hi_ N), .long (lo_ N), .long (hi_ Vt), .long (lo_ Vt), .int (nI (Pd.length - 1)), .ref (am 3), .ref (am 4), .int (nI nw), .ref (am 5), .ref (am 6), .ref (am 7), .ref (am 8), .ref (am 9), .long (hi_ Hd), .long (lo_ Hd), .int (nI fc), .long r1, .long r0, .ref (am 10)])) (show (upd (de_ g0 q0 (i + 1)) i ((de_ g0 q0 (i + 1)) (i + 1)) : Nat → Int32) = (de_ g0 q0 (i + 1 + 1)) from de_sI (i := i + 1) (by omega))) hM
            have hM : mm_ G (mu_ (mu_ (mu_ (mu_ (mu_ (mu_ (mu_ (mu_ (mu_ (mu_ M (am 2) (ia_ G 64 w1)) (am 3) (la_ G 10 (de_ f q0 (i + 1 + 1)))) (am 4) (ia_ G 10 (de_ g0 q0 (i + 1 + 1)))) (am 5) (ia_ G 17 cf)) (am 6) (la_ G 170 sf)) (am 7) (ia_ G 170 qf)) (am 8) (la_ G 17 uf)) (am 9) (la_ G 17 lf)) (am 10) (ia_ G 32 xw)) (am 0) (ob_ 6 [.ref (am 1), .ref (am 2), .int (nI hs), .long (hi_ N), .long (lo_ N), .long (hi_ Vt), .long (lo_ Vt), .int (nI (Pd.length - 1)), .ref (am 3), .ref (am 4), .int (nI nw), .ref (am 5), .ref (am 6), .ref (am 7), .ref (am 8), .ref (am 9), .long (hi_ Hd), .long (lo_ Hd), .int (nI fc), .long r1, .long r0, .ref (am 10)])) H := hM
            refine lv_iinc (k := 2) (v := nI (i + 1)) (lv' := [(4, .int (nI (i + 1))), (0, .ref (am 0)), (1, .long sx)]) hx hb dd_M_remove_89 hl rfl (inc_ i) (by decide) rfl (fun ls hl => ?_)
            refine lv_goto (tgt := 48) hx hb dd_M_remove_92 rfl ?_
            exact ih (i + 1) _ _ _ (by omega) (by omega) hM hS (lv_sub hl [1, 2, 0] rfl)
        rw [show (la_ G 10 f : va_E) = la_ G 10 (de_ f q0 (q0 + 1)) by rw [← de_0], show (ia_ G 10 g0 : va_E) = ia_ G 10 (de_ g0 q0 (q0 + 1)) by rw [← de_0]] at hM
        exact loop_48 (Pd.length - 1 - q0) q0 _ _ _ (by omega) (Nat.le_refl _) hM hS (lv_sub hl [2, 3, 0] rfl)
      · skip
        have hv29 : hs_ Pd sx = false := (pz_neg hPn).mp (Int32.not_le.mp h29)
        refine lv_bipush (v := (-4 : Int32)) hx hb dd_M_remove_32 (by decide) ?_
        have eL : rmL_ hs (primeT_ sx) Pd sx = Pd := by
          have h := hs_px Pd sx
          rw [hv29] at h
          unfold rmL_
          rw [if_neg (show ¬ hs = 0 by omega), if_neg h16]
          cases h2 : px_ Pd sx with
          | none => rfl
          | some z => rw [h2] at h; simp at h
        exact mr_ret hQ (mr_iret C0 hM hS (rfl) (⟨by unfold rmR_; rw [if_neg (show ¬ hs = 0 by omega), if_neg h16, if_neg (by rw [hv29]; decide)], _, _, _, _, _, _, _, _, _, _, _, by rw [eL]; exact hrl, by rw [eL]⟩) dd_M_remove_34)
    · skip
      refine lv_bipush (v := (-2 : Int32)) hx hb dd_M_remove_19 (by decide) ?_
      exact mr_ret hQ (mr_iret C0 hM hS (rfl) (⟨by unfold rmR_; rw [if_neg (show ¬ hs = 0 by omega), if_pos h16], _, _, _, _, _, _, _, _, _, _, _, by unfold rmL_; rw [if_neg (show ¬ hs = 0 by omega), if_pos h16]; exact hrl, by unfold rmL_; rw [if_neg (show ¬ hs = 0 by omega), if_pos h16]⟩) dd_M_remove_21)
  · skip
    have hh0 : hs = 0 := (nI_eq (by omega) (by decide)).mp h4
    refine lv_iconst (v := (-1 : Int32)) hx hb dd_M_remove_7 (by decide) ?_
    exact mr_ret hQ (mr_iret C0 hM hS (rfl) (⟨by unfold rmR_; rw [if_pos hh0], _, _, _, _, _, _, _, _, _, _, _, by unfold rmL_; rw [if_pos hh0]; exact hrl, by unfold rmL_; rw [if_pos hh0]⟩) dd_M_remove_8)

set_option maxHeartbeats 4000000 in
set_option maxRecDepth 100000 in
theorem c_M_witness (l : Launch) {G : mg_} {M : mw_} {am : Nat → Nat} {hs N Vt nw Hd fc : Nat} {Pd : rl_} {Ls : Nat → rl_} {w g0 cf qf xw : Nat → Int32} {f sf uf lf : Nat → Int64} {r1 r0 : Int64} {sx : Int64} {b0 : Int32}   (hne : ∀ {i j : Nat}, i ≠ j → am i ≠ am j) (hk : M (am 1) = some (la_ G 32 mk_)) (hrl : mrl_ hs N Pd Ls nw f g0 cf sf qf uf lf) (hok : okS_ Pd Ls nw) (hhs : hs ≤ 1) (hN : hs = 1 → N < 340282366920938463463374607431768211456 ∧ 1267650600228229401496703205376 ≤ N) (hHd : hs = 1 → Hd < N) (hfc : fc < 2147483648)  : ct_ l my_M_witness cd_M_witness 5 (some .long) { frames := 6, cells := 0, slots := 0, locals := 165 } G [.ref (am 0), .long sx, .int b0] (mu_ (mu_ (mu_ (mu_ (mu_ (mu_ (mu_ (mu_ (mu_ (mu_ M (am 2) (ia_ G 64 w)) (am 3) (la_ G 10 f)) (am 4) (ia_ G 10 g0)) (am 5) (ia_ G 17 cf)) (am 6) (la_ G 170 sf)) (am 7) (ia_ G 170 qf)) (am 8) (la_ G 17 uf)) (am 9) (la_ G 17 lf)) (am 10) (ia_ G 32 xw)) (am 0) (ob_ 6 [.ref (am 1), .ref (am 2), .int (nI hs), .long (hi_ N), .long (lo_ N), .long (hi_ Vt), .long (lo_ Vt), .int (nI Pd.length), .ref (am 3), .ref (am 4), .int (nI nw), .ref (am 5), .ref (am 6), .ref (am 7), .ref (am 8), .ref (am 9), .long (hi_ Hd), .long (lo_ Hd), .int (nI fc), .long r1, .long r0, .ref (am 10)])) (fun v0 M' => v0 = (some (.long (wiR_ hs N Ls nw sx b0))) ∧ MWx_ M am G hs N Vt Pd Ls nw Hd fc M') 0 0 := by
  refine ct_.intro2 (by decide) (Nat.le_of_ble_eq_true rfl) ?_
  intro p e s m args below meth c ls R Q hR hQ C0 hl hM hS
  have hx := C0.1
  have hb := C0.2.1
  have hl : lv_has ls 5 [(0, .ref (am 0)), (1, .long sx), (3, .int b0)] := hl
  obtain ⟨hro, hme, hul⟩ := hrl
  have hrl : mrl_ hs N Pd Ls nw f g0 cf sf qf uf lf := ⟨hro, hme, hul⟩
  obtain ⟨hPn, hLn, hnw, hPp, hLp, hPd, hLd⟩ := hok
  have hnw17 : nw < 17 := by omega
  have hcn := (hme nw hnw17).1
  refine lv_aload_n hx hb dd_M_witness_0 rfl (lv_at hl 0 rfl) ?_
  refine mr_get C0 hM fk_M_181 mu_s (v := .int (nI hs)) rfl dd_M_witness_1 ?_
  refine lv_if_eq (tgt := 19) hx hb dd_M_witness_4 rfl (fun h4 => ?_) (fun h4 => ?_)
  · skip
    have hh0 : hs = 0 := (nI_eq (by omega) (by decide)).mp h4
    refine lv_iconst (v := (-1 : Int32)) hx hb dd_M_witness_19 (by decide) ?_
    refine lv_istore (lv' := [(4, .int (-1 : Int32)), (0, .ref (am 0)), (1, .long sx), (3, .int b0)]) hx hb dd_M_witness_20 hl (by decide) rfl (fun ls hl => ?_)
    refine lv_iload hx hb dd_M_witness_22 (lv_at hl 0 rfl) ?_
    refine lv_if_ge (tgt := 29) hx hb dd_M_witness_24 rfl (fun hc => absurd hc (by decide)) (fun _ => ?_)
    refine lv_lconst (v := lN 0) hx hb dd_M_witness_27 rfl ?_
    exact mr_ret hQ (mr_lret C0 hM hS (⟨by unfold wiR_; rw [if_neg (fun q => by omega)], _, _, _, _, _, _, _, _, _, _, _, hrl, rfl⟩) dd_M_witness_28)
  · skip
    have hh1 : hs = 1 := by
      have h2 : hs ≠ 0 := fun q => h4 (by rw [q]; rfl)
      omega
    refine lv_aload_n hx hb dd_M_witness_7 rfl (lv_at hl 0 rfl) ?_
    refine lv_aload_n hx hb dd_M_witness_8 rfl (lv_at hl 0 rfl) ?_
    refine mr_get C0 hM fk_M_209 mu_s (v := .int (nI nw)) rfl dd_M_witness_9 ?_
    refine lv_lload_n hx hb dd_M_witness_12 rfl (lv_at hl 1 rfl) ?_
    refine mr_callV (As := [.int (nI nw), .long sx]) (rest := []) C0 hM hS vk_M_216 mu_s rfl (c_M_placeIn l mu_s (mu_n' (hne (i := 5) (j := 0) (by decide)) (mu_n' (hne (i := 5) (j := 10) (by decide)) (mu_n' (hne (i := 5) (j := 9) (by decide)) (mu_n' (hne (i := 5) (j := 8) (by decide)) (mu_n' (hne (i := 5) (j := 7) (by decide)) (mu_n' (hne (i := 5) (j := 6) (by decide)) mu_s)))))) (mu_n' (hne (i := 6) (j := 0) (by decide)) (mu_n' (hne (i := 6) (j := 10) (by decide)) (mu_n' (hne (i := 6) (j := 9) (by decide)) (mu_n' (hne (i := 6) (j := 8) (by decide)) (mu_n' (hne (i := 6) (j := 7) (by decide)) mu_s)))))  hnw17 (hme nw hnw17).1 (hLn nw) (fun j hj => ((hme nw hnw17).2.2 j hj).1)) rfl rfl hl.1 (Nat.le_of_ble_eq_true rfl) rfl rfl (by subst hR; exact ⟨Nat.le_of_ble_eq_true rfl, Nat.le_of_ble_eq_true rfl⟩) (by subst hR; exact ⟨Nat.le_of_ble_eq_true rfl, Nat.le_of_ble_eq_true rfl⟩) dd_M_witness_13 (fun v1 M1 H locs hp hM hS => ?_)
    obtain ⟨ev1, eM1⟩ := hp
    subst ev1
    rw [eM1] at hM
    refine W.eq (g2 := F0 m 16 ls [.int (mz_ (Ls nw) nw sx)]) rfl ?_
    refine lv_goto (tgt := 20) hx hb dd_M_witness_16 rfl ?_
    refine lv_istore (lv' := [(4, .int (mz_ (Ls nw) nw sx)), (0, .ref (am 0)), (1, .long sx), (3, .int b0)]) hx hb dd_M_witness_20 hl (by decide) rfl (fun ls hl => ?_)
    refine lv_iload hx hb dd_M_witness_22 (lv_at hl 0 rfl) ?_
    refine lv_if_ge (tgt := 29) hx hb dd_M_witness_24 rfl (fun h24 => ?_) (fun h24 => ?_)
    · skip
      have hv24 : hs_ (Ls nw) sx = true := by
        cases h : hs_ (Ls nw) sx with
        | true => rfl
        | false => exact absurd ((mz_neg (hLn nw) hnw17).mpr h) (Int32.not_lt.mpr h24)
      obtain ⟨q0, hpx, hpz, hq0, hsq⟩ := mz_some nw hv24
      refine lv_aload_n hx hb dd_M_witness_29 rfl (lv_at hl 1 rfl) ?_
      refine lv_iload hx hb dd_M_witness_30 (lv_at hl 0 rfl) ?_
      refine mr_vi (x' := nI (10 * nw + q0)) (hpz) ?_
      refine mr_callV (As := [.int (nI (10 * nw + q0))]) (rest := []) C0 hM hS vk_M_223 mu_s rfl (c_M_issued l mu_s (mu_n' (hne (i := 5) (j := 0) (by decide)) (mu_n' (hne (i := 5) (j := 10) (by decide)) (mu_n' (hne (i := 5) (j := 9) (by decide)) (mu_n' (hne (i := 5) (j := 8) (by decide)) (mu_n' (hne (i := 5) (j := 7) (by decide)) (mu_n' (hne (i := 5) (j := 6) (by decide)) mu_s)))))) (mu_n' (hne (i := 7) (j := 0) (by decide)) (mu_n' (hne (i := 7) (j := 10) (by decide)) (mu_n' (hne (i := 7) (j := 9) (by decide)) (mu_n' (hne (i := 7) (j := 8) (by decide)) mu_s))))  (hN hh1).1 (by have h := (hN hh1).2; omega) hnw hcn (hLn nw) (fun j hj => ((hme nw hnw17).2.2 j hj).2) (hLp nw) (Nat.lt_of_lt_of_le hq0 (hLn nw))) rfl rfl hl.1 (Nat.le_of_ble_eq_true rfl) rfl rfl (by subst hR; exact ⟨Nat.le_of_ble_eq_true rfl, Nat.le_of_ble_eq_true rfl⟩) (by subst hR; exact ⟨Nat.le_of_ble_eq_true rfl, Nat.le_of_ble_eq_true rfl⟩) dd_M_witness_32 (fun v1 M1 H locs hp hM hS => ?_)
      obtain ⟨ev1, eM1⟩ := hp
      subst ev1
      rw [eM1] at hM
      have hM := mr_M mu_mu hM
      have hM : mm_ G (mu_ (mu_ (mu_ (mu_ (mu_ (mu_ (mu_ (mu_ (mu_ (mu_ M (am 2) (ia_ G 64 w)) (am 3) (la_ G 10 f)) (am 4) (ia_ G 10 g0)) (am 5) (ia_ G 17 cf)) (am 6) (la_ G 170 sf)) (am 7) (ia_ G 170 qf)) (am 8) (la_ G 17 uf)) (am 9) (la_ G 17 lf)) (am 10) (ia_ G 32 xw)) (am 0) (ob_ 6 [.ref (am 1), .ref (am 2), .int (nI hs), .long (hi_ N), .long (lo_ N), .long (hi_ Vt), .long (lo_ Vt), .int (nI Pd.length), .ref (am 3), .ref (am 4), .int (nI nw), .ref (am 5), .ref (am 6), .ref (am 7), .ref (am 8), .ref (am 9), .long (hi_ Hd), .long (lo_ Hd), .int (nI fc), .long (hi_ (3 ^ pe_ (Ls nw) q0 (Ls nw).length % N)), .long (lo_ (3 ^ pe_ (Ls nw) q0 (Ls nw).length % N)), .ref (am 10)])) H := hM
      refine W.eq (g2 := F0 m 35 ls []) rfl ?_
      refine lv_iload_n hx hb dd_M_witness_35 rfl (lv_at hl 3 rfl) ?_
      refine lv_if_eq (tgt := 46) hx hb dd_M_witness_36 rfl (fun h36 => ?_) (fun h36 => ?_)
      · skip
        refine lv_aload_n hx hb dd_M_witness_46 rfl (lv_at hl 1 rfl) ?_
        refine mr_get C0 hM fk_M_151 mu_s (v := .long (lo_ (3 ^ pe_ (Ls nw) q0 (Ls nw).length % N))) rfl dd_M_witness_47 ?_
        rw [pe_wt (hLd nw) hq0 hsq] at hM
        exact mr_ret hQ (mr_lret C0 hM hS (⟨by unfold wiR_; rw [if_pos ⟨hh1, hv24⟩, ← pe_wt (hLd nw) hq0 hsq]; simp [hdR_, h36], _, _, _, _, _, _, _, _, _, _, _, hrl, rfl⟩) dd_M_witness_50)
      · skip
        refine lv_aload_n hx hb dd_M_witness_39 rfl (lv_at hl 1 rfl) ?_
        refine mr_get C0 hM fk_M_154 mu_s (v := .long (hi_ (3 ^ pe_ (Ls nw) q0 (Ls nw).length % N))) rfl dd_M_witness_40 ?_
        refine lv_goto (tgt := 50) hx hb dd_M_witness_43 rfl ?_
        rw [pe_wt (hLd nw) hq0 hsq] at hM
        exact mr_ret hQ (mr_lret C0 hM hS (⟨by unfold wiR_; rw [if_pos ⟨hh1, hv24⟩, ← pe_wt (hLd nw) hq0 hsq]; simp [hdR_, h36], _, _, _, _, _, _, _, _, _, _, _, hrl, rfl⟩) dd_M_witness_50)
    · skip
      have hv24 : hs_ (Ls nw) sx = false := (mz_neg (hLn nw) hnw17).mp (Int32.not_le.mp h24)
      refine lv_lconst (v := lN 0) hx hb dd_M_witness_27 rfl ?_
      exact mr_ret hQ (mr_lret C0 hM hS (⟨by unfold wiR_; rw [if_neg (fun q => by rw [hv24] at q; exact absurd q.2 (by decide))], _, _, _, _, _, _, _, _, _, _, _, hrl, rfl⟩) dd_M_witness_28)

set_option maxHeartbeats 4000000 in
set_option maxRecDepth 100000 in
theorem c_M_issue (l : Launch) {G : mg_} {M : mw_} {am : Nat → Nat} {hs N Vt nw Hd fc : Nat} {Pd : rl_} {Ls : Nat → rl_} {w g0 cf qf xw : Nat → Int32} {f sf uf lf : Nat → Int64} {r1 r0 : Int64} {sx : Int64}   (hne : ∀ {i j : Nat}, i ≠ j → am i ≠ am j) (hk : M (am 1) = some (la_ G 32 mk_)) (hrl : mrl_ hs N Pd Ls nw f g0 cf sf qf uf lf) (hok : okS_ Pd Ls nw) (hhs : hs ≤ 1) (hN : hs = 1 → N < 340282366920938463463374607431768211456 ∧ 1267650600228229401496703205376 ≤ N) (hHd : hs = 1 → Hd < N) (hfc : fc < 2147483648)  : ct_ l my_M_issue cd_M_issue 4 (some .int) { frames := 6, cells := 0, slots := 0, locals := 165 } G [.ref (am 0), .long sx] (mu_ (mu_ (mu_ (mu_ (mu_ (mu_ (mu_ (mu_ (mu_ (mu_ M (am 2) (ia_ G 64 w)) (am 3) (la_ G 10 f)) (am 4) (ia_ G 10 g0)) (am 5) (ia_ G 17 cf)) (am 6) (la_ G 170 sf)) (am 7) (ia_ G 170 qf)) (am 8) (la_ G 17 uf)) (am 9) (la_ G 17 lf)) (am 10) (ia_ G 32 xw)) (am 0) (ob_ 6 [.ref (am 1), .ref (am 2), .int (nI hs), .long (hi_ N), .long (lo_ N), .long (hi_ Vt), .long (lo_ Vt), .int (nI Pd.length), .ref (am 3), .ref (am 4), .int (nI nw), .ref (am 5), .ref (am 6), .ref (am 7), .ref (am 8), .ref (am 9), .long (hi_ Hd), .long (lo_ Hd), .int (nI fc), .long r1, .long r0, .ref (am 10)])) (fun v0 M' => v0 = (some (.int (isR_ hs (primeT_ sx) Ls nw sx))) ∧ MWx_ M am G hs N Vt Pd Ls nw (isH_ hs N (primeT_ sx) Ls nw sx Hd) (isF_ hs (primeT_ sx) Ls nw sx fc) M') 0 0 := by
  refine ct_.intro2 (by decide) (Nat.le_of_ble_eq_true rfl) ?_
  intro p e s m args below meth c ls R Q hR hQ C0 hl hM hS
  have hx := C0.1
  have hb := C0.2.1
  have hl : lv_has ls 4 [(0, .ref (am 0)), (1, .long sx)] := hl
  obtain ⟨hro, hme, hul⟩ := hrl
  have hrl : mrl_ hs N Pd Ls nw f g0 cf sf qf uf lf := ⟨hro, hme, hul⟩
  obtain ⟨hPn, hLn, hnw, hPp, hLp, hPd, hLd⟩ := hok
  have hnw17 : nw < 17 := by omega
  have hcn := (hme nw hnw17).1
  refine lv_aload_n hx hb dd_M_issue_0 rfl (lv_at hl 0 rfl) ?_
  refine mr_get C0 hM fk_M_181 mu_s (v := .int (nI hs)) rfl dd_M_issue_1 ?_
  refine lv_if_ne (tgt := 9) hx hb dd_M_issue_4 rfl (fun h4 => ?_) (fun h4 => ?_)
  · skip
    have hh1 : hs = 1 := by
      have h2 : hs ≠ 0 := fun q => h4 (by rw [q]; rfl)
      omega
    refine lv_aload_n hx hb dd_M_issue_9 rfl (lv_at hl 0 rfl) ?_
    refine lv_lload_n hx hb dd_M_issue_10 rfl (lv_at hl 1 rfl) ?_
    refine mr_callV (As := [.long sx]) (rest := []) C0 hM hS vk_M_202 mu_s rfl (c_M_prime l mu_s (mu_n' (hne (i := 1) (j := 0) (by decide)) (mu_n' (hne (i := 1) (j := 10) (by decide)) (mu_n' (hne (i := 1) (j := 9) (by decide)) (mu_n' (hne (i := 1) (j := 8) (by decide)) (mu_n' (hne (i := 1) (j := 7) (by decide)) (mu_n' (hne (i := 1) (j := 6) (by decide)) (mu_n' (hne (i := 1) (j := 5) (by decide)) (mu_n' (hne (i := 1) (j := 4) (by decide)) (mu_n' (hne (i := 1) (j := 3) (by decide)) (mu_n' (hne (i := 1) (j := 2) (by decide)) hk)))))))))) (mu_n' (hne (i := 2) (j := 0) (by decide)) (mu_n' (hne (i := 2) (j := 10) (by decide)) (mu_n' (hne (i := 2) (j := 9) (by decide)) (mu_n' (hne (i := 2) (j := 8) (by decide)) (mu_n' (hne (i := 2) (j := 7) (by decide)) (mu_n' (hne (i := 2) (j := 6) (by decide)) (mu_n' (hne (i := 2) (j := 5) (by decide)) (mu_n' (hne (i := 2) (j := 4) (by decide)) (mu_n' (hne (i := 2) (j := 3) (by decide)) mu_s)))))))))  ) rfl rfl hl.1 (Nat.le_of_ble_eq_true rfl) rfl rfl (by subst hR; exact ⟨Nat.le_of_ble_eq_true rfl, Nat.le_of_ble_eq_true rfl⟩) (by subst hR; exact ⟨Nat.le_of_ble_eq_true rfl, Nat.le_of_ble_eq_true rfl⟩) dd_M_issue_11 (fun v1 M1 H locs hp hM hS => ?_)
    obtain ⟨ev1, w1, eM1⟩ := hp
    subst ev1
    rw [eM1] at hM
    have hM := mr_M (mu_c10 (hne (i := 2) (j := 3) (by decide)) (hne (i := 2) (j := 4) (by decide)) (hne (i := 2) (j := 5) (by decide)) (hne (i := 2) (j := 6) (by decide)) (hne (i := 2) (j := 7) (by decide)) (hne (i := 2) (j := 8) (by decide)) (hne (i := 2) (j := 9) (by decide)) (hne (i := 2) (j := 10) (by decide)) (hne (i := 2) (j := 0) (by decide))) hM
    have hM : mm_ G (mu_ (mu_ (mu_ (mu_ (mu_ (mu_ (mu_ (mu_ (mu_ (mu_ M (am 2) (ia_ G 64 w1)) (am 3) (la_ G 10 f)) (am 4) (ia_ G 10 g0)) (am 5) (ia_ G 17 cf)) (am 6) (la_ G 170 sf)) (am 7) (ia_ G 170 qf)) (am 8) (la_ G 17 uf)) (am 9) (la_ G 17 lf)) (am 10) (ia_ G 32 xw)) (am 0) (ob_ 6 [.ref (am 1), .ref (am 2), .int (nI hs), .long (hi_ N), .long (lo_ N), .long (hi_ Vt), .long (lo_ Vt), .int (nI Pd.length), .ref (am 3), .ref (am 4), .int (nI nw), .ref (am 5), .ref (am 6), .ref (am 7), .ref (am 8), .ref (am 9), .long (hi_ Hd), .long (lo_ Hd), .int (nI fc), .long r1, .long r0, .ref (am 10)])) H := hM
    refine W.eq (g2 := F0 m 14 ls [.int (primeT_ sx)]) rfl ?_
    refine lv_bipush (v := (-2 : Int32)) hx hb dd_M_issue_14 (by decide) ?_
    refine lv_icmp_ne (tgt := 22) hx hb dd_M_issue_16 rfl (fun h16 => ?_) (fun h16 => ?_)
    · skip
      refine lv_aload_n hx hb dd_M_issue_22 rfl (lv_at hl 0 rfl) ?_
      refine lv_aload_n hx hb dd_M_issue_23 rfl (lv_at hl 0 rfl) ?_
      refine mr_get C0 hM fk_M_209 mu_s (v := .int (nI nw)) rfl dd_M_issue_24 ?_
      refine lv_lload_n hx hb dd_M_issue_27 rfl (lv_at hl 1 rfl) ?_
      refine mr_callV (As := [.int (nI nw), .long sx]) (rest := []) C0 hM hS vk_M_216 mu_s rfl (c_M_placeIn l mu_s (mu_n' (hne (i := 5) (j := 0) (by decide)) (mu_n' (hne (i := 5) (j := 10) (by decide)) (mu_n' (hne (i := 5) (j := 9) (by decide)) (mu_n' (hne (i := 5) (j := 8) (by decide)) (mu_n' (hne (i := 5) (j := 7) (by decide)) (mu_n' (hne (i := 5) (j := 6) (by decide)) mu_s)))))) (mu_n' (hne (i := 6) (j := 0) (by decide)) (mu_n' (hne (i := 6) (j := 10) (by decide)) (mu_n' (hne (i := 6) (j := 9) (by decide)) (mu_n' (hne (i := 6) (j := 8) (by decide)) (mu_n' (hne (i := 6) (j := 7) (by decide)) mu_s)))))  hnw17 (hme nw hnw17).1 (hLn nw) (fun j hj => ((hme nw hnw17).2.2 j hj).1)) rfl rfl hl.1 (Nat.le_of_ble_eq_true rfl) rfl rfl (by subst hR; exact ⟨Nat.le_of_ble_eq_true rfl, Nat.le_of_ble_eq_true rfl⟩) (by subst hR; exact ⟨Nat.le_of_ble_eq_true rfl, Nat.le_of_ble_eq_true rfl⟩) dd_M_issue_28 (fun v1 M1 H locs hp hM hS => ?_)
      obtain ⟨ev1, eM1⟩ := hp
      subst ev1
      rw [eM1] at hM
      refine W.eq (g2 := F0 m 31 ls [.int (mz_ (Ls nw) nw sx)]) rfl ?_
      refine lv_istore_n (lv' := [(3, .int (mz_ (Ls nw) nw sx)), (0, .ref (am 0)), (1, .long sx)]) hx hb dd_M_issue_31 rfl hl (by decide) rfl (fun ls hl => ?_)
      refine lv_iload_n hx hb dd_M_issue_32 rfl (lv_at hl 0 rfl) ?_
      refine lv_if_ge (tgt := 39) hx hb dd_M_issue_33 rfl (fun h33 => ?_) (fun h33 => ?_)
      · skip
        have hv33 : hs_ (Ls nw) sx = true := by
          cases h : hs_ (Ls nw) sx with
          | true => rfl
          | false => exact absurd ((mz_neg (hLn nw) hnw17).mpr h) (Int32.not_lt.mpr h33)
        obtain ⟨q0, hpx, hpz, hq0, hsq⟩ := mz_some nw hv33
        refine lv_aload_n hx hb dd_M_issue_39 rfl (lv_at hl 1 rfl) ?_
        refine lv_iload_n hx hb dd_M_issue_40 rfl (lv_at hl 0 rfl) ?_
        refine mr_vi (x' := nI (10 * nw + q0)) (hpz) ?_
        refine mr_callV (As := [.int (nI (10 * nw + q0))]) (rest := []) C0 hM hS vk_M_223 mu_s rfl (c_M_issued l mu_s (mu_n' (hne (i := 5) (j := 0) (by decide)) (mu_n' (hne (i := 5) (j := 10) (by decide)) (mu_n' (hne (i := 5) (j := 9) (by decide)) (mu_n' (hne (i := 5) (j := 8) (by decide)) (mu_n' (hne (i := 5) (j := 7) (by decide)) (mu_n' (hne (i := 5) (j := 6) (by decide)) mu_s)))))) (mu_n' (hne (i := 7) (j := 0) (by decide)) (mu_n' (hne (i := 7) (j := 10) (by decide)) (mu_n' (hne (i := 7) (j := 9) (by decide)) (mu_n' (hne (i := 7) (j := 8) (by decide)) mu_s))))  (hN hh1).1 (by have h := (hN hh1).2; omega) hnw hcn (hLn nw) (fun j hj => ((hme nw hnw17).2.2 j hj).2) (hLp nw) (Nat.lt_of_lt_of_le hq0 (hLn nw))) rfl rfl hl.1 (Nat.le_of_ble_eq_true rfl) rfl rfl (by subst hR; exact ⟨Nat.le_of_ble_eq_true rfl, Nat.le_of_ble_eq_true rfl⟩) (by subst hR; exact ⟨Nat.le_of_ble_eq_true rfl, Nat.le_of_ble_eq_true rfl⟩) dd_M_issue_41 (fun v1 M1 H locs hp hM hS => ?_)
        obtain ⟨ev1, eM1⟩ := hp
        subst ev1
        rw [eM1] at hM
        have hM := mr_M mu_mu hM
        have hM : mm_ G (mu_ (mu_ (mu_ (mu_ (mu_ (mu_ (mu_ (mu_ (mu_ (mu_ M (am 2) (ia_ G 64 w1)) (am 3) (la_ G 10 f)) (am 4) (ia_ G 10 g0)) (am 5) (ia_ G 17 cf)) (am 6) (la_ G 170 sf)) (am 7) (ia_ G 170 qf)) (am 8) (la_ G 17 uf)) (am 9) (la_ G 17 lf)) (am 10) (ia_ G 32 xw)) (am 0) (ob_ 6 [.ref (am 1), .ref (am 2), .int (nI hs), .long (hi_ N), .long (lo_ N), .long (hi_ Vt), .long (lo_ Vt), .int (nI Pd.length), .ref (am 3), .ref (am 4), .int (nI nw), .ref (am 5), .ref (am 6), .ref (am 7), .ref (am 8), .ref (am 9), .long (hi_ Hd), .long (lo_ Hd), .int (nI fc), .long (hi_ (3 ^ pe_ (Ls nw) q0 (Ls nw).length % N)), .long (lo_ (3 ^ pe_ (Ls nw) q0 (Ls nw).length % N)), .ref (am 10)])) H := hM
        refine W.eq (g2 := F0 m 44 ls []) rfl ?_
        refine lv_aload_n hx hb dd_M_issue_44 rfl (lv_at hl 1 rfl) ?_
        refine lv_aload_n hx hb dd_M_issue_45 rfl (lv_at hl 1 rfl) ?_
        refine mr_get C0 hM fk_M_154 mu_s (v := .long (hi_ (3 ^ pe_ (Ls nw) q0 (Ls nw).length % N))) rfl dd_M_issue_46 ?_
        refine mr_put C0 hM hS fk_M_226 fp_M_226 mu_s rfl (rfl) (rfl) (Nat.le_of_ble_eq_true rfl) dd_M_issue_49 (fun H locs hM hS => ?_)
        have hM := mr_M mu_mu hM
        have hM : mm_ G (mu_ (mu_ (mu_ (mu_ (mu_ (mu_ (mu_ (mu_ (mu_ (mu_ M (am 2) (ia_ G 64 w1)) (am 3) (la_ G 10 f)) (am 4) (ia_ G 10 g0)) (am 5) (ia_ G 17 cf)) (am 6) (la_ G 170 sf)) (am 7) (ia_ G 170 qf)) (am 8) (la_ G 17 uf)) (am 9) (la_ G 17 lf)) (am 10) (ia_ G 32 xw)) (am 0) (ob_ 6 [.ref (am 1), .ref (am 2), .int (nI hs), .long (hi_ N), .long (lo_ N), .long (hi_ Vt), .long (lo_ Vt), .int (nI Pd.length), .ref (am 3), .ref (am 4), .int (nI nw), .ref (am 5), .ref (am 6), .ref (am 7), .ref (am 8), .ref (am 9), .long (hi_ (3 ^ pe_ (Ls nw) q0 (Ls nw).length % N)), .long (lo_ Hd), .int (nI fc), .long (hi_ (3 ^ pe_ (Ls nw) q0 (Ls nw).length % N)), .long (lo_ (3 ^ pe_ (Ls nw) q0 (Ls nw).length % N)), .ref (am 10)])) H := hM
        refine lv_aload_n hx hb dd_M_issue_52 rfl (lv_at hl 1 rfl) ?_
        refine lv_aload_n hx hb dd_M_issue_53 rfl (lv_at hl 1 rfl) ?_
        refine mr_get C0 hM fk_M_151 mu_s (v := .long (lo_ (3 ^ pe_ (Ls nw) q0 (Ls nw).length % N))) rfl dd_M_issue_54 ?_
        refine mr_put C0 hM hS fk_M_229 fp_M_229 mu_s rfl (rfl) (rfl) (Nat.le_of_ble_eq_true rfl) dd_M_issue_57 (fun H locs hM hS => ?_)
        have hM := mr_M mu_mu hM
        have hM : mm_ G (mu_ (mu_ (mu_ (mu_ (mu_ (mu_ (mu_ (mu_ (mu_ (mu_ M (am 2) (ia_ G 64 w1)) (am 3) (la_ G 10 f)) (am 4) (ia_ G 10 g0)) (am 5) (ia_ G 17 cf)) (am 6) (la_ G 170 sf)) (am 7) (ia_ G 170 qf)) (am 8) (la_ G 17 uf)) (am 9) (la_ G 17 lf)) (am 10) (ia_ G 32 xw)) (am 0) (ob_ 6 [.ref (am 1), .ref (am 2), .int (nI hs), .long (hi_ N), .long (lo_ N), .long (hi_ Vt), .long (lo_ Vt), .int (nI Pd.length), .ref (am 3), .ref (am 4), .int (nI nw), .ref (am 5), .ref (am 6), .ref (am 7), .ref (am 8), .ref (am 9), .long (hi_ (3 ^ pe_ (Ls nw) q0 (Ls nw).length % N)), .long (lo_ (3 ^ pe_ (Ls nw) q0 (Ls nw).length % N)), .int (nI fc), .long (hi_ (3 ^ pe_ (Ls nw) q0 (Ls nw).length % N)), .long (lo_ (3 ^ pe_ (Ls nw) q0 (Ls nw).length % N)), .ref (am 10)])) H := hM
        refine lv_aload_n hx hb dd_M_issue_60 rfl (lv_at hl 1 rfl) ?_
        refine lv_iconst (v := nI 0) hx hb dd_M_issue_61 (by decide) ?_
        refine mr_put C0 hM hS fk_M_232 fp_M_232 mu_s rfl (rfl) (rfl) (Nat.le_of_ble_eq_true rfl) dd_M_issue_62 (fun H locs hM hS => ?_)
        have hM := mr_M mu_mu hM
        have hM : mm_ G (mu_ (mu_ (mu_ (mu_ (mu_ (mu_ (mu_ (mu_ (mu_ (mu_ M (am 2) (ia_ G 64 w1)) (am 3) (la_ G 10 f)) (am 4) (ia_ G 10 g0)) (am 5) (ia_ G 17 cf)) (am 6) (la_ G 170 sf)) (am 7) (ia_ G 170 qf)) (am 8) (la_ G 17 uf)) (am 9) (la_ G 17 lf)) (am 10) (ia_ G 32 xw)) (am 0) (ob_ 6 [.ref (am 1), .ref (am 2), .int (nI hs), .long (hi_ N), .long (lo_ N), .long (hi_ Vt), .long (lo_ Vt), .int (nI Pd.length), .ref (am 3), .ref (am 4), .int (nI nw), .ref (am 5), .ref (am 6), .ref (am 7), .ref (am 8), .ref (am 9), .long (hi_ (3 ^ pe_ (Ls nw) q0 (Ls nw).length % N)), .long (lo_ (3 ^ pe_ (Ls nw) q0 (Ls nw).length % N)), .int (nI 0), .long (hi_ (3 ^ pe_ (Ls nw) q0 (Ls nw).length % N)), .long (lo_ (3 ^ pe_ (Ls nw) q0 (Ls nw).length % N)), .ref (am 10)])) H := hM
        refine lv_aload_n hx hb dd_M_issue_65 rfl (lv_at hl 1 rfl) ?_
        refine mr_get C0 hM fk_M_87 mu_s (v := .ref (am 5)) rfl dd_M_issue_66 ?_
        refine lv_aload_n hx hb dd_M_issue_69 rfl (lv_at hl 1 rfl) ?_
        refine mr_get C0 hM fk_M_209 mu_s (v := .int (nI nw)) rfl dd_M_issue_70 ?_
        refine mr_iald C0 hM (mu_n' (hne (i := 5) (j := 0) (by decide)) (mu_n' (hne (i := 5) (j := 10) (by decide)) (mu_n' (hne (i := 5) (j := 9) (by decide)) (mu_n' (hne (i := 5) (j := 8) (by decide)) (mu_n' (hne (i := 5) (j := 7) (by decide)) (mu_n' (hne (i := 5) (j := 6) (by decide)) mu_s)))))) (nw) (rfl) (by omega) (by decide) dd_M_issue_73 ?_
        refine mr_vi (x' := nI (Ls nw).length) (hcn) ?_
        refine lv_iconst (v := nI 1) hx hb dd_M_issue_74 (by decide) ?_
        refine lv_isub hx hb dd_M_issue_75 ?_
        refine mr_vi (x' := nI ((Ls nw).length - 1)) (pk_sub (by omega)) ?_
        rw [pe_wt (hLd nw) hq0 hsq] at hM
        exact mr_ret hQ (mr_iret C0 hM hS (rfl) (⟨by unfold isR_; rw [if_neg (show ¬ hs = 0 by omega), if_neg h16, if_pos hv33], _, _, _, _, _, _, _, _, _, _, _, hrl, by unfold isH_ isF_; rw [if_neg (show ¬ hs = 0 by omega), if_neg h16, if_pos hv33, if_neg (show ¬ hs = 0 by omega), if_neg h16, if_pos hv33]⟩) dd_M_issue_76)
      · skip
        have hv33 : hs_ (Ls nw) sx = false := (mz_neg (hLn nw) hnw17).mp (Int32.not_le.mp h33)
        refine lv_bipush (v := (-4 : Int32)) hx hb dd_M_issue_36 (by decide) ?_
        exact mr_ret hQ (mr_iret C0 hM hS (rfl) (⟨by unfold isR_; rw [if_neg (show ¬ hs = 0 by omega), if_neg h16, if_neg (show ¬ hs_ (Ls nw) sx = true by rw [hv33]; decide)], _, _, _, _, _, _, _, _, _, _, _, hrl, by unfold isH_ isF_; rw [if_neg (show ¬ hs = 0 by omega), if_neg h16, if_neg (show ¬ hs_ (Ls nw) sx = true by rw [hv33]; decide), if_neg (show ¬ hs = 0 by omega), if_neg h16, if_neg (show ¬ hs_ (Ls nw) sx = true by rw [hv33]; decide)]⟩) dd_M_issue_38)
    · skip
      refine lv_bipush (v := (-2 : Int32)) hx hb dd_M_issue_19 (by decide) ?_
      exact mr_ret hQ (mr_iret C0 hM hS (rfl) (⟨by unfold isR_; rw [if_neg (show ¬ hs = 0 by omega), if_pos h16], _, _, _, _, _, _, _, _, _, _, _, hrl, by unfold isH_ isF_; rw [if_neg (show ¬ hs = 0 by omega), if_pos h16, if_neg (show ¬ hs = 0 by omega), if_pos h16]⟩) dd_M_issue_21)
  · skip
    have hh0 : hs = 0 := (nI_eq (by omega) (by decide)).mp h4
    refine lv_iconst (v := (-1 : Int32)) hx hb dd_M_issue_7 (by decide) ?_
    exact mr_ret hQ (mr_iret C0 hM hS (rfl) (⟨by unfold isR_; rw [if_pos hh0], _, _, _, _, _, _, _, _, _, _, _, hrl, by unfold isH_ isF_; rw [if_pos hh0, if_pos hh0]⟩) dd_M_issue_8)

set_option maxHeartbeats 4000000 in
set_option maxRecDepth 100000 in
theorem c_M_check (l : Launch) {G : mg_} {M : mw_} {am : Nat → Nat} {hs N Vt nw Hd fc : Nat} {Pd : rl_} {Ls : Nat → rl_} {w g0 cf qf xw : Nat → Int32} {f sf uf lf : Nat → Int64} {r1 r0 : Int64} {sx : Int64} {ev : Int32}   (hne : ∀ {i j : Nat}, i ≠ j → am i ≠ am j) (hk : M (am 1) = some (la_ G 32 mk_)) (hrl : mrl_ hs N Pd Ls nw f g0 cf sf qf uf lf) (hok : okS_ Pd Ls nw) (hhs : hs ≤ 1) (hN : hs = 1 → N < 340282366920938463463374607431768211456 ∧ 1267650600228229401496703205376 ≤ N) (hHd : hs = 1 → Hd < N) (hfc : fc < 2147483648)  : ct_ l my_M_check cd_M_check 5 (some .int) { frames := 6, cells := 0, slots := 0, locals := 165 } G [.ref (am 0), .long sx, .int ev] (mu_ (mu_ (mu_ (mu_ (mu_ (mu_ (mu_ (mu_ (mu_ (mu_ M (am 2) (ia_ G 64 w)) (am 3) (la_ G 10 f)) (am 4) (ia_ G 10 g0)) (am 5) (ia_ G 17 cf)) (am 6) (la_ G 170 sf)) (am 7) (ia_ G 170 qf)) (am 8) (la_ G 17 uf)) (am 9) (la_ G 17 lf)) (am 10) (ia_ G 32 xw)) (am 0) (ob_ 6 [.ref (am 1), .ref (am 2), .int (nI hs), .long (hi_ N), .long (lo_ N), .long (hi_ Vt), .long (lo_ Vt), .int (nI Pd.length), .ref (am 3), .ref (am 4), .int (nI nw), .ref (am 5), .ref (am 6), .ref (am 7), .ref (am 8), .ref (am 9), .long (hi_ Hd), .long (lo_ Hd), .int (nI fc), .long r1, .long r0, .ref (am 10)])) (fun v0 M' => v0 = (some (.int (ckR_ hs N (primeT_ sx) Ls nw Hd ev))) ∧ MWx_ M am G hs N Vt Pd Ls nw Hd fc M') 0 0 := by
  refine ct_.intro2 (by decide) (Nat.le_of_ble_eq_true rfl) ?_
  intro p e s m args below meth c ls R Q hR hQ C0 hl hM hS
  have hx := C0.1
  have hb := C0.2.1
  have hl : lv_has ls 5 [(0, .ref (am 0)), (1, .long sx), (3, .int ev)] := hl
  obtain ⟨hro, hme, hul⟩ := hrl
  have hrl : mrl_ hs N Pd Ls nw f g0 cf sf qf uf lf := ⟨hro, hme, hul⟩
  obtain ⟨hPn, hLn, hnw, hPp, hLp, hPd, hLd⟩ := hok
  have hnw17 : nw < 17 := by omega
  have hcn := (hme nw hnw17).1
  refine lv_aload_n hx hb dd_M_check_0 rfl (lv_at hl 0 rfl) ?_
  refine mr_get C0 hM fk_M_181 mu_s (v := .int (nI hs)) rfl dd_M_check_1 ?_
  refine lv_if_ne (tgt := 9) hx hb dd_M_check_4 rfl (fun h4 => ?_) (fun h4 => ?_)
  · skip
    have hh1 : hs = 1 := by
      have h2 : hs ≠ 0 := fun q => h4 (by rw [q]; rfl)
      omega
    refine lv_aload_n hx hb dd_M_check_9 rfl (lv_at hl 0 rfl) ?_
    refine lv_lload_n hx hb dd_M_check_10 rfl (lv_at hl 1 rfl) ?_
    refine mr_callV (As := [.long sx]) (rest := []) C0 hM hS vk_M_202 mu_s rfl (c_M_prime l mu_s (mu_n' (hne (i := 1) (j := 0) (by decide)) (mu_n' (hne (i := 1) (j := 10) (by decide)) (mu_n' (hne (i := 1) (j := 9) (by decide)) (mu_n' (hne (i := 1) (j := 8) (by decide)) (mu_n' (hne (i := 1) (j := 7) (by decide)) (mu_n' (hne (i := 1) (j := 6) (by decide)) (mu_n' (hne (i := 1) (j := 5) (by decide)) (mu_n' (hne (i := 1) (j := 4) (by decide)) (mu_n' (hne (i := 1) (j := 3) (by decide)) (mu_n' (hne (i := 1) (j := 2) (by decide)) hk)))))))))) (mu_n' (hne (i := 2) (j := 0) (by decide)) (mu_n' (hne (i := 2) (j := 10) (by decide)) (mu_n' (hne (i := 2) (j := 9) (by decide)) (mu_n' (hne (i := 2) (j := 8) (by decide)) (mu_n' (hne (i := 2) (j := 7) (by decide)) (mu_n' (hne (i := 2) (j := 6) (by decide)) (mu_n' (hne (i := 2) (j := 5) (by decide)) (mu_n' (hne (i := 2) (j := 4) (by decide)) (mu_n' (hne (i := 2) (j := 3) (by decide)) mu_s)))))))))  ) rfl rfl hl.1 (Nat.le_of_ble_eq_true rfl) rfl rfl (by subst hR; exact ⟨Nat.le_of_ble_eq_true rfl, Nat.le_of_ble_eq_true rfl⟩) (by subst hR; exact ⟨Nat.le_of_ble_eq_true rfl, Nat.le_of_ble_eq_true rfl⟩) dd_M_check_11 (fun v1 M1 H locs hp hM hS => ?_)
    obtain ⟨ev1, w1, eM1⟩ := hp
    subst ev1
    rw [eM1] at hM
    have hM := mr_M (mu_c10 (hne (i := 2) (j := 3) (by decide)) (hne (i := 2) (j := 4) (by decide)) (hne (i := 2) (j := 5) (by decide)) (hne (i := 2) (j := 6) (by decide)) (hne (i := 2) (j := 7) (by decide)) (hne (i := 2) (j := 8) (by decide)) (hne (i := 2) (j := 9) (by decide)) (hne (i := 2) (j := 10) (by decide)) (hne (i := 2) (j := 0) (by decide))) hM
    have hM : mm_ G (mu_ (mu_ (mu_ (mu_ (mu_ (mu_ (mu_ (mu_ (mu_ (mu_ M (am 2) (ia_ G 64 w1)) (am 3) (la_ G 10 f)) (am 4) (ia_ G 10 g0)) (am 5) (ia_ G 17 cf)) (am 6) (la_ G 170 sf)) (am 7) (ia_ G 170 qf)) (am 8) (la_ G 17 uf)) (am 9) (la_ G 17 lf)) (am 10) (ia_ G 32 xw)) (am 0) (ob_ 6 [.ref (am 1), .ref (am 2), .int (nI hs), .long (hi_ N), .long (lo_ N), .long (hi_ Vt), .long (lo_ Vt), .int (nI Pd.length), .ref (am 3), .ref (am 4), .int (nI nw), .ref (am 5), .ref (am 6), .ref (am 7), .ref (am 8), .ref (am 9), .long (hi_ Hd), .long (lo_ Hd), .int (nI fc), .long r1, .long r0, .ref (am 10)])) H := hM
    refine W.eq (g2 := F0 m 14 ls [.int (primeT_ sx)]) rfl ?_
    refine lv_istore (lv' := [(4, .int (primeT_ sx)), (0, .ref (am 0)), (1, .long sx), (3, .int ev)]) hx hb dd_M_check_14 hl (by decide) rfl (fun ls hl => ?_)
    refine lv_iload hx hb dd_M_check_16 (lv_at hl 0 rfl) ?_
    refine lv_bipush (v := (-2 : Int32)) hx hb dd_M_check_18 (by decide) ?_
    refine lv_icmp_eq (tgt := 31) hx hb dd_M_check_20 rfl (fun h20 => ?_) (fun h20 => ?_)
    · skip
      refine lv_bipush (v := (-2 : Int32)) hx hb dd_M_check_31 (by decide) ?_
      exact mr_ret hQ (mr_iret C0 hM hS (rfl) (⟨by first | rw [ckR_b hh1 (Or.inl h20)] | rw [ckR_b hh1 (Or.inr hep)], _, _, _, _, _, _, _, _, _, _, _, hrl, rfl⟩) dd_M_check_33)
    · skip
      obtain ⟨x0, hxl, hxu, hxo, htd, hpx0⟩ := primeT_in h20
      refine lv_aload_n hx hb dd_M_check_23 rfl (lv_at hl 1 rfl) ?_
      refine lv_iload_n hx hb dd_M_check_24 rfl (lv_at hl 3 rfl) ?_
      refine mr_callV (As := [.int ev]) (rest := []) C0 hM hS vk_M_220 mu_s rfl (c_M_isEpoch l mu_s  hnw) rfl rfl hl.1 (Nat.le_of_ble_eq_true rfl) rfl rfl (by subst hR; exact ⟨Nat.le_of_ble_eq_true rfl, Nat.le_of_ble_eq_true rfl⟩) (by subst hR; exact ⟨Nat.le_of_ble_eq_true rfl, Nat.le_of_ble_eq_true rfl⟩) dd_M_check_25 (fun v1 M1 H locs hp hM hS => ?_)
      obtain ⟨ev1, eM1⟩ := hp
      subst ev1
      rw [eM1] at hM
      refine W.eq (g2 := F0 m 28 ls [.int (ie_ ev nw)]) rfl ?_
      refine lv_if_ne (tgt := 34) hx hb dd_M_check_28 rfl (fun h28 => ?_) (fun h28 => ?_)
      · skip
        have hep : ep_ ev nw := Classical.byContradiction (fun q => h28 (ie_n q))
        obtain ⟨k0, hk0, hev⟩ := hep
        have hk17 : k0 < 17 := by omega
        refine lv_aload_n hx hb dd_M_check_34 rfl (lv_at hl 1 rfl) ?_
        refine lv_iload hx hb dd_M_check_35 (lv_at hl 0 rfl) ?_
        refine mr_vi (x' := nI x0) (hpx0) ?_
        refine lv_iload_n hx hb dd_M_check_37 rfl (lv_at hl 3 rfl) ?_
        refine mr_vi (x' := nI k0) (hev) ?_
        refine mr_callV (As := [.int (nI x0), .int (nI k0)]) (rest := []) C0 hM hS vk_M_235 mu_s rfl (c_M_isWitness l mu_s (mu_n' (hne (i := 8) (j := 0) (by decide)) (mu_n' (hne (i := 8) (j := 10) (by decide)) (mu_n' (hne (i := 8) (j := 9) (by decide)) mu_s))) (mu_n' (hne (i := 9) (j := 0) (by decide)) (mu_n' (hne (i := 9) (j := 10) (by decide)) mu_s))  (hN hh1).1 (hHd hh1) (by have h := (hN hh1).2; omega) hxu hk17 (Nat.mod_lt _ (by have h := (hN hh1).2; omega)) (hul hh1 k0 hk0).1 (hul hh1 k0 hk0).2) rfl rfl hl.1 (Nat.le_of_ble_eq_true rfl) rfl rfl (by subst hR; exact ⟨Nat.le_of_ble_eq_true rfl, Nat.le_of_ble_eq_true rfl⟩) (by subst hR; exact ⟨Nat.le_of_ble_eq_true rfl, Nat.le_of_ble_eq_true rfl⟩) dd_M_check_38 (fun v1 M1 H locs hp hM hS => ?_)
        obtain ⟨ev1, eM1⟩ := hp
        subst ev1
        rw [eM1] at hM
        have hM := mr_M mu_mu hM
        have hM : mm_ G (mu_ (mu_ (mu_ (mu_ (mu_ (mu_ (mu_ (mu_ (mu_ (mu_ M (am 2) (ia_ G 64 w1)) (am 3) (la_ G 10 f)) (am 4) (ia_ G 10 g0)) (am 5) (ia_ G 17 cf)) (am 6) (la_ G 170 sf)) (am 7) (ia_ G 170 qf)) (am 8) (la_ G 17 uf)) (am 9) (la_ G 17 lf)) (am 10) (ia_ G 32 xw)) (am 0) (ob_ 6 [.ref (am 1), .ref (am 2), .int (nI hs), .long (hi_ N), .long (lo_ N), .long (hi_ Vt), .long (lo_ Vt), .int (nI Pd.length), .ref (am 3), .ref (am 4), .int (nI nw), .ref (am 5), .ref (am 6), .ref (am 7), .ref (am 8), .ref (am 9), .long (hi_ Hd), .long (lo_ Hd), .int (nI fc), .long (hi_ (Hd ^ x0 % N)), .long (lo_ (Hd ^ x0 % N)), .ref (am 10)])) H := hM
        refine W.eq (g2 := F0 m 41 ls [.int (nI (if Hd ^ x0 % N = ac_ N (Ls k0) then 1 else 0))]) rfl ?_
        refine lv_if_eq (tgt := 48) hx hb dd_M_check_41 rfl (fun h41 => ?_) (fun h41 => ?_)
        · skip
          have hw41 : ¬ Hd ^ x0 % N = ac_ N (Ls k0) := fun q => absurd h41 (by rw [if_pos q]; decide)
          refine lv_iconst (v := nI 0) hx hb dd_M_check_48 (by decide) ?_
          exact mr_ret hQ (mr_iret C0 hM hS (rfl) (⟨by rw [ckR_g hh1 h20 hpx0 hxu hk0 hnw hev]; rw [if_neg hw41], _, _, _, _, _, _, _, _, _, _, _, hrl, rfl⟩) dd_M_check_49)
        · skip
          have hw41 : Hd ^ x0 % N = ac_ N (Ls k0) := Classical.byContradiction (fun q => h41 (by rw [if_neg q]; rfl))
          refine lv_iconst (v := nI 1) hx hb dd_M_check_44 (by decide) ?_
          refine lv_goto (tgt := 49) hx hb dd_M_check_45 rfl ?_
          exact mr_ret hQ (mr_iret C0 hM hS (rfl) (⟨by rw [ckR_g hh1 h20 hpx0 hxu hk0 hnw hev]; rw [if_pos hw41], _, _, _, _, _, _, _, _, _, _, _, hrl, rfl⟩) dd_M_check_49)
      · skip
        have hep : ¬ ep_ ev nw := fun q => absurd ((ie_y q).symm.trans h28) (by decide)
        refine lv_bipush (v := (-2 : Int32)) hx hb dd_M_check_31 (by decide) ?_
        exact mr_ret hQ (mr_iret C0 hM hS (rfl) (⟨by first | rw [ckR_b hh1 (Or.inl h20)] | rw [ckR_b hh1 (Or.inr hep)], _, _, _, _, _, _, _, _, _, _, _, hrl, rfl⟩) dd_M_check_33)
  · skip
    have hh0 : hs = 0 := (nI_eq (by omega) (by decide)).mp h4
    refine lv_iconst (v := (-1 : Int32)) hx hb dd_M_check_7 (by decide) ?_
    exact mr_ret hQ (mr_iret C0 hM hS (rfl) (⟨by simp [ckR_, hh0], _, _, _, _, _, _, _, _, _, _, _, hrl, rfl⟩) dd_M_check_8)
