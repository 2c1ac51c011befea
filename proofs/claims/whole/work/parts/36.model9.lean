
def mvs_ (N : Nat) (Ls : Nat → rl_) (p k Hd : Nat) : Nat → Nat
  | 0 => Hd
  | j + 1 => mv_ N Ls p (k + j + 1) (mvs_ N Ls p k Hd j)
theorem mvs_lt {N : Nat} (hN : 0 < N) {Ls : Nat → rl_} {p k Hd : Nat} (h : Hd < N) : ∀ j, mvs_ N Ls p k Hd j < N
  | 0 => h
  | _ + 1 => Nat.mod_lt _ hN
def prs_ (Ls : Nat → rl_) (s : Int64) (k nw : Nat) : Prop := ∀ i, k ≤ i → i ≤ nw → hs_ (Ls i) s = true
noncomputable def avR_ (hs N : Nat) (p : Int32) (Ls : Nat → rl_) (nw Hd : Nat) (s : Int64) (e : Int32) : Int32 := if hs = 0 then (-1) else @ite _ (p = (-2) ∨ ¬ ep_ e nw) (Classical.propDecidable _) (-2) (@ite _ (prs_ Ls s (pn_ e) nw) (Classical.propDecidable _) (if Hd ^ pn_ p % N = ac_ N (Ls (pn_ e)) then nI (nw - pn_ e) else (-7)) (-4))
noncomputable def avH_ (hs N : Nat) (p : Int32) (Ls : Nat → rl_) (nw Hd : Nat) (s : Int64) (e : Int32) : Nat := if hs = 0 then Hd else @ite _ (p = (-2) ∨ ¬ ep_ e nw) (Classical.propDecidable _) Hd (@ite _ (prs_ Ls s (pn_ e) nw) (Classical.propDecidable _) (if Hd ^ pn_ p % N = ac_ N (Ls (pn_ e)) then mvs_ N Ls (pn_ p) (pn_ e) Hd (nw - pn_ e) else Hd) Hd)
theorem av_b {hs N : Nat} {p : Int32} {Ls : Nat → rl_} {nw Hd : Nat} {s : Int64} {e : Int32} (h1 : hs = 1) (h : p = (-2) ∨ ¬ ep_ e nw) : avR_ hs N p Ls nw Hd s e = (-2) ∧ avH_ hs N p Ls nw Hd s e = Hd := by
  unfold avR_ avH_
  rw [if_neg (by omega), if_pos h, if_neg (by omega), if_pos h]
  exact ⟨rfl, rfl⟩
theorem av_g {hs N : Nat} {p : Int32} {Ls : Nat → rl_} {nw Hd x k : Nat} {s : Int64} {e : Int32} (h1 : hs = 1) (hp : ¬ p = (-2)) (hx : p = nI x) (hxl : x < 2147483648) (hk : k ≤ nw) (hn : nw ≤ 16) (he : e = nI k) : avR_ hs N p Ls nw Hd s e = @ite _ (prs_ Ls s k nw) (Classical.propDecidable _) (if Hd ^ x % N = ac_ N (Ls k) then nI (nw - k) else (-7)) (-4) ∧ avH_ hs N p Ls nw Hd s e = @ite _ (prs_ Ls s k nw) (Classical.propDecidable _) (if Hd ^ x % N = ac_ N (Ls k) then mvs_ N Ls x k Hd (nw - k) else Hd) Hd := by
  constructor
  · unfold avR_
    rw [if_neg (by omega), if_neg (fun q => q.elim hp (fun z => z ⟨k, hk, he⟩)), hx, he, pn_i hxl, pn_i (by omega)]
  · unfold avH_
    rw [if_neg (by omega), if_neg (fun q => q.elim hp (fun z => z ⟨k, hk, he⟩)), hx, he, pn_i hxl, pn_i (by omega)]

set_option maxHeartbeats 4000000 in
set_option maxRecDepth 100000 in
theorem c_M_advance (l : Launch) {G : mg_} {M : mw_} {am : Nat → Nat} {hs N Vt nw Hd fc : Nat} {Pd : rl_} {Ls : Nat → rl_} {w g0 cf qf xw : Nat → Int32} {f sf uf lf : Nat → Int64} {r1 r0 : Int64} {sx : Int64} {ev : Int32}   (hne : ∀ {i j : Nat}, i ≠ j → am i ≠ am j) (hk : M (am 1) = some (la_ G 32 mk_)) (hrl : mrl_ hs N Pd Ls nw f g0 cf sf qf uf lf) (hok : okS_ Pd Ls nw) (hhs : hs ≤ 1) (hN : hs = 1 → N < 340282366920938463463374607431768211456 ∧ 1267650600228229401496703205376 ≤ N) (hVt : hs = 1 → Vt = th_ N ∧ th_ N < N) (hHd : hs = 1 → Hd < N) (hfc : fc < 2147483648)  : ct_ l my_M_advance cd_M_advance 6 (some .int) { frames := 6, cells := 0, slots := 0, locals := 167 } G [.ref (am 0), .long sx, .int ev] (mu_ (mu_ (mu_ (mu_ (mu_ (mu_ (mu_ (mu_ (mu_ (mu_ M (am 2) (ia_ G 64 w)) (am 3) (la_ G 10 f)) (am 4) (ia_ G 10 g0)) (am 5) (ia_ G 17 cf)) (am 6) (la_ G 170 sf)) (am 7) (ia_ G 170 qf)) (am 8) (la_ G 17 uf)) (am 9) (la_ G 17 lf)) (am 10) (ia_ G 32 xw)) (am 0) (ob_ 6 [.ref (am 1), .ref (am 2), .int (nI hs), .long (hi_ N), .long (lo_ N), .long (hi_ Vt), .long (lo_ Vt), .int (nI Pd.length), .ref (am 3), .ref (am 4), .int (nI nw), .ref (am 5), .ref (am 6), .ref (am 7), .ref (am 8), .ref (am 9), .long (hi_ Hd), .long (lo_ Hd), .int (nI fc), .long r1, .long r0, .ref (am 10)])) (fun v0 M' => v0 = (some (.int (avR_ hs N (primeT_ sx) Ls nw Hd sx ev))) ∧ MWx_ M am G hs N Vt Pd Ls nw (avH_ hs N (primeT_ sx) Ls nw Hd sx ev) fc M') 0 0 := by
  refine ct_.intro2 (by decide) (Nat.le_of_ble_eq_true rfl) ?_
  intro p e s m args below meth c ls R Q hR hQ C0 hl hM hS
  have hx := C0.1
  have hb := C0.2.1
  have hl : lv_has ls 6 [(0, .ref (am 0)), (1, .long sx), (3, .int ev)] := hl
  have hokk := hok
  obtain ⟨hro, hme, hul⟩ := hrl
  have hrl : mrl_ hs N Pd Ls nw f g0 cf sf qf uf lf := ⟨hro, hme, hul⟩
  obtain ⟨hPn, hLn, hnw, hPp, hLp, hPd, hLd⟩ := hok
  have hnw17 : nw < 17 := by omega
  have hcn := (hme nw hnw17).1
  refine lv_aload_n hx hb dd_M_advance_0 rfl (lv_at hl 0 rfl) ?_
  refine mr_get C0 hM fk_M_181 mu_s (v := .int (nI hs)) rfl dd_M_advance_1 ?_
  refine lv_if_ne (tgt := 9) hx hb dd_M_advance_4 rfl (fun h4 => ?_) (fun h4 => ?_)
  · skip
    have hh1 : hs = 1 := by
      have h2 : hs ≠ 0 := fun q => h4 (by rw [q]; rfl)
      omega
    refine lv_aload_n hx hb dd_M_advance_9 rfl (lv_at hl 0 rfl) ?_
    refine lv_lload_n hx hb dd_M_advance_10 rfl (lv_at hl 1 rfl) ?_
    refine mr_callV (As := [.long sx]) (rest := []) C0 hM hS vk_M_202 mu_s rfl (c_M_prime l mu_s (mu_n' (hne (i := 1) (j := 0) (by decide)) (mu_n' (hne (i := 1) (j := 10) (by decide)) (mu_n' (hne (i := 1) (j := 9) (by decide)) (mu_n' (hne (i := 1) (j := 8) (by decide)) (mu_n' (hne (i := 1) (j := 7) (by decide)) (mu_n' (hne (i := 1) (j := 6) (by decide)) (mu_n' (hne (i := 1) (j := 5) (by decide)) (mu_n' (hne (i := 1) (j := 4) (by decide)) (mu_n' (hne (i := 1) (j := 3) (by decide)) (mu_n' (hne (i := 1) (j := 2) (by decide)) hk)))))))))) (mu_n' (hne (i := 2) (j := 0) (by decide)) (mu_n' (hne (i := 2) (j := 10) (by decide)) (mu_n' (hne (i := 2) (j := 9) (by decide)) (mu_n' (hne (i := 2) (j := 8) (by decide)) (mu_n' (hne (i := 2) (j := 7) (by decide)) (mu_n' (hne (i := 2) (j := 6) (by decide)) (mu_n' (hne (i := 2) (j := 5) (by decide)) (mu_n' (hne (i := 2) (j := 4) (by decide)) (mu_n' (hne (i := 2) (j := 3) (by decide)) mu_s)))))))))  ) rfl rfl hl.1 (Nat.le_of_ble_eq_true rfl) rfl rfl (by subst hR; exact ⟨Nat.le_of_ble_eq_true rfl, Nat.le_of_ble_eq_true rfl⟩) (by subst hR; exact ⟨Nat.le_of_ble_eq_true rfl, Nat.le_of_ble_eq_true rfl⟩) dd_M_advance_11 (fun v1 M1 H locs hp hM hS => ?_)
    obtain ⟨ev1, w1, eM1⟩ := hp
    subst ev1
    rw [eM1] at hM
    have hM := mr_M (mu_c10 (hne (i := 2) (j := 3) (by decide)) (hne (i := 2) (j := 4) (by decide)) (hne (i := 2) (j := 5) (by decide)) (hne (i := 2) (j := 6) (by decide)) (hne (i := 2) (j := 7) (by decide)) (hne (i := 2) (j := 8) (by decide)) (hne (i := 2) (j := 9) (by decide)) (hne (i := 2) (j := 10) (by decide)) (hne (i := 2) (j := 0) (by decide))) hM
    have hM : mm_ G (mu_ (mu_ (mu_ (mu_ (mu_ (mu_ (mu_ (mu_ (mu_ (mu_ M (am 2) (ia_ G 64 w1)) (am 3) (la_ G 10 f)) (am 4) (ia_ G 10 g0)) (am 5) (ia_ G 17 cf)) (am 6) (la_ G 170 sf)) (am 7) (ia_ G 170 qf)) (am 8) (la_ G 17 uf)) (am 9) (la_ G 17 lf)) (am 10) (ia_ G 32 xw)) (am 0) (ob_ 6 [.ref (am 1), .ref (am 2), .int (nI hs), .long (hi_ N), .long (lo_ N), .long (hi_ Vt), .long (lo_ Vt), .int (nI Pd.length), .ref (am 3), .ref (am 4), .int (nI nw), .ref (am 5), .ref (am 6), .ref (am 7), .ref (am 8), .ref (am 9), .long (hi_ Hd), .long (lo_ Hd), .int (nI fc), .long r1, .long r0, .ref (am 10)])) H := hM
    refine W.eq (g2 := F0 m 14 ls [.int (primeT_ sx)]) rfl ?_
    refine lv_istore (lv' := [(4, .int (primeT_ sx)), (0, .ref (am 0)), (1, .long sx), (3, .int ev)]) hx hb dd_M_advance_14 hl (by decide) rfl (fun ls hl => ?_)
    refine lv_iload hx hb dd_M_advance_16 (lv_at hl 0 rfl) ?_
    refine lv_bipush (v := (-2 : Int32)) hx hb dd_M_advance_18 (by decide) ?_
    refine lv_icmp_eq (tgt := 31) hx hb dd_M_advance_20 rfl (fun h20 => ?_) (fun h20 => ?_)
    · skip
      refine lv_bipush (v := (-2 : Int32)) hx hb dd_M_advance_31 (by decide) ?_
      exact mr_ret hQ (mr_iret C0 hM hS (rfl) (⟨by first | rw [(av_b hh1 (Or.inl h20)).1] | rw [(av_b hh1 (Or.inr hep)).1], _, _, _, _, _, _, _, _, _, _, _, hrl, by first | rw [(av_b hh1 (Or.inl h20)).2] | rw [(av_b hh1 (Or.inr hep)).2]⟩) dd_M_advance_33)
    · skip
      obtain ⟨x0, hxl, hxu, hxo, htd, hpx0⟩ := primeT_in h20
      refine lv_aload_n hx hb dd_M_advance_23 rfl (lv_at hl 1 rfl) ?_
      refine lv_iload_n hx hb dd_M_advance_24 rfl (lv_at hl 3 rfl) ?_
      refine mr_callV (As := [.int ev]) (rest := []) C0 hM hS vk_M_220 mu_s rfl (c_M_isEpoch l mu_s  hnw) rfl rfl hl.1 (Nat.le_of_ble_eq_true rfl) rfl rfl (by subst hR; exact ⟨Nat.le_of_ble_eq_true rfl, Nat.le_of_ble_eq_true rfl⟩) (by subst hR; exact ⟨Nat.le_of_ble_eq_true rfl, Nat.le_of_ble_eq_true rfl⟩) dd_M_advance_25 (fun v1 M1 H locs hp hM hS => ?_)
      obtain ⟨ev1, eM1⟩ := hp
      subst ev1
      rw [eM1] at hM
      refine W.eq (g2 := F0 m 28 ls [.int (ie_ ev nw)]) rfl ?_
      refine lv_if_ne (tgt := 34) hx hb dd_M_advance_28 rfl (fun h28 => ?_) (fun h28 => ?_)
      · skip
        have hep : ep_ ev nw := Classical.byContradiction (fun q => h28 (ie_n q))
        obtain ⟨k0, hk0, hev⟩ := hep
        have hk17 : k0 < 17 := by omega
        refine lv_iload_n hx hb dd_M_advance_34 rfl (lv_at hl 3 rfl) ?_
        refine mr_vi (x' := nI k0) (hev) ?_
        refine lv_istore (lv' := [(5, .int (nI k0)), (4, .int (primeT_ sx)), (0, .ref (am 0)), (1, .long sx), (3, .int ev)]) hx hb dd_M_advance_35 hl (by decide) rfl (fun ls hl => ?_)
        have loop_37 : ∀ (k : Nat) (i : Nat) (H : Heap) (locs : List Loc) (ls : Array Slot), i + k = nw + 1 → k0 ≤ i → (∀ j, k0 ≤ j → j < i → hs_ (Ls j) sx = true) → mm_ G (mu_ (mu_ (mu_ (mu_ (mu_ (mu_ (mu_ (mu_ (mu_ (mu_ M (am 2) (ia_ G 64 w1)) (am 3) (la_ G 10 f)) (am 4) (ia_ G 10 g0)) (am 5) (ia_ G 17 cf)) (am 6) (la_ G 170 sf)) (am 7) (ia_ G 170 qf)) (am 8) (la_ G 17 uf)) (am 9) (la_ G 17 lf)) (am 10) (ia_ G 32 xw)) (am 0) (ob_ 6 [.ref (am 1), .ref (am 2), .int (nI hs), .long (hi_ N), .long (lo_ N), .long (hi_ Vt), .long (lo_ Vt), .int (nI Pd.length), .ref (am 3), .ref (am 4), .int (nI nw), .ref (am 5), .ref (am 6), .ref (am 7), .ref (am 8), .ref (am 9), .long (hi_ Hd), .long (lo_ Hd), .int (nI fc), .long r1, .long r0, .ref (am 10)])) H → va_S (fz_ G) s.heap H locs → lv_has ls 6 [(0, .ref (am 0)), (1, .long sx), (3, .int ev), (4, .int (primeT_ sx)), (5, .int (nI i))] → W p l e R s m args below meth c H locs 0 0 Q (F0 m 37 ls []) := by
          intro k
          induction k with
          | zero =>
            intro i H locs ls hi hki hall hM hS hl
            refine lv_iload hx hb dd_M_advance_37 (lv_at hl 4 rfl) ?_
            refine lv_aload_n hx hb dd_M_advance_39 rfl (lv_at hl 0 rfl) ?_
            refine mr_get C0 hM fk_M_209 mu_s (v := .int (nI nw)) rfl dd_M_advance_40 ?_
            refine lv_icmp_gt (tgt := 65) hx hb dd_M_advance_43 rfl (fun _ => ?_) (fun hc => absurd (lt_nI (a := nw) (b := i) (by omega) (by omega) (by omega)) hc)
            have hpr : prs_ Ls sx k0 nw := fun j h1 h2 => hall j h1 (by omega)
            have hN0 : 0 < N := by have h := (hN hh1).2; omega
            refine lv_aload_n hx hb dd_M_advance_65 rfl (lv_at hl 0 rfl) ?_
            refine lv_iload hx hb dd_M_advance_66 (lv_at hl 3 rfl) ?_
            refine mr_vi (x' := nI x0) (hpx0) ?_
            refine lv_iload_n hx hb dd_M_advance_68 rfl (lv_at hl 2 rfl) ?_
            refine mr_vi (x' := nI k0) (hev) ?_
            refine mr_callV (As := [.int (nI x0), .int (nI k0)]) (rest := []) C0 hM hS vk_M_235 mu_s rfl (c_M_isWitness l mu_s (mu_n' (hne (i := 8) (j := 0) (by decide)) (mu_n' (hne (i := 8) (j := 10) (by decide)) (mu_n' (hne (i := 8) (j := 9) (by decide)) mu_s))) (mu_n' (hne (i := 9) (j := 0) (by decide)) (mu_n' (hne (i := 9) (j := 10) (by decide)) mu_s))  (hN hh1).1 (hHd hh1) (by have h := (hN hh1).2; omega) hxu hk17 (Nat.mod_lt _ (by have h := (hN hh1).2; omega)) (hul hh1 k0 hk0).1 (hul hh1 k0 hk0).2) rfl rfl hl.1 (Nat.le_of_ble_eq_true rfl) rfl rfl (by subst hR; exact ⟨Nat.le_of_ble_eq_true rfl, Nat.le_of_ble_eq_true rfl⟩) (by subst hR; exact ⟨Nat.le_of_ble_eq_true rfl, Nat.le_of_ble_eq_true rfl⟩) dd_M_advance_69 (fun v1 M1 H locs hp hM hS => ?_)
            obtain ⟨ev1, eM1⟩ := hp
            subst ev1
            rw [eM1] at hM
            have hM := mr_M mu_mu hM
            have hM : mm_ G (mu_ (mu_ (mu_ (mu_ (mu_ (mu_ (mu_ (mu_ (mu_ (mu_ M (am 2) (ia_ G 64 w1)) (am 3) (la_ G 10 f)) (am 4) (ia_ G 10 g0)) (am 5) (ia_ G 17 cf)) (am 6) (la_ G 170 sf)) (am 7) (ia_ G 170 qf)) (am 8) (la_ G 17 uf)) (am 9) (la_ G 17 lf)) (am 10) (ia_ G 32 xw)) (am 0) (ob_ 6 [.ref (am 1), .ref (am 2), .int (nI hs), .long (hi_ N), .long (lo_ N), .long (hi_ Vt), .long (lo_ Vt), .int (nI Pd.length), .ref (am 3), .ref (am 4), .int (nI nw), .ref (am 5), .ref (am 6), .ref (am 7), .ref (am 8), .ref (am 9), .long (hi_ Hd), .long (lo_ Hd), .int (nI fc), .long (hi_ (Hd ^ x0 % N)), .long (lo_ (Hd ^ x0 % N)), .ref (am 10)])) H := hM
            refine W.eq (g2 := F0 m 72 ls [.int (nI (if Hd ^ x0 % N = ac_ N (Ls k0) then 1 else 0))]) rfl ?_
            refine lv_if_ne (tgt := 78) hx hb dd_M_advance_72 rfl (fun h72 => ?_) (fun h72 => ?_)
            · skip
              have hw72 : Hd ^ x0 % N = ac_ N (Ls k0) := Classical.byContradiction (fun q => h72 (by rw [if_neg q]; rfl))
              refine lv_iload_n hx hb dd_M_advance_78 rfl (lv_at hl 2 rfl) ?_
              refine mr_vi (x' := nI k0) (hev) ?_
              refine lv_iconst (v := nI 1) hx hb dd_M_advance_79 (by decide) ?_
              refine lv_iadd hx hb dd_M_advance_80 ?_
              refine mr_vi (nI_add k0 1) ?_
              refine lv_istore (lv' := [(5, .int (nI (k0 + 1))), (0, .ref (am 0)), (1, .long sx), (3, .int ev), (4, .int (primeT_ sx))]) hx hb dd_M_advance_81 hl (by decide) rfl (fun ls hl => ?_)
              have loop_83 : ∀ (q : Nat) (j : Nat) (wz : Nat → Int32) (gz : Nat → Int32) (cz : Nat → Int32) (qz : Nat → Int32) (xz : Nat → Int32) (fz : Nat → Int64) (sz : Nat → Int64) (uz : Nat → Int64) (lz : Nat → Int64) (y1 : Int64) (y0 : Int64) (H : Heap) (locs : List Loc) (ls : Array Slot), k0 + j + q = nw → mrl_ hs N Pd Ls nw fz gz cz sz qz uz lz → mm_ G (mu_ (mu_ (mu_ (mu_ (mu_ (mu_ (mu_ (mu_ (mu_ (mu_ M (am 2) (ia_ G 64 wz)) (am 3) (la_ G 10 fz)) (am 4) (ia_ G 10 gz)) (am 5) (ia_ G 17 cz)) (am 6) (la_ G 170 sz)) (am 7) (ia_ G 170 qz)) (am 8) (la_ G 17 uz)) (am 9) (la_ G 17 lz)) (am 10) (ia_ G 32 xz)) (am 0) (ob_ 6 [.ref (am 1), .ref (am 2), .int (nI hs), .long (hi_ N), .long (lo_ N), .long (hi_ Vt), .long (lo_ Vt), .int (nI Pd.length), .ref (am 3), .ref (am 4), .int (nI nw), .ref (am 5), .ref (am 6), .ref (am 7), .ref (am 8), .ref (am 9), .long (hi_ (mvs_ N Ls x0 k0 Hd j)), .long (lo_ (mvs_ N Ls x0 k0 Hd j)), .int (nI fc), .long y1, .long y0, .ref (am 10)])) H → va_S (fz_ G) s.heap H locs → lv_has ls 6 [(0, .ref (am 0)), (1, .long sx), (3, .int ev), (4, .int (primeT_ sx)), (5, .int (nI (k0 + j + 1)))] → W p l e R s m args below meth c H locs 0 0 Q (F0 m 83 ls []) := by
                intro q
                induction q with
                | zero =>
                  intro j wz gz cz qz xz fz sz uz lz y1 y0 H locs ls hj hrz hM hS hl
                  refine lv_iload hx hb dd_M_advance_83 (lv_at hl 4 rfl) ?_
                  refine lv_aload_n hx hb dd_M_advance_85 rfl (lv_at hl 0 rfl) ?_
                  refine mr_get C0 hM fk_M_209 mu_s (v := .int (nI nw)) rfl dd_M_advance_86 ?_
                  refine lv_icmp_gt (tgt := 106) hx hb dd_M_advance_89 rfl (fun _ => ?_) (fun hc => absurd (lt_nI (a := nw) (b := (k0 + j + 1)) (by omega) (by omega) (by omega)) hc)
                  refine lv_aload_n hx hb dd_M_advance_106 rfl (lv_at hl 0 rfl) ?_
                  refine mr_get C0 hM fk_M_209 mu_s (v := .int (nI nw)) rfl dd_M_advance_107 ?_
                  refine lv_iload_n hx hb dd_M_advance_110 rfl (lv_at hl 2 rfl) ?_
                  refine mr_vi (x' := nI k0) (hev) ?_
                  refine lv_isub hx hb dd_M_advance_111 ?_
                  refine mr_vi (pk_sub (a := nw) (b := k0) (by omega)) ?_
                  exact mr_ret hQ (mr_iret C0 hM hS (rfl) (⟨by rw [(av_g (N := N) (Hd := Hd) (Ls := Ls) (s := sx) hh1 h20 hpx0 hxu hk0 hnw hev).1, if_pos hpr, if_pos hw72], _, _, _, _, _, _, _, _, _, _, _, hrz, by rw [(av_g (N := N) (Hd := Hd) (Ls := Ls) (s := sx) hh1 h20 hpx0 hxu hk0 hnw hev).2, if_pos hpr, if_pos hw72, show nw - k0 = j by omega]⟩) dd_M_advance_112)
                | succ q ih2 =>
                  intro j wz gz cz qz xz fz sz uz lz y1 y0 H locs ls hj hrz hM hS hl
                  refine lv_iload hx hb dd_M_advance_83 (lv_at hl 4 rfl) ?_
                  refine lv_aload_n hx hb dd_M_advance_85 rfl (lv_at hl 0 rfl) ?_
                  refine mr_get C0 hM fk_M_209 mu_s (v := .int (nI nw)) rfl dd_M_advance_86 ?_
                  refine lv_icmp_gt (tgt := 106) hx hb dd_M_advance_89 rfl (fun hc => absurd hc (nlt_nI (a := nw) (b := (k0 + j + 1)) (by omega) (by omega) (by omega))) (fun _ => ?_)
                  refine lv_aload_n hx hb dd_M_advance_92 rfl (lv_at hl 0 rfl) ?_
                  refine lv_iload hx hb dd_M_advance_93 (lv_at hl 4 rfl) ?_
                  refine lv_iload hx hb dd_M_advance_95 (lv_at hl 3 rfl) ?_
                  refine mr_vi (x' := nI x0) (hpx0) ?_
                  refine mr_callV (As := [.int (nI (k0 + j + 1)), .int (nI x0)]) (rest := []) C0 hM hS vk_M_250 mu_s rfl (c_M_moveTo l hne hk hrz hokk hhs hN hVt (fun _ => mvs_lt hN0 (hHd hh1) j) hfc hh1 (k1 := k0 + j + 1) (by omega) (by omega) (p0 := x0) (by omega) hxu) rfl rfl hl.1 (Nat.le_of_ble_eq_true rfl) rfl rfl (by subst hR; exact ⟨Nat.le_of_ble_eq_true rfl, Nat.le_of_ble_eq_true rfl⟩) (by subst hR; exact ⟨Nat.le_of_ble_eq_true rfl, Nat.le_of_ble_eq_true rfl⟩) dd_M_advance_97 (fun v1 M1 H locs hp hM hS => ?_)
                  obtain ⟨ev1, wn, gn, cn, qn, xn, fn, sn, un, ln, t1, t0, hrn, eM1⟩ := hp
                  subst ev1
                  rw [eM1] at hM
                  refine W.eq (g2 := F0 m 100 ls []) rfl ?_
                  refine lv_iinc (k := 4) (v := nI ((k0 + j + 1) + 1)) (lv' := [(5, .int (nI ((k0 + j + 1) + 1))), (0, .ref (am 0)), (1, .long sx), (3, .int ev), (4, .int (primeT_ sx))]) hx hb dd_M_advance_100 hl rfl (inc_ (k0 + j + 1)) (by decide) rfl (fun ls hl => ?_)
                  refine lv_goto (tgt := 83) hx hb dd_M_advance_103 rfl ?_
                  exact ih2 (j + 1) _ _ _ _ _ _ _ _ _ _ _ _ _ _ (by omega) (hrn) hM hS (lv_sub hl [1, 2, 3, 4, 0] rfl)
              rw [show Hd = mvs_ N Ls x0 k0 Hd 0 from rfl] at hM
              exact loop_83 (nw - k0) 0 _ _ _ _ _ _ _ _ _ _ _ _ _ _ (by omega) (hrl) hM hS (lv_sub hl [1, 2, 3, 4, 0] rfl)
            · skip
              have hw72 : ¬ Hd ^ x0 % N = ac_ N (Ls k0) := fun q => absurd h72 (by rw [if_pos q]; decide)
              refine lv_bipush (v := (-7 : Int32)) hx hb dd_M_advance_75 (by decide) ?_
              exact mr_ret hQ (mr_iret C0 hM hS (rfl) (⟨by rw [(av_g (N := N) (Hd := Hd) (Ls := Ls) (s := sx) hh1 h20 hpx0 hxu hk0 hnw hev).1, if_pos hpr, if_neg hw72], _, _, _, _, _, _, _, _, _, _, _, hrl, by rw [(av_g (N := N) (Hd := Hd) (Ls := Ls) (s := sx) hh1 h20 hpx0 hxu hk0 hnw hev).2, if_pos hpr, if_neg hw72]⟩) dd_M_advance_77)
          | succ k ih =>
            intro i H locs ls hi hki hall hM hS hl
            refine lv_iload hx hb dd_M_advance_37 (lv_at hl 4 rfl) ?_
            refine lv_aload_n hx hb dd_M_advance_39 rfl (lv_at hl 0 rfl) ?_
            refine mr_get C0 hM fk_M_209 mu_s (v := .int (nI nw)) rfl dd_M_advance_40 ?_
            refine lv_icmp_gt (tgt := 65) hx hb dd_M_advance_43 rfl (fun hc => absurd hc (nlt_nI (a := nw) (b := i) (by omega) (by omega) (by omega))) (fun _ => ?_)
            refine lv_aload_n hx hb dd_M_advance_46 rfl (lv_at hl 0 rfl) ?_
            refine lv_iload hx hb dd_M_advance_47 (lv_at hl 4 rfl) ?_
            refine lv_lload_n hx hb dd_M_advance_49 rfl (lv_at hl 1 rfl) ?_
            refine mr_callV (As := [.int (nI i), .long sx]) (rest := []) C0 hM hS vk_M_216 mu_s rfl (c_M_placeIn l mu_s (mu_n' (hne (i := 5) (j := 0) (by decide)) (mu_n' (hne (i := 5) (j := 10) (by decide)) (mu_n' (hne (i := 5) (j := 9) (by decide)) (mu_n' (hne (i := 5) (j := 8) (by decide)) (mu_n' (hne (i := 5) (j := 7) (by decide)) (mu_n' (hne (i := 5) (j := 6) (by decide)) mu_s)))))) (mu_n' (hne (i := 6) (j := 0) (by decide)) (mu_n' (hne (i := 6) (j := 10) (by decide)) (mu_n' (hne (i := 6) (j := 9) (by decide)) (mu_n' (hne (i := 6) (j := 8) (by decide)) (mu_n' (hne (i := 6) (j := 7) (by decide)) mu_s)))))  (by omega) (hme i (by omega)).1 (hLn i) (fun j hj => ((hme i (by omega)).2.2 j hj).1)) rfl rfl hl.1 (Nat.le_of_ble_eq_true rfl) rfl rfl (by subst hR; exact ⟨Nat.le_of_ble_eq_true rfl, Nat.le_of_ble_eq_true rfl⟩) (by subst hR; exact ⟨Nat.le_of_ble_eq_true rfl, Nat.le_of_ble_eq_true rfl⟩) dd_M_advance_50 (fun v1 M1 H locs hp hM hS => ?_)
            obtain ⟨ev1, eM1⟩ := hp
            subst ev1
            rw [eM1] at hM
            refine W.eq (g2 := F0 m 53 ls [.int (mz_ (Ls i) i sx)]) rfl ?_
            refine lv_if_ge (tgt := 59) hx hb dd_M_advance_53 rfl (fun h53 => ?_) (fun h53 => ?_)
            · skip
              have hvi : hs_ (Ls i) sx = true := by
                cases h : hs_ (Ls i) sx with
                | true => rfl
                | false => exact absurd ((mz_neg (hLn i) (by omega)).mpr h) (Int32.not_lt.mpr h53)
              refine lv_iinc (k := 4) (v := nI (i + 1)) (lv' := [(5, .int (nI (i + 1))), (0, .ref (am 0)), (1, .long sx), (3, .int ev), (4, .int (primeT_ sx))]) hx hb dd_M_advance_59 hl rfl (inc_ i) (by decide) rfl (fun ls hl => ?_)
              refine lv_goto (tgt := 37) hx hb dd_M_advance_62 rfl ?_
              exact ih (i + 1) _ _ _ (by omega) (by omega) (fun j h1 h2 => by rcases (show j < i ∨ j = i by omega) with h | h; exact hall j h1 h; rw [h]; exact hvi) hM hS (lv_sub hl [1, 2, 3, 4, 0] rfl)
            · skip
              have hvi : hs_ (Ls i) sx = false := (mz_neg (hLn i) (by omega)).mp (Int32.not_le.mp h53)
              refine lv_bipush (v := (-4 : Int32)) hx hb dd_M_advance_56 (by decide) ?_
              exact mr_ret hQ (mr_iret C0 hM hS (rfl) (⟨by rw [(av_g (N := N) (Hd := Hd) (Ls := Ls) (s := sx) hh1 h20 hpx0 hxu hk0 hnw hev).1, if_neg (fun q => by rw [q i hki (by omega)] at hvi; cases hvi)], _, _, _, _, _, _, _, _, _, _, _, hrl, by rw [(av_g (N := N) (Hd := Hd) (Ls := Ls) (s := sx) hh1 h20 hpx0 hxu hk0 hnw hev).2, if_neg (fun q => by rw [q i hki (by omega)] at hvi; cases hvi)]⟩) dd_M_advance_58)
        exact loop_37 (nw + 1 - k0) k0 _ _ _ (by omega) (Nat.le_refl _) (fun j h1 h2 => absurd h2 (by omega)) hM hS (lv_sub hl [2, 3, 4, 1, 0] rfl)
      · skip
        have hep : ¬ ep_ ev nw := fun q => absurd ((ie_y q).symm.trans h28) (by decide)
        refine lv_bipush (v := (-2 : Int32)) hx hb dd_M_advance_31 (by decide) ?_
        exact mr_ret hQ (mr_iret C0 hM hS (rfl) (⟨by first | rw [(av_b hh1 (Or.inl h20)).1] | rw [(av_b hh1 (Or.inr hep)).1], _, _, _, _, _, _, _, _, _, _, _, hrl, by first | rw [(av_b hh1 (Or.inl h20)).2] | rw [(av_b hh1 (Or.inr hep)).2]⟩) dd_M_advance_33)
  · skip
    have hh0 : hs = 0 := (nI_eq (by omega) (by decide)).mp h4
    refine lv_iconst (v := (-1 : Int32)) hx hb dd_M_advance_7 (by decide) ?_
    exact mr_ret hQ (mr_iret C0 hM hS (rfl) (⟨by unfold avR_; rw [if_pos hh0], _, _, _, _, _, _, _, _, _, _, _, hrl, by rw [show avH_ hs N (primeT_ sx) Ls nw Hd sx ev = Hd by unfold avH_; rw [if_pos hh0]]⟩) dd_M_advance_8)
