
noncomputable def prR_ (hs : Nat) (s : Int64) : Int32 := if hs = 0 then (-1) else prime_ s
noncomputable def pqR_ (hs : Nat) (nw : Nat) (s : Int64) (e : Int32) : Int32 := if hs = 0 then (-1) else @ite _ (ep_ e nw) (Classical.propDecidable _) (prime_ s) (-2)
noncomputable def psR_ (Ls : Nat → rl_) (s : Int64) (k nw : Nat) : Int32 := @ite _ (prs_ Ls s k nw) (Classical.propDecidable _) (nI 1) (nI 0)
theorem psR_y {Ls : Nat → rl_} {s : Int64} {k nw : Nat} (h : prs_ Ls s k nw) : psR_ Ls s k nw = nI 1 := by unfold psR_; exact if_pos h
theorem psR_n {Ls : Nat → rl_} {s : Int64} {k nw : Nat} (h : ¬ prs_ Ls s k nw) : psR_ Ls s k nw = nI 0 := by unfold psR_; exact if_neg h
theorem qvb {V b p : Nat} (h : V * b < 4294967296 ^ 11) : V * b / p < 4294967296 ^ 11 := Nat.lt_of_le_of_lt (Nat.div_le_self _ _) h
theorem e352 {V : Nat} (h : V < 2 ^ 311) : V < 2 ^ 352 := Nat.lt_trans h (by decide)

set_option maxHeartbeats 4000000 in
set_option maxRecDepth 100000 in
theorem c_P_primeOrRefusal_J (l : Launch) {G : mg_} {M : mw_} {ap : Nat → Nat} {hs nw fc : Nat} {w : Nat → Int32} {sx : Int64}  (h_po : M (ap 0) = some (ob_ 5 [.ref (ap 1), .ref (ap 3), .ref (ap 14), .ref (ap 17), .ref (ap 18), .ref (ap 19), .ref (ap 20), .ref (ap 21), .int (nI hs), .int (nI nw), .int (nI fc)])) (h_so : M (ap 1) = some (ob_ 4 [.ref (ap 2)])) (h_wA : M (ap 2) = some (ia_ G 64 w))  (hne : ∀ {i j : Nat}, i ≠ j → ap i ≠ ap j)  (hhs : hs ≤ 1)  : ct_ l my_P_primeOrRefusal_J cd_P_primeOrRefusal_J 3 (some .int) { frames := 4, cells := 0, slots := 0, locals := 107 } G [.ref (ap 0), .long sx] M (fun v0 M' => v0 = (some (.int (prR_ hs sx))) ∧ ∃ (w2 : Nat → Int32), M' = mu_ M (ap 2) (ia_ G 64 w2)) 0 0 := by
  refine ct_.intro2 (by decide) (Nat.le_of_ble_eq_true rfl) ?_
  intro p e s m args below meth c ls R Q hR hQ C0 hl hM hS
  have hx := C0.1
  have hb := C0.2.1
  have hl : lv_has ls 3 [(0, .ref (ap 0)), (1, .long sx)] := hl
  refine lv_aload_n hx hb dd_P_primeOrRefusal_J_0 rfl (lv_at hl 0 rfl) ?_
  refine mr_get C0 hM fk_P_54 h_po (v := .int (nI hs)) rfl dd_P_primeOrRefusal_J_1 ?_
  refine lv_if_eq (tgt := 18) hx hb dd_P_primeOrRefusal_J_4 rfl (fun h4 => ?_) (fun h4 => ?_)
  · skip
    have hh0 : hs = 0 := (nI_eq (by omega) (by decide)).mp h4
    refine lv_iconst (v := (-1 : Int32)) hx hb dd_P_primeOrRefusal_J_18 (by decide) ?_
    exact mr_ret hQ (mr_iret C0 hM hS (rfl) (⟨by unfold prR_; rw [if_pos hh0], w, (mu_id h_wA).symm⟩) dd_P_primeOrRefusal_J_19)
  · skip
    have hh1 : hs = 1 := by
      have h2 : hs ≠ 0 := fun q => h4 (by rw [q]; rfl)
      omega
    refine lv_aload_n hx hb dd_P_primeOrRefusal_J_7 rfl (lv_at hl 0 rfl) ?_
    refine mr_get C0 hM fk_P_10 h_po (v := .ref (ap 1)) rfl dd_P_primeOrRefusal_J_8 ?_
    refine lv_lload_n hx hb dd_P_primeOrRefusal_J_11 rfl (lv_at hl 1 rfl) ?_
    refine mr_callV (As := [.long sx]) (rest := []) C0 hM hS vk_P_70 h_so rfl (c_S_primeOf l h_so h_wA  ) rfl rfl hl.1 (Nat.le_of_ble_eq_true rfl) rfl rfl (by subst hR; exact ⟨Nat.le_of_ble_eq_true rfl, Nat.le_of_ble_eq_true rfl⟩) (by subst hR; exact ⟨Nat.le_of_ble_eq_true rfl, Nat.le_of_ble_eq_true rfl⟩) dd_P_primeOrRefusal_J_12 (fun v1 M1 H locs hp hM hS => ?_)
    obtain ⟨ev1, w1, eM1⟩ := hp
    subst ev1
    rw [eM1] at hM
    have hM : mm_ G (mu_ M (ap 2) (ia_ G 64 w1)) H := hM
    refine W.eq (g2 := F0 m 15 ls [.int (prime_ sx)]) rfl ?_
    refine lv_goto (tgt := 19) hx hb dd_P_primeOrRefusal_J_15 rfl ?_
    exact mr_ret hQ (mr_iret C0 hM hS (rfl) (⟨by unfold prR_; rw [if_neg (by omega)], _, rfl⟩) dd_P_primeOrRefusal_J_19)

set_option maxHeartbeats 4000000 in
set_option maxRecDepth 100000 in
theorem c_P_isEpoch (l : Launch) {G : mg_} {M : mw_} {ap : Nat → Nat} {hs nw fc : Nat} {ev : Int32}  (h_po : M (ap 0) = some (ob_ 5 [.ref (ap 1), .ref (ap 3), .ref (ap 14), .ref (ap 17), .ref (ap 18), .ref (ap 19), .ref (ap 20), .ref (ap 21), .int (nI hs), .int (nI nw), .int (nI fc)]))  (hne : ∀ {i j : Nat}, i ≠ j → ap i ≠ ap j)  (hnw : nw ≤ 16) : dt_ l my_P_isEpoch cd_P_isEpoch 2 (some .boolean) { frames := 0, cells := 0, slots := 0, locals := 0 } G [.ref (ap 0), .int ev] M (some (.int (ie_ ev nw))) (M) 0 0 := by
  refine ct_.intro2 (by decide) (Nat.le_of_ble_eq_true rfl) ?_
  intro p e s m args below meth c ls R Q hR hQ C0 hl hM hS
  have hx := C0.1
  have hb := C0.2.1
  have hl : lv_has ls 2 [(0, .ref (ap 0)), (1, .int ev)] := hl
  refine lv_iload_n hx hb dd_P_isEpoch_0 rfl (lv_at hl 1 rfl) ?_
  refine lv_if_lt (tgt := 16) hx hb dd_P_isEpoch_1 rfl (fun h1 => ?_) (fun h1 => ?_)
  · skip
    refine lv_iconst (v := nI 0) hx hb dd_P_isEpoch_16 (by decide) ?_
    exact mr_ret hQ (mr_iret C0 hM hS (rfl) (⟨by first | rw [ie_n (ep_neg hnw h1)] | rw [ie_n (ep_big hnw h9)] | rw [ie_y (ep_in hnw h1 h9)], rfl⟩) dd_P_isEpoch_17)
  · skip
    refine lv_iload_n hx hb dd_P_isEpoch_4 rfl (lv_at hl 1 rfl) ?_
    refine lv_aload_n hx hb dd_P_isEpoch_5 rfl (lv_at hl 0 rfl) ?_
    refine mr_get C0 hM fk_P_100 h_po (v := .int (nI nw)) rfl dd_P_isEpoch_6 ?_
    refine lv_icmp_gt (tgt := 16) hx hb dd_P_isEpoch_9 rfl (fun h9 => ?_) (fun h9 => ?_)
    · skip
      refine lv_iconst (v := nI 0) hx hb dd_P_isEpoch_16 (by decide) ?_
      exact mr_ret hQ (mr_iret C0 hM hS (rfl) (⟨by first | rw [ie_n (ep_neg hnw h1)] | rw [ie_n (ep_big hnw h9)] | rw [ie_y (ep_in hnw h1 h9)], rfl⟩) dd_P_isEpoch_17)
    · skip
      refine lv_iconst (v := nI 1) hx hb dd_P_isEpoch_12 (by decide) ?_
      refine lv_goto (tgt := 17) hx hb dd_P_isEpoch_13 rfl ?_
      exact mr_ret hQ (mr_iret C0 hM hS (rfl) (⟨by first | rw [ie_n (ep_neg hnw h1)] | rw [ie_n (ep_big hnw h9)] | rw [ie_y (ep_in hnw h1 h9)], rfl⟩) dd_P_isEpoch_17)

set_option maxHeartbeats 4000000 in
set_option maxRecDepth 100000 in
theorem c_P_primeOrRefusal_JI (l : Launch) {G : mg_} {M : mw_} {ap : Nat → Nat} {hs nw fc : Nat} {w : Nat → Int32} {sx : Int64} {ev : Int32}  (h_po : M (ap 0) = some (ob_ 5 [.ref (ap 1), .ref (ap 3), .ref (ap 14), .ref (ap 17), .ref (ap 18), .ref (ap 19), .ref (ap 20), .ref (ap 21), .int (nI hs), .int (nI nw), .int (nI fc)])) (h_so : M (ap 1) = some (ob_ 4 [.ref (ap 2)])) (h_wA : M (ap 2) = some (ia_ G 64 w))  (hne : ∀ {i j : Nat}, i ≠ j → ap i ≠ ap j)  (hhs : hs ≤ 1) (hnw : nw ≤ 16) : ct_ l my_P_primeOrRefusal_JI cd_P_primeOrRefusal_JI 4 (some .int) { frames := 5, cells := 0, slots := 0, locals := 129 } G [.ref (ap 0), .long sx, .int ev] M (fun v0 M' => v0 = (some (.int (pqR_ hs nw sx ev))) ∧ ∃ (w2 : Nat → Int32), M' = mu_ M (ap 2) (ia_ G 64 w2)) 0 0 := by
  refine ct_.intro2 (by decide) (Nat.le_of_ble_eq_true rfl) ?_
  intro p e s m args below meth c ls R Q hR hQ C0 hl hM hS
  have hx := C0.1
  have hb := C0.2.1
  have hl : lv_has ls 4 [(0, .ref (ap 0)), (1, .long sx), (3, .int ev)] := hl
  refine lv_aload_n hx hb dd_P_primeOrRefusal_JI_0 rfl (lv_at hl 0 rfl) ?_
  refine mr_get C0 hM fk_P_54 h_po (v := .int (nI hs)) rfl dd_P_primeOrRefusal_JI_1 ?_
  refine lv_if_eq (tgt := 20) hx hb dd_P_primeOrRefusal_JI_4 rfl (fun h4 => ?_) (fun h4 => ?_)
  · skip
    have hh0 : hs = 0 := (nI_eq (by omega) (by decide)).mp h4
    refine lv_aload_n hx hb dd_P_primeOrRefusal_JI_20 rfl (lv_at hl 0 rfl) ?_
    refine lv_lload_n hx hb dd_P_primeOrRefusal_JI_21 rfl (lv_at hl 1 rfl) ?_
    refine mr_callV (As := [.long sx]) (rest := []) C0 hM hS vk_P_74 h_po rfl (c_P_primeOrRefusal_J l h_po h_so h_wA hne  hhs) rfl rfl hl.1 (Nat.le_of_ble_eq_true rfl) rfl rfl (by subst hR; exact ⟨Nat.le_of_ble_eq_true rfl, Nat.le_of_ble_eq_true rfl⟩) (by subst hR; exact ⟨Nat.le_of_ble_eq_true rfl, Nat.le_of_ble_eq_true rfl⟩) dd_P_primeOrRefusal_JI_22 (fun v1 M1 H locs hp hM hS => ?_)
    obtain ⟨ev1, w1, eM1⟩ := hp
    subst ev1
    rw [eM1] at hM
    have hM : mm_ G (mu_ M (ap 2) (ia_ G 64 w1)) H := hM
    refine W.eq (g2 := F0 m 25 ls [.int (prR_ hs sx)]) rfl ?_
    exact mr_ret hQ (mr_iret C0 hM hS (rfl) (⟨by first | (unfold pqR_ prR_; rw [if_pos hh0, if_pos hh0]; done) | (unfold pqR_ prR_; rw [if_neg (show ¬ hs = 0 by omega), if_neg (show ¬ hs = 0 by omega), if_pos hep]), _, rfl⟩) dd_P_primeOrRefusal_JI_25)
  · skip
    have hh1 : hs = 1 := by
      have h2 : hs ≠ 0 := fun q => h4 (by rw [q]; rfl)
      omega
    refine lv_aload_n hx hb dd_P_primeOrRefusal_JI_7 rfl (lv_at hl 0 rfl) ?_
    refine lv_iload_n hx hb dd_P_primeOrRefusal_JI_8 rfl (lv_at hl 2 rfl) ?_
    refine mr_callV (As := [.int ev]) (rest := []) C0 hM hS vk_P_110 h_po rfl (c_P_isEpoch l h_po hne  hnw) rfl rfl hl.1 (Nat.le_of_ble_eq_true rfl) rfl rfl (by subst hR; exact ⟨Nat.le_of_ble_eq_true rfl, Nat.le_of_ble_eq_true rfl⟩) (by subst hR; exact ⟨Nat.le_of_ble_eq_true rfl, Nat.le_of_ble_eq_true rfl⟩) dd_P_primeOrRefusal_JI_9 (fun v1 M1 H locs hp hM hS => ?_)
    obtain ⟨ev1, eM1⟩ := hp
    subst ev1
    rw [eM1] at hM
    refine W.eq (g2 := F0 m 12 ls [.int (ie_ ev nw)]) rfl ?_
    refine lv_if_ne (tgt := 20) hx hb dd_P_primeOrRefusal_JI_12 rfl (fun h12 => ?_) (fun h12 => ?_)
    · skip
      have hep : ep_ ev nw := Classical.byContradiction (fun q => h12 (ie_n q))
      refine lv_aload_n hx hb dd_P_primeOrRefusal_JI_20 rfl (lv_at hl 0 rfl) ?_
      refine lv_lload_n hx hb dd_P_primeOrRefusal_JI_21 rfl (lv_at hl 1 rfl) ?_
      refine mr_callV (As := [.long sx]) (rest := []) C0 hM hS vk_P_74 h_po rfl (c_P_primeOrRefusal_J l h_po h_so h_wA hne  hhs) rfl rfl hl.1 (Nat.le_of_ble_eq_true rfl) rfl rfl (by subst hR; exact ⟨Nat.le_of_ble_eq_true rfl, Nat.le_of_ble_eq_true rfl⟩) (by subst hR; exact ⟨Nat.le_of_ble_eq_true rfl, Nat.le_of_ble_eq_true rfl⟩) dd_P_primeOrRefusal_JI_22 (fun v1 M1 H locs hp hM hS => ?_)
      obtain ⟨ev1, w1, eM1⟩ := hp
      subst ev1
      rw [eM1] at hM
      have hM : mm_ G (mu_ M (ap 2) (ia_ G 64 w1)) H := hM
      refine W.eq (g2 := F0 m 25 ls [.int (prR_ hs sx)]) rfl ?_
      exact mr_ret hQ (mr_iret C0 hM hS (rfl) (⟨by first | (unfold pqR_ prR_; rw [if_pos hh0, if_pos hh0]; done) | (unfold pqR_ prR_; rw [if_neg (show ¬ hs = 0 by omega), if_neg (show ¬ hs = 0 by omega), if_pos hep]), _, rfl⟩) dd_P_primeOrRefusal_JI_25)
    · skip
      have hep : ¬ ep_ ev nw := fun q => absurd ((ie_y q).symm.trans h12) (by decide)
      refine lv_bipush (v := (-2 : Int32)) hx hb dd_P_primeOrRefusal_JI_15 (by decide) ?_
      refine lv_goto (tgt := 25) hx hb dd_P_primeOrRefusal_JI_17 rfl ?_
      exact mr_ret hQ (mr_iret C0 hM hS (rfl) (⟨by unfold pqR_; rw [if_neg (show ¬ hs = 0 by omega), if_neg hep], w, (mu_id h_wA).symm⟩) dd_P_primeOrRefusal_JI_25)

set_option maxHeartbeats 4000000 in
set_option maxRecDepth 100000 in
theorem c_P_isPresentSince (l : Launch) {G : mg_} {M : mw_} {ap : Nat → Nat} {hs nw fc : Nat} {Ls : Nat → rl_} {ef : Nat → Nat → Int64} {sx : Int64} {k0 : Nat}  (h_po : M (ap 0) = some (ob_ 5 [.ref (ap 1), .ref (ap 3), .ref (ap 14), .ref (ap 17), .ref (ap 18), .ref (ap 19), .ref (ap 20), .ref (ap 21), .int (nI hs), .int (nI nw), .int (nI fc)])) (h_ep : M (ap 17) = some (qa_ G 17 (fun e => some (ap (23 + 6 * e)))))  (hne : ∀ {i j : Nat}, i ≠ j → ap i ≠ ap j) (hE0 : ∀ e, e < 17 → M (ap (23 + 6 * e)) = some (ob_ 0 [.ref (ap (24 + 6 * e)), .ref (ap (27 + 6 * e)), .ref (ap (28 + 6 * e))])) (hE1 : ∀ e, e < 17 → M (ap (24 + 6 * e)) = some (ob_ 3 [.ref (ap (25 + 6 * e)), .ref (ap (26 + 6 * e)), .int (nI (List.length (Ls e)))])) (hE2 : ∀ e, e < 17 → M (ap (25 + 6 * e)) = some (la_ G 10 (ef e))) (hnw : nw ≤ 16) (hLn : ∀ e, (Ls e).length ≤ 10) (hro : ∀ e, e < 17 → ∀ j, j < (Ls e).length → ef e j = sr_ (Ls e) j) (hk0 : k0 ≤ nw) : dt_ l my_P_isPresentSince cd_P_isPresentSince 5 (some .boolean) { frames := 2, cells := 0, slots := 0, locals := 45 } G [.ref (ap 0), .long sx, .int (nI k0)] M (some (.int (psR_ Ls sx k0 nw))) (M) 0 0 := by
  refine ct_.intro2 (by decide) (Nat.le_of_ble_eq_true rfl) ?_
  intro p e s m args below meth c ls R Q hR hQ C0 hl hM hS
  have hx := C0.1
  have hb := C0.2.1
  have hl : lv_has ls 5 [(0, .ref (ap 0)), (1, .long sx), (3, .int (nI k0))] := hl
  refine lv_iload_n hx hb dd_P_isPresentSince_0 rfl (lv_at hl 2 rfl) ?_
  refine lv_istore (lv' := [(4, .int (nI k0)), (0, .ref (ap 0)), (1, .long sx), (3, .int (nI k0))]) hx hb dd_P_isPresentSince_1 hl (by decide) rfl (fun ls hl => ?_)
  have loop_3 : ∀ (k : Nat) (i : Nat) (H : Heap) (locs : List Loc) (ls : Array Slot), i + k = nw + 1 → k0 ≤ i → (∀ j, k0 ≤ j → j < i → hs_ (Ls j) sx = true) → mm_ G (M) H → va_S (fz_ G) s.heap H locs → lv_has ls 5 [(0, .ref (ap 0)), (1, .long sx), (4, .int (nI i))] → W p l e R s m args below meth c H locs 0 0 Q (F0 m 3 ls []) := by
    intro k
    induction k with
    | zero =>
      intro i H locs ls hi hki hall hM hS hl
      refine lv_iload hx hb dd_P_isPresentSince_3 (lv_at hl 2 rfl) ?_
      refine lv_aload_n hx hb dd_P_isPresentSince_5 rfl (lv_at hl 0 rfl) ?_
      refine mr_get C0 hM fk_P_100 h_po (v := .int (nI nw)) rfl dd_P_isPresentSince_6 ?_
      refine lv_icmp_gt (tgt := 37) hx hb dd_P_isPresentSince_9 rfl (fun _ => ?_) (fun hc => absurd (lt_nI (a := nw) (b := i) (by omega) (by omega) (by omega)) hc)
      refine lv_iconst (v := nI 1) hx hb dd_P_isPresentSince_37 (by decide) ?_
      exact mr_ret hQ (mr_iret C0 hM hS (rfl) (⟨by rw [psR_y (fun j h1 h2 => hall j h1 (by omega))], rfl⟩) dd_P_isPresentSince_38)
    | succ k ih =>
      intro i H locs ls hi hki hall hM hS hl
      refine lv_iload hx hb dd_P_isPresentSince_3 (lv_at hl 2 rfl) ?_
      refine lv_aload_n hx hb dd_P_isPresentSince_5 rfl (lv_at hl 0 rfl) ?_
      refine mr_get C0 hM fk_P_100 h_po (v := .int (nI nw)) rfl dd_P_isPresentSince_6 ?_
      refine lv_icmp_gt (tgt := 37) hx hb dd_P_isPresentSince_9 rfl (fun hc => absurd hc (nlt_nI (a := nw) (b := i) (by omega) (by omega) (by omega))) (fun _ => ?_)
      refine lv_aload_n hx hb dd_P_isPresentSince_12 rfl (lv_at hl 0 rfl) ?_
      refine mr_get C0 hM fk_P_32 h_po (v := .ref (ap 17)) rfl dd_P_isPresentSince_13 ?_
      refine lv_iload hx hb dd_P_isPresentSince_16 (lv_at hl 2 rfl) ?_
      refine mr_aald C0 hM h_ep (i) (rfl) (rfl) (by omega) (by decide) dd_P_isPresentSince_18 ?_
      refine mr_get C0 hM fk_P_103 (hE0 i (by omega)) (v := .ref (ap (24 + 6 * i))) rfl dd_P_isPresentSince_19 ?_
      refine lv_lload_n hx hb dd_P_isPresentSince_22 rfl (lv_at hl 1 rfl) ?_
      refine mr_callV (As := [.long sx]) (rest := []) C0 hM hS vk_P_77 (hE1 i (by omega)) rfl (c_T_has l (hE1 i (by omega)) (hE2 i (by omega))  (hro i (by omega)) (hLn i)) rfl rfl hl.1 (Nat.le_of_ble_eq_true rfl) rfl rfl (by subst hR; exact ⟨Nat.le_of_ble_eq_true rfl, Nat.le_of_ble_eq_true rfl⟩) (by subst hR; exact ⟨Nat.le_of_ble_eq_true rfl, Nat.le_of_ble_eq_true rfl⟩) dd_P_isPresentSince_23 (fun v1 M1 H locs hp hM hS => ?_)
      obtain ⟨ev1, eM1⟩ := hp
      subst ev1
      rw [eM1] at hM
      refine W.eq (g2 := F0 m 26 ls [.int (nI (if hs_ (Ls i) sx then 1 else 0))]) rfl ?_
      refine lv_if_ne (tgt := 31) hx hb dd_P_isPresentSince_26 rfl (fun h26 => ?_) (fun h26 => ?_)
      · skip
        have hvi : hs_ (Ls i) sx = true := by
          cases h : hs_ (Ls i) sx with
          | true => rfl
          | false => exact absurd (by rw [h]; rfl) h26
        refine lv_iinc (k := 2) (v := nI (i + 1)) (lv' := [(4, .int (nI (i + 1))), (0, .ref (ap 0)), (1, .long sx)]) hx hb dd_P_isPresentSince_31 hl rfl (inc_ i) (by decide) rfl (fun ls hl => ?_)
        refine lv_goto (tgt := 3) hx hb dd_P_isPresentSince_34 rfl ?_
        exact ih (i + 1) _ _ _ (by omega) (by omega) (fun j h1 h2 => by rcases (show j < i ∨ j = i by omega) with h | h; exact hall j h1 h; rw [h]; exact hvi) hM hS (lv_sub hl [1, 2, 0] rfl)
      · skip
        have hvi : hs_ (Ls i) sx = false := by
          cases h : hs_ (Ls i) sx with
          | false => rfl
          | true => rw [h] at h26; exact absurd h26 (by decide)
        refine lv_iconst (v := nI 0) hx hb dd_P_isPresentSince_29 (by decide) ?_
        exact mr_ret hQ (mr_iret C0 hM hS (rfl) (⟨by rw [psR_n (fun q => by rw [q i hki (by omega)] at hvi; cases hvi)], rfl⟩) dd_P_isPresentSince_30)
  exact loop_3 (nw + 1 - k0) k0 _ _ _ (by omega) (Nat.le_refl _) (fun j h1 h2 => absurd h2 (by omega)) hM hS (lv_sub hl [1, 2, 0] rfl)

set_option maxHeartbeats 4000000 in
set_option maxRecDepth 100000 in
theorem c_P_holdsWitness (l : Launch) {G : mg_} {M : mw_} {ap : Nat → Nat} {hs N Vt nw Hd fc n1 Bi Ex : Nat} {t0 d0 b0 q0 s0 : Nat → Int64} {eu : Nat → Nat → Int64} {p0 k0 Ac : Nat}  (h_po : M (ap 0) = some (ob_ 5 [.ref (ap 1), .ref (ap 3), .ref (ap 14), .ref (ap 17), .ref (ap 18), .ref (ap 19), .ref (ap 20), .ref (ap 21), .int (nI hs), .int (nI nw), .int (nI fc)])) (h_r : M (ap 3) = some (ob_ 2 [.ref (ap 4), .ref (ap 5), .ref (ap 6), .ref (ap 7), .ref (ap 8), .ref (ap 9), .ref (ap 10), .ref (ap 11), .ref (ap 12), .ref (ap 13), .long (lN n1)])) (h_th : M (ap 4) = some (la_ G 4 (nl_ 3))) (h_td : M (ap 5) = some (la_ G 4 (nl_ Vt))) (h_un : M (ap 6) = some (la_ G 4 (nl_ 1))) (h_mn : M (ap 7) = some (la_ G 4 (nl_ N))) (h_mo : M (ap 8) = some (la_ G 4 (nl_ (4294967296 ^ 4 % N)))) (h_mq : M (ap 9) = some (la_ G 4 (nl_ (4294967296 ^ 8 % N)))) (h_tt : M (ap 10) = some (la_ G 6 t0)) (h_dd : M (ap 11) = some (la_ G 4 d0)) (h_bb : M (ap 12) = some (la_ G 4 b0)) (h_rr : M (ap 13) = some (la_ G 4 q0)) (h_no : M (ap 21) = some (ob_ 1 [.ref (ap 22)])) (h_nA : M (ap 22) = some (la_ G 11 (nl_ Ex))) (h_ep : M (ap 17) = some (qa_ G 17 (fun e => some (ap (23 + 6 * e))))) (h_hd : M (ap 18) = some (la_ G 4 (nl_ Hd))) (h_sc : M (ap 19) = some (la_ G 4 s0))  (hne : ∀ {i j : Nat}, i ≠ j → ap i ≠ ap j) (hE0 : ∀ e, e < 17 → M (ap (23 + 6 * e)) = some (ob_ 0 [.ref (ap (24 + 6 * e)), .ref (ap (27 + 6 * e)), .ref (ap (28 + 6 * e))])) (hE4 : ∀ e, e < 17 → M (ap (27 + 6 * e)) = some (la_ G 4 (eu e))) (hN : N < 4294967296 ^ 4) (hN1 : 1 < N) (hn1 : n1 < 4294967296) (hinv : (n1 * N + 1) % 4294967296 = 0) (hBi : 4294967296 ^ 4 * Bi % N = 1 % N) (hHd : Hd < N) (hp0 : p0 < 2147483648) (hk0 : k0 < 17) (heu : eu k0 = nl_ Ac) (hAc : Ac < N) : ct_ l my_P_holdsWitness cd_P_holdsWitness 3 (some .boolean) { frames := 4, cells := 0, slots := 0, locals := 109 } G [.ref (ap 0), .int (nI p0), .int (nI k0)] M (fun v0 M' => v0 = (some (.int (nI (if Hd ^ p0 % N = Ac then 1 else 0)))) ∧ ∃ (t9 : Nat → Int64) (d9 : Nat → Int64) (q9 : Nat → Int64), M' = mu_ (mu_ (mu_ (mu_ (mu_ (mu_ M (ap 22) (la_ G 11 (nl_ p0))) (ap 10) (la_ G 6 t9)) (ap 11) (la_ G 4 d9)) (ap 12) (la_ G 4 (nl_ (Hd * 4294967296 ^ 4 % N)))) (ap 13) (la_ G 4 q9)) (ap 19) (la_ G 4 (nl_ (Hd ^ p0 % N)))) 0 0 := by
  refine ct_.intro2 (by decide) (Nat.le_of_ble_eq_true rfl) ?_
  intro p e s m args below meth c ls R Q hR hQ C0 hl hM hS
  have hx := C0.1
  have hb := C0.2.1
  have hl : lv_has ls 3 [(0, .ref (ap 0)), (1, .int (nI p0)), (2, .int (nI k0))] := hl
  refine lv_aload_n hx hb dd_P_holdsWitness_0 rfl (lv_at hl 0 rfl) ?_
  refine mr_get C0 hM fk_P_50 h_po (v := .ref (ap 21)) rfl dd_P_holdsWitness_1 ?_
  refine lv_iload_n hx hb dd_P_holdsWitness_4 rfl (lv_at hl 1 rfl) ?_
  refine mr_callV (As := [.int (nI p0)]) (rest := []) C0 hM hS vk_P_160 h_no rfl (c_N_become l h_no h_nA  hp0) rfl rfl hl.1 (Nat.le_of_ble_eq_true rfl) rfl rfl (by subst hR; exact ⟨Nat.le_of_ble_eq_true rfl, Nat.le_of_ble_eq_true rfl⟩) (by subst hR; exact ⟨Nat.le_of_ble_eq_true rfl, Nat.le_of_ble_eq_true rfl⟩) dd_P_holdsWitness_5 (fun v1 M1 H locs hp hM hS => ?_)
  obtain ⟨ev1, eM1⟩ := hp
  subst ev1
  rw [eM1] at hM
  have hM : mm_ G (mu_ M (ap 22) (la_ G 11 (nl_ p0))) H := hM
  refine W.eq (g2 := F0 m 8 ls []) rfl ?_
  refine lv_aload_n hx hb dd_P_holdsWitness_8 rfl (lv_at hl 0 rfl) ?_
  refine mr_get C0 hM fk_P_19 (mu_n' (hne (i := 0) (j := 22) (by omega)) h_po) (v := .ref (ap 3)) rfl dd_P_holdsWitness_9 ?_
  refine lv_aload_n hx hb dd_P_holdsWitness_12 rfl (lv_at hl 0 rfl) ?_
  refine mr_get C0 hM fk_P_37 (mu_n' (hne (i := 0) (j := 22) (by omega)) h_po) (v := .ref (ap 18)) rfl dd_P_holdsWitness_13 ?_
  refine lv_aload_n hx hb dd_P_holdsWitness_16 rfl (lv_at hl 0 rfl) ?_
  refine mr_get C0 hM fk_P_50 (mu_n' (hne (i := 0) (j := 22) (by omega)) h_po) (v := .ref (ap 21)) rfl dd_P_holdsWitness_17 ?_
  refine lv_aload_n hx hb dd_P_holdsWitness_20 rfl (lv_at hl 0 rfl) ?_
  refine mr_get C0 hM fk_P_41 (mu_n' (hne (i := 0) (j := 22) (by omega)) h_po) (v := .ref (ap 19)) rfl dd_P_holdsWitness_21 ?_
  refine mr_callV (As := [.ref (ap 18), .ref (ap 21), .ref (ap 19)]) (rest := []) C0 hM hS vk_P_173 (mu_n' (hne (i := 3) (j := 22) (by omega)) h_r) rfl (c_R_power l (mu_n' (hne (i := 3) (j := 22) (by omega)) h_r) (mu_n' (hne (i := 7) (j := 22) (by omega)) h_mn) (mu_n' (hne (i := 8) (j := 22) (by omega)) h_mo) (mu_n' (hne (i := 9) (j := 22) (by omega)) h_mq) (mu_n' (hne (i := 6) (j := 22) (by omega)) h_un) (mu_n' (hne (i := 10) (j := 22) (by omega)) h_tt) (mu_n' (hne (i := 11) (j := 22) (by omega)) h_dd) (mu_n' (hne (i := 12) (j := 22) (by omega)) h_bb) (mu_n' (hne (i := 13) (j := 22) (by omega)) h_rr) (mu_n' (hne (i := 18) (j := 22) (by omega)) h_hd) (mu_n' (hne (i := 19) (j := 22) (by omega)) h_sc) (mu_n' (hne (i := 21) (j := 22) (by omega)) h_no) mu_s (hne (i := 12) (j := 13) (by omega)) (hne (i := 11) (j := 12) (by omega)) (hne (i := 11) (j := 13) (by omega)) (hne (i := 22) (j := 12) (by omega)) (hne (i := 22) (j := 11) (by omega)) (hne (i := 22) (j := 13) (by omega)) (hne (i := 22) (j := 10) (by omega)) (hne (i := 7) (j := 12) (by omega)) (hne (i := 7) (j := 11) (by omega)) (hne (i := 7) (j := 13) (by omega)) (hne (i := 7) (j := 10) (by omega)) (hne (i := 8) (j := 12) (by omega)) (hne (i := 8) (j := 11) (by omega)) (hne (i := 8) (j := 13) (by omega)) (hne (i := 8) (j := 10) (by omega)) (hne (i := 9) (j := 12) (by omega)) (hne (i := 9) (j := 11) (by omega)) (hne (i := 9) (j := 13) (by omega)) (hne (i := 9) (j := 10) (by omega)) (hne (i := 19) (j := 12) (by omega)) (hne (i := 19) (j := 11) (by omega)) (hne (i := 19) (j := 13) (by omega)) (hne (i := 19) (j := 10) (by omega)) (hne (i := 10) (j := 12) (by omega)) (hne (i := 10) (j := 11) (by omega)) (hne (i := 10) (j := 13) (by omega)) (hne (i := 6) (j := 12) (by omega)) (hne (i := 6) (j := 11) (by omega)) (hne (i := 6) (j := 13) (by omega)) (hne (i := 6) (j := 10) (by omega)) (hne (i := 18) (j := 12) (by omega)) (hne (i := 18) (j := 11) (by omega)) (hne (i := 18) (j := 13) (by omega)) (hne (i := 18) (j := 10) (by omega)) hHd hN1 (Nat.lt_trans hp0 (by decide)) hN hn1 hinv hBi) rfl rfl hl.1 (Nat.le_of_ble_eq_true rfl) rfl rfl (by subst hR; exact ⟨Nat.le_of_ble_eq_true rfl, Nat.le_of_ble_eq_true rfl⟩) (by subst hR; exact ⟨Nat.le_of_ble_eq_true rfl, Nat.le_of_ble_eq_true rfl⟩) dd_P_holdsWitness_24 (fun v1 M1 H locs hp hM hS => ?_)
  obtain ⟨ev1, t1, d1, q1, eM1⟩ := hp
  subst ev1
  rw [eM1] at hM
  have hM : mm_ G (mu_ (mu_ (mu_ (mu_ (mu_ (mu_ M (ap 22) (la_ G 11 (nl_ p0))) (ap 10) (la_ G 6 t1)) (ap 11) (la_ G 4 d1)) (ap 12) (la_ G 4 (nl_ (Hd * 4294967296 ^ 4 % N)))) (ap 13) (la_ G 4 q1)) (ap 19) (la_ G 4 (nl_ (Hd ^ p0 % N)))) H := hM
  refine W.eq (g2 := F0 m 27 ls []) rfl ?_
  refine lv_aload_n hx hb dd_P_holdsWitness_27 rfl (lv_at hl 0 rfl) ?_
  refine mr_get C0 hM fk_P_41 (mu_n' (hne (i := 0) (j := 19) (by omega)) (mu_n' (hne (i := 0) (j := 13) (by omega)) (mu_n' (hne (i := 0) (j := 12) (by omega)) (mu_n' (hne (i := 0) (j := 11) (by omega)) (mu_n' (hne (i := 0) (j := 10) (by omega)) (mu_n' (hne (i := 0) (j := 22) (by omega)) h_po)))))) (v := .ref (ap 19)) rfl dd_P_holdsWitness_28 ?_
  refine lv_aload_n hx hb dd_P_holdsWitness_31 rfl (lv_at hl 0 rfl) ?_
  refine mr_get C0 hM fk_P_32 (mu_n' (hne (i := 0) (j := 19) (by omega)) (mu_n' (hne (i := 0) (j := 13) (by omega)) (mu_n' (hne (i := 0) (j := 12) (by omega)) (mu_n' (hne (i := 0) (j := 11) (by omega)) (mu_n' (hne (i := 0) (j := 10) (by omega)) (mu_n' (hne (i := 0) (j := 22) (by omega)) h_po)))))) (v := .ref (ap 17)) rfl dd_P_holdsWitness_32 ?_
  refine lv_iload_n hx hb dd_P_holdsWitness_35 rfl (lv_at hl 2 rfl) ?_
  refine mr_aald C0 hM (mu_n' (hne (i := 17) (j := 19) (by omega)) (mu_n' (hne (i := 17) (j := 13) (by omega)) (mu_n' (hne (i := 17) (j := 12) (by omega)) (mu_n' (hne (i := 17) (j := 11) (by omega)) (mu_n' (hne (i := 17) (j := 10) (by omega)) (mu_n' (hne (i := 17) (j := 22) (by omega)) h_ep)))))) (k0) (rfl) (rfl) (hk0) (by decide) dd_P_holdsWitness_36 ?_
  refine mr_get C0 hM fk_P_113 (mu_n' (hne (i := (23 + 6 * k0)) (j := 19) (by omega)) (mu_n' (hne (i := (23 + 6 * k0)) (j := 13) (by omega)) (mu_n' (hne (i := (23 + 6 * k0)) (j := 12) (by omega)) (mu_n' (hne (i := (23 + 6 * k0)) (j := 11) (by omega)) (mu_n' (hne (i := (23 + 6 * k0)) (j := 10) (by omega)) (mu_n' (hne (i := (23 + 6 * k0)) (j := 22) (by omega)) (hE0 k0 (by omega)))))))) (v := .ref (ap (27 + 6 * k0))) rfl dd_P_holdsWitness_37 ?_
  refine mr_callS (As := [.ref (ap 19), .ref (ap (27 + 6 * k0))]) (rest := []) C0 hM hS sk_P_184 (c_R_same l mu_s (by rw [← heu]; exact (mu_n' (hne (i := (27 + 6 * k0)) (j := 19) (by omega)) (mu_n' (hne (i := (27 + 6 * k0)) (j := 13) (by omega)) (mu_n' (hne (i := (27 + 6 * k0)) (j := 12) (by omega)) (mu_n' (hne (i := (27 + 6 * k0)) (j := 11) (by omega)) (mu_n' (hne (i := (27 + 6 * k0)) (j := 10) (by omega)) (mu_n' (hne (i := (27 + 6 * k0)) (j := 22) (by omega)) (hE4 k0 (by omega))))))))) (Nat.lt_trans (Nat.mod_lt _ (by omega)) hN) (Nat.lt_trans hAc hN)) rfl rfl hl.1 (Nat.le_of_ble_eq_true rfl) rfl rfl (by subst hR; exact ⟨Nat.le_of_ble_eq_true rfl, Nat.le_of_ble_eq_true rfl⟩) (by subst hR; exact ⟨Nat.le_of_ble_eq_true rfl, Nat.le_of_ble_eq_true rfl⟩) dd_P_holdsWitness_40 (fun v1 M1 H locs hp hM hS => ?_)
  obtain ⟨ev1, eM1⟩ := hp
  subst ev1
  rw [eM1] at hM
  refine W.eq (g2 := F0 m 43 ls [.int (nI (if Hd ^ p0 % N = Ac then 1 else 0))]) rfl ?_
  exact mr_ret hQ (mr_iret C0 hM hS (by split <;> rfl) (⟨rfl, _, _, _, rfl⟩) dd_P_holdsWitness_43)

set_option maxHeartbeats 4000000 in
set_option maxRecDepth 100000 in
theorem c_P_publish (l : Launch) {G : mg_} {M : mw_} {ap : Nat → Nat} {hs N Vt nw fc n1 Bi Ex : Nat} {Ls : Nat → rl_} {t0 d0 b0 q0 : Nat → Int64} {ef eu ei : Nat → Nat → Int64} {eg : Nat → Nat → Int32} {k0 : Nat}  (h_po : M (ap 0) = some (ob_ 5 [.ref (ap 1), .ref (ap 3), .ref (ap 14), .ref (ap 17), .ref (ap 18), .ref (ap 19), .ref (ap 20), .ref (ap 21), .int (nI hs), .int (nI nw), .int (nI fc)])) (h_r : M (ap 3) = some (ob_ 2 [.ref (ap 4), .ref (ap 5), .ref (ap 6), .ref (ap 7), .ref (ap 8), .ref (ap 9), .ref (ap 10), .ref (ap 11), .ref (ap 12), .ref (ap 13), .long (lN n1)])) (h_th : M (ap 4) = some (la_ G 4 (nl_ 3))) (h_td : M (ap 5) = some (la_ G 4 (nl_ Vt))) (h_un : M (ap 6) = some (la_ G 4 (nl_ 1))) (h_mn : M (ap 7) = some (la_ G 4 (nl_ N))) (h_mo : M (ap 8) = some (la_ G 4 (nl_ (4294967296 ^ 4 % N)))) (h_mq : M (ap 9) = some (la_ G 4 (nl_ (4294967296 ^ 8 % N)))) (h_tt : M (ap 10) = some (la_ G 6 t0)) (h_dd : M (ap 11) = some (la_ G 4 d0)) (h_bb : M (ap 12) = some (la_ G 4 b0)) (h_rr : M (ap 13) = some (la_ G 4 q0)) (h_no : M (ap 21) = some (ob_ 1 [.ref (ap 22)])) (h_nA : M (ap 22) = some (la_ G 11 (nl_ Ex)))  (hne : ∀ {i j : Nat}, i ≠ j → ap i ≠ ap j) (hE0 : ∀ e, e < 17 → M (ap (23 + 6 * e)) = some (ob_ 0 [.ref (ap (24 + 6 * e)), .ref (ap (27 + 6 * e)), .ref (ap (28 + 6 * e))])) (hE1 : ∀ e, e < 17 → M (ap (24 + 6 * e)) = some (ob_ 3 [.ref (ap (25 + 6 * e)), .ref (ap (26 + 6 * e)), .int (nI (List.length (Ls e)))])) (hE3 : ∀ e, e < 17 → M (ap (26 + 6 * e)) = some (ia_ G 10 (eg e))) (hE4 : ∀ e, e < 17 → M (ap (27 + 6 * e)) = some (la_ G 4 (eu e))) (hE5 : ∀ e, e < 17 → M (ap (28 + 6 * e)) = some (la_ G 4 (ei e))) (hN : N < 4294967296 ^ 4) (hN1 : 1 < N) (hn1 : n1 < 4294967296) (hinv : (n1 * N + 1) % 4294967296 = 0) (hBi : 4294967296 ^ 4 * Bi % N = 1 % N) (hV3 : 3 < N) (hVt : Vt < N) (hLn : ∀ e, (Ls e).length ≤ 10) (hLp : ∀ e, ∀ x ∈ Ls e, x.2 < 2147483648) (hro : ∀ e, e < 17 → ro_ (ef e) (eg e) (Ls e)) (hk0 : k0 < 17) : ct_ l my_P_publish cd_P_publish 2 none { frames := 4, cells := 0, slots := 0, locals := 109 } G [.ref (ap 0), .ref (ap (23 + 6 * k0))] M (fun v0 M' => v0 = none ∧ ∃ (t9 : Nat → Int64) (d9 : Nat → Int64) (q9 : Nat → Int64), M' = mu_ (mu_ (mu_ (mu_ (mu_ (mu_ (mu_ M (ap 22) (la_ G 11 (nl_ (pd_ (Ls k0))))) (ap 10) (la_ G 6 t9)) (ap 11) (la_ G 4 d9)) (ap 12) (la_ G 4 (nl_ (Vt * 4294967296 ^ 4 % N)))) (ap 13) (la_ G 4 q9)) (ap (27 + 6 * k0)) (la_ G 4 (nl_ (3 ^ (pd_ (Ls k0)) % N)))) (ap (28 + 6 * k0)) (la_ G 4 (nl_ (Vt ^ (pd_ (Ls k0)) % N)))) 0 0 := by
  refine ct_.intro2 (by decide) (Nat.le_of_ble_eq_true rfl) ?_
  intro p e s m args below meth c ls R Q hR hQ C0 hl hM hS
  have hx := C0.1
  have hb := C0.2.1
  have hl : lv_has ls 2 [(0, .ref (ap 0)), (1, .ref (ap (23 + 6 * k0)))] := hl
  have hVl : (pd_ (Ls k0)) < 2 ^ 311 := pd_lt (hLp k0) (hLn k0)
  refine lv_aload_n hx hb dd_P_publish_0 rfl (lv_at hl 0 rfl) ?_
  refine mr_get C0 hM fk_P_50 h_po (v := .ref (ap 21)) rfl dd_P_publish_1 ?_
  refine lv_iconst (v := nI 1) hx hb dd_P_publish_4 (by decide) ?_
  refine mr_callV (As := [.int (nI 1)]) (rest := []) C0 hM hS vk_P_160 h_no rfl (c_N_become l h_no h_nA  (by decide)) rfl rfl hl.1 (Nat.le_of_ble_eq_true rfl) rfl rfl (by subst hR; exact ⟨Nat.le_of_ble_eq_true rfl, Nat.le_of_ble_eq_true rfl⟩) (by subst hR; exact ⟨Nat.le_of_ble_eq_true rfl, Nat.le_of_ble_eq_true rfl⟩) dd_P_publish_5 (fun v1 M1 H locs hp hM hS => ?_)
  obtain ⟨ev1, eM1⟩ := hp
  subst ev1
  rw [eM1] at hM
  have hM : mm_ G (mu_ M (ap 22) (la_ G 11 (nl_ 1))) H := hM
  refine W.eq (g2 := F0 m 8 ls []) rfl ?_
  refine lv_aload_n hx hb dd_P_publish_8 rfl (lv_at hl 1 rfl) ?_
  refine mr_get C0 hM fk_P_103 (mu_n' (hne (i := (23 + 6 * k0)) (j := 22) (by omega)) (hE0 k0 (by omega))) (v := .ref (ap (24 + 6 * k0))) rfl dd_P_publish_9 ?_
  refine lv_aload_n hx hb dd_P_publish_12 rfl (lv_at hl 0 rfl) ?_
  refine mr_get C0 hM fk_P_50 (mu_n' (hne (i := 0) (j := 22) (by omega)) h_po) (v := .ref (ap 21)) rfl dd_P_publish_13 ?_
  refine mr_callV (As := [.ref (ap 21)]) (rest := []) C0 hM hS vk_P_162 (mu_n' (hne (i := (24 + 6 * k0)) (j := 22) (by omega)) (hE1 k0 (by omega))) rfl (c_T_multiplyInto l (mu_n' (hne (i := (24 + 6 * k0)) (j := 22) (by omega)) (hE1 k0 (by omega))) (mu_n' (hne (i := (26 + 6 * k0)) (j := 22) (by omega)) (hE3 k0 (by omega))) (mu_n' (hne (i := 21) (j := 22) (by omega)) h_no) mu_s  (fun j hj => (hro k0 hk0 j hj).2) (hLn k0) (hLp k0)) rfl rfl hl.1 (Nat.le_of_ble_eq_true rfl) rfl rfl (by subst hR; exact ⟨Nat.le_of_ble_eq_true rfl, Nat.le_of_ble_eq_true rfl⟩) (by subst hR; exact ⟨Nat.le_of_ble_eq_true rfl, Nat.le_of_ble_eq_true rfl⟩) dd_P_publish_16 (fun v1 M1 H locs hp hM hS => ?_)
  obtain ⟨ev1, eM1⟩ := hp
  subst ev1
  rw [eM1] at hM
  have hM := mr_M mu_mu hM
  have hM : mm_ G (mu_ M (ap 22) (la_ G 11 (nl_ (1 * pd_ (Ls k0))))) H := hM
  refine W.eq (g2 := F0 m 19 ls []) rfl ?_
  rw [Nat.one_mul] at hM
  have hM : mm_ G (mu_ M (ap 22) (la_ G 11 (nl_ (pd_ (Ls k0))))) H := hM
  refine lv_aload_n hx hb dd_P_publish_19 rfl (lv_at hl 0 rfl) ?_
  refine mr_get C0 hM fk_P_19 (mu_n' (hne (i := 0) (j := 22) (by omega)) h_po) (v := .ref (ap 3)) rfl dd_P_publish_20 ?_
  refine lv_aload_n hx hb dd_P_publish_23 rfl (lv_at hl 0 rfl) ?_
  refine mr_get C0 hM fk_P_19 (mu_n' (hne (i := 0) (j := 22) (by omega)) h_po) (v := .ref (ap 3)) rfl dd_P_publish_24 ?_
  refine mr_get C0 hM fk_P_181 (mu_n' (hne (i := 3) (j := 22) (by omega)) h_r) (v := .ref (ap 4)) rfl dd_P_publish_27 ?_
  refine lv_aload_n hx hb dd_P_publish_30 rfl (lv_at hl 0 rfl) ?_
  refine mr_get C0 hM fk_P_50 (mu_n' (hne (i := 0) (j := 22) (by omega)) h_po) (v := .ref (ap 21)) rfl dd_P_publish_31 ?_
  refine lv_aload_n hx hb dd_P_publish_34 rfl (lv_at hl 1 rfl) ?_
  refine mr_get C0 hM fk_P_113 (mu_n' (hne (i := (23 + 6 * k0)) (j := 22) (by omega)) (hE0 k0 (by omega))) (v := .ref (ap (27 + 6 * k0))) rfl dd_P_publish_35 ?_
  refine mr_callV (As := [.ref (ap 4), .ref (ap 21), .ref (ap (27 + 6 * k0))]) (rest := []) C0 hM hS vk_P_173 (mu_n' (hne (i := 3) (j := 22) (by omega)) h_r) rfl (c_R_power l (mu_n' (hne (i := 3) (j := 22) (by omega)) h_r) (mu_n' (hne (i := 7) (j := 22) (by omega)) h_mn) (mu_n' (hne (i := 8) (j := 22) (by omega)) h_mo) (mu_n' (hne (i := 9) (j := 22) (by omega)) h_mq) (mu_n' (hne (i := 6) (j := 22) (by omega)) h_un) (mu_n' (hne (i := 10) (j := 22) (by omega)) h_tt) (mu_n' (hne (i := 11) (j := 22) (by omega)) h_dd) (mu_n' (hne (i := 12) (j := 22) (by omega)) h_bb) (mu_n' (hne (i := 13) (j := 22) (by omega)) h_rr) (mu_n' (hne (i := 4) (j := 22) (by omega)) h_th) (mu_n' (hne (i := (27 + 6 * k0)) (j := 22) (by omega)) (hE4 k0 (by omega))) (mu_n' (hne (i := 21) (j := 22) (by omega)) h_no) mu_s (hne (i := 12) (j := 13) (by omega)) (hne (i := 11) (j := 12) (by omega)) (hne (i := 11) (j := 13) (by omega)) (hne (i := 22) (j := 12) (by omega)) (hne (i := 22) (j := 11) (by omega)) (hne (i := 22) (j := 13) (by omega)) (hne (i := 22) (j := 10) (by omega)) (hne (i := 7) (j := 12) (by omega)) (hne (i := 7) (j := 11) (by omega)) (hne (i := 7) (j := 13) (by omega)) (hne (i := 7) (j := 10) (by omega)) (hne (i := 8) (j := 12) (by omega)) (hne (i := 8) (j := 11) (by omega)) (hne (i := 8) (j := 13) (by omega)) (hne (i := 8) (j := 10) (by omega)) (hne (i := 9) (j := 12) (by omega)) (hne (i := 9) (j := 11) (by omega)) (hne (i := 9) (j := 13) (by omega)) (hne (i := 9) (j := 10) (by omega)) (hne (i := (27 + 6 * k0)) (j := 12) (by omega)) (hne (i := (27 + 6 * k0)) (j := 11) (by omega)) (hne (i := (27 + 6 * k0)) (j := 13) (by omega)) (hne (i := (27 + 6 * k0)) (j := 10) (by omega)) (hne (i := 10) (j := 12) (by omega)) (hne (i := 10) (j := 11) (by omega)) (hne (i := 10) (j := 13) (by omega)) (hne (i := 6) (j := 12) (by omega)) (hne (i := 6) (j := 11) (by omega)) (hne (i := 6) (j := 13) (by omega)) (hne (i := 6) (j := 10) (by omega)) (hne (i := 4) (j := 12) (by omega)) (hne (i := 4) (j := 11) (by omega)) (hne (i := 4) (j := 13) (by omega)) (hne (i := 4) (j := 10) (by omega)) hV3 hN1 (e352 hVl) hN hn1 hinv hBi) rfl rfl hl.1 (Nat.le_of_ble_eq_true rfl) rfl rfl (by subst hR; exact ⟨Nat.le_of_ble_eq_true rfl, Nat.le_of_ble_eq_true rfl⟩) (by subst hR; exact ⟨Nat.le_of_ble_eq_true rfl, Nat.le_of_ble_eq_true rfl⟩) dd_P_publish_38 (fun v1 M1 H locs hp hM hS => ?_)
  obtain ⟨ev1, t1, d1, q1, eM1⟩ := hp
  subst ev1
  rw [eM1] at hM
  have hM : mm_ G (mu_ (mu_ (mu_ (mu_ (mu_ (mu_ M (ap 22) (la_ G 11 (nl_ (pd_ (Ls k0))))) (ap 10) (la_ G 6 t1)) (ap 11) (la_ G 4 d1)) (ap 12) (la_ G 4 (nl_ (3 * 4294967296 ^ 4 % N)))) (ap 13) (la_ G 4 q1)) (ap (27 + 6 * k0)) (la_ G 4 (nl_ (3 ^ (pd_ (Ls k0)) % N)))) H := hM
  refine W.eq (g2 := F0 m 41 ls []) rfl ?_
  refine lv_aload_n hx hb dd_P_publish_41 rfl (lv_at hl 0 rfl) ?_
  refine mr_get C0 hM fk_P_19 (mu_n' (hne (i := 0) (j := (27 + 6 * k0)) (by omega)) (mu_n' (hne (i := 0) (j := 13) (by omega)) (mu_n' (hne (i := 0) (j := 12) (by omega)) (mu_n' (hne (i := 0) (j := 11) (by omega)) (mu_n' (hne (i := 0) (j := 10) (by omega)) (mu_n' (hne (i := 0) (j := 22) (by omega)) h_po)))))) (v := .ref (ap 3)) rfl dd_P_publish_42 ?_
  refine lv_aload_n hx hb dd_P_publish_45 rfl (lv_at hl 0 rfl) ?_
  refine mr_get C0 hM fk_P_19 (mu_n' (hne (i := 0) (j := (27 + 6 * k0)) (by omega)) (mu_n' (hne (i := 0) (j := 13) (by omega)) (mu_n' (hne (i := 0) (j := 12) (by omega)) (mu_n' (hne (i := 0) (j := 11) (by omega)) (mu_n' (hne (i := 0) (j := 10) (by omega)) (mu_n' (hne (i := 0) (j := 22) (by omega)) h_po)))))) (v := .ref (ap 3)) rfl dd_P_publish_46 ?_
  refine mr_get C0 hM fk_P_170 (mu_n' (hne (i := 3) (j := (27 + 6 * k0)) (by omega)) (mu_n' (hne (i := 3) (j := 13) (by omega)) (mu_n' (hne (i := 3) (j := 12) (by omega)) (mu_n' (hne (i := 3) (j := 11) (by omega)) (mu_n' (hne (i := 3) (j := 10) (by omega)) (mu_n' (hne (i := 3) (j := 22) (by omega)) h_r)))))) (v := .ref (ap 5)) rfl dd_P_publish_49 ?_
  refine lv_aload_n hx hb dd_P_publish_52 rfl (lv_at hl 0 rfl) ?_
  refine mr_get C0 hM fk_P_50 (mu_n' (hne (i := 0) (j := (27 + 6 * k0)) (by omega)) (mu_n' (hne (i := 0) (j := 13) (by omega)) (mu_n' (hne (i := 0) (j := 12) (by omega)) (mu_n' (hne (i := 0) (j := 11) (by omega)) (mu_n' (hne (i := 0) (j := 10) (by omega)) (mu_n' (hne (i := 0) (j := 22) (by omega)) h_po)))))) (v := .ref (ap 21)) rfl dd_P_publish_53 ?_
  refine lv_aload_n hx hb dd_P_publish_56 rfl (lv_at hl 1 rfl) ?_
  refine mr_get C0 hM fk_P_188 (mu_n' (hne (i := (23 + 6 * k0)) (j := (27 + 6 * k0)) (by omega)) (mu_n' (hne (i := (23 + 6 * k0)) (j := 13) (by omega)) (mu_n' (hne (i := (23 + 6 * k0)) (j := 12) (by omega)) (mu_n' (hne (i := (23 + 6 * k0)) (j := 11) (by omega)) (mu_n' (hne (i := (23 + 6 * k0)) (j := 10) (by omega)) (mu_n' (hne (i := (23 + 6 * k0)) (j := 22) (by omega)) (hE0 k0 (by omega)))))))) (v := .ref (ap (28 + 6 * k0))) rfl dd_P_publish_57 ?_
  refine mr_callV (As := [.ref (ap 5), .ref (ap 21), .ref (ap (28 + 6 * k0))]) (rest := []) C0 hM hS vk_P_173 (mu_n' (hne (i := 3) (j := (27 + 6 * k0)) (by omega)) (mu_n' (hne (i := 3) (j := 13) (by omega)) (mu_n' (hne (i := 3) (j := 12) (by omega)) (mu_n' (hne (i := 3) (j := 11) (by omega)) (mu_n' (hne (i := 3) (j := 10) (by omega)) (mu_n' (hne (i := 3) (j := 22) (by omega)) h_r)))))) rfl (c_R_power l (mu_n' (hne (i := 3) (j := (27 + 6 * k0)) (by omega)) (mu_n' (hne (i := 3) (j := 13) (by omega)) (mu_n' (hne (i := 3) (j := 12) (by omega)) (mu_n' (hne (i := 3) (j := 11) (by omega)) (mu_n' (hne (i := 3) (j := 10) (by omega)) (mu_n' (hne (i := 3) (j := 22) (by omega)) h_r)))))) (mu_n' (hne (i := 7) (j := (27 + 6 * k0)) (by omega)) (mu_n' (hne (i := 7) (j := 13) (by omega)) (mu_n' (hne (i := 7) (j := 12) (by omega)) (mu_n' (hne (i := 7) (j := 11) (by omega)) (mu_n' (hne (i := 7) (j := 10) (by omega)) (mu_n' (hne (i := 7) (j := 22) (by omega)) h_mn)))))) (mu_n' (hne (i := 8) (j := (27 + 6 * k0)) (by omega)) (mu_n' (hne (i := 8) (j := 13) (by omega)) (mu_n' (hne (i := 8) (j := 12) (by omega)) (mu_n' (hne (i := 8) (j := 11) (by omega)) (mu_n' (hne (i := 8) (j := 10) (by omega)) (mu_n' (hne (i := 8) (j := 22) (by omega)) h_mo)))))) (mu_n' (hne (i := 9) (j := (27 + 6 * k0)) (by omega)) (mu_n' (hne (i := 9) (j := 13) (by omega)) (mu_n' (hne (i := 9) (j := 12) (by omega)) (mu_n' (hne (i := 9) (j := 11) (by omega)) (mu_n' (hne (i := 9) (j := 10) (by omega)) (mu_n' (hne (i := 9) (j := 22) (by omega)) h_mq)))))) (mu_n' (hne (i := 6) (j := (27 + 6 * k0)) (by omega)) (mu_n' (hne (i := 6) (j := 13) (by omega)) (mu_n' (hne (i := 6) (j := 12) (by omega)) (mu_n' (hne (i := 6) (j := 11) (by omega)) (mu_n' (hne (i := 6) (j := 10) (by omega)) (mu_n' (hne (i := 6) (j := 22) (by omega)) h_un)))))) (mu_n' (hne (i := 10) (j := (27 + 6 * k0)) (by omega)) (mu_n' (hne (i := 10) (j := 13) (by omega)) (mu_n' (hne (i := 10) (j := 12) (by omega)) (mu_n' (hne (i := 10) (j := 11) (by omega)) mu_s)))) (mu_n' (hne (i := 11) (j := (27 + 6 * k0)) (by omega)) (mu_n' (hne (i := 11) (j := 13) (by omega)) (mu_n' (hne (i := 11) (j := 12) (by omega)) mu_s))) (mu_n' (hne (i := 12) (j := (27 + 6 * k0)) (by omega)) (mu_n' (hne (i := 12) (j := 13) (by omega)) mu_s)) (mu_n' (hne (i := 13) (j := (27 + 6 * k0)) (by omega)) mu_s) (mu_n' (hne (i := 5) (j := (27 + 6 * k0)) (by omega)) (mu_n' (hne (i := 5) (j := 13) (by omega)) (mu_n' (hne (i := 5) (j := 12) (by omega)) (mu_n' (hne (i := 5) (j := 11) (by omega)) (mu_n' (hne (i := 5) (j := 10) (by omega)) (mu_n' (hne (i := 5) (j := 22) (by omega)) h_td)))))) (mu_n' (hne (i := (28 + 6 * k0)) (j := (27 + 6 * k0)) (by omega)) (mu_n' (hne (i := (28 + 6 * k0)) (j := 13) (by omega)) (mu_n' (hne (i := (28 + 6 * k0)) (j := 12) (by omega)) (mu_n' (hne (i := (28 + 6 * k0)) (j := 11) (by omega)) (mu_n' (hne (i := (28 + 6 * k0)) (j := 10) (by omega)) (mu_n' (hne (i := (28 + 6 * k0)) (j := 22) (by omega)) (hE5 k0 (by omega)))))))) (mu_n' (hne (i := 21) (j := (27 + 6 * k0)) (by omega)) (mu_n' (hne (i := 21) (j := 13) (by omega)) (mu_n' (hne (i := 21) (j := 12) (by omega)) (mu_n' (hne (i := 21) (j := 11) (by omega)) (mu_n' (hne (i := 21) (j := 10) (by omega)) (mu_n' (hne (i := 21) (j := 22) (by omega)) h_no)))))) (mu_n' (hne (i := 22) (j := (27 + 6 * k0)) (by omega)) (mu_n' (hne (i := 22) (j := 13) (by omega)) (mu_n' (hne (i := 22) (j := 12) (by omega)) (mu_n' (hne (i := 22) (j := 11) (by omega)) (mu_n' (hne (i := 22) (j := 10) (by omega)) mu_s))))) (hne (i := 12) (j := 13) (by omega)) (hne (i := 11) (j := 12) (by omega)) (hne (i := 11) (j := 13) (by omega)) (hne (i := 22) (j := 12) (by omega)) (hne (i := 22) (j := 11) (by omega)) (hne (i := 22) (j := 13) (by omega)) (hne (i := 22) (j := 10) (by omega)) (hne (i := 7) (j := 12) (by omega)) (hne (i := 7) (j := 11) (by omega)) (hne (i := 7) (j := 13) (by omega)) (hne (i := 7) (j := 10) (by omega)) (hne (i := 8) (j := 12) (by omega)) (hne (i := 8) (j := 11) (by omega)) (hne (i := 8) (j := 13) (by omega)) (hne (i := 8) (j := 10) (by omega)) (hne (i := 9) (j := 12) (by omega)) (hne (i := 9) (j := 11) (by omega)) (hne (i := 9) (j := 13) (by omega)) (hne (i := 9) (j := 10) (by omega)) (hne (i := (28 + 6 * k0)) (j := 12) (by omega)) (hne (i := (28 + 6 * k0)) (j := 11) (by omega)) (hne (i := (28 + 6 * k0)) (j := 13) (by omega)) (hne (i := (28 + 6 * k0)) (j := 10) (by omega)) (hne (i := 10) (j := 12) (by omega)) (hne (i := 10) (j := 11) (by omega)) (hne (i := 10) (j := 13) (by omega)) (hne (i := 6) (j := 12) (by omega)) (hne (i := 6) (j := 11) (by omega)) (hne (i := 6) (j := 13) (by omega)) (hne (i := 6) (j := 10) (by omega)) (hne (i := 5) (j := 12) (by omega)) (hne (i := 5) (j := 11) (by omega)) (hne (i := 5) (j := 13) (by omega)) (hne (i := 5) (j := 10) (by omega)) hVt hN1 (e352 hVl) hN hn1 hinv hBi) rfl rfl hl.1 (Nat.le_of_ble_eq_true rfl) rfl rfl (by subst hR; exact ⟨Nat.le_of_ble_eq_true rfl, Nat.le_of_ble_eq_true rfl⟩) (by subst hR; exact ⟨Nat.le_of_ble_eq_true rfl, Nat.le_of_ble_eq_true rfl⟩) dd_P_publish_60 (fun v1 M1 H locs hp hM hS => ?_)
  obtain ⟨ev1, t2, d2, q2, eM1⟩ := hp
  subst ev1
  rw [eM1] at hM
  have hM := mr_M (congrArg (fun X__ => mu_ X__ (ap (28 + 6 * k0)) (la_ G 4 (nl_ (Vt ^ (pd_ (Ls k0)) % N)))) ((congrArg (fun X__ => mu_ X__ (ap 13) (la_ G 4 q2)) ((congrArg (fun X__ => mu_ X__ (ap 12) (la_ G 4 (nl_ (Vt * 4294967296 ^ 4 % N)))) ((congrArg (fun X__ => mu_ X__ (ap 11) (la_ G 4 d2)) (mu_c5 (hne (i := 10) (j := 11) (by omega)) (hne (i := 10) (j := 12) (by omega)) (hne (i := 10) (j := 13) (by omega)) (hne (i := 10) (j := (27 + 6 * k0)) (by omega)))).trans (mu_c4 (hne (i := 11) (j := 12) (by omega)) (hne (i := 11) (j := 13) (by omega)) (hne (i := 11) (j := (27 + 6 * k0)) (by omega))))).trans (mu_c3 (hne (i := 12) (j := 13) (by omega)) (hne (i := 12) (j := (27 + 6 * k0)) (by omega))))).trans (mu_c2 (hne (i := 13) (j := (27 + 6 * k0)) (by omega))))) hM
  have hM : mm_ G (mu_ (mu_ (mu_ (mu_ (mu_ (mu_ (mu_ M (ap 22) (la_ G 11 (nl_ (pd_ (Ls k0))))) (ap 10) (la_ G 6 t2)) (ap 11) (la_ G 4 d2)) (ap 12) (la_ G 4 (nl_ (Vt * 4294967296 ^ 4 % N)))) (ap 13) (la_ G 4 q2)) (ap (27 + 6 * k0)) (la_ G 4 (nl_ (3 ^ (pd_ (Ls k0)) % N)))) (ap (28 + 6 * k0)) (la_ G 4 (nl_ (Vt ^ (pd_ (Ls k0)) % N)))) H := hM
  refine W.eq (g2 := F0 m 63 ls []) rfl ?_
  exact mr_ret hQ (mr_vret C0 hM hS (⟨rfl, _, _, _, rfl⟩) dd_P_publish_63)

set_option maxHeartbeats 4000000 in
set_option maxRecDepth 100000 in
theorem c_P_computeIssued_s (l : Launch) {G : mg_} {M : mw_} {ap : Nat → Nat} {hs N Vt nw fc n1 Bi Ex : Nat} {Ls : Nat → rl_} {t0 d0 b0 q0 s0 : Nat → Int64} {ef : Nat → Nat → Int64} {eg : Nat → Nat → Int32} {sx : Int64}  (h_po : M (ap 0) = some (ob_ 5 [.ref (ap 1), .ref (ap 3), .ref (ap 14), .ref (ap 17), .ref (ap 18), .ref (ap 19), .ref (ap 20), .ref (ap 21), .int (nI hs), .int (nI nw), .int (nI fc)])) (h_r : M (ap 3) = some (ob_ 2 [.ref (ap 4), .ref (ap 5), .ref (ap 6), .ref (ap 7), .ref (ap 8), .ref (ap 9), .ref (ap 10), .ref (ap 11), .ref (ap 12), .ref (ap 13), .long (lN n1)])) (h_th : M (ap 4) = some (la_ G 4 (nl_ 3))) (h_td : M (ap 5) = some (la_ G 4 (nl_ Vt))) (h_un : M (ap 6) = some (la_ G 4 (nl_ 1))) (h_mn : M (ap 7) = some (la_ G 4 (nl_ N))) (h_mo : M (ap 8) = some (la_ G 4 (nl_ (4294967296 ^ 4 % N)))) (h_mq : M (ap 9) = some (la_ G 4 (nl_ (4294967296 ^ 8 % N)))) (h_tt : M (ap 10) = some (la_ G 6 t0)) (h_dd : M (ap 11) = some (la_ G 4 d0)) (h_bb : M (ap 12) = some (la_ G 4 b0)) (h_rr : M (ap 13) = some (la_ G 4 q0)) (h_no : M (ap 21) = some (ob_ 1 [.ref (ap 22)])) (h_nA : M (ap 22) = some (la_ G 11 (nl_ Ex))) (h_ep : M (ap 17) = some (qa_ G 17 (fun e => some (ap (23 + 6 * e))))) (h_sc : M (ap 19) = some (la_ G 4 s0))  (hne : ∀ {i j : Nat}, i ≠ j → ap i ≠ ap j) (hE0 : ∀ e, e < 17 → M (ap (23 + 6 * e)) = some (ob_ 0 [.ref (ap (24 + 6 * e)), .ref (ap (27 + 6 * e)), .ref (ap (28 + 6 * e))])) (hE1 : ∀ e, e < 17 → M (ap (24 + 6 * e)) = some (ob_ 3 [.ref (ap (25 + 6 * e)), .ref (ap (26 + 6 * e)), .int (nI (List.length (Ls e)))])) (hE2 : ∀ e, e < 17 → M (ap (25 + 6 * e)) = some (la_ G 10 (ef e))) (hE3 : ∀ e, e < 17 → M (ap (26 + 6 * e)) = some (ia_ G 10 (eg e))) (hN : N < 4294967296 ^ 4) (hN1 : 1 < N) (hn1 : n1 < 4294967296) (hinv : (n1 * N + 1) % 4294967296 = 0) (hBi : 4294967296 ^ 4 * Bi % N = 1 % N) (hV3 : 3 < N) (hLn : ∀ e, (Ls e).length ≤ 10) (hLp : ∀ e, ∀ x ∈ Ls e, x.2 < 2147483648) (hro : ∀ e, e < 17 → ro_ (ef e) (eg e) (Ls e)) (hnw : nw ≤ 16) : ct_ l my_P_computeIssued cd_P_computeIssued 4 none { frames := 4, cells := 0, slots := 0, locals := 109 } G [.ref (ap 0), .long sx, .ref (ap 19)] M (fun v0 M' => v0 = none ∧ ∃ (t9 : Nat → Int64) (d9 : Nat → Int64) (q9 : Nat → Int64), M' = mu_ (mu_ (mu_ (mu_ (mu_ (mu_ M (ap 22) (la_ G 11 (nl_ (pd_ (fs_ (Ls nw) sx))))) (ap 10) (la_ G 6 t9)) (ap 11) (la_ G 4 d9)) (ap 12) (la_ G 4 (nl_ (3 * 4294967296 ^ 4 % N)))) (ap 13) (la_ G 4 q9)) (ap 19) (la_ G 4 (nl_ (3 ^ pd_ (fs_ (Ls nw) sx) % N)))) 0 0 := by
  refine ct_.intro2 (by decide) (Nat.le_of_ble_eq_true rfl) ?_
  intro p e s m args below meth c ls R Q hR hQ C0 hl hM hS
  have hx := C0.1
  have hb := C0.2.1
  have hl : lv_has ls 4 [(0, .ref (ap 0)), (1, .long sx), (3, .ref (ap 19))] := hl
  have hnw17 : nw < 17 := by omega
  have hVl : pd_ (fs_ (Ls nw) sx) < 2 ^ 311 := pd_lt (fun x hx => hLp nw x (fs_mem hx)) (Nat.le_trans (List.length_filter_le _ _) (hLn nw))
  refine lv_aload_n hx hb dd_P_computeIssued_0 rfl (lv_at hl 0 rfl) ?_
  refine mr_get C0 hM fk_P_50 h_po (v := .ref (ap 21)) rfl dd_P_computeIssued_1 ?_
  refine lv_iconst (v := nI 1) hx hb dd_P_computeIssued_4 (by decide) ?_
  refine mr_callV (As := [.int (nI 1)]) (rest := []) C0 hM hS vk_P_160 h_no rfl (c_N_become l h_no h_nA  (by decide)) rfl rfl hl.1 (Nat.le_of_ble_eq_true rfl) rfl rfl (by subst hR; exact ⟨Nat.le_of_ble_eq_true rfl, Nat.le_of_ble_eq_true rfl⟩) (by subst hR; exact ⟨Nat.le_of_ble_eq_true rfl, Nat.le_of_ble_eq_true rfl⟩) dd_P_computeIssued_5 (fun v1 M1 H locs hp hM hS => ?_)
  obtain ⟨ev1, eM1⟩ := hp
  subst ev1
  rw [eM1] at hM
  have hM : mm_ G (mu_ M (ap 22) (la_ G 11 (nl_ 1))) H := hM
  refine W.eq (g2 := F0 m 8 ls []) rfl ?_
  refine lv_aload_n hx hb dd_P_computeIssued_8 rfl (lv_at hl 0 rfl) ?_
  refine mr_get C0 hM fk_P_32 (mu_n' (hne (i := 0) (j := 22) (by omega)) h_po) (v := .ref (ap 17)) rfl dd_P_computeIssued_9 ?_
  refine lv_aload_n hx hb dd_P_computeIssued_12 rfl (lv_at hl 0 rfl) ?_
  refine mr_get C0 hM fk_P_100 (mu_n' (hne (i := 0) (j := 22) (by omega)) h_po) (v := .int (nI nw)) rfl dd_P_computeIssued_13 ?_
  refine mr_aald C0 hM (mu_n' (hne (i := 17) (j := 22) (by omega)) h_ep) (nw) (rfl) (rfl) (by omega) (by decide) dd_P_computeIssued_16 ?_
  refine mr_get C0 hM fk_P_103 (mu_n' (hne (i := (23 + 6 * nw)) (j := 22) (by omega)) (hE0 nw (by omega))) (v := .ref (ap (24 + 6 * nw))) rfl dd_P_computeIssued_17 ?_
  refine lv_lload_n hx hb dd_P_computeIssued_20 rfl (lv_at hl 1 rfl) ?_
  refine lv_aload_n hx hb dd_P_computeIssued_21 rfl (lv_at hl 0 rfl) ?_
  refine mr_get C0 hM fk_P_50 (mu_n' (hne (i := 0) (j := 22) (by omega)) h_po) (v := .ref (ap 21)) rfl dd_P_computeIssued_22 ?_
  refine mr_callV (As := [.long sx, .ref (ap 21)]) (rest := []) C0 hM hS vk_P_191 (mu_n' (hne (i := (24 + 6 * nw)) (j := 22) (by omega)) (hE1 nw (by omega))) rfl (c_T_multiplyOthersInto l (mu_n' (hne (i := (24 + 6 * nw)) (j := 22) (by omega)) (hE1 nw (by omega))) (mu_n' (hne (i := (25 + 6 * nw)) (j := 22) (by omega)) (hE2 nw (by omega))) (mu_n' (hne (i := (26 + 6 * nw)) (j := 22) (by omega)) (hE3 nw (by omega))) (mu_n' (hne (i := 21) (j := 22) (by omega)) h_no) mu_s (hne (i := (25 + 6 * nw)) (j := 22) (by omega)) (hro nw hnw17) (hLn nw) (hLp nw)) rfl rfl hl.1 (Nat.le_of_ble_eq_true rfl) rfl rfl (by subst hR; exact ⟨Nat.le_of_ble_eq_true rfl, Nat.le_of_ble_eq_true rfl⟩) (by subst hR; exact ⟨Nat.le_of_ble_eq_true rfl, Nat.le_of_ble_eq_true rfl⟩) dd_P_computeIssued_25 (fun v1 M1 H locs hp hM hS => ?_)
  obtain ⟨ev1, eM1⟩ := hp
  subst ev1
  rw [eM1] at hM
  have hM := mr_M mu_mu hM
  have hM : mm_ G (mu_ M (ap 22) (la_ G 11 (nl_ (1 * pd_ (fs_ (Ls nw) sx))))) H := hM
  refine W.eq (g2 := F0 m 28 ls []) rfl ?_
  rw [Nat.one_mul] at hM
  have hM : mm_ G (mu_ M (ap 22) (la_ G 11 (nl_ (pd_ (fs_ (Ls nw) sx))))) H := hM
  refine lv_aload_n hx hb dd_P_computeIssued_28 rfl (lv_at hl 0 rfl) ?_
  refine mr_get C0 hM fk_P_19 (mu_n' (hne (i := 0) (j := 22) (by omega)) h_po) (v := .ref (ap 3)) rfl dd_P_computeIssued_29 ?_
  refine lv_aload_n hx hb dd_P_computeIssued_32 rfl (lv_at hl 0 rfl) ?_
  refine mr_get C0 hM fk_P_19 (mu_n' (hne (i := 0) (j := 22) (by omega)) h_po) (v := .ref (ap 3)) rfl dd_P_computeIssued_33 ?_
  refine mr_get C0 hM fk_P_181 (mu_n' (hne (i := 3) (j := 22) (by omega)) h_r) (v := .ref (ap 4)) rfl dd_P_computeIssued_36 ?_
  refine lv_aload_n hx hb dd_P_computeIssued_39 rfl (lv_at hl 0 rfl) ?_
  refine mr_get C0 hM fk_P_50 (mu_n' (hne (i := 0) (j := 22) (by omega)) h_po) (v := .ref (ap 21)) rfl dd_P_computeIssued_40 ?_
  refine lv_aload_n hx hb dd_P_computeIssued_43 rfl (lv_at hl 2 rfl) ?_
  refine mr_callV (As := [.ref (ap 4), .ref (ap 21), .ref (ap 19)]) (rest := []) C0 hM hS vk_P_173 (mu_n' (hne (i := 3) (j := 22) (by omega)) h_r) rfl (c_R_power l (mu_n' (hne (i := 3) (j := 22) (by omega)) h_r) (mu_n' (hne (i := 7) (j := 22) (by omega)) h_mn) (mu_n' (hne (i := 8) (j := 22) (by omega)) h_mo) (mu_n' (hne (i := 9) (j := 22) (by omega)) h_mq) (mu_n' (hne (i := 6) (j := 22) (by omega)) h_un) (mu_n' (hne (i := 10) (j := 22) (by omega)) h_tt) (mu_n' (hne (i := 11) (j := 22) (by omega)) h_dd) (mu_n' (hne (i := 12) (j := 22) (by omega)) h_bb) (mu_n' (hne (i := 13) (j := 22) (by omega)) h_rr) (mu_n' (hne (i := 4) (j := 22) (by omega)) h_th) (mu_n' (hne (i := 19) (j := 22) (by omega)) h_sc) (mu_n' (hne (i := 21) (j := 22) (by omega)) h_no) mu_s (hne (i := 12) (j := 13) (by omega)) (hne (i := 11) (j := 12) (by omega)) (hne (i := 11) (j := 13) (by omega)) (hne (i := 22) (j := 12) (by omega)) (hne (i := 22) (j := 11) (by omega)) (hne (i := 22) (j := 13) (by omega)) (hne (i := 22) (j := 10) (by omega)) (hne (i := 7) (j := 12) (by omega)) (hne (i := 7) (j := 11) (by omega)) (hne (i := 7) (j := 13) (by omega)) (hne (i := 7) (j := 10) (by omega)) (hne (i := 8) (j := 12) (by omega)) (hne (i := 8) (j := 11) (by omega)) (hne (i := 8) (j := 13) (by omega)) (hne (i := 8) (j := 10) (by omega)) (hne (i := 9) (j := 12) (by omega)) (hne (i := 9) (j := 11) (by omega)) (hne (i := 9) (j := 13) (by omega)) (hne (i := 9) (j := 10) (by omega)) (hne (i := 19) (j := 12) (by omega)) (hne (i := 19) (j := 11) (by omega)) (hne (i := 19) (j := 13) (by omega)) (hne (i := 19) (j := 10) (by omega)) (hne (i := 10) (j := 12) (by omega)) (hne (i := 10) (j := 11) (by omega)) (hne (i := 10) (j := 13) (by omega)) (hne (i := 6) (j := 12) (by omega)) (hne (i := 6) (j := 11) (by omega)) (hne (i := 6) (j := 13) (by omega)) (hne (i := 6) (j := 10) (by omega)) (hne (i := 4) (j := 12) (by omega)) (hne (i := 4) (j := 11) (by omega)) (hne (i := 4) (j := 13) (by omega)) (hne (i := 4) (j := 10) (by omega)) hV3 hN1 (e352 hVl) hN hn1 hinv hBi) rfl rfl hl.1 (Nat.le_of_ble_eq_true rfl) rfl rfl (by subst hR; exact ⟨Nat.le_of_ble_eq_true rfl, Nat.le_of_ble_eq_true rfl⟩) (by subst hR; exact ⟨Nat.le_of_ble_eq_true rfl, Nat.le_of_ble_eq_true rfl⟩) dd_P_computeIssued_44 (fun v1 M1 H locs hp hM hS => ?_)
  obtain ⟨ev1, t1, d1, q1, eM1⟩ := hp
  subst ev1
  rw [eM1] at hM
  have hM : mm_ G (mu_ (mu_ (mu_ (mu_ (mu_ (mu_ M (ap 22) (la_ G 11 (nl_ (pd_ (fs_ (Ls nw) sx))))) (ap 10) (la_ G 6 t1)) (ap 11) (la_ G 4 d1)) (ap 12) (la_ G 4 (nl_ (3 * 4294967296 ^ 4 % N)))) (ap 13) (la_ G 4 q1)) (ap 19) (la_ G 4 (nl_ (3 ^ (pd_ (fs_ (Ls nw) sx)) % N)))) H := hM
  refine W.eq (g2 := F0 m 47 ls []) rfl ?_
  exact mr_ret hQ (mr_vret C0 hM hS (⟨rfl, _, _, _, rfl⟩) dd_P_computeIssued_47)

set_option maxHeartbeats 4000000 in
set_option maxRecDepth 100000 in
theorem c_P_computeIssued_h (l : Launch) {G : mg_} {M : mw_} {ap : Nat → Nat} {hs N Vt nw Hd fc n1 Bi Ex : Nat} {Ls : Nat → rl_} {t0 d0 b0 q0 : Nat → Int64} {ef : Nat → Nat → Int64} {eg : Nat → Nat → Int32} {sx : Int64}  (h_po : M (ap 0) = some (ob_ 5 [.ref (ap 1), .ref (ap 3), .ref (ap 14), .ref (ap 17), .ref (ap 18), .ref (ap 19), .ref (ap 20), .ref (ap 21), .int (nI hs), .int (nI nw), .int (nI fc)])) (h_r : M (ap 3) = some (ob_ 2 [.ref (ap 4), .ref (ap 5), .ref (ap 6), .ref (ap 7), .ref (ap 8), .ref (ap 9), .ref (ap 10), .ref (ap 11), .ref (ap 12), .ref (ap 13), .long (lN n1)])) (h_th : M (ap 4) = some (la_ G 4 (nl_ 3))) (h_td : M (ap 5) = some (la_ G 4 (nl_ Vt))) (h_un : M (ap 6) = some (la_ G 4 (nl_ 1))) (h_mn : M (ap 7) = some (la_ G 4 (nl_ N))) (h_mo : M (ap 8) = some (la_ G 4 (nl_ (4294967296 ^ 4 % N)))) (h_mq : M (ap 9) = some (la_ G 4 (nl_ (4294967296 ^ 8 % N)))) (h_tt : M (ap 10) = some (la_ G 6 t0)) (h_dd : M (ap 11) = some (la_ G 4 d0)) (h_bb : M (ap 12) = some (la_ G 4 b0)) (h_rr : M (ap 13) = some (la_ G 4 q0)) (h_no : M (ap 21) = some (ob_ 1 [.ref (ap 22)])) (h_nA : M (ap 22) = some (la_ G 11 (nl_ Ex))) (h_ep : M (ap 17) = some (qa_ G 17 (fun e => some (ap (23 + 6 * e))))) (h_hd : M (ap 18) = some (la_ G 4 (nl_ Hd)))  (hne : ∀ {i j : Nat}, i ≠ j → ap i ≠ ap j) (hE0 : ∀ e, e < 17 → M (ap (23 + 6 * e)) = some (ob_ 0 [.ref (ap (24 + 6 * e)), .ref (ap (27 + 6 * e)), .ref (ap (28 + 6 * e))])) (hE1 : ∀ e, e < 17 → M (ap (24 + 6 * e)) = some (ob_ 3 [.ref (ap (25 + 6 * e)), .ref (ap (26 + 6 * e)), .int (nI (List.length (Ls e)))])) (hE2 : ∀ e, e < 17 → M (ap (25 + 6 * e)) = some (la_ G 10 (ef e))) (hE3 : ∀ e, e < 17 → M (ap (26 + 6 * e)) = some (ia_ G 10 (eg e))) (hN : N < 4294967296 ^ 4) (hN1 : 1 < N) (hn1 : n1 < 4294967296) (hinv : (n1 * N + 1) % 4294967296 = 0) (hBi : 4294967296 ^ 4 * Bi % N = 1 % N) (hV3 : 3 < N) (hLn : ∀ e, (Ls e).length ≤ 10) (hLp : ∀ e, ∀ x ∈ Ls e, x.2 < 2147483648) (hro : ∀ e, e < 17 → ro_ (ef e) (eg e) (Ls e)) (hnw : nw ≤ 16) : ct_ l my_P_computeIssued cd_P_computeIssued 4 none { frames := 4, cells := 0, slots := 0, locals := 109 } G [.ref (ap 0), .long sx, .ref (ap 18)] M (fun v0 M' => v0 = none ∧ ∃ (t9 : Nat → Int64) (d9 : Nat → Int64) (q9 : Nat → Int64), M' = mu_ (mu_ (mu_ (mu_ (mu_ (mu_ M (ap 22) (la_ G 11 (nl_ (pd_ (fs_ (Ls nw) sx))))) (ap 10) (la_ G 6 t9)) (ap 11) (la_ G 4 d9)) (ap 12) (la_ G 4 (nl_ (3 * 4294967296 ^ 4 % N)))) (ap 13) (la_ G 4 q9)) (ap 18) (la_ G 4 (nl_ (3 ^ pd_ (fs_ (Ls nw) sx) % N)))) 0 0 := by
  refine ct_.intro2 (by decide) (Nat.le_of_ble_eq_true rfl) ?_
  intro p e s m args below meth c ls R Q hR hQ C0 hl hM hS
  have hx := C0.1
  have hb := C0.2.1
  have hl : lv_has ls 4 [(0, .ref (ap 0)), (1, .long sx), (3, .ref (ap 18))] := hl
  have hnw17 : nw < 17 := by omega
  have hVl : pd_ (fs_ (Ls nw) sx) < 2 ^ 311 := pd_lt (fun x hx => hLp nw x (fs_mem hx)) (Nat.le_trans (List.length_filter_le _ _) (hLn nw))
  refine lv_aload_n hx hb dd_P_computeIssued_0 rfl (lv_at hl 0 rfl) ?_
  refine mr_get C0 hM fk_P_50 h_po (v := .ref (ap 21)) rfl dd_P_computeIssued_1 ?_
  refine lv_iconst (v := nI 1) hx hb dd_P_computeIssued_4 (by decide) ?_
  refine mr_callV (As := [.int (nI 1)]) (rest := []) C0 hM hS vk_P_160 h_no rfl (c_N_become l h_no h_nA  (by decide)) rfl rfl hl.1 (Nat.le_of_ble_eq_true rfl) rfl rfl (by subst hR; exact ⟨Nat.le_of_ble_eq_true rfl, Nat.le_of_ble_eq_true rfl⟩) (by subst hR; exact ⟨Nat.le_of_ble_eq_true rfl, Nat.le_of_ble_eq_true rfl⟩) dd_P_computeIssued_5 (fun v1 M1 H locs hp hM hS => ?_)
  obtain ⟨ev1, eM1⟩ := hp
  subst ev1
  rw [eM1] at hM
  have hM : mm_ G (mu_ M (ap 22) (la_ G 11 (nl_ 1))) H := hM
  refine W.eq (g2 := F0 m 8 ls []) rfl ?_
  refine lv_aload_n hx hb dd_P_computeIssued_8 rfl (lv_at hl 0 rfl) ?_
  refine mr_get C0 hM fk_P_32 (mu_n' (hne (i := 0) (j := 22) (by omega)) h_po) (v := .ref (ap 17)) rfl dd_P_computeIssued_9 ?_
  refine lv_aload_n hx hb dd_P_computeIssued_12 rfl (lv_at hl 0 rfl) ?_
  refine mr_get C0 hM fk_P_100 (mu_n' (hne (i := 0) (j := 22) (by omega)) h_po) (v := .int (nI nw)) rfl dd_P_computeIssued_13 ?_
  refine mr_aald C0 hM (mu_n' (hne (i := 17) (j := 22) (by omega)) h_ep) (nw) (rfl) (rfl) (by omega) (by decide) dd_P_computeIssued_16 ?_
  refine mr_get C0 hM fk_P_103 (mu_n' (hne (i := (23 + 6 * nw)) (j := 22) (by omega)) (hE0 nw (by omega))) (v := .ref (ap (24 + 6 * nw))) rfl dd_P_computeIssued_17 ?_
  refine lv_lload_n hx hb dd_P_computeIssued_20 rfl (lv_at hl 1 rfl) ?_
  refine lv_aload_n hx hb dd_P_computeIssued_21 rfl (lv_at hl 0 rfl) ?_
  refine mr_get C0 hM fk_P_50 (mu_n' (hne (i := 0) (j := 22) (by omega)) h_po) (v := .ref (ap 21)) rfl dd_P_computeIssued_22 ?_
  refine mr_callV (As := [.long sx, .ref (ap 21)]) (rest := []) C0 hM hS vk_P_191 (mu_n' (hne (i := (24 + 6 * nw)) (j := 22) (by omega)) (hE1 nw (by omega))) rfl (c_T_multiplyOthersInto l (mu_n' (hne (i := (24 + 6 * nw)) (j := 22) (by omega)) (hE1 nw (by omega))) (mu_n' (hne (i := (25 + 6 * nw)) (j := 22) (by omega)) (hE2 nw (by omega))) (mu_n' (hne (i := (26 + 6 * nw)) (j := 22) (by omega)) (hE3 nw (by omega))) (mu_n' (hne (i := 21) (j := 22) (by omega)) h_no) mu_s (hne (i := (25 + 6 * nw)) (j := 22) (by omega)) (hro nw hnw17) (hLn nw) (hLp nw)) rfl rfl hl.1 (Nat.le_of_ble_eq_true rfl) rfl rfl (by subst hR; exact ⟨Nat.le_of_ble_eq_true rfl, Nat.le_of_ble_eq_true rfl⟩) (by subst hR; exact ⟨Nat.le_of_ble_eq_true rfl, Nat.le_of_ble_eq_true rfl⟩) dd_P_computeIssued_25 (fun v1 M1 H locs hp hM hS => ?_)
  obtain ⟨ev1, eM1⟩ := hp
  subst ev1
  rw [eM1] at hM
  have hM := mr_M mu_mu hM
  have hM : mm_ G (mu_ M (ap 22) (la_ G 11 (nl_ (1 * pd_ (fs_ (Ls nw) sx))))) H := hM
  refine W.eq (g2 := F0 m 28 ls []) rfl ?_
  rw [Nat.one_mul] at hM
  have hM : mm_ G (mu_ M (ap 22) (la_ G 11 (nl_ (pd_ (fs_ (Ls nw) sx))))) H := hM
  refine lv_aload_n hx hb dd_P_computeIssued_28 rfl (lv_at hl 0 rfl) ?_
  refine mr_get C0 hM fk_P_19 (mu_n' (hne (i := 0) (j := 22) (by omega)) h_po) (v := .ref (ap 3)) rfl dd_P_computeIssued_29 ?_
  refine lv_aload_n hx hb dd_P_computeIssued_32 rfl (lv_at hl 0 rfl) ?_
  refine mr_get C0 hM fk_P_19 (mu_n' (hne (i := 0) (j := 22) (by omega)) h_po) (v := .ref (ap 3)) rfl dd_P_computeIssued_33 ?_
  refine mr_get C0 hM fk_P_181 (mu_n' (hne (i := 3) (j := 22) (by omega)) h_r) (v := .ref (ap 4)) rfl dd_P_computeIssued_36 ?_
  refine lv_aload_n hx hb dd_P_computeIssued_39 rfl (lv_at hl 0 rfl) ?_
  refine mr_get C0 hM fk_P_50 (mu_n' (hne (i := 0) (j := 22) (by omega)) h_po) (v := .ref (ap 21)) rfl dd_P_computeIssued_40 ?_
  refine lv_aload_n hx hb dd_P_computeIssued_43 rfl (lv_at hl 2 rfl) ?_
  refine mr_callV (As := [.ref (ap 4), .ref (ap 21), .ref (ap 18)]) (rest := []) C0 hM hS vk_P_173 (mu_n' (hne (i := 3) (j := 22) (by omega)) h_r) rfl (c_R_power l (mu_n' (hne (i := 3) (j := 22) (by omega)) h_r) (mu_n' (hne (i := 7) (j := 22) (by omega)) h_mn) (mu_n' (hne (i := 8) (j := 22) (by omega)) h_mo) (mu_n' (hne (i := 9) (j := 22) (by omega)) h_mq) (mu_n' (hne (i := 6) (j := 22) (by omega)) h_un) (mu_n' (hne (i := 10) (j := 22) (by omega)) h_tt) (mu_n' (hne (i := 11) (j := 22) (by omega)) h_dd) (mu_n' (hne (i := 12) (j := 22) (by omega)) h_bb) (mu_n' (hne (i := 13) (j := 22) (by omega)) h_rr) (mu_n' (hne (i := 4) (j := 22) (by omega)) h_th) (mu_n' (hne (i := 18) (j := 22) (by omega)) h_hd) (mu_n' (hne (i := 21) (j := 22) (by omega)) h_no) mu_s (hne (i := 12) (j := 13) (by omega)) (hne (i := 11) (j := 12) (by omega)) (hne (i := 11) (j := 13) (by omega)) (hne (i := 22) (j := 12) (by omega)) (hne (i := 22) (j := 11) (by omega)) (hne (i := 22) (j := 13) (by omega)) (hne (i := 22) (j := 10) (by omega)) (hne (i := 7) (j := 12) (by omega)) (hne (i := 7) (j := 11) (by omega)) (hne (i := 7) (j := 13) (by omega)) (hne (i := 7) (j := 10) (by omega)) (hne (i := 8) (j := 12) (by omega)) (hne (i := 8) (j := 11) (by omega)) (hne (i := 8) (j := 13) (by omega)) (hne (i := 8) (j := 10) (by omega)) (hne (i := 9) (j := 12) (by omega)) (hne (i := 9) (j := 11) (by omega)) (hne (i := 9) (j := 13) (by omega)) (hne (i := 9) (j := 10) (by omega)) (hne (i := 18) (j := 12) (by omega)) (hne (i := 18) (j := 11) (by omega)) (hne (i := 18) (j := 13) (by omega)) (hne (i := 18) (j := 10) (by omega)) (hne (i := 10) (j := 12) (by omega)) (hne (i := 10) (j := 11) (by omega)) (hne (i := 10) (j := 13) (by omega)) (hne (i := 6) (j := 12) (by omega)) (hne (i := 6) (j := 11) (by omega)) (hne (i := 6) (j := 13) (by omega)) (hne (i := 6) (j := 10) (by omega)) (hne (i := 4) (j := 12) (by omega)) (hne (i := 4) (j := 11) (by omega)) (hne (i := 4) (j := 13) (by omega)) (hne (i := 4) (j := 10) (by omega)) hV3 hN1 (e352 hVl) hN hn1 hinv hBi) rfl rfl hl.1 (Nat.le_of_ble_eq_true rfl) rfl rfl (by subst hR; exact ⟨Nat.le_of_ble_eq_true rfl, Nat.le_of_ble_eq_true rfl⟩) (by subst hR; exact ⟨Nat.le_of_ble_eq_true rfl, Nat.le_of_ble_eq_true rfl⟩) dd_P_computeIssued_44 (fun v1 M1 H locs hp hM hS => ?_)
  obtain ⟨ev1, t1, d1, q1, eM1⟩ := hp
  subst ev1
  rw [eM1] at hM
  have hM : mm_ G (mu_ (mu_ (mu_ (mu_ (mu_ (mu_ M (ap 22) (la_ G 11 (nl_ (pd_ (fs_ (Ls nw) sx))))) (ap 10) (la_ G 6 t1)) (ap 11) (la_ G 4 d1)) (ap 12) (la_ G 4 (nl_ (3 * 4294967296 ^ 4 % N)))) (ap 13) (la_ G 4 q1)) (ap 18) (la_ G 4 (nl_ (3 ^ (pd_ (fs_ (Ls nw) sx)) % N)))) H := hM
  refine W.eq (g2 := F0 m 47 ls []) rfl ?_
  exact mr_ret hQ (mr_vret C0 hM hS (⟨rfl, _, _, _, rfl⟩) dd_P_computeIssued_47)

set_option maxHeartbeats 4000000 in
set_option maxRecDepth 100000 in
theorem c_P_inverseThenQuotient (l : Launch) {G : mg_} {M : mw_} {ap : Nat → Nat} {hs nw fc Ex : Nat} {p0 : Nat}  (h_po : M (ap 0) = some (ob_ 5 [.ref (ap 1), .ref (ap 3), .ref (ap 14), .ref (ap 17), .ref (ap 18), .ref (ap 19), .ref (ap 20), .ref (ap 21), .int (nI hs), .int (nI nw), .int (nI fc)])) (h_no : M (ap 21) = some (ob_ 1 [.ref (ap 22)])) (h_nA : M (ap 22) = some (la_ G 11 (nl_ Ex)))  (hne : ∀ {i j : Nat}, i ≠ j → ap i ≠ ap j)  (hE : Ex < 2 ^ 311) (hp2 : 2 ≤ p0) (hp31 : p0 < 2147483648) : dt_ l my_P_inverseThenQuotient cd_P_inverseThenQuotient 3 (some .int) { frames := 2, cells := 0, slots := 0, locals := 47 } G [.ref (ap 0), .int (nI p0)] M (some (.int (nI (eb_ Ex p0)))) (mu_ M (ap 22) (la_ G 11 (nl_ (eq_ Ex p0)))) 0 0 := by
  refine ct_.intro2 (by decide) (Nat.le_of_ble_eq_true rfl) ?_
  intro p e s m args below meth c ls R Q hR hQ C0 hl hM hS
  have hx := C0.1
  have hb := C0.2.1
  have hl : lv_has ls 3 [(0, .ref (ap 0)), (1, .int (nI p0))] := hl
  have hbl : (eb_ Ex p0) < 2147483648 := Nat.lt_trans (Nat.mod_lt _ (by omega)) hp31
  have hEB : Ex < 4294967296 ^ 11 := Nat.lt_trans hE (by decide)
  have hVB : Ex * (eb_ Ex p0) < 4294967296 ^ 11 := Nat.lt_trans (vb_lt hE hbl) (by decide)
  refine lv_aload_n hx hb dd_P_inverseThenQuotient_0 rfl (lv_at hl 0 rfl) ?_
  refine mr_get C0 hM fk_P_50 h_po (v := .ref (ap 21)) rfl dd_P_inverseThenQuotient_1 ?_
  refine lv_iload_n hx hb dd_P_inverseThenQuotient_4 rfl (lv_at hl 1 rfl) ?_
  refine mr_callV (As := [.int (nI p0)]) (rest := []) C0 hM hS vk_P_199 h_no rfl (c_N_remainder l h_no h_nA  hEB (by omega) hp31) rfl rfl hl.1 (Nat.le_of_ble_eq_true rfl) rfl rfl (by subst hR; exact ⟨Nat.le_of_ble_eq_true rfl, Nat.le_of_ble_eq_true rfl⟩) (by subst hR; exact ⟨Nat.le_of_ble_eq_true rfl, Nat.le_of_ble_eq_true rfl⟩) dd_P_inverseThenQuotient_5 (fun v1 M1 H locs hp hM hS => ?_)
  obtain ⟨ev1, eM1⟩ := hp
  subst ev1
  rw [eM1] at hM
  refine W.eq (g2 := F0 m 8 ls [.int (nI (Ex % p0))]) rfl ?_
  refine lv_iload_n hx hb dd_P_inverseThenQuotient_8 rfl (lv_at hl 1 rfl) ?_
  refine mr_callS (As := [.int (nI (Ex % p0)), .int (nI p0)]) (rest := []) C0 hM hS sk_P_202 (c_S_inverse l (Nat.lt_trans (Nat.mod_lt _ (by omega)) hp31) hp31 hp2) rfl rfl hl.1 (Nat.le_of_ble_eq_true rfl) rfl rfl (by subst hR; exact ⟨Nat.le_of_ble_eq_true rfl, Nat.le_of_ble_eq_true rfl⟩) (by subst hR; exact ⟨Nat.le_of_ble_eq_true rfl, Nat.le_of_ble_eq_true rfl⟩) dd_P_inverseThenQuotient_9 (fun v1 M1 H locs hp hM hS => ?_)
  obtain ⟨ev1, eM1⟩ := hp
  subst ev1
  rw [eM1] at hM
  refine W.eq (g2 := F0 m 12 ls [.int (nI (eb_ Ex p0))]) rfl ?_
  refine lv_istore_n (lv' := [(2, .int (nI (eb_ Ex p0))), (0, .ref (ap 0)), (1, .int (nI p0))]) hx hb dd_P_inverseThenQuotient_12 rfl hl (by decide) rfl (fun ls hl => ?_)
  refine lv_aload_n hx hb dd_P_inverseThenQuotient_13 rfl (lv_at hl 1 rfl) ?_
  refine mr_get C0 hM fk_P_50 h_po (v := .ref (ap 21)) rfl dd_P_inverseThenQuotient_14 ?_
  refine lv_iload_n hx hb dd_P_inverseThenQuotient_17 rfl (lv_at hl 0 rfl) ?_
  refine mr_callV (As := [.int (nI (eb_ Ex p0))]) (rest := []) C0 hM hS vk_P_205 h_no rfl (c_N_multiply l h_no h_nA  hbl) rfl rfl hl.1 (Nat.le_of_ble_eq_true rfl) rfl rfl (by subst hR; exact ⟨Nat.le_of_ble_eq_true rfl, Nat.le_of_ble_eq_true rfl⟩) (by subst hR; exact ⟨Nat.le_of_ble_eq_true rfl, Nat.le_of_ble_eq_true rfl⟩) dd_P_inverseThenQuotient_18 (fun v1 M1 H locs hp hM hS => ?_)
  obtain ⟨ev1, eM1⟩ := hp
  subst ev1
  rw [eM1] at hM
  have hM : mm_ G (mu_ M (ap 22) (la_ G 11 (nl_ (Ex * (eb_ Ex p0))))) H := hM
  refine W.eq (g2 := F0 m 21 ls []) rfl ?_
  refine lv_aload_n hx hb dd_P_inverseThenQuotient_21 rfl (lv_at hl 1 rfl) ?_
  refine mr_get C0 hM fk_P_50 (mu_n' (hne (i := 0) (j := 22) (by omega)) h_po) (v := .ref (ap 21)) rfl dd_P_inverseThenQuotient_22 ?_
  refine lv_iload_n hx hb dd_P_inverseThenQuotient_25 rfl (lv_at hl 2 rfl) ?_
  refine mr_callV (As := [.int (nI p0)]) (rest := []) C0 hM hS vk_P_207 (mu_n' (hne (i := 21) (j := 22) (by omega)) h_no) rfl (c_N_divide l (mu_n' (hne (i := 21) (j := 22) (by omega)) h_no) mu_s  hVB (by omega) hp31) rfl rfl hl.1 (Nat.le_of_ble_eq_true rfl) rfl rfl (by subst hR; exact ⟨Nat.le_of_ble_eq_true rfl, Nat.le_of_ble_eq_true rfl⟩) (by subst hR; exact ⟨Nat.le_of_ble_eq_true rfl, Nat.le_of_ble_eq_true rfl⟩) dd_P_inverseThenQuotient_26 (fun v1 M1 H locs hp hM hS => ?_)
  obtain ⟨ev1, eM1⟩ := hp
  subst ev1
  rw [eM1] at hM
  have hM := mr_M mu_mu hM
  have hM : mm_ G (mu_ M (ap 22) (la_ G 11 (nl_ (eq_ Ex p0)))) H := hM
  refine W.eq (g2 := F0 m 29 ls []) rfl ?_
  refine lv_iload_n hx hb dd_P_inverseThenQuotient_29 rfl (lv_at hl 0 rfl) ?_
  exact mr_ret hQ (mr_iret C0 hM hS (rfl) (⟨rfl, rfl⟩) dd_P_inverseThenQuotient_30)

set_option maxHeartbeats 4000000 in
set_option maxRecDepth 100000 in
theorem c_P_takeInAdded (l : Launch) {G : mg_} {M : mw_} {ap : Nat → Nat} {hs N Vt nw Hd fc n1 Bi Ex : Nat} {Ls : Nat → rl_} {t0 d0 b0 q0 : Nat → Int64} {ef : Nat → Nat → Int64} {eg : Nat → Nat → Int32} {k1 : Nat}  (h_po : M (ap 0) = some (ob_ 5 [.ref (ap 1), .ref (ap 3), .ref (ap 14), .ref (ap 17), .ref (ap 18), .ref (ap 19), .ref (ap 20), .ref (ap 21), .int (nI hs), .int (nI nw), .int (nI fc)])) (h_r : M (ap 3) = some (ob_ 2 [.ref (ap 4), .ref (ap 5), .ref (ap 6), .ref (ap 7), .ref (ap 8), .ref (ap 9), .ref (ap 10), .ref (ap 11), .ref (ap 12), .ref (ap 13), .long (lN n1)])) (h_th : M (ap 4) = some (la_ G 4 (nl_ 3))) (h_td : M (ap 5) = some (la_ G 4 (nl_ Vt))) (h_un : M (ap 6) = some (la_ G 4 (nl_ 1))) (h_mn : M (ap 7) = some (la_ G 4 (nl_ N))) (h_mo : M (ap 8) = some (la_ G 4 (nl_ (4294967296 ^ 4 % N)))) (h_mq : M (ap 9) = some (la_ G 4 (nl_ (4294967296 ^ 8 % N)))) (h_tt : M (ap 10) = some (la_ G 6 t0)) (h_dd : M (ap 11) = some (la_ G 4 d0)) (h_bb : M (ap 12) = some (la_ G 4 b0)) (h_rr : M (ap 13) = some (la_ G 4 q0)) (h_no : M (ap 21) = some (ob_ 1 [.ref (ap 22)])) (h_nA : M (ap 22) = some (la_ G 11 (nl_ Ex))) (h_ep : M (ap 17) = some (qa_ G 17 (fun e => some (ap (23 + 6 * e))))) (h_hd : M (ap 18) = some (la_ G 4 (nl_ Hd)))  (hne : ∀ {i j : Nat}, i ≠ j → ap i ≠ ap j) (hE0 : ∀ e, e < 17 → M (ap (23 + 6 * e)) = some (ob_ 0 [.ref (ap (24 + 6 * e)), .ref (ap (27 + 6 * e)), .ref (ap (28 + 6 * e))])) (hE1 : ∀ e, e < 17 → M (ap (24 + 6 * e)) = some (ob_ 3 [.ref (ap (25 + 6 * e)), .ref (ap (26 + 6 * e)), .int (nI (List.length (Ls e)))])) (hE2 : ∀ e, e < 17 → M (ap (25 + 6 * e)) = some (la_ G 10 (ef e))) (hE3 : ∀ e, e < 17 → M (ap (26 + 6 * e)) = some (ia_ G 10 (eg e))) (hN : N < 4294967296 ^ 4) (hN1 : 1 < N) (hn1 : n1 < 4294967296) (hinv : (n1 * N + 1) % 4294967296 = 0) (hBi : 4294967296 ^ 4 * Bi % N = 1 % N) (hHd : Hd < N) (hLn : ∀ e, (Ls e).length ≤ 10) (hLp : ∀ e, ∀ x ∈ Ls e, x.2 < 2147483648) (hro : ∀ e, e < 17 → ro_ (ef e) (eg e) (Ls e)) (hk1 : 1 ≤ k1) (hk2 : k1 ≤ 16)  : ct_ l my_P_takeInAdded cd_P_takeInAdded 2 none { frames := 4, cells := 0, slots := 0, locals := 109 } G [.ref (ap 0), .int (nI k1)] M (fun v0 M' => v0 = none ∧ ∃ (t9 : Nat → Int64) (d9 : Nat → Int64) (q9 : Nat → Int64), M' = mu_ (mu_ (mu_ (mu_ (mu_ (mu_ M (ap 22) (la_ G 11 (nl_ (pd_ (fo_ (Ls k1) (Ls (k1 - 1))))))) (ap 10) (la_ G 6 t9)) (ap 11) (la_ G 4 d9)) (ap 12) (la_ G 4 (nl_ (Hd * 4294967296 ^ 4 % N)))) (ap 13) (la_ G 4 q9)) (ap 18) (la_ G 4 (nl_ (mvA_ N Ls k1 Hd)))) 0 0 := by
  refine ct_.intro2 (by decide) (Nat.le_of_ble_eq_true rfl) ?_
  intro p e s m args below meth c ls R Q hR hQ C0 hl hM hS
  have hx := C0.1
  have hb := C0.2.1
  have hl : lv_has ls 2 [(0, .ref (ap 0)), (1, .int (nI k1))] := hl
  have hX : (pd_ (fo_ (Ls k1) (Ls (k1 - 1)))) < 2 ^ 311 := fo_pd_lt (hLp _) (hLn _)
  have hk17 : k1 < 17 := by omega
  have hk16 : k1 - 1 < 17 := by omega
  refine lv_aload_n hx hb dd_P_takeInAdded_0 rfl (lv_at hl 0 rfl) ?_
  refine mr_get C0 hM fk_P_50 h_po (v := .ref (ap 21)) rfl dd_P_takeInAdded_1 ?_
  refine lv_iconst (v := nI 1) hx hb dd_P_takeInAdded_4 (by decide) ?_
  refine mr_callV (As := [.int (nI 1)]) (rest := []) C0 hM hS vk_P_160 h_no rfl (c_N_become l h_no h_nA  (by decide)) rfl rfl hl.1 (Nat.le_of_ble_eq_true rfl) rfl rfl (by subst hR; exact ⟨Nat.le_of_ble_eq_true rfl, Nat.le_of_ble_eq_true rfl⟩) (by subst hR; exact ⟨Nat.le_of_ble_eq_true rfl, Nat.le_of_ble_eq_true rfl⟩) dd_P_takeInAdded_5 (fun v1 M1 H locs hp hM hS => ?_)
  obtain ⟨ev1, eM1⟩ := hp
  subst ev1
  rw [eM1] at hM
  have hM : mm_ G (mu_ M (ap 22) (la_ G 11 (nl_ 1))) H := hM
  refine W.eq (g2 := F0 m 8 ls []) rfl ?_
  refine lv_aload_n hx hb dd_P_takeInAdded_8 rfl (lv_at hl 0 rfl) ?_
  refine mr_get C0 hM fk_P_32 (mu_n' (hne (i := 0) (j := 22) (by omega)) h_po) (v := .ref (ap 17)) rfl dd_P_takeInAdded_9 ?_
  refine lv_iload_n hx hb dd_P_takeInAdded_12 rfl (lv_at hl 1 rfl) ?_
  refine mr_aald C0 hM (mu_n' (hne (i := 17) (j := 22) (by omega)) h_ep) (k1) (rfl) (rfl) (by omega) (by decide) dd_P_takeInAdded_13 ?_
  refine mr_get C0 hM fk_P_103 (mu_n' (hne (i := (23 + 6 * k1)) (j := 22) (by omega)) (hE0 k1 (by omega))) (v := .ref (ap (24 + 6 * k1))) rfl dd_P_takeInAdded_14 ?_
  refine lv_aload_n hx hb dd_P_takeInAdded_17 rfl (lv_at hl 0 rfl) ?_
  refine mr_get C0 hM fk_P_32 (mu_n' (hne (i := 0) (j := 22) (by omega)) h_po) (v := .ref (ap 17)) rfl dd_P_takeInAdded_18 ?_
  refine lv_iload_n hx hb dd_P_takeInAdded_21 rfl (lv_at hl 1 rfl) ?_
  refine lv_iconst (v := nI 1) hx hb dd_P_takeInAdded_22 (by decide) ?_
  refine lv_isub hx hb dd_P_takeInAdded_23 ?_
  refine mr_vi (pk_sub (a := k1) (b := 1) (by omega)) ?_
  refine mr_aald C0 hM (mu_n' (hne (i := 17) (j := 22) (by omega)) h_ep) ((k1 - 1)) (rfl) (rfl) (by omega) (by decide) dd_P_takeInAdded_24 ?_
  refine mr_get C0 hM fk_P_103 (mu_n' (hne (i := (23 + 6 * (k1 - 1))) (j := 22) (by omega)) (hE0 (k1 - 1) (by omega))) (v := .ref (ap (24 + 6 * (k1 - 1)))) rfl dd_P_takeInAdded_25 ?_
  refine lv_aload_n hx hb dd_P_takeInAdded_28 rfl (lv_at hl 0 rfl) ?_
  refine mr_get C0 hM fk_P_50 (mu_n' (hne (i := 0) (j := 22) (by omega)) h_po) (v := .ref (ap 21)) rfl dd_P_takeInAdded_29 ?_
  refine mr_callV (As := [.ref (ap (24 + 6 * (k1 - 1))), .ref (ap 21)]) (rest := []) C0 hM hS vk_P_195 (mu_n' (hne (i := (24 + 6 * k1)) (j := 22) (by omega)) (hE1 k1 (by omega))) rfl (c_T_multiplyOutsideInto l (mu_n' (hne (i := (24 + 6 * k1)) (j := 22) (by omega)) (hE1 k1 (by omega))) (mu_n' (hne (i := (25 + 6 * k1)) (j := 22) (by omega)) (hE2 k1 (by omega))) (mu_n' (hne (i := (24 + 6 * (k1 - 1))) (j := 22) (by omega)) (hE1 (k1 - 1) (by omega))) (mu_n' (hne (i := (25 + 6 * (k1 - 1))) (j := 22) (by omega)) (hE2 (k1 - 1) (by omega))) (mu_n' (hne (i := (26 + 6 * k1)) (j := 22) (by omega)) (hE3 k1 (by omega))) (mu_n' (hne (i := 21) (j := 22) (by omega)) h_no) mu_s (hne (i := (25 + 6 * (k1 - 1))) (j := 22) (by omega)) (hne (i := (25 + 6 * k1)) (j := 22) (by omega)) (hro k1 hk17) (hLn k1) (fun j hj => (hro (k1 - 1) hk16 j hj).1) (hLn (k1 - 1)) (hLp k1)) rfl rfl hl.1 (Nat.le_of_ble_eq_true rfl) rfl rfl (by subst hR; exact ⟨Nat.le_of_ble_eq_true rfl, Nat.le_of_ble_eq_true rfl⟩) (by subst hR; exact ⟨Nat.le_of_ble_eq_true rfl, Nat.le_of_ble_eq_true rfl⟩) dd_P_takeInAdded_32 (fun v1 M1 H locs hp hM hS => ?_)
  obtain ⟨ev1, eM1⟩ := hp
  subst ev1
  rw [eM1] at hM
  have hM := mr_M mu_mu hM
  have hM : mm_ G (mu_ M (ap 22) (la_ G 11 (nl_ (1 * (pd_ (fo_ (Ls k1) (Ls (k1 - 1)))))))) H := hM
  refine W.eq (g2 := F0 m 35 ls []) rfl ?_
  rw [Nat.one_mul] at hM
  have hM : mm_ G (mu_ M (ap 22) (la_ G 11 (nl_ (pd_ (fo_ (Ls k1) (Ls (k1 - 1))))))) H := hM
  refine lv_aload_n hx hb dd_P_takeInAdded_35 rfl (lv_at hl 0 rfl) ?_
  refine mr_get C0 hM fk_P_19 (mu_n' (hne (i := 0) (j := 22) (by omega)) h_po) (v := .ref (ap 3)) rfl dd_P_takeInAdded_36 ?_
  refine lv_aload_n hx hb dd_P_takeInAdded_39 rfl (lv_at hl 0 rfl) ?_
  refine mr_get C0 hM fk_P_37 (mu_n' (hne (i := 0) (j := 22) (by omega)) h_po) (v := .ref (ap 18)) rfl dd_P_takeInAdded_40 ?_
  refine lv_aload_n hx hb dd_P_takeInAdded_43 rfl (lv_at hl 0 rfl) ?_
  refine mr_get C0 hM fk_P_50 (mu_n' (hne (i := 0) (j := 22) (by omega)) h_po) (v := .ref (ap 21)) rfl dd_P_takeInAdded_44 ?_
  refine lv_aload_n hx hb dd_P_takeInAdded_47 rfl (lv_at hl 0 rfl) ?_
  refine mr_get C0 hM fk_P_37 (mu_n' (hne (i := 0) (j := 22) (by omega)) h_po) (v := .ref (ap 18)) rfl dd_P_takeInAdded_48 ?_
  refine mr_callV (As := [.ref (ap 18), .ref (ap 21), .ref (ap 18)]) (rest := []) C0 hM hS vk_P_173 (mu_n' (hne (i := 3) (j := 22) (by omega)) h_r) rfl (c_R_power l (mu_n' (hne (i := 3) (j := 22) (by omega)) h_r) (mu_n' (hne (i := 7) (j := 22) (by omega)) h_mn) (mu_n' (hne (i := 8) (j := 22) (by omega)) h_mo) (mu_n' (hne (i := 9) (j := 22) (by omega)) h_mq) (mu_n' (hne (i := 6) (j := 22) (by omega)) h_un) (mu_n' (hne (i := 10) (j := 22) (by omega)) h_tt) (mu_n' (hne (i := 11) (j := 22) (by omega)) h_dd) (mu_n' (hne (i := 12) (j := 22) (by omega)) h_bb) (mu_n' (hne (i := 13) (j := 22) (by omega)) h_rr) (mu_n' (hne (i := 18) (j := 22) (by omega)) h_hd) (mu_n' (hne (i := 18) (j := 22) (by omega)) h_hd) (mu_n' (hne (i := 21) (j := 22) (by omega)) h_no) mu_s (hne (i := 12) (j := 13) (by omega)) (hne (i := 11) (j := 12) (by omega)) (hne (i := 11) (j := 13) (by omega)) (hne (i := 22) (j := 12) (by omega)) (hne (i := 22) (j := 11) (by omega)) (hne (i := 22) (j := 13) (by omega)) (hne (i := 22) (j := 10) (by omega)) (hne (i := 7) (j := 12) (by omega)) (hne (i := 7) (j := 11) (by omega)) (hne (i := 7) (j := 13) (by omega)) (hne (i := 7) (j := 10) (by omega)) (hne (i := 8) (j := 12) (by omega)) (hne (i := 8) (j := 11) (by omega)) (hne (i := 8) (j := 13) (by omega)) (hne (i := 8) (j := 10) (by omega)) (hne (i := 9) (j := 12) (by omega)) (hne (i := 9) (j := 11) (by omega)) (hne (i := 9) (j := 13) (by omega)) (hne (i := 9) (j := 10) (by omega)) (hne (i := 18) (j := 12) (by omega)) (hne (i := 18) (j := 11) (by omega)) (hne (i := 18) (j := 13) (by omega)) (hne (i := 18) (j := 10) (by omega)) (hne (i := 10) (j := 12) (by omega)) (hne (i := 10) (j := 11) (by omega)) (hne (i := 10) (j := 13) (by omega)) (hne (i := 6) (j := 12) (by omega)) (hne (i := 6) (j := 11) (by omega)) (hne (i := 6) (j := 13) (by omega)) (hne (i := 6) (j := 10) (by omega)) (hne (i := 18) (j := 12) (by omega)) (hne (i := 18) (j := 11) (by omega)) (hne (i := 18) (j := 13) (by omega)) (hne (i := 18) (j := 10) (by omega)) hHd hN1 (e352 hX) hN hn1 hinv hBi) rfl rfl hl.1 (Nat.le_of_ble_eq_true rfl) rfl rfl (by subst hR; exact ⟨Nat.le_of_ble_eq_true rfl, Nat.le_of_ble_eq_true rfl⟩) (by subst hR; exact ⟨Nat.le_of_ble_eq_true rfl, Nat.le_of_ble_eq_true rfl⟩) dd_P_takeInAdded_51 (fun v1 M1 H locs hp hM hS => ?_)
  obtain ⟨ev1, t1, d1, q1, eM1⟩ := hp
  subst ev1
  rw [eM1] at hM
  have hM : mm_ G (mu_ (mu_ (mu_ (mu_ (mu_ (mu_ M (ap 22) (la_ G 11 (nl_ (pd_ (fo_ (Ls k1) (Ls (k1 - 1))))))) (ap 10) (la_ G 6 t1)) (ap 11) (la_ G 4 d1)) (ap 12) (la_ G 4 (nl_ (Hd * 4294967296 ^ 4 % N)))) (ap 13) (la_ G 4 q1)) (ap 18) (la_ G 4 (nl_ (Hd ^ (pd_ (fo_ (Ls k1) (Ls (k1 - 1)))) % N)))) H := hM
  refine W.eq (g2 := F0 m 54 ls []) rfl ?_
  exact mr_ret hQ (mr_vret C0 hM hS (⟨rfl, _, _, _, rfl⟩) dd_P_takeInAdded_54)

set_option maxHeartbeats 4000000 in
set_option maxRecDepth 100000 in
theorem c_P_takeOutRemoved (l : Launch) {G : mg_} {M : mw_} {ap : Nat → Nat} {hs N Vt nw Hd fc n1 Bi Ex : Nat} {Ls : Nat → rl_} {t0 d0 b0 q0 s0 : Nat → Int64} {ef ei : Nat → Nat → Int64} {eg : Nat → Nat → Int32} {k1 p0 : Nat}  (h_po : M (ap 0) = some (ob_ 5 [.ref (ap 1), .ref (ap 3), .ref (ap 14), .ref (ap 17), .ref (ap 18), .ref (ap 19), .ref (ap 20), .ref (ap 21), .int (nI hs), .int (nI nw), .int (nI fc)])) (h_r : M (ap 3) = some (ob_ 2 [.ref (ap 4), .ref (ap 5), .ref (ap 6), .ref (ap 7), .ref (ap 8), .ref (ap 9), .ref (ap 10), .ref (ap 11), .ref (ap 12), .ref (ap 13), .long (lN n1)])) (h_th : M (ap 4) = some (la_ G 4 (nl_ 3))) (h_td : M (ap 5) = some (la_ G 4 (nl_ Vt))) (h_un : M (ap 6) = some (la_ G 4 (nl_ 1))) (h_mn : M (ap 7) = some (la_ G 4 (nl_ N))) (h_mo : M (ap 8) = some (la_ G 4 (nl_ (4294967296 ^ 4 % N)))) (h_mq : M (ap 9) = some (la_ G 4 (nl_ (4294967296 ^ 8 % N)))) (h_tt : M (ap 10) = some (la_ G 6 t0)) (h_dd : M (ap 11) = some (la_ G 4 d0)) (h_bb : M (ap 12) = some (la_ G 4 b0)) (h_rr : M (ap 13) = some (la_ G 4 q0)) (h_no : M (ap 21) = some (ob_ 1 [.ref (ap 22)])) (h_nA : M (ap 22) = some (la_ G 11 (nl_ Ex))) (h_ep : M (ap 17) = some (qa_ G 17 (fun e => some (ap (23 + 6 * e))))) (h_hd : M (ap 18) = some (la_ G 4 (nl_ Hd))) (h_sc : M (ap 19) = some (la_ G 4 s0))  (hne : ∀ {i j : Nat}, i ≠ j → ap i ≠ ap j) (hE0 : ∀ e, e < 17 → M (ap (23 + 6 * e)) = some (ob_ 0 [.ref (ap (24 + 6 * e)), .ref (ap (27 + 6 * e)), .ref (ap (28 + 6 * e))])) (hE1 : ∀ e, e < 17 → M (ap (24 + 6 * e)) = some (ob_ 3 [.ref (ap (25 + 6 * e)), .ref (ap (26 + 6 * e)), .int (nI (List.length (Ls e)))])) (hE2 : ∀ e, e < 17 → M (ap (25 + 6 * e)) = some (la_ G 10 (ef e))) (hE3 : ∀ e, e < 17 → M (ap (26 + 6 * e)) = some (ia_ G 10 (eg e))) (hE5 : ∀ e, e < 17 → M (ap (28 + 6 * e)) = some (la_ G 4 (ei e))) (hN : N < 4294967296 ^ 4) (hN1 : 1 < N) (hn1 : n1 < 4294967296) (hinv : (n1 * N + 1) % 4294967296 = 0) (hBi : 4294967296 ^ 4 * Bi % N = 1 % N) (hHd : Hd < N) (hLn : ∀ e, (Ls e).length ≤ 10) (hLp : ∀ e, ∀ x ∈ Ls e, x.2 < 2147483648) (hro : ∀ e, e < 17 → ro_ (ef e) (eg e) (Ls e)) (hk1 : 1 ≤ k1) (hk2 : k1 ≤ 16) (hp2 : 2 ≤ p0) (hp31 : p0 < 2147483648) (hei : ei k1 = nl_ (Vt ^ pd_ (Ls k1) % N)) : ct_ l my_P_takeOutRemoved cd_P_takeOutRemoved 4 none { frames := 4, cells := 0, slots := 0, locals := 109 } G [.ref (ap 0), .int (nI k1), .int (nI p0)] M (fun v0 M' => v0 = none ∧ ∃ (t9 : Nat → Int64) (d9 : Nat → Int64) (q9 : Nat → Int64) (b9 : Nat → Int64), M' = mu_ (mu_ (mu_ (mu_ (mu_ (mu_ (mu_ M (ap 22) (la_ G 11 (nl_ (eb_ (pd_ (fo_ (Ls (k1 - 1)) (Ls k1))) p0)))) (ap 10) (la_ G 6 t9)) (ap 11) (la_ G 4 d9)) (ap 12) (la_ G 4 b9)) (ap 13) (la_ G 4 q9)) (ap 19) (la_ G 4 (nl_ ((Vt ^ pd_ (Ls k1) % N) ^ (eq_ (pd_ (fo_ (Ls (k1 - 1)) (Ls k1))) p0) % N)))) (ap 18) (la_ G 4 (nl_ ((Hd ^ (eb_ (pd_ (fo_ (Ls (k1 - 1)) (Ls k1))) p0) % N) * ((Vt ^ pd_ (Ls k1) % N) ^ (eq_ (pd_ (fo_ (Ls (k1 - 1)) (Ls k1))) p0) % N) % N)))) 0 0 := by
  refine ct_.intro2 (by decide) (Nat.le_of_ble_eq_true rfl) ?_
  intro p e s m args below meth c ls R Q hR hQ C0 hl hM hS
  have hx := C0.1
  have hb := C0.2.1
  have hl : lv_has ls 4 [(0, .ref (ap 0)), (1, .int (nI k1)), (2, .int (nI p0))] := hl
  have hX : (pd_ (fo_ (Ls (k1 - 1)) (Ls k1))) < 2 ^ 311 := fo_pd_lt (hLp _) (hLn _)
  have hk17 : k1 < 17 := by omega
  have hk16 : k1 - 1 < 17 := by omega
  have hbl : (eb_ (pd_ (fo_ (Ls (k1 - 1)) (Ls k1))) p0) < 2147483648 := Nat.lt_trans (Nat.mod_lt _ (by omega)) hp31
  have hQl : (eq_ (pd_ (fo_ (Ls (k1 - 1)) (Ls k1))) p0) < 2 ^ 352 := Nat.lt_of_le_of_lt (Nat.div_le_self _ _) (Nat.lt_trans (vb_lt hX hbl) (by decide))
  have hN0 : 0 < N := by omega
  have hI1 := hE5 k1 hk17
  rw [hei] at hI1
  refine lv_aload_n hx hb dd_P_takeOutRemoved_0 rfl (lv_at hl 0 rfl) ?_
  refine mr_get C0 hM fk_P_50 h_po (v := .ref (ap 21)) rfl dd_P_takeOutRemoved_1 ?_
  refine lv_iconst (v := nI 1) hx hb dd_P_takeOutRemoved_4 (by decide) ?_
  refine mr_callV (As := [.int (nI 1)]) (rest := []) C0 hM hS vk_P_160 h_no rfl (c_N_become l h_no h_nA  (by decide)) rfl rfl hl.1 (Nat.le_of_ble_eq_true rfl) rfl rfl (by subst hR; exact ⟨Nat.le_of_ble_eq_true rfl, Nat.le_of_ble_eq_true rfl⟩) (by subst hR; exact ⟨Nat.le_of_ble_eq_true rfl, Nat.le_of_ble_eq_true rfl⟩) dd_P_takeOutRemoved_5 (fun v1 M1 H locs hp hM hS => ?_)
  obtain ⟨ev1, eM1⟩ := hp
  subst ev1
  rw [eM1] at hM
  have hM : mm_ G (mu_ M (ap 22) (la_ G 11 (nl_ 1))) H := hM
  refine W.eq (g2 := F0 m 8 ls []) rfl ?_
  refine lv_aload_n hx hb dd_P_takeOutRemoved_8 rfl (lv_at hl 0 rfl) ?_
  refine mr_get C0 hM fk_P_32 (mu_n' (hne (i := 0) (j := 22) (by omega)) h_po) (v := .ref (ap 17)) rfl dd_P_takeOutRemoved_9 ?_
  refine lv_iload_n hx hb dd_P_takeOutRemoved_12 rfl (lv_at hl 1 rfl) ?_
  refine lv_iconst (v := nI 1) hx hb dd_P_takeOutRemoved_13 (by decide) ?_
  refine lv_isub hx hb dd_P_takeOutRemoved_14 ?_
  refine mr_vi (pk_sub (a := k1) (b := 1) (by omega)) ?_
  refine mr_aald C0 hM (mu_n' (hne (i := 17) (j := 22) (by omega)) h_ep) ((k1 - 1)) (rfl) (rfl) (by omega) (by decide) dd_P_takeOutRemoved_15 ?_
  refine mr_get C0 hM fk_P_103 (mu_n' (hne (i := (23 + 6 * (k1 - 1))) (j := 22) (by omega)) (hE0 (k1 - 1) (by omega))) (v := .ref (ap (24 + 6 * (k1 - 1)))) rfl dd_P_takeOutRemoved_16 ?_
  refine lv_aload_n hx hb dd_P_takeOutRemoved_19 rfl (lv_at hl 0 rfl) ?_
  refine mr_get C0 hM fk_P_32 (mu_n' (hne (i := 0) (j := 22) (by omega)) h_po) (v := .ref (ap 17)) rfl dd_P_takeOutRemoved_20 ?_
  refine lv_iload_n hx hb dd_P_takeOutRemoved_23 rfl (lv_at hl 1 rfl) ?_
  refine mr_aald C0 hM (mu_n' (hne (i := 17) (j := 22) (by omega)) h_ep) (k1) (rfl) (rfl) (by omega) (by decide) dd_P_takeOutRemoved_24 ?_
  refine mr_get C0 hM fk_P_103 (mu_n' (hne (i := (23 + 6 * k1)) (j := 22) (by omega)) (hE0 k1 (by omega))) (v := .ref (ap (24 + 6 * k1))) rfl dd_P_takeOutRemoved_25 ?_
  refine lv_aload_n hx hb dd_P_takeOutRemoved_28 rfl (lv_at hl 0 rfl) ?_
  refine mr_get C0 hM fk_P_50 (mu_n' (hne (i := 0) (j := 22) (by omega)) h_po) (v := .ref (ap 21)) rfl dd_P_takeOutRemoved_29 ?_
  refine mr_callV (As := [.ref (ap (24 + 6 * k1)), .ref (ap 21)]) (rest := []) C0 hM hS vk_P_195 (mu_n' (hne (i := (24 + 6 * (k1 - 1))) (j := 22) (by omega)) (hE1 (k1 - 1) (by omega))) rfl (c_T_multiplyOutsideInto l (mu_n' (hne (i := (24 + 6 * (k1 - 1))) (j := 22) (by omega)) (hE1 (k1 - 1) (by omega))) (mu_n' (hne (i := (25 + 6 * (k1 - 1))) (j := 22) (by omega)) (hE2 (k1 - 1) (by omega))) (mu_n' (hne (i := (24 + 6 * k1)) (j := 22) (by omega)) (hE1 k1 (by omega))) (mu_n' (hne (i := (25 + 6 * k1)) (j := 22) (by omega)) (hE2 k1 (by omega))) (mu_n' (hne (i := (26 + 6 * (k1 - 1))) (j := 22) (by omega)) (hE3 (k1 - 1) (by omega))) (mu_n' (hne (i := 21) (j := 22) (by omega)) h_no) mu_s (hne (i := (25 + 6 * k1)) (j := 22) (by omega)) (hne (i := (25 + 6 * (k1 - 1))) (j := 22) (by omega)) (hro (k1 - 1) hk16) (hLn (k1 - 1)) (fun j hj => (hro k1 hk17 j hj).1) (hLn k1) (hLp (k1 - 1))) rfl rfl hl.1 (Nat.le_of_ble_eq_true rfl) rfl rfl (by subst hR; exact ⟨Nat.le_of_ble_eq_true rfl, Nat.le_of_ble_eq_true rfl⟩) (by subst hR; exact ⟨Nat.le_of_ble_eq_true rfl, Nat.le_of_ble_eq_true rfl⟩) dd_P_takeOutRemoved_32 (fun v1 M1 H locs hp hM hS => ?_)
  obtain ⟨ev1, eM1⟩ := hp
  subst ev1
  rw [eM1] at hM
  have hM := mr_M mu_mu hM
  have hM : mm_ G (mu_ M (ap 22) (la_ G 11 (nl_ (1 * (pd_ (fo_ (Ls (k1 - 1)) (Ls k1))))))) H := hM
  refine W.eq (g2 := F0 m 35 ls []) rfl ?_
  rw [Nat.one_mul] at hM
  have hM : mm_ G (mu_ M (ap 22) (la_ G 11 (nl_ (pd_ (fo_ (Ls (k1 - 1)) (Ls k1)))))) H := hM
  refine lv_aload_n hx hb dd_P_takeOutRemoved_35 rfl (lv_at hl 0 rfl) ?_
  refine lv_iload_n hx hb dd_P_takeOutRemoved_36 rfl (lv_at hl 2 rfl) ?_
  refine mr_callV (As := [.int (nI p0)]) (rest := []) C0 hM hS vk_P_166 (mu_n' (hne (i := 0) (j := 22) (by omega)) h_po) rfl (c_P_inverseThenQuotient l (mu_n' (hne (i := 0) (j := 22) (by omega)) h_po) (mu_n' (hne (i := 21) (j := 22) (by omega)) h_no) mu_s  hne hX hp2 hp31) rfl rfl hl.1 (Nat.le_of_ble_eq_true rfl) rfl rfl (by subst hR; exact ⟨Nat.le_of_ble_eq_true rfl, Nat.le_of_ble_eq_true rfl⟩) (by subst hR; exact ⟨Nat.le_of_ble_eq_true rfl, Nat.le_of_ble_eq_true rfl⟩) dd_P_takeOutRemoved_37 (fun v1 M1 H locs hp hM hS => ?_)
  obtain ⟨ev1, eM1⟩ := hp
  subst ev1
  rw [eM1] at hM
  have hM := mr_M mu_mu hM
  have hM : mm_ G (mu_ M (ap 22) (la_ G 11 (nl_ (eq_ (pd_ (fo_ (Ls (k1 - 1)) (Ls k1))) p0)))) H := hM
  refine W.eq (g2 := F0 m 40 ls [.int (nI (eb_ (pd_ (fo_ (Ls (k1 - 1)) (Ls k1))) p0))]) rfl ?_
  refine lv_istore_n (lv' := [(3, .int (nI (eb_ (pd_ (fo_ (Ls (k1 - 1)) (Ls k1))) p0))), (0, .ref (ap 0)), (1, .int (nI k1)), (2, .int (nI p0))]) hx hb dd_P_takeOutRemoved_40 rfl hl (by decide) rfl (fun ls hl => ?_)
  refine lv_aload_n hx hb dd_P_takeOutRemoved_41 rfl (lv_at hl 1 rfl) ?_
  refine mr_get C0 hM fk_P_19 (mu_n' (hne (i := 0) (j := 22) (by omega)) h_po) (v := .ref (ap 3)) rfl dd_P_takeOutRemoved_42 ?_
  refine lv_aload_n hx hb dd_P_takeOutRemoved_45 rfl (lv_at hl 1 rfl) ?_
  refine mr_get C0 hM fk_P_32 (mu_n' (hne (i := 0) (j := 22) (by omega)) h_po) (v := .ref (ap 17)) rfl dd_P_takeOutRemoved_46 ?_
  refine lv_iload_n hx hb dd_P_takeOutRemoved_49 rfl (lv_at hl 2 rfl) ?_
  refine mr_aald C0 hM (mu_n' (hne (i := 17) (j := 22) (by omega)) h_ep) (k1) (rfl) (rfl) (by omega) (by decide) dd_P_takeOutRemoved_50 ?_
  refine mr_get C0 hM fk_P_188 (mu_n' (hne (i := (23 + 6 * k1)) (j := 22) (by omega)) (hE0 k1 (by omega))) (v := .ref (ap (28 + 6 * k1))) rfl dd_P_takeOutRemoved_51 ?_
  refine lv_aload_n hx hb dd_P_takeOutRemoved_54 rfl (lv_at hl 1 rfl) ?_
  refine mr_get C0 hM fk_P_50 (mu_n' (hne (i := 0) (j := 22) (by omega)) h_po) (v := .ref (ap 21)) rfl dd_P_takeOutRemoved_55 ?_
  refine lv_aload_n hx hb dd_P_takeOutRemoved_58 rfl (lv_at hl 1 rfl) ?_
  refine mr_get C0 hM fk_P_41 (mu_n' (hne (i := 0) (j := 22) (by omega)) h_po) (v := .ref (ap 19)) rfl dd_P_takeOutRemoved_59 ?_
  refine mr_callV (As := [.ref (ap (28 + 6 * k1)), .ref (ap 21), .ref (ap 19)]) (rest := []) C0 hM hS vk_P_173 (mu_n' (hne (i := 3) (j := 22) (by omega)) h_r) rfl (c_R_power l (mu_n' (hne (i := 3) (j := 22) (by omega)) h_r) (mu_n' (hne (i := 7) (j := 22) (by omega)) h_mn) (mu_n' (hne (i := 8) (j := 22) (by omega)) h_mo) (mu_n' (hne (i := 9) (j := 22) (by omega)) h_mq) (mu_n' (hne (i := 6) (j := 22) (by omega)) h_un) (mu_n' (hne (i := 10) (j := 22) (by omega)) h_tt) (mu_n' (hne (i := 11) (j := 22) (by omega)) h_dd) (mu_n' (hne (i := 12) (j := 22) (by omega)) h_bb) (mu_n' (hne (i := 13) (j := 22) (by omega)) h_rr) (mu_n' (hne (i := (28 + 6 * k1)) (j := 22) (by omega)) hI1) (mu_n' (hne (i := 19) (j := 22) (by omega)) h_sc) (mu_n' (hne (i := 21) (j := 22) (by omega)) h_no) mu_s (hne (i := 12) (j := 13) (by omega)) (hne (i := 11) (j := 12) (by omega)) (hne (i := 11) (j := 13) (by omega)) (hne (i := 22) (j := 12) (by omega)) (hne (i := 22) (j := 11) (by omega)) (hne (i := 22) (j := 13) (by omega)) (hne (i := 22) (j := 10) (by omega)) (hne (i := 7) (j := 12) (by omega)) (hne (i := 7) (j := 11) (by omega)) (hne (i := 7) (j := 13) (by omega)) (hne (i := 7) (j := 10) (by omega)) (hne (i := 8) (j := 12) (by omega)) (hne (i := 8) (j := 11) (by omega)) (hne (i := 8) (j := 13) (by omega)) (hne (i := 8) (j := 10) (by omega)) (hne (i := 9) (j := 12) (by omega)) (hne (i := 9) (j := 11) (by omega)) (hne (i := 9) (j := 13) (by omega)) (hne (i := 9) (j := 10) (by omega)) (hne (i := 19) (j := 12) (by omega)) (hne (i := 19) (j := 11) (by omega)) (hne (i := 19) (j := 13) (by omega)) (hne (i := 19) (j := 10) (by omega)) (hne (i := 10) (j := 12) (by omega)) (hne (i := 10) (j := 11) (by omega)) (hne (i := 10) (j := 13) (by omega)) (hne (i := 6) (j := 12) (by omega)) (hne (i := 6) (j := 11) (by omega)) (hne (i := 6) (j := 13) (by omega)) (hne (i := 6) (j := 10) (by omega)) (hne (i := (28 + 6 * k1)) (j := 12) (by omega)) (hne (i := (28 + 6 * k1)) (j := 11) (by omega)) (hne (i := (28 + 6 * k1)) (j := 13) (by omega)) (hne (i := (28 + 6 * k1)) (j := 10) (by omega)) (Nat.mod_lt _ hN0) hN1 hQl hN hn1 hinv hBi) rfl rfl hl.1 (Nat.le_of_ble_eq_true rfl) rfl rfl (by subst hR; exact ⟨Nat.le_of_ble_eq_true rfl, Nat.le_of_ble_eq_true rfl⟩) (by subst hR; exact ⟨Nat.le_of_ble_eq_true rfl, Nat.le_of_ble_eq_true rfl⟩) dd_P_takeOutRemoved_62 (fun v1 M1 H locs hp hM hS => ?_)
  obtain ⟨ev1, t1, d1, q1, eM1⟩ := hp
  subst ev1
  rw [eM1] at hM
  have hM : mm_ G (mu_ (mu_ (mu_ (mu_ (mu_ (mu_ M (ap 22) (la_ G 11 (nl_ (eq_ (pd_ (fo_ (Ls (k1 - 1)) (Ls k1))) p0)))) (ap 10) (la_ G 6 t1)) (ap 11) (la_ G 4 d1)) (ap 12) (la_ G 4 (nl_ ((Vt ^ pd_ (Ls k1) % N) * 4294967296 ^ 4 % N)))) (ap 13) (la_ G 4 q1)) (ap 19) (la_ G 4 (nl_ ((Vt ^ pd_ (Ls k1) % N) ^ (eq_ (pd_ (fo_ (Ls (k1 - 1)) (Ls k1))) p0) % N)))) H := hM
  refine W.eq (g2 := F0 m 65 ls []) rfl ?_
  refine lv_aload_n hx hb dd_P_takeOutRemoved_65 rfl (lv_at hl 1 rfl) ?_
  refine mr_get C0 hM fk_P_50 (mu_n' (hne (i := 0) (j := 19) (by omega)) (mu_n' (hne (i := 0) (j := 13) (by omega)) (mu_n' (hne (i := 0) (j := 12) (by omega)) (mu_n' (hne (i := 0) (j := 11) (by omega)) (mu_n' (hne (i := 0) (j := 10) (by omega)) (mu_n' (hne (i := 0) (j := 22) (by omega)) h_po)))))) (v := .ref (ap 21)) rfl dd_P_takeOutRemoved_66 ?_
  refine lv_iload_n hx hb dd_P_takeOutRemoved_69 rfl (lv_at hl 0 rfl) ?_
  refine mr_callV (As := [.int (nI (eb_ (pd_ (fo_ (Ls (k1 - 1)) (Ls k1))) p0))]) (rest := []) C0 hM hS vk_P_160 (mu_n' (hne (i := 21) (j := 19) (by omega)) (mu_n' (hne (i := 21) (j := 13) (by omega)) (mu_n' (hne (i := 21) (j := 12) (by omega)) (mu_n' (hne (i := 21) (j := 11) (by omega)) (mu_n' (hne (i := 21) (j := 10) (by omega)) (mu_n' (hne (i := 21) (j := 22) (by omega)) h_no)))))) rfl (c_N_become l (mu_n' (hne (i := 21) (j := 19) (by omega)) (mu_n' (hne (i := 21) (j := 13) (by omega)) (mu_n' (hne (i := 21) (j := 12) (by omega)) (mu_n' (hne (i := 21) (j := 11) (by omega)) (mu_n' (hne (i := 21) (j := 10) (by omega)) (mu_n' (hne (i := 21) (j := 22) (by omega)) h_no)))))) (mu_n' (hne (i := 22) (j := 19) (by omega)) (mu_n' (hne (i := 22) (j := 13) (by omega)) (mu_n' (hne (i := 22) (j := 12) (by omega)) (mu_n' (hne (i := 22) (j := 11) (by omega)) (mu_n' (hne (i := 22) (j := 10) (by omega)) mu_s)))))  hbl) rfl rfl hl.1 (Nat.le_of_ble_eq_true rfl) rfl rfl (by subst hR; exact ⟨Nat.le_of_ble_eq_true rfl, Nat.le_of_ble_eq_true rfl⟩) (by subst hR; exact ⟨Nat.le_of_ble_eq_true rfl, Nat.le_of_ble_eq_true rfl⟩) dd_P_takeOutRemoved_70 (fun v1 M1 H locs hp hM hS => ?_)
  obtain ⟨ev1, eM1⟩ := hp
  subst ev1
  rw [eM1] at hM
  have hM := mr_M (mu_c6 (hne (i := 22) (j := 10) (by omega)) (hne (i := 22) (j := 11) (by omega)) (hne (i := 22) (j := 12) (by omega)) (hne (i := 22) (j := 13) (by omega)) (hne (i := 22) (j := 19) (by omega))) hM
  have hM : mm_ G (mu_ (mu_ (mu_ (mu_ (mu_ (mu_ M (ap 22) (la_ G 11 (nl_ (eb_ (pd_ (fo_ (Ls (k1 - 1)) (Ls k1))) p0)))) (ap 10) (la_ G 6 t1)) (ap 11) (la_ G 4 d1)) (ap 12) (la_ G 4 (nl_ ((Vt ^ pd_ (Ls k1) % N) * 4294967296 ^ 4 % N)))) (ap 13) (la_ G 4 q1)) (ap 19) (la_ G 4 (nl_ ((Vt ^ pd_ (Ls k1) % N) ^ (eq_ (pd_ (fo_ (Ls (k1 - 1)) (Ls k1))) p0) % N)))) H := hM
  refine W.eq (g2 := F0 m 73 ls []) rfl ?_
  refine lv_aload_n hx hb dd_P_takeOutRemoved_73 rfl (lv_at hl 1 rfl) ?_
  refine mr_get C0 hM fk_P_19 (mu_n' (hne (i := 0) (j := 19) (by omega)) (mu_n' (hne (i := 0) (j := 13) (by omega)) (mu_n' (hne (i := 0) (j := 12) (by omega)) (mu_n' (hne (i := 0) (j := 11) (by omega)) (mu_n' (hne (i := 0) (j := 10) (by omega)) (mu_n' (hne (i := 0) (j := 22) (by omega)) h_po)))))) (v := .ref (ap 3)) rfl dd_P_takeOutRemoved_74 ?_
  refine lv_aload_n hx hb dd_P_takeOutRemoved_77 rfl (lv_at hl 1 rfl) ?_
  refine mr_get C0 hM fk_P_37 (mu_n' (hne (i := 0) (j := 19) (by omega)) (mu_n' (hne (i := 0) (j := 13) (by omega)) (mu_n' (hne (i := 0) (j := 12) (by omega)) (mu_n' (hne (i := 0) (j := 11) (by omega)) (mu_n' (hne (i := 0) (j := 10) (by omega)) (mu_n' (hne (i := 0) (j := 22) (by omega)) h_po)))))) (v := .ref (ap 18)) rfl dd_P_takeOutRemoved_78 ?_
  refine lv_aload_n hx hb dd_P_takeOutRemoved_81 rfl (lv_at hl 1 rfl) ?_
  refine mr_get C0 hM fk_P_50 (mu_n' (hne (i := 0) (j := 19) (by omega)) (mu_n' (hne (i := 0) (j := 13) (by omega)) (mu_n' (hne (i := 0) (j := 12) (by omega)) (mu_n' (hne (i := 0) (j := 11) (by omega)) (mu_n' (hne (i := 0) (j := 10) (by omega)) (mu_n' (hne (i := 0) (j := 22) (by omega)) h_po)))))) (v := .ref (ap 21)) rfl dd_P_takeOutRemoved_82 ?_
  refine lv_aload_n hx hb dd_P_takeOutRemoved_85 rfl (lv_at hl 1 rfl) ?_
  refine mr_get C0 hM fk_P_37 (mu_n' (hne (i := 0) (j := 19) (by omega)) (mu_n' (hne (i := 0) (j := 13) (by omega)) (mu_n' (hne (i := 0) (j := 12) (by omega)) (mu_n' (hne (i := 0) (j := 11) (by omega)) (mu_n' (hne (i := 0) (j := 10) (by omega)) (mu_n' (hne (i := 0) (j := 22) (by omega)) h_po)))))) (v := .ref (ap 18)) rfl dd_P_takeOutRemoved_86 ?_
  refine mr_callV (As := [.ref (ap 18), .ref (ap 21), .ref (ap 18)]) (rest := []) C0 hM hS vk_P_173 (mu_n' (hne (i := 3) (j := 19) (by omega)) (mu_n' (hne (i := 3) (j := 13) (by omega)) (mu_n' (hne (i := 3) (j := 12) (by omega)) (mu_n' (hne (i := 3) (j := 11) (by omega)) (mu_n' (hne (i := 3) (j := 10) (by omega)) (mu_n' (hne (i := 3) (j := 22) (by omega)) h_r)))))) rfl (c_R_power l (mu_n' (hne (i := 3) (j := 19) (by omega)) (mu_n' (hne (i := 3) (j := 13) (by omega)) (mu_n' (hne (i := 3) (j := 12) (by omega)) (mu_n' (hne (i := 3) (j := 11) (by omega)) (mu_n' (hne (i := 3) (j := 10) (by omega)) (mu_n' (hne (i := 3) (j := 22) (by omega)) h_r)))))) (mu_n' (hne (i := 7) (j := 19) (by omega)) (mu_n' (hne (i := 7) (j := 13) (by omega)) (mu_n' (hne (i := 7) (j := 12) (by omega)) (mu_n' (hne (i := 7) (j := 11) (by omega)) (mu_n' (hne (i := 7) (j := 10) (by omega)) (mu_n' (hne (i := 7) (j := 22) (by omega)) h_mn)))))) (mu_n' (hne (i := 8) (j := 19) (by omega)) (mu_n' (hne (i := 8) (j := 13) (by omega)) (mu_n' (hne (i := 8) (j := 12) (by omega)) (mu_n' (hne (i := 8) (j := 11) (by omega)) (mu_n' (hne (i := 8) (j := 10) (by omega)) (mu_n' (hne (i := 8) (j := 22) (by omega)) h_mo)))))) (mu_n' (hne (i := 9) (j := 19) (by omega)) (mu_n' (hne (i := 9) (j := 13) (by omega)) (mu_n' (hne (i := 9) (j := 12) (by omega)) (mu_n' (hne (i := 9) (j := 11) (by omega)) (mu_n' (hne (i := 9) (j := 10) (by omega)) (mu_n' (hne (i := 9) (j := 22) (by omega)) h_mq)))))) (mu_n' (hne (i := 6) (j := 19) (by omega)) (mu_n' (hne (i := 6) (j := 13) (by omega)) (mu_n' (hne (i := 6) (j := 12) (by omega)) (mu_n' (hne (i := 6) (j := 11) (by omega)) (mu_n' (hne (i := 6) (j := 10) (by omega)) (mu_n' (hne (i := 6) (j := 22) (by omega)) h_un)))))) (mu_n' (hne (i := 10) (j := 19) (by omega)) (mu_n' (hne (i := 10) (j := 13) (by omega)) (mu_n' (hne (i := 10) (j := 12) (by omega)) (mu_n' (hne (i := 10) (j := 11) (by omega)) mu_s)))) (mu_n' (hne (i := 11) (j := 19) (by omega)) (mu_n' (hne (i := 11) (j := 13) (by omega)) (mu_n' (hne (i := 11) (j := 12) (by omega)) mu_s))) (mu_n' (hne (i := 12) (j := 19) (by omega)) (mu_n' (hne (i := 12) (j := 13) (by omega)) mu_s)) (mu_n' (hne (i := 13) (j := 19) (by omega)) mu_s) (mu_n' (hne (i := 18) (j := 19) (by omega)) (mu_n' (hne (i := 18) (j := 13) (by omega)) (mu_n' (hne (i := 18) (j := 12) (by omega)) (mu_n' (hne (i := 18) (j := 11) (by omega)) (mu_n' (hne (i := 18) (j := 10) (by omega)) (mu_n' (hne (i := 18) (j := 22) (by omega)) h_hd)))))) (mu_n' (hne (i := 18) (j := 19) (by omega)) (mu_n' (hne (i := 18) (j := 13) (by omega)) (mu_n' (hne (i := 18) (j := 12) (by omega)) (mu_n' (hne (i := 18) (j := 11) (by omega)) (mu_n' (hne (i := 18) (j := 10) (by omega)) (mu_n' (hne (i := 18) (j := 22) (by omega)) h_hd)))))) (mu_n' (hne (i := 21) (j := 19) (by omega)) (mu_n' (hne (i := 21) (j := 13) (by omega)) (mu_n' (hne (i := 21) (j := 12) (by omega)) (mu_n' (hne (i := 21) (j := 11) (by omega)) (mu_n' (hne (i := 21) (j := 10) (by omega)) (mu_n' (hne (i := 21) (j := 22) (by omega)) h_no)))))) (mu_n' (hne (i := 22) (j := 19) (by omega)) (mu_n' (hne (i := 22) (j := 13) (by omega)) (mu_n' (hne (i := 22) (j := 12) (by omega)) (mu_n' (hne (i := 22) (j := 11) (by omega)) (mu_n' (hne (i := 22) (j := 10) (by omega)) mu_s))))) (hne (i := 12) (j := 13) (by omega)) (hne (i := 11) (j := 12) (by omega)) (hne (i := 11) (j := 13) (by omega)) (hne (i := 22) (j := 12) (by omega)) (hne (i := 22) (j := 11) (by omega)) (hne (i := 22) (j := 13) (by omega)) (hne (i := 22) (j := 10) (by omega)) (hne (i := 7) (j := 12) (by omega)) (hne (i := 7) (j := 11) (by omega)) (hne (i := 7) (j := 13) (by omega)) (hne (i := 7) (j := 10) (by omega)) (hne (i := 8) (j := 12) (by omega)) (hne (i := 8) (j := 11) (by omega)) (hne (i := 8) (j := 13) (by omega)) (hne (i := 8) (j := 10) (by omega)) (hne (i := 9) (j := 12) (by omega)) (hne (i := 9) (j := 11) (by omega)) (hne (i := 9) (j := 13) (by omega)) (hne (i := 9) (j := 10) (by omega)) (hne (i := 18) (j := 12) (by omega)) (hne (i := 18) (j := 11) (by omega)) (hne (i := 18) (j := 13) (by omega)) (hne (i := 18) (j := 10) (by omega)) (hne (i := 10) (j := 12) (by omega)) (hne (i := 10) (j := 11) (by omega)) (hne (i := 10) (j := 13) (by omega)) (hne (i := 6) (j := 12) (by omega)) (hne (i := 6) (j := 11) (by omega)) (hne (i := 6) (j := 13) (by omega)) (hne (i := 6) (j := 10) (by omega)) (hne (i := 18) (j := 12) (by omega)) (hne (i := 18) (j := 11) (by omega)) (hne (i := 18) (j := 13) (by omega)) (hne (i := 18) (j := 10) (by omega)) hHd hN1 (Nat.lt_trans hbl (by decide)) hN hn1 hinv hBi) rfl rfl hl.1 (Nat.le_of_ble_eq_true rfl) rfl rfl (by subst hR; exact ⟨Nat.le_of_ble_eq_true rfl, Nat.le_of_ble_eq_true rfl⟩) (by subst hR; exact ⟨Nat.le_of_ble_eq_true rfl, Nat.le_of_ble_eq_true rfl⟩) dd_P_takeOutRemoved_89 (fun v1 M1 H locs hp hM hS => ?_)
  obtain ⟨ev1, t2, d2, q2, eM1⟩ := hp
  subst ev1
  rw [eM1] at hM
  have hM := mr_M (congrArg (fun X__ => mu_ X__ (ap 18) (la_ G 4 (nl_ (Hd ^ (eb_ (pd_ (fo_ (Ls (k1 - 1)) (Ls k1))) p0) % N)))) ((congrArg (fun X__ => mu_ X__ (ap 13) (la_ G 4 q2)) ((congrArg (fun X__ => mu_ X__ (ap 12) (la_ G 4 (nl_ (Hd * 4294967296 ^ 4 % N)))) ((congrArg (fun X__ => mu_ X__ (ap 11) (la_ G 4 d2)) (mu_c5 (hne (i := 10) (j := 11) (by omega)) (hne (i := 10) (j := 12) (by omega)) (hne (i := 10) (j := 13) (by omega)) (hne (i := 10) (j := 19) (by omega)))).trans (mu_c4 (hne (i := 11) (j := 12) (by omega)) (hne (i := 11) (j := 13) (by omega)) (hne (i := 11) (j := 19) (by omega))))).trans (mu_c3 (hne (i := 12) (j := 13) (by omega)) (hne (i := 12) (j := 19) (by omega))))).trans (mu_c2 (hne (i := 13) (j := 19) (by omega))))) hM
  have hM : mm_ G (mu_ (mu_ (mu_ (mu_ (mu_ (mu_ (mu_ M (ap 22) (la_ G 11 (nl_ (eb_ (pd_ (fo_ (Ls (k1 - 1)) (Ls k1))) p0)))) (ap 10) (la_ G 6 t2)) (ap 11) (la_ G 4 d2)) (ap 12) (la_ G 4 (nl_ (Hd * 4294967296 ^ 4 % N)))) (ap 13) (la_ G 4 q2)) (ap 19) (la_ G 4 (nl_ ((Vt ^ pd_ (Ls k1) % N) ^ (eq_ (pd_ (fo_ (Ls (k1 - 1)) (Ls k1))) p0) % N)))) (ap 18) (la_ G 4 (nl_ (Hd ^ (eb_ (pd_ (fo_ (Ls (k1 - 1)) (Ls k1))) p0) % N)))) H := hM
  refine W.eq (g2 := F0 m 92 ls []) rfl ?_
  refine lv_aload_n hx hb dd_P_takeOutRemoved_92 rfl (lv_at hl 1 rfl) ?_
  refine mr_get C0 hM fk_P_19 (mu_n' (hne (i := 0) (j := 18) (by omega)) (mu_n' (hne (i := 0) (j := 19) (by omega)) (mu_n' (hne (i := 0) (j := 13) (by omega)) (mu_n' (hne (i := 0) (j := 12) (by omega)) (mu_n' (hne (i := 0) (j := 11) (by omega)) (mu_n' (hne (i := 0) (j := 10) (by omega)) (mu_n' (hne (i := 0) (j := 22) (by omega)) h_po))))))) (v := .ref (ap 3)) rfl dd_P_takeOutRemoved_93 ?_
  refine lv_aload_n hx hb dd_P_takeOutRemoved_96 rfl (lv_at hl 1 rfl) ?_
  refine mr_get C0 hM fk_P_37 (mu_n' (hne (i := 0) (j := 18) (by omega)) (mu_n' (hne (i := 0) (j := 19) (by omega)) (mu_n' (hne (i := 0) (j := 13) (by omega)) (mu_n' (hne (i := 0) (j := 12) (by omega)) (mu_n' (hne (i := 0) (j := 11) (by omega)) (mu_n' (hne (i := 0) (j := 10) (by omega)) (mu_n' (hne (i := 0) (j := 22) (by omega)) h_po))))))) (v := .ref (ap 18)) rfl dd_P_takeOutRemoved_97 ?_
  refine lv_aload_n hx hb dd_P_takeOutRemoved_100 rfl (lv_at hl 1 rfl) ?_
  refine mr_get C0 hM fk_P_41 (mu_n' (hne (i := 0) (j := 18) (by omega)) (mu_n' (hne (i := 0) (j := 19) (by omega)) (mu_n' (hne (i := 0) (j := 13) (by omega)) (mu_n' (hne (i := 0) (j := 12) (by omega)) (mu_n' (hne (i := 0) (j := 11) (by omega)) (mu_n' (hne (i := 0) (j := 10) (by omega)) (mu_n' (hne (i := 0) (j := 22) (by omega)) h_po))))))) (v := .ref (ap 19)) rfl dd_P_takeOutRemoved_101 ?_
  refine lv_aload_n hx hb dd_P_takeOutRemoved_104 rfl (lv_at hl 1 rfl) ?_
  refine mr_get C0 hM fk_P_37 (mu_n' (hne (i := 0) (j := 18) (by omega)) (mu_n' (hne (i := 0) (j := 19) (by omega)) (mu_n' (hne (i := 0) (j := 13) (by omega)) (mu_n' (hne (i := 0) (j := 12) (by omega)) (mu_n' (hne (i := 0) (j := 11) (by omega)) (mu_n' (hne (i := 0) (j := 10) (by omega)) (mu_n' (hne (i := 0) (j := 22) (by omega)) h_po))))))) (v := .ref (ap 18)) rfl dd_P_takeOutRemoved_105 ?_
  refine mr_callV (As := [.ref (ap 18), .ref (ap 19), .ref (ap 18)]) (rest := []) C0 hM hS vk_P_177 (mu_n' (hne (i := 3) (j := 18) (by omega)) (mu_n' (hne (i := 3) (j := 19) (by omega)) (mu_n' (hne (i := 3) (j := 13) (by omega)) (mu_n' (hne (i := 3) (j := 12) (by omega)) (mu_n' (hne (i := 3) (j := 11) (by omega)) (mu_n' (hne (i := 3) (j := 10) (by omega)) (mu_n' (hne (i := 3) (j := 22) (by omega)) h_r))))))) rfl (c_R_multiply l (mu_n' (hne (i := 3) (j := 18) (by omega)) (mu_n' (hne (i := 3) (j := 19) (by omega)) (mu_n' (hne (i := 3) (j := 13) (by omega)) (mu_n' (hne (i := 3) (j := 12) (by omega)) (mu_n' (hne (i := 3) (j := 11) (by omega)) (mu_n' (hne (i := 3) (j := 10) (by omega)) (mu_n' (hne (i := 3) (j := 22) (by omega)) h_r))))))) (mu_n' (hne (i := 7) (j := 18) (by omega)) (mu_n' (hne (i := 7) (j := 19) (by omega)) (mu_n' (hne (i := 7) (j := 13) (by omega)) (mu_n' (hne (i := 7) (j := 12) (by omega)) (mu_n' (hne (i := 7) (j := 11) (by omega)) (mu_n' (hne (i := 7) (j := 10) (by omega)) (mu_n' (hne (i := 7) (j := 22) (by omega)) h_mn))))))) (mu_n' (hne (i := 9) (j := 18) (by omega)) (mu_n' (hne (i := 9) (j := 19) (by omega)) (mu_n' (hne (i := 9) (j := 13) (by omega)) (mu_n' (hne (i := 9) (j := 12) (by omega)) (mu_n' (hne (i := 9) (j := 11) (by omega)) (mu_n' (hne (i := 9) (j := 10) (by omega)) (mu_n' (hne (i := 9) (j := 22) (by omega)) h_mq))))))) (mu_n' (hne (i := 10) (j := 18) (by omega)) (mu_n' (hne (i := 10) (j := 19) (by omega)) (mu_n' (hne (i := 10) (j := 13) (by omega)) (mu_n' (hne (i := 10) (j := 12) (by omega)) (mu_n' (hne (i := 10) (j := 11) (by omega)) mu_s))))) (mu_n' (hne (i := 11) (j := 18) (by omega)) (mu_n' (hne (i := 11) (j := 19) (by omega)) (mu_n' (hne (i := 11) (j := 13) (by omega)) (mu_n' (hne (i := 11) (j := 12) (by omega)) mu_s)))) (mu_n' (hne (i := 12) (j := 18) (by omega)) (mu_n' (hne (i := 12) (j := 19) (by omega)) (mu_n' (hne (i := 12) (j := 13) (by omega)) mu_s))) mu_s (mu_n' (hne (i := 19) (j := 18) (by omega)) mu_s) mu_s (hne (i := 11) (j := 12) (by omega)) (hne (i := 7) (j := 12) (by omega)) (hne (i := 7) (j := 11) (by omega)) (hne (i := 7) (j := 10) (by omega)) (hne (i := 9) (j := 11) (by omega)) (hne (i := 9) (j := 10) (by omega)) (hne (i := 18) (j := 12) (by omega)) (hne (i := 18) (j := 11) (by omega)) (hne (i := 18) (j := 10) (by omega)) (hne (i := 10) (j := 12) (by omega)) (hne (i := 10) (j := 11) (by omega)) (hne (i := 18) (j := 11) (by omega)) (hne (i := 18) (j := 10) (by omega)) (hne (i := 19) (j := 12) (by omega)) (hne (i := 19) (j := 11) (by omega)) (hne (i := 19) (j := 10) (by omega)) (Nat.mod_lt _ hN0) (Nat.mod_lt _ hN0) hN hn1 hinv hBi) rfl rfl hl.1 (Nat.le_of_ble_eq_true rfl) rfl rfl (by subst hR; exact ⟨Nat.le_of_ble_eq_true rfl, Nat.le_of_ble_eq_true rfl⟩) (by subst hR; exact ⟨Nat.le_of_ble_eq_true rfl, Nat.le_of_ble_eq_true rfl⟩) dd_P_takeOutRemoved_108 (fun v1 M1 H locs hp hM hS => ?_)
  obtain ⟨ev1, t3, d3, b3, eM1⟩ := hp
  subst ev1
  rw [eM1] at hM
  have hM := mr_M ((congrArg (fun X__ => mu_ X__ (ap 18) (la_ G 4 (nl_ ((Hd ^ (eb_ (pd_ (fo_ (Ls (k1 - 1)) (Ls k1))) p0) % N) * ((Vt ^ pd_ (Ls k1) % N) ^ (eq_ (pd_ (fo_ (Ls (k1 - 1)) (Ls k1))) p0) % N) % N)))) ((congrArg (fun X__ => mu_ X__ (ap 12) (la_ G 4 b3)) ((congrArg (fun X__ => mu_ X__ (ap 11) (la_ G 4 d3)) (mu_c6 (hne (i := 10) (j := 11) (by omega)) (hne (i := 10) (j := 12) (by omega)) (hne (i := 10) (j := 13) (by omega)) (hne (i := 10) (j := 19) (by omega)) (hne (i := 10) (j := 18) (by omega)))).trans (mu_c5 (hne (i := 11) (j := 12) (by omega)) (hne (i := 11) (j := 13) (by omega)) (hne (i := 11) (j := 19) (by omega)) (hne (i := 11) (j := 18) (by omega))))).trans (mu_c4 (hne (i := 12) (j := 13) (by omega)) (hne (i := 12) (j := 19) (by omega)) (hne (i := 12) (j := 18) (by omega))))).trans mu_mu) hM
  have hM : mm_ G (mu_ (mu_ (mu_ (mu_ (mu_ (mu_ (mu_ M (ap 22) (la_ G 11 (nl_ (eb_ (pd_ (fo_ (Ls (k1 - 1)) (Ls k1))) p0)))) (ap 10) (la_ G 6 t3)) (ap 11) (la_ G 4 d3)) (ap 12) (la_ G 4 b3)) (ap 13) (la_ G 4 q2)) (ap 19) (la_ G 4 (nl_ ((Vt ^ pd_ (Ls k1) % N) ^ (eq_ (pd_ (fo_ (Ls (k1 - 1)) (Ls k1))) p0) % N)))) (ap 18) (la_ G 4 (nl_ ((Hd ^ (eb_ (pd_ (fo_ (Ls (k1 - 1)) (Ls k1))) p0) % N) * ((Vt ^ pd_ (Ls k1) % N) ^ (eq_ (pd_ (fo_ (Ls (k1 - 1)) (Ls k1))) p0) % N) % N)))) H := hM
  refine W.eq (g2 := F0 m 111 ls []) rfl ?_
  exact mr_ret hQ (mr_vret C0 hM hS (⟨rfl, _, _, _, _, rfl⟩) dd_P_takeOutRemoved_111)
