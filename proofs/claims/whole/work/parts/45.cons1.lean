
set_option maxHeartbeats 4000000 in
set_option maxRecDepth 100000 in
theorem c_N_init (l : Launch) {G : mg_} {M : mw_} {o : Nat}  (h_o : M o = some (ob_ 1 [.null]))   : ct_ l my_N_init cd_N_init 1 none { frames := 1, cells := 1, slots := 11, locals := 16 } G [.ref o] M (fun v0 M' => v0 = none ∧ ∃ (a1 : Nat), (M a1 = none) ∧ M' = mu_ (mu_ M a1 (la_ G 11 (fun _ => 0))) o (ob_ 1 [.ref a1])) 1 11 := by
  refine ct_.intro2 (by decide) (Nat.le_of_ble_eq_true rfl) ?_
  intro p e s m args below meth c ls R Q hR hQ C0 hl hM hS
  have hx := C0.1
  have hb := C0.2.1
  have hl : lv_has ls 1 [(0, .ref o)] := hl
  refine lv_aload_n hx hb dd_N_init_0 rfl (lv_at hl 0 rfl) ?_
  refine mr_objInit C0 tw_117 hl.1 (by subst hR; decide) (by subst hR; decide) dd_N_init_1 ?_
  refine lv_aload_n hx hb dd_N_init_4 rfl (lv_at hl 0 rfl) ?_
  refine lv_bipush (v := nI 11) hx hb dd_N_init_5 (by decide) ?_
  refine mr_newlF C0 hM hS 11 rfl (by decide) (by subst hR; exact Nat.le_of_ble_eq_true rfl) (by subst hR; exact Nat.le_of_ble_eq_true rfl) dd_N_init_7 (fun a1 H hf hM hS => ?_)
  have fr_a1 := hf
  have ne_a1_o := ne_fr fr_a1 h_o
  have hM : mm_ G (mu_ M a1 (la_ G 11 (fun _ => 0))) H := hM
  refine mr_putF C0 hM hS fk_N_9 fp_N_9 (mu_n' (Ne.symm ne_a1_o) h_o) rfl rfl rfl (rfl) (rfl) (Nat.le_of_ble_eq_true rfl) dd_N_init_9 (fun H locs hM hS => ?_)
  have hM : mm_ G (mu_ (mu_ M a1 (la_ G 11 (fun _ => 0))) o (ob_ 1 [.ref a1])) H := hM
  exact mr_ret hQ (mr_vret C0 hM hS (⟨rfl, a1, fr_a1, rfl⟩) dd_N_init_12)

set_option maxHeartbeats 4000000 in
set_option maxRecDepth 100000 in
theorem c_S_init (l : Launch) {G : mg_} {M : mw_} {o : Nat}  (h_o : M o = some (ob_ 4 [.null]))   : ct_ l my_S_init cd_S_init 1 none { frames := 1, cells := 1, slots := 64, locals := 16 } G [.ref o] M (fun v0 M' => v0 = none ∧ ∃ (a1 : Nat), (M a1 = none) ∧ M' = mu_ (mu_ M a1 (ia_ G 64 (fun _ => 0))) o (ob_ 4 [.ref a1])) 1 64 := by
  refine ct_.intro2 (by decide) (Nat.le_of_ble_eq_true rfl) ?_
  intro p e s m args below meth c ls R Q hR hQ C0 hl hM hS
  have hx := C0.1
  have hb := C0.2.1
  have hl : lv_has ls 1 [(0, .ref o)] := hl
  refine lv_aload_n hx hb dd_S_init_0 rfl (lv_at hl 0 rfl) ?_
  refine mr_objInit C0 tw_23 hl.1 (by subst hR; decide) (by subst hR; decide) dd_S_init_1 ?_
  refine lv_aload_n hx hb dd_S_init_4 rfl (lv_at hl 0 rfl) ?_
  refine lv_bipush (v := nI 64) hx hb dd_S_init_5 (by decide) ?_
  refine mr_newiF C0 hM hS 64 rfl (by decide) (by subst hR; exact Nat.le_of_ble_eq_true rfl) (by subst hR; exact Nat.le_of_ble_eq_true rfl) dd_S_init_7 (fun a1 H hf hM hS => ?_)
  have fr_a1 := hf
  have ne_a1_o := ne_fr fr_a1 h_o
  have hM : mm_ G (mu_ M a1 (ia_ G 64 (fun _ => 0))) H := hM
  refine mr_putF C0 hM hS fk_S_11 fp_S_11 (mu_n' (Ne.symm ne_a1_o) h_o) rfl rfl rfl (rfl) (rfl) (Nat.le_of_ble_eq_true rfl) dd_S_init_9 (fun H locs hM hS => ?_)
  have hM : mm_ G (mu_ (mu_ M a1 (ia_ G 64 (fun _ => 0))) o (ob_ 4 [.ref a1])) H := hM
  exact mr_ret hQ (mr_vret C0 hM hS (⟨rfl, a1, fr_a1, rfl⟩) dd_S_init_12)

set_option maxHeartbeats 4000000 in
set_option maxRecDepth 100000 in
theorem c_T_init (l : Launch) {G : mg_} {M : mw_} {o : Nat}  (h_o : M o = some (ob_ 3 [.null, .null, .int (nI 0)]))   : ct_ l my_T_init cd_T_init 1 none { frames := 1, cells := 2, slots := 20, locals := 16 } G [.ref o] M (fun v0 M' => v0 = none ∧ ∃ (a1 : Nat) (a2 : Nat), (M a1 = none ∧ M a2 = none ∧ a2 ≠ a1) ∧ M' = mu_ (mu_ (mu_ M a1 (la_ G 10 (fun _ => 0))) o (ob_ 3 [.ref a1, .ref a2, .int (nI 0)])) a2 (ia_ G 10 (fun _ => 0))) 2 20 := by
  refine ct_.intro2 (by decide) (Nat.le_of_ble_eq_true rfl) ?_
  intro p e s m args below meth c ls R Q hR hQ C0 hl hM hS
  have hx := C0.1
  have hb := C0.2.1
  have hl : lv_has ls 1 [(0, .ref o)] := hl
  refine lv_aload_n hx hb dd_T_init_0 rfl (lv_at hl 0 rfl) ?_
  refine mr_objInit C0 tw_78 hl.1 (by subst hR; decide) (by subst hR; decide) dd_T_init_1 ?_
  refine lv_aload_n hx hb dd_T_init_4 rfl (lv_at hl 0 rfl) ?_
  refine lv_bipush (v := nI 10) hx hb dd_T_init_5 (by decide) ?_
  refine mr_newlF C0 hM hS 10 rfl (by decide) (by subst hR; exact Nat.le_of_ble_eq_true rfl) (by subst hR; exact Nat.le_of_ble_eq_true rfl) dd_T_init_7 (fun a1 H hf hM hS => ?_)
  have fr_a1 := hf
  have ne_a1_o := ne_fr fr_a1 h_o
  have hM : mm_ G (mu_ M a1 (la_ G 10 (fun _ => 0))) H := hM
  refine mr_putF C0 hM hS fk_T_11 fp_T_11 (mu_n' (Ne.symm ne_a1_o) h_o) rfl rfl rfl (rfl) (rfl) (Nat.le_of_ble_eq_true rfl) dd_T_init_9 (fun H locs hM hS => ?_)
  have hM : mm_ G (mu_ (mu_ M a1 (la_ G 10 (fun _ => 0))) o (ob_ 3 [.ref a1, .null, .int (nI 0)])) H := hM
  refine lv_aload_n hx hb dd_T_init_12 rfl (lv_at hl 0 rfl) ?_
  refine lv_bipush (v := nI 10) hx hb dd_T_init_13 (by decide) ?_
  refine mr_newiF C0 hM hS 10 rfl (by decide) (by subst hR; exact Nat.le_of_ble_eq_true rfl) (by subst hR; exact Nat.le_of_ble_eq_true rfl) dd_T_init_15 (fun a2 H hf hM hS => ?_)
  obtain ⟨ne_a2_o, hf⟩ := mu_fr hf
  obtain ⟨ne_a2_a1, hf⟩ := mu_fr hf
  have fr_a2 := hf
  have hM : mm_ G (mu_ (mu_ (mu_ M a1 (la_ G 10 (fun _ => 0))) o (ob_ 3 [.ref a1, .null, .int (nI 0)])) a2 (ia_ G 10 (fun _ => 0))) H := hM
  refine mr_putF C0 hM hS fk_T_15 fp_T_15 (mu_n' (Ne.symm ne_a2_o) mu_s) rfl rfl rfl (rfl) (rfl) (Nat.le_of_ble_eq_true rfl) dd_T_init_17 (fun H locs hM hS => ?_)
  have hM := mr_M (mu_c2 (Ne.symm ne_a2_o)) hM
  have hM : mm_ G (mu_ (mu_ (mu_ M a1 (la_ G 10 (fun _ => 0))) o (ob_ 3 [.ref a1, .ref a2, .int (nI 0)])) a2 (ia_ G 10 (fun _ => 0))) H := hM
  exact mr_ret hQ (mr_vret C0 hM hS (⟨rfl, a1, a2, ⟨fr_a1, fr_a2, ne_a2_a1⟩, rfl⟩) dd_T_init_20)

set_option maxHeartbeats 4000000 in
set_option maxRecDepth 100000 in
theorem c_E_init (l : Launch) {G : mg_} {M : mw_} {o : Nat}  (h_o : M o = some (ob_ 0 [.null, .null, .null]))   : ct_ l my_E_init cd_E_init 1 none { frames := 2, cells := 5, slots := 31, locals := 36 } G [.ref o] M (fun v0 M' => v0 = none ∧ ∃ (a1 : Nat) (a2 : Nat) (a3 : Nat) (a4 : Nat) (a5 : Nat), (M a1 = none ∧ M a2 = none ∧ M a3 = none ∧ M a4 = none ∧ M a5 = none ∧ a2 ≠ a1 ∧ a3 ≠ a1 ∧ a3 ≠ a2 ∧ a4 ≠ a1 ∧ a4 ≠ a2 ∧ a4 ≠ a3 ∧ a5 ≠ a1 ∧ a5 ≠ a2 ∧ a5 ≠ a3 ∧ a5 ≠ a4) ∧ M' = mu_ (mu_ (mu_ (mu_ (mu_ (mu_ M a1 (ob_ 3 [.ref a2, .ref a3, .int (nI 0)])) a2 (la_ G 10 (fun _ => 0))) a3 (ia_ G 10 (fun _ => 0))) o (ob_ 0 [.ref a1, .ref a4, .ref a5])) a4 (la_ G 4 (fun _ => 0))) a5 (la_ G 4 (fun _ => 0))) 5 31 := by
  refine ct_.intro2 (by decide) (Nat.le_of_ble_eq_true rfl) ?_
  intro p e s m args below meth c ls R Q hR hQ C0 hl hM hS
  have hx := C0.1
  have hb := C0.2.1
  have hl : lv_has ls 1 [(0, .ref o)] := hl
  refine lv_aload_n hx hb dd_E_init_0 rfl (lv_at hl 0 rfl) ?_
  refine mr_objInit C0 tw_96 hl.1 (by subst hR; decide) (by subst hR; decide) dd_E_init_1 ?_
  refine lv_aload_n hx hb dd_E_init_4 rfl (lv_at hl 0 rfl) ?_
  refine mr_newoF (ci := 3) (fs := [.null, .null, .int (nI 0)]) C0 hM hS rfl ly_T ok_T tw_97 tw_74 tw_4 (fun j hj => by match j, hj with | 0, _ => rfl | 1, _ => rfl | 2, _ => rfl) (by subst hR; exact Nat.le_of_ble_eq_true rfl) (by subst hR; exact Nat.le_of_ble_eq_true rfl) dd_E_init_5 (fun a1 H hf hM hS => ?_)
  have fr_a1 := hf
  have ne_a1_o := ne_fr fr_a1 h_o
  have hM : mm_ G (mu_ M a1 (ob_ 3 [.null, .null, .int (nI 0)])) H := hM
  refine lv_dup hx hb dd_E_init_8 rfl ?_
  refine mr_callI (As := []) (rest := [.ref a1, .ref o]) C0 hM hS tw_77 C0.2.2.2.2.2.2.2.1.2.2.2.2.2.2.1 tw_4 tw_76 ⟨by decide, by decide, by decide +kernel⟩ rfl (c_T_init l mu_s) rfl rfl hl.1 (Nat.le_of_ble_eq_true rfl) rfl rfl (by subst hR; exact ⟨Nat.le_of_ble_eq_true rfl, Nat.le_of_ble_eq_true rfl⟩) (by subst hR; exact ⟨Nat.le_of_ble_eq_true rfl, Nat.le_of_ble_eq_true rfl⟩) dd_E_init_9 (fun v1 M1 H locs hp hM hS => ?_)
  obtain ⟨ev1, a2, a3, ⟨hf_a2, hf_a3, ne_a3_a2⟩, eM1⟩ := hp
  subst ev1
  rw [eM1] at hM
  have hf := hf_a2
  obtain ⟨ne_a2_a1, hf⟩ := mu_fr hf
  have fr_a2 := hf
  have ne_a2_o := ne_fr fr_a2 h_o
  have hf := hf_a3
  obtain ⟨ne_a3_a1, hf⟩ := mu_fr hf
  have fr_a3 := hf
  have ne_a3_o := ne_fr fr_a3 h_o
  have hM := mr_M (congrArg (fun X__ => mu_ X__ a3 (ia_ G 10 (fun _ => 0))) (mu_c2 (Ne.symm ne_a2_a1))) hM
  have hM : mm_ G (mu_ (mu_ (mu_ M a1 (ob_ 3 [.ref a2, .ref a3, .int (nI 0)])) a2 (la_ G 10 (fun _ => 0))) a3 (ia_ G 10 (fun _ => 0))) H := hM
  refine W.eq (g2 := F0 m 12 ls [.ref a1, .ref o]) rfl ?_
  refine mr_putF C0 hM hS fk_E_10 fp_E_10 (mu_n' (Ne.symm ne_a3_o) (mu_n' (Ne.symm ne_a2_o) (mu_n' (Ne.symm ne_a1_o) h_o))) rfl rfl rfl (rfl) (rfl) (Nat.le_of_ble_eq_true rfl) dd_E_init_12 (fun H locs hM hS => ?_)
  have hM : mm_ G (mu_ (mu_ (mu_ (mu_ M a1 (ob_ 3 [.ref a2, .ref a3, .int (nI 0)])) a2 (la_ G 10 (fun _ => 0))) a3 (ia_ G 10 (fun _ => 0))) o (ob_ 0 [.ref a1, .null, .null])) H := hM
  refine lv_aload_n hx hb dd_E_init_15 rfl (lv_at hl 0 rfl) ?_
  refine lv_iconst (v := nI 4) hx hb dd_E_init_16 (by decide) ?_
  refine mr_newlF C0 hM hS 4 rfl (by decide) (by subst hR; exact Nat.le_of_ble_eq_true rfl) (by subst hR; exact Nat.le_of_ble_eq_true rfl) dd_E_init_17 (fun a4 H hf hM hS => ?_)
  obtain ⟨ne_a4_o, hf⟩ := mu_fr hf
  obtain ⟨ne_a4_a3, hf⟩ := mu_fr hf
  obtain ⟨ne_a4_a2, hf⟩ := mu_fr hf
  obtain ⟨ne_a4_a1, hf⟩ := mu_fr hf
  have fr_a4 := hf
  have hM : mm_ G (mu_ (mu_ (mu_ (mu_ (mu_ M a1 (ob_ 3 [.ref a2, .ref a3, .int (nI 0)])) a2 (la_ G 10 (fun _ => 0))) a3 (ia_ G 10 (fun _ => 0))) o (ob_ 0 [.ref a1, .null, .null])) a4 (la_ G 4 (fun _ => 0))) H := hM
  refine mr_putF C0 hM hS fk_E_18 fp_E_18 (mu_n' (Ne.symm ne_a4_o) mu_s) rfl rfl rfl (rfl) (rfl) (Nat.le_of_ble_eq_true rfl) dd_E_init_19 (fun H locs hM hS => ?_)
  have hM := mr_M (mu_c2 (Ne.symm ne_a4_o)) hM
  have hM : mm_ G (mu_ (mu_ (mu_ (mu_ (mu_ M a1 (ob_ 3 [.ref a2, .ref a3, .int (nI 0)])) a2 (la_ G 10 (fun _ => 0))) a3 (ia_ G 10 (fun _ => 0))) o (ob_ 0 [.ref a1, .ref a4, .null])) a4 (la_ G 4 (fun _ => 0))) H := hM
  refine lv_aload_n hx hb dd_E_init_22 rfl (lv_at hl 0 rfl) ?_
  refine lv_iconst (v := nI 4) hx hb dd_E_init_23 (by decide) ?_
  refine mr_newlF C0 hM hS 4 rfl (by decide) (by subst hR; exact Nat.le_of_ble_eq_true rfl) (by subst hR; exact Nat.le_of_ble_eq_true rfl) dd_E_init_24 (fun a5 H hf hM hS => ?_)
  obtain ⟨ne_a5_a4, hf⟩ := mu_fr hf
  obtain ⟨ne_a5_o, hf⟩ := mu_fr hf
  obtain ⟨ne_a5_a3, hf⟩ := mu_fr hf
  obtain ⟨ne_a5_a2, hf⟩ := mu_fr hf
  obtain ⟨ne_a5_a1, hf⟩ := mu_fr hf
  have fr_a5 := hf
  have hM : mm_ G (mu_ (mu_ (mu_ (mu_ (mu_ (mu_ M a1 (ob_ 3 [.ref a2, .ref a3, .int (nI 0)])) a2 (la_ G 10 (fun _ => 0))) a3 (ia_ G 10 (fun _ => 0))) o (ob_ 0 [.ref a1, .ref a4, .null])) a4 (la_ G 4 (fun _ => 0))) a5 (la_ G 4 (fun _ => 0))) H := hM
  refine mr_putF C0 hM hS fk_E_22 fp_E_22 (mu_n' (Ne.symm ne_a5_o) (mu_n' (Ne.symm ne_a4_o) mu_s)) rfl rfl rfl (rfl) (rfl) (Nat.le_of_ble_eq_true rfl) dd_E_init_26 (fun H locs hM hS => ?_)
  have hM := mr_M (mu_c3 (Ne.symm ne_a4_o) (Ne.symm ne_a5_o)) hM
  have hM : mm_ G (mu_ (mu_ (mu_ (mu_ (mu_ (mu_ M a1 (ob_ 3 [.ref a2, .ref a3, .int (nI 0)])) a2 (la_ G 10 (fun _ => 0))) a3 (ia_ G 10 (fun _ => 0))) o (ob_ 0 [.ref a1, .ref a4, .ref a5])) a4 (la_ G 4 (fun _ => 0))) a5 (la_ G 4 (fun _ => 0))) H := hM
  exact mr_ret hQ (mr_vret C0 hM hS (⟨rfl, a1, a2, a3, a4, a5, ⟨fr_a1, fr_a2, fr_a3, fr_a4, fr_a5, ne_a2_a1, ne_a3_a1, ne_a3_a2, ne_a4_a1, ne_a4_a2, ne_a4_a3, ne_a5_a1, ne_a5_a2, ne_a5_a3, ne_a5_a4⟩, rfl⟩) dd_E_init_29)

set_option maxHeartbeats 4000000 in
set_option maxRecDepth 100000 in
theorem c_R_init (l : Launch) {G : mg_} {M : mw_} {o : Nat}  (h_o : M o = some (ob_ 2 [.null, .null, .null, .null, .null, .null, .null, .null, .null, .null, .long (lN 0)]))   : ct_ l my_R_init cd_R_init 1 none { frames := 1, cells := 10, slots := 42, locals := 16 } G [.ref o] M (fun v0 M' => v0 = none ∧ ∃ (a1 : Nat) (a2 : Nat) (a3 : Nat) (a4 : Nat) (a5 : Nat) (a6 : Nat) (a7 : Nat) (a8 : Nat) (a9 : Nat) (a10 : Nat), (M a1 = none ∧ M a2 = none ∧ M a3 = none ∧ M a4 = none ∧ M a5 = none ∧ M a6 = none ∧ M a7 = none ∧ M a8 = none ∧ M a9 = none ∧ M a10 = none ∧ a2 ≠ a1 ∧ a3 ≠ a1 ∧ a3 ≠ a2 ∧ a4 ≠ a1 ∧ a4 ≠ a2 ∧ a4 ≠ a3 ∧ a5 ≠ a1 ∧ a5 ≠ a2 ∧ a5 ≠ a3 ∧ a5 ≠ a4 ∧ a6 ≠ a1 ∧ a6 ≠ a2 ∧ a6 ≠ a3 ∧ a6 ≠ a4 ∧ a6 ≠ a5 ∧ a7 ≠ a1 ∧ a7 ≠ a2 ∧ a7 ≠ a3 ∧ a7 ≠ a4 ∧ a7 ≠ a5 ∧ a7 ≠ a6 ∧ a8 ≠ a1 ∧ a8 ≠ a2 ∧ a8 ≠ a3 ∧ a8 ≠ a4 ∧ a8 ≠ a5 ∧ a8 ≠ a6 ∧ a8 ≠ a7 ∧ a9 ≠ a1 ∧ a9 ≠ a2 ∧ a9 ≠ a3 ∧ a9 ≠ a4 ∧ a9 ≠ a5 ∧ a9 ≠ a6 ∧ a9 ≠ a7 ∧ a9 ≠ a8 ∧ a10 ≠ a1 ∧ a10 ≠ a2 ∧ a10 ≠ a3 ∧ a10 ≠ a4 ∧ a10 ≠ a5 ∧ a10 ≠ a6 ∧ a10 ≠ a7 ∧ a10 ≠ a8 ∧ a10 ≠ a9) ∧ M' = mu_ (mu_ (mu_ (mu_ (mu_ (mu_ (mu_ (mu_ (mu_ (mu_ (mu_ M a1 (la_ G 4 (nl_ 3))) o (ob_ 2 [.ref a1, .ref a2, .ref a3, .ref a4, .ref a5, .ref a6, .ref a7, .ref a8, .ref a9, .ref a10, .long (lN 0)])) a2 (la_ G 4 (fun _ => 0))) a3 (la_ G 4 (nl_ 1))) a4 (la_ G 4 (fun _ => 0))) a5 (la_ G 4 (fun _ => 0))) a6 (la_ G 4 (fun _ => 0))) a7 (la_ G 6 (fun _ => 0))) a8 (la_ G 4 (fun _ => 0))) a9 (la_ G 4 (fun _ => 0))) a10 (la_ G 4 (fun _ => 0))) 10 42 := by
  refine ct_.intro2 (by decide) (Nat.le_of_ble_eq_true rfl) ?_
  intro p e s m args below meth c ls R Q hR hQ C0 hl hM hS
  have hx := C0.1
  have hb := C0.2.1
  have hl : lv_has ls 1 [(0, .ref o)] := hl
  refine lv_aload_n hx hb dd_R_init_0 rfl (lv_at hl 0 rfl) ?_
  refine mr_objInit C0 tw_34 hl.1 (by subst hR; decide) (by subst hR; decide) dd_R_init_1 ?_
  refine lv_aload_n hx hb dd_R_init_4 rfl (lv_at hl 0 rfl) ?_
  refine lv_iconst (v := nI 4) hx hb dd_R_init_5 (by decide) ?_
  refine mr_newlF C0 hM hS 4 rfl (by decide) (by subst hR; exact Nat.le_of_ble_eq_true rfl) (by subst hR; exact Nat.le_of_ble_eq_true rfl) dd_R_init_6 (fun a1 H hf hM hS => ?_)
  have fr_a1 := hf
  have ne_a1_o := ne_fr fr_a1 h_o
  have hM : mm_ G (mu_ M a1 (la_ G 4 (fun _ => 0))) H := hM
  refine lv_dup hx hb dd_R_init_8 rfl ?_
  refine lv_iconst (v := nI 0) hx hb dd_R_init_9 (by decide) ?_
  refine mr_ldc2 (v := lN 3) C0 tw_35 dd_R_init_10 ?_
  refine mr_last C0 hM hS mu_s (0) (rfl) (by omega) (by decide) dd_R_init_13 (fun H locs hM hS => ?_)
  have hM := mr_M mu_mu hM
  have hM := mr_M (congrArg (fun z__ => mu_ M a1 (la_ G 4 z__)) (show (vp_updL (fun _ => 0) 0 (lN 3) : Nat → Int64) = (ku_ (nl_ 3) 1) from ku_s0 (f := nl_ 3) (by decide))) hM
  have hM : mm_ G (mu_ M a1 (la_ G 4 (ku_ (nl_ 3) 1))) H := hM
  refine lv_dup hx hb dd_R_init_14 rfl ?_
  refine lv_iconst (v := nI 1) hx hb dd_R_init_15 (by decide) ?_
  refine lv_lconst (v := lN 0) hx hb dd_R_init_16 rfl ?_
  refine mr_last C0 hM hS mu_s (1) (rfl) (by omega) (by decide) dd_R_init_17 (fun H locs hM hS => ?_)
  have hM := mr_M mu_mu hM
  have hM := mr_M (congrArg (fun z__ => mu_ M a1 (la_ G 4 z__)) (show (vp_updL (ku_ (nl_ 3) 1) 1 (lN 0) : Nat → Int64) = (ku_ (nl_ 3) 2) from ku_s (f := nl_ 3) (by decide))) hM
  have hM : mm_ G (mu_ M a1 (la_ G 4 (ku_ (nl_ 3) 2))) H := hM
  refine lv_dup hx hb dd_R_init_18 rfl ?_
  refine lv_iconst (v := nI 2) hx hb dd_R_init_19 (by decide) ?_
  refine lv_lconst (v := lN 0) hx hb dd_R_init_20 rfl ?_
  refine mr_last C0 hM hS mu_s (2) (rfl) (by omega) (by decide) dd_R_init_21 (fun H locs hM hS => ?_)
  have hM := mr_M mu_mu hM
  have hM := mr_M (congrArg (fun z__ => mu_ M a1 (la_ G 4 z__)) (show (vp_updL (ku_ (nl_ 3) 2) 2 (lN 0) : Nat → Int64) = (ku_ (nl_ 3) 3) from ku_s (f := nl_ 3) (by decide))) hM
  have hM : mm_ G (mu_ M a1 (la_ G 4 (ku_ (nl_ 3) 3))) H := hM
  refine lv_dup hx hb dd_R_init_22 rfl ?_
  refine lv_iconst (v := nI 3) hx hb dd_R_init_23 (by decide) ?_
  refine lv_lconst (v := lN 0) hx hb dd_R_init_24 rfl ?_
  refine mr_last C0 hM hS mu_s (3) (rfl) (by omega) (by decide) dd_R_init_25 (fun H locs hM hS => ?_)
  have hM := mr_M mu_mu hM
  have hM := mr_M (congrArg (fun z__ => mu_ M a1 (la_ G 4 z__)) (show (vp_updL (ku_ (nl_ 3) 3) 3 (lN 0) : Nat → Int64) = (ku_ (nl_ 3) 4) from ku_s (f := nl_ 3) (by decide))) hM
  have hM : mm_ G (mu_ M a1 (la_ G 4 (ku_ (nl_ 3) 4))) H := hM
  rw [ku_nl (V := 3) (n := 4) (by decide)] at hM
  have hM : mm_ G (mu_ M a1 (la_ G 4 (nl_ 3))) H := hM
  refine mr_putF C0 hM hS fk_R_9 fp_R_9 (mu_n' (Ne.symm ne_a1_o) h_o) rfl rfl rfl (rfl) (rfl) (Nat.le_of_ble_eq_true rfl) dd_R_init_26 (fun H locs hM hS => ?_)
  have hM : mm_ G (mu_ (mu_ M a1 (la_ G 4 (nl_ 3))) o (ob_ 2 [.ref a1, .null, .null, .null, .null, .null, .null, .null, .null, .null, .long (lN 0)])) H := hM
  refine lv_aload_n hx hb dd_R_init_29 rfl (lv_at hl 0 rfl) ?_
  refine lv_iconst (v := nI 4) hx hb dd_R_init_30 (by decide) ?_
  refine mr_newlF C0 hM hS 4 rfl (by decide) (by subst hR; exact Nat.le_of_ble_eq_true rfl) (by subst hR; exact Nat.le_of_ble_eq_true rfl) dd_R_init_31 (fun a2 H hf hM hS => ?_)
  obtain ⟨ne_a2_o, hf⟩ := mu_fr hf
  obtain ⟨ne_a2_a1, hf⟩ := mu_fr hf
  have fr_a2 := hf
  have hM : mm_ G (mu_ (mu_ (mu_ M a1 (la_ G 4 (nl_ 3))) o (ob_ 2 [.ref a1, .null, .null, .null, .null, .null, .null, .null, .null, .null, .long (lN 0)])) a2 (la_ G 4 (fun _ => 0))) H := hM
  refine mr_putF C0 hM hS fk_R_15 fp_R_15 (mu_n' (Ne.symm ne_a2_o) mu_s) rfl rfl rfl (rfl) (rfl) (Nat.le_of_ble_eq_true rfl) dd_R_init_33 (fun H locs hM hS => ?_)
  have hM := mr_M (mu_c2 (Ne.symm ne_a2_o)) hM
  have hM : mm_ G (mu_ (mu_ (mu_ M a1 (la_ G 4 (nl_ 3))) o (ob_ 2 [.ref a1, .ref a2, .null, .null, .null, .null, .null, .null, .null, .null, .long (lN 0)])) a2 (la_ G 4 (fun _ => 0))) H := hM
  refine lv_aload_n hx hb dd_R_init_36 rfl (lv_at hl 0 rfl) ?_
  refine lv_iconst (v := nI 4) hx hb dd_R_init_37 (by decide) ?_
  refine mr_newlF C0 hM hS 4 rfl (by decide) (by subst hR; exact Nat.le_of_ble_eq_true rfl) (by subst hR; exact Nat.le_of_ble_eq_true rfl) dd_R_init_38 (fun a3 H hf hM hS => ?_)
  obtain ⟨ne_a3_a2, hf⟩ := mu_fr hf
  obtain ⟨ne_a3_o, hf⟩ := mu_fr hf
  obtain ⟨ne_a3_a1, hf⟩ := mu_fr hf
  have fr_a3 := hf
  have hM : mm_ G (mu_ (mu_ (mu_ (mu_ M a1 (la_ G 4 (nl_ 3))) o (ob_ 2 [.ref a1, .ref a2, .null, .null, .null, .null, .null, .null, .null, .null, .long (lN 0)])) a2 (la_ G 4 (fun _ => 0))) a3 (la_ G 4 (fun _ => 0))) H := hM
  refine lv_dup hx hb dd_R_init_40 rfl ?_
  refine lv_iconst (v := nI 0) hx hb dd_R_init_41 (by decide) ?_
  refine lv_lconst (v := lN 1) hx hb dd_R_init_42 rfl ?_
  refine mr_last C0 hM hS mu_s (0) (rfl) (by omega) (by decide) dd_R_init_43 (fun H locs hM hS => ?_)
  have hM := mr_M mu_mu hM
  have hM := mr_M (congrArg (fun z__ => mu_ (mu_ (mu_ (mu_ M a1 (la_ G 4 (nl_ 3))) o (ob_ 2 [.ref a1, .ref a2, .null, .null, .null, .null, .null, .null, .null, .null, .long (lN 0)])) a2 (la_ G 4 (fun _ => 0))) a3 (la_ G 4 z__)) (show (vp_updL (fun _ => 0) 0 (lN 1) : Nat → Int64) = (ku_ (nl_ 1) 1) from ku_s0 (f := nl_ 1) (by decide))) hM
  have hM : mm_ G (mu_ (mu_ (mu_ (mu_ M a1 (la_ G 4 (nl_ 3))) o (ob_ 2 [.ref a1, .ref a2, .null, .null, .null, .null, .null, .null, .null, .null, .long (lN 0)])) a2 (la_ G 4 (fun _ => 0))) a3 (la_ G 4 (ku_ (nl_ 1) 1))) H := hM
  refine lv_dup hx hb dd_R_init_44 rfl ?_
  refine lv_iconst (v := nI 1) hx hb dd_R_init_45 (by decide) ?_
  refine lv_lconst (v := lN 0) hx hb dd_R_init_46 rfl ?_
  refine mr_last C0 hM hS mu_s (1) (rfl) (by omega) (by decide) dd_R_init_47 (fun H locs hM hS => ?_)
  have hM := mr_M mu_mu hM
  have hM := mr_M (congrArg (fun z__ => mu_ (mu_ (mu_ (mu_ M a1 (la_ G 4 (nl_ 3))) o (ob_ 2 [.ref a1, .ref a2, .null, .null, .null, .null, .null, .null, .null, .null, .long (lN 0)])) a2 (la_ G 4 (fun _ => 0))) a3 (la_ G 4 z__)) (show (vp_updL (ku_ (nl_ 1) 1) 1 (lN 0) : Nat → Int64) = (ku_ (nl_ 1) 2) from ku_s (f := nl_ 1) (by decide))) hM
  have hM : mm_ G (mu_ (mu_ (mu_ (mu_ M a1 (la_ G 4 (nl_ 3))) o (ob_ 2 [.ref a1, .ref a2, .null, .null, .null, .null, .null, .null, .null, .null, .long (lN 0)])) a2 (la_ G 4 (fun _ => 0))) a3 (la_ G 4 (ku_ (nl_ 1) 2))) H := hM
  refine lv_dup hx hb dd_R_init_48 rfl ?_
  refine lv_iconst (v := nI 2) hx hb dd_R_init_49 (by decide) ?_
  refine lv_lconst (v := lN 0) hx hb dd_R_init_50 rfl ?_
  refine mr_last C0 hM hS mu_s (2) (rfl) (by omega) (by decide) dd_R_init_51 (fun H locs hM hS => ?_)
  have hM := mr_M mu_mu hM
  have hM := mr_M (congrArg (fun z__ => mu_ (mu_ (mu_ (mu_ M a1 (la_ G 4 (nl_ 3))) o (ob_ 2 [.ref a1, .ref a2, .null, .null, .null, .null, .null, .null, .null, .null, .long (lN 0)])) a2 (la_ G 4 (fun _ => 0))) a3 (la_ G 4 z__)) (show (vp_updL (ku_ (nl_ 1) 2) 2 (lN 0) : Nat → Int64) = (ku_ (nl_ 1) 3) from ku_s (f := nl_ 1) (by decide))) hM
  have hM : mm_ G (mu_ (mu_ (mu_ (mu_ M a1 (la_ G 4 (nl_ 3))) o (ob_ 2 [.ref a1, .ref a2, .null, .null, .null, .null, .null, .null, .null, .null, .long (lN 0)])) a2 (la_ G 4 (fun _ => 0))) a3 (la_ G 4 (ku_ (nl_ 1) 3))) H := hM
  refine lv_dup hx hb dd_R_init_52 rfl ?_
  refine lv_iconst (v := nI 3) hx hb dd_R_init_53 (by decide) ?_
  refine lv_lconst (v := lN 0) hx hb dd_R_init_54 rfl ?_
  refine mr_last C0 hM hS mu_s (3) (rfl) (by omega) (by decide) dd_R_init_55 (fun H locs hM hS => ?_)
  have hM := mr_M mu_mu hM
  have hM := mr_M (congrArg (fun z__ => mu_ (mu_ (mu_ (mu_ M a1 (la_ G 4 (nl_ 3))) o (ob_ 2 [.ref a1, .ref a2, .null, .null, .null, .null, .null, .null, .null, .null, .long (lN 0)])) a2 (la_ G 4 (fun _ => 0))) a3 (la_ G 4 z__)) (show (vp_updL (ku_ (nl_ 1) 3) 3 (lN 0) : Nat → Int64) = (ku_ (nl_ 1) 4) from ku_s (f := nl_ 1) (by decide))) hM
  have hM : mm_ G (mu_ (mu_ (mu_ (mu_ M a1 (la_ G 4 (nl_ 3))) o (ob_ 2 [.ref a1, .ref a2, .null, .null, .null, .null, .null, .null, .null, .null, .long (lN 0)])) a2 (la_ G 4 (fun _ => 0))) a3 (la_ G 4 (ku_ (nl_ 1) 4))) H := hM
  rw [ku_nl (V := 1) (n := 4) (by decide)] at hM
  have hM : mm_ G (mu_ (mu_ (mu_ (mu_ M a1 (la_ G 4 (nl_ 3))) o (ob_ 2 [.ref a1, .ref a2, .null, .null, .null, .null, .null, .null, .null, .null, .long (lN 0)])) a2 (la_ G 4 (fun _ => 0))) a3 (la_ G 4 (nl_ 1))) H := hM
  refine mr_putF C0 hM hS fk_R_18 fp_R_18 (mu_n' (Ne.symm ne_a3_o) (mu_n' (Ne.symm ne_a2_o) mu_s)) rfl rfl rfl (rfl) (rfl) (Nat.le_of_ble_eq_true rfl) dd_R_init_56 (fun H locs hM hS => ?_)
  have hM := mr_M (mu_c3 (Ne.symm ne_a2_o) (Ne.symm ne_a3_o)) hM
  have hM : mm_ G (mu_ (mu_ (mu_ (mu_ M a1 (la_ G 4 (nl_ 3))) o (ob_ 2 [.ref a1, .ref a2, .ref a3, .null, .null, .null, .null, .null, .null, .null, .long (lN 0)])) a2 (la_ G 4 (fun _ => 0))) a3 (la_ G 4 (nl_ 1))) H := hM
  refine lv_aload_n hx hb dd_R_init_59 rfl (lv_at hl 0 rfl) ?_
  refine lv_iconst (v := nI 4) hx hb dd_R_init_60 (by decide) ?_
  refine mr_newlF C0 hM hS 4 rfl (by decide) (by subst hR; exact Nat.le_of_ble_eq_true rfl) (by subst hR; exact Nat.le_of_ble_eq_true rfl) dd_R_init_61 (fun a4 H hf hM hS => ?_)
  obtain ⟨ne_a4_a3, hf⟩ := mu_fr hf
  obtain ⟨ne_a4_a2, hf⟩ := mu_fr hf
  obtain ⟨ne_a4_o, hf⟩ := mu_fr hf
  obtain ⟨ne_a4_a1, hf⟩ := mu_fr hf
  have fr_a4 := hf
  have hM : mm_ G (mu_ (mu_ (mu_ (mu_ (mu_ M a1 (la_ G 4 (nl_ 3))) o (ob_ 2 [.ref a1, .ref a2, .ref a3, .null, .null, .null, .null, .null, .null, .null, .long (lN 0)])) a2 (la_ G 4 (fun _ => 0))) a3 (la_ G 4 (nl_ 1))) a4 (la_ G 4 (fun _ => 0))) H := hM
  refine mr_putF C0 hM hS fk_R_21 fp_R_21 (mu_n' (Ne.symm ne_a4_o) (mu_n' (Ne.symm ne_a3_o) (mu_n' (Ne.symm ne_a2_o) mu_s))) rfl rfl rfl (rfl) (rfl) (Nat.le_of_ble_eq_true rfl) dd_R_init_63 (fun H locs hM hS => ?_)
  have hM := mr_M (mu_c4 (Ne.symm ne_a2_o) (Ne.symm ne_a3_o) (Ne.symm ne_a4_o)) hM
  have hM : mm_ G (mu_ (mu_ (mu_ (mu_ (mu_ M a1 (la_ G 4 (nl_ 3))) o (ob_ 2 [.ref a1, .ref a2, .ref a3, .ref a4, .null, .null, .null, .null, .null, .null, .long (lN 0)])) a2 (la_ G 4 (fun _ => 0))) a3 (la_ G 4 (nl_ 1))) a4 (la_ G 4 (fun _ => 0))) H := hM
  refine lv_aload_n hx hb dd_R_init_66 rfl (lv_at hl 0 rfl) ?_
  refine lv_iconst (v := nI 4) hx hb dd_R_init_67 (by decide) ?_
  refine mr_newlF C0 hM hS 4 rfl (by decide) (by subst hR; exact Nat.le_of_ble_eq_true rfl) (by subst hR; exact Nat.le_of_ble_eq_true rfl) dd_R_init_68 (fun a5 H hf hM hS => ?_)
  obtain ⟨ne_a5_a4, hf⟩ := mu_fr hf
  obtain ⟨ne_a5_a3, hf⟩ := mu_fr hf
  obtain ⟨ne_a5_a2, hf⟩ := mu_fr hf
  obtain ⟨ne_a5_o, hf⟩ := mu_fr hf
  obtain ⟨ne_a5_a1, hf⟩ := mu_fr hf
  have fr_a5 := hf
  have hM : mm_ G (mu_ (mu_ (mu_ (mu_ (mu_ (mu_ M a1 (la_ G 4 (nl_ 3))) o (ob_ 2 [.ref a1, .ref a2, .ref a3, .ref a4, .null, .null, .null, .null, .null, .null, .long (lN 0)])) a2 (la_ G 4 (fun _ => 0))) a3 (la_ G 4 (nl_ 1))) a4 (la_ G 4 (fun _ => 0))) a5 (la_ G 4 (fun _ => 0))) H := hM
  refine mr_putF C0 hM hS fk_R_24 fp_R_24 (mu_n' (Ne.symm ne_a5_o) (mu_n' (Ne.symm ne_a4_o) (mu_n' (Ne.symm ne_a3_o) (mu_n' (Ne.symm ne_a2_o) mu_s)))) rfl rfl rfl (rfl) (rfl) (Nat.le_of_ble_eq_true rfl) dd_R_init_70 (fun H locs hM hS => ?_)
  have hM := mr_M (mu_c5 (Ne.symm ne_a2_o) (Ne.symm ne_a3_o) (Ne.symm ne_a4_o) (Ne.symm ne_a5_o)) hM
  have hM : mm_ G (mu_ (mu_ (mu_ (mu_ (mu_ (mu_ M a1 (la_ G 4 (nl_ 3))) o (ob_ 2 [.ref a1, .ref a2, .ref a3, .ref a4, .ref a5, .null, .null, .null, .null, .null, .long (lN 0)])) a2 (la_ G 4 (fun _ => 0))) a3 (la_ G 4 (nl_ 1))) a4 (la_ G 4 (fun _ => 0))) a5 (la_ G 4 (fun _ => 0))) H := hM
  refine lv_aload_n hx hb dd_R_init_73 rfl (lv_at hl 0 rfl) ?_
  refine lv_iconst (v := nI 4) hx hb dd_R_init_74 (by decide) ?_
  refine mr_newlF C0 hM hS 4 rfl (by decide) (by subst hR; exact Nat.le_of_ble_eq_true rfl) (by subst hR; exact Nat.le_of_ble_eq_true rfl) dd_R_init_75 (fun a6 H hf hM hS => ?_)
  obtain ⟨ne_a6_a5, hf⟩ := mu_fr hf
  obtain ⟨ne_a6_a4, hf⟩ := mu_fr hf
  obtain ⟨ne_a6_a3, hf⟩ := mu_fr hf
  obtain ⟨ne_a6_a2, hf⟩ := mu_fr hf
  obtain ⟨ne_a6_o, hf⟩ := mu_fr hf
  obtain ⟨ne_a6_a1, hf⟩ := mu_fr hf
  have fr_a6 := hf
  have hM : mm_ G (mu_ (mu_ (mu_ (mu_ (mu_ (mu_ (mu_ M a1 (la_ G 4 (nl_ 3))) o (ob_ 2 [.ref a1, .ref a2, .ref a3, .ref a4, .ref a5, .null, .null, .null, .null, .null, .long (lN 0)])) a2 (la_ G 4 (fun _ => 0))) a3 (la_ G 4 (nl_ 1))) a4 (la_ G 4 (fun _ => 0))) a5 (la_ G 4 (fun _ => 0))) a6 (la_ G 4 (fun _ => 0))) H := hM
  refine mr_putF C0 hM hS fk_R_27 fp_R_27 (mu_n' (Ne.symm ne_a6_o) (mu_n' (Ne.symm ne_a5_o) (mu_n' (Ne.symm ne_a4_o) (mu_n' (Ne.symm ne_a3_o) (mu_n' (Ne.symm ne_a2_o) mu_s))))) rfl rfl rfl (rfl) (rfl) (Nat.le_of_ble_eq_true rfl) dd_R_init_77 (fun H locs hM hS => ?_)
  have hM := mr_M (mu_c6 (Ne.symm ne_a2_o) (Ne.symm ne_a3_o) (Ne.symm ne_a4_o) (Ne.symm ne_a5_o) (Ne.symm ne_a6_o)) hM
  have hM : mm_ G (mu_ (mu_ (mu_ (mu_ (mu_ (mu_ (mu_ M a1 (la_ G 4 (nl_ 3))) o (ob_ 2 [.ref a1, .ref a2, .ref a3, .ref a4, .ref a5, .ref a6, .null, .null, .null, .null, .long (lN 0)])) a2 (la_ G 4 (fun _ => 0))) a3 (la_ G 4 (nl_ 1))) a4 (la_ G 4 (fun _ => 0))) a5 (la_ G 4 (fun _ => 0))) a6 (la_ G 4 (fun _ => 0))) H := hM
  refine lv_aload_n hx hb dd_R_init_80 rfl (lv_at hl 0 rfl) ?_
  refine lv_bipush (v := nI 6) hx hb dd_R_init_81 (by decide) ?_
  refine mr_newlF C0 hM hS 6 rfl (by decide) (by subst hR; exact Nat.le_of_ble_eq_true rfl) (by subst hR; exact Nat.le_of_ble_eq_true rfl) dd_R_init_83 (fun a7 H hf hM hS => ?_)
  obtain ⟨ne_a7_a6, hf⟩ := mu_fr hf
  obtain ⟨ne_a7_a5, hf⟩ := mu_fr hf
  obtain ⟨ne_a7_a4, hf⟩ := mu_fr hf
  obtain ⟨ne_a7_a3, hf⟩ := mu_fr hf
  obtain ⟨ne_a7_a2, hf⟩ := mu_fr hf
  obtain ⟨ne_a7_o, hf⟩ := mu_fr hf
  obtain ⟨ne_a7_a1, hf⟩ := mu_fr hf
  have fr_a7 := hf
  have hM : mm_ G (mu_ (mu_ (mu_ (mu_ (mu_ (mu_ (mu_ (mu_ M a1 (la_ G 4 (nl_ 3))) o (ob_ 2 [.ref a1, .ref a2, .ref a3, .ref a4, .ref a5, .ref a6, .null, .null, .null, .null, .long (lN 0)])) a2 (la_ G 4 (fun _ => 0))) a3 (la_ G 4 (nl_ 1))) a4 (la_ G 4 (fun _ => 0))) a5 (la_ G 4 (fun _ => 0))) a6 (la_ G 4 (fun _ => 0))) a7 (la_ G 6 (fun _ => 0))) H := hM
  refine mr_putF C0 hM hS fk_R_30 fp_R_30 (mu_n' (Ne.symm ne_a7_o) (mu_n' (Ne.symm ne_a6_o) (mu_n' (Ne.symm ne_a5_o) (mu_n' (Ne.symm ne_a4_o) (mu_n' (Ne.symm ne_a3_o) (mu_n' (Ne.symm ne_a2_o) mu_s)))))) rfl rfl rfl (rfl) (rfl) (Nat.le_of_ble_eq_true rfl) dd_R_init_85 (fun H locs hM hS => ?_)
  have hM := mr_M (mu_c7 (Ne.symm ne_a2_o) (Ne.symm ne_a3_o) (Ne.symm ne_a4_o) (Ne.symm ne_a5_o) (Ne.symm ne_a6_o) (Ne.symm ne_a7_o)) hM
  have hM : mm_ G (mu_ (mu_ (mu_ (mu_ (mu_ (mu_ (mu_ (mu_ M a1 (la_ G 4 (nl_ 3))) o (ob_ 2 [.ref a1, .ref a2, .ref a3, .ref a4, .ref a5, .ref a6, .ref a7, .null, .null, .null, .long (lN 0)])) a2 (la_ G 4 (fun _ => 0))) a3 (la_ G 4 (nl_ 1))) a4 (la_ G 4 (fun _ => 0))) a5 (la_ G 4 (fun _ => 0))) a6 (la_ G 4 (fun _ => 0))) a7 (la_ G 6 (fun _ => 0))) H := hM
  refine lv_aload_n hx hb dd_R_init_88 rfl (lv_at hl 0 rfl) ?_
  refine lv_iconst (v := nI 4) hx hb dd_R_init_89 (by decide) ?_
  refine mr_newlF C0 hM hS 4 rfl (by decide) (by subst hR; exact Nat.le_of_ble_eq_true rfl) (by subst hR; exact Nat.le_of_ble_eq_true rfl) dd_R_init_90 (fun a8 H hf hM hS => ?_)
  obtain ⟨ne_a8_a7, hf⟩ := mu_fr hf
  obtain ⟨ne_a8_a6, hf⟩ := mu_fr hf
  obtain ⟨ne_a8_a5, hf⟩ := mu_fr hf
  obtain ⟨ne_a8_a4, hf⟩ := mu_fr hf
  obtain ⟨ne_a8_a3, hf⟩ := mu_fr hf
  obtain ⟨ne_a8_a2, hf⟩ := mu_fr hf
  obtain ⟨ne_a8_o, hf⟩ := mu_fr hf
  obtain ⟨ne_a8_a1, hf⟩ := mu_fr hf
  have fr_a8 := hf
  have hM : mm_ G (mu_ (mu_ (mu_ (mu_ (mu_ (mu_ (mu_ (mu_ (mu_ M a1 (la_ G 4 (nl_ 3))) o (ob_ 2 [.ref a1, .ref a2, .ref a3, .ref a4, .ref a5, .ref a6, .ref a7, .null, .null, .null, .long (lN 0)])) a2 (la_ G 4 (fun _ => 0))) a3 (la_ G 4 (nl_ 1))) a4 (la_ G 4 (fun _ => 0))) a5 (la_ G 4 (fun _ => 0))) a6 (la_ G 4 (fun _ => 0))) a7 (la_ G 6 (fun _ => 0))) a8 (la_ G 4 (fun _ => 0))) H := hM
  refine mr_putF C0 hM hS fk_R_33 fp_R_33 (mu_n' (Ne.symm ne_a8_o) (mu_n' (Ne.symm ne_a7_o) (mu_n' (Ne.symm ne_a6_o) (mu_n' (Ne.symm ne_a5_o) (mu_n' (Ne.symm ne_a4_o) (mu_n' (Ne.symm ne_a3_o) (mu_n' (Ne.symm ne_a2_o) mu_s))))))) rfl rfl rfl (rfl) (rfl) (Nat.le_of_ble_eq_true rfl) dd_R_init_92 (fun H locs hM hS => ?_)
  have hM := mr_M (mu_c8 (Ne.symm ne_a2_o) (Ne.symm ne_a3_o) (Ne.symm ne_a4_o) (Ne.symm ne_a5_o) (Ne.symm ne_a6_o) (Ne.symm ne_a7_o) (Ne.symm ne_a8_o)) hM
  have hM : mm_ G (mu_ (mu_ (mu_ (mu_ (mu_ (mu_ (mu_ (mu_ (mu_ M a1 (la_ G 4 (nl_ 3))) o (ob_ 2 [.ref a1, .ref a2, .ref a3, .ref a4, .ref a5, .ref a6, .ref a7, .ref a8, .null, .null, .long (lN 0)])) a2 (la_ G 4 (fun _ => 0))) a3 (la_ G 4 (nl_ 1))) a4 (la_ G 4 (fun _ => 0))) a5 (la_ G 4 (fun _ => 0))) a6 (la_ G 4 (fun _ => 0))) a7 (la_ G 6 (fun _ => 0))) a8 (la_ G 4 (fun _ => 0))) H := hM
  refine lv_aload_n hx hb dd_R_init_95 rfl (lv_at hl 0 rfl) ?_
  refine lv_iconst (v := nI 4) hx hb dd_R_init_96 (by decide) ?_
  refine mr_newlF C0 hM hS 4 rfl (by decide) (by subst hR; exact Nat.le_of_ble_eq_true rfl) (by subst hR; exact Nat.le_of_ble_eq_true rfl) dd_R_init_97 (fun a9 H hf hM hS => ?_)
  obtain ⟨ne_a9_a8, hf⟩ := mu_fr hf
  obtain ⟨ne_a9_a7, hf⟩ := mu_fr hf
  obtain ⟨ne_a9_a6, hf⟩ := mu_fr hf
  obtain ⟨ne_a9_a5, hf⟩ := mu_fr hf
  obtain ⟨ne_a9_a4, hf⟩ := mu_fr hf
  obtain ⟨ne_a9_a3, hf⟩ := mu_fr hf
  obtain ⟨ne_a9_a2, hf⟩ := mu_fr hf
  obtain ⟨ne_a9_o, hf⟩ := mu_fr hf
  obtain ⟨ne_a9_a1, hf⟩ := mu_fr hf
  have fr_a9 := hf
  have hM : mm_ G (mu_ (mu_ (mu_ (mu_ (mu_ (mu_ (mu_ (mu_ (mu_ (mu_ M a1 (la_ G 4 (nl_ 3))) o (ob_ 2 [.ref a1, .ref a2, .ref a3, .ref a4, .ref a5, .ref a6, .ref a7, .ref a8, .null, .null, .long (lN 0)])) a2 (la_ G 4 (fun _ => 0))) a3 (la_ G 4 (nl_ 1))) a4 (la_ G 4 (fun _ => 0))) a5 (la_ G 4 (fun _ => 0))) a6 (la_ G 4 (fun _ => 0))) a7 (la_ G 6 (fun _ => 0))) a8 (la_ G 4 (fun _ => 0))) a9 (la_ G 4 (fun _ => 0))) H := hM
  refine mr_putF C0 hM hS fk_R_36 fp_R_36 (mu_n' (Ne.symm ne_a9_o) (mu_n' (Ne.symm ne_a8_o) (mu_n' (Ne.symm ne_a7_o) (mu_n' (Ne.symm ne_a6_o) (mu_n' (Ne.symm ne_a5_o) (mu_n' (Ne.symm ne_a4_o) (mu_n' (Ne.symm ne_a3_o) (mu_n' (Ne.symm ne_a2_o) mu_s)))))))) rfl rfl rfl (rfl) (rfl) (Nat.le_of_ble_eq_true rfl) dd_R_init_99 (fun H locs hM hS => ?_)
  have hM := mr_M (mu_c9 (Ne.symm ne_a2_o) (Ne.symm ne_a3_o) (Ne.symm ne_a4_o) (Ne.symm ne_a5_o) (Ne.symm ne_a6_o) (Ne.symm ne_a7_o) (Ne.symm ne_a8_o) (Ne.symm ne_a9_o)) hM
  have hM : mm_ G (mu_ (mu_ (mu_ (mu_ (mu_ (mu_ (mu_ (mu_ (mu_ (mu_ M a1 (la_ G 4 (nl_ 3))) o (ob_ 2 [.ref a1, .ref a2, .ref a3, .ref a4, .ref a5, .ref a6, .ref a7, .ref a8, .ref a9, .null, .long (lN 0)])) a2 (la_ G 4 (fun _ => 0))) a3 (la_ G 4 (nl_ 1))) a4 (la_ G 4 (fun _ => 0))) a5 (la_ G 4 (fun _ => 0))) a6 (la_ G 4 (fun _ => 0))) a7 (la_ G 6 (fun _ => 0))) a8 (la_ G 4 (fun _ => 0))) a9 (la_ G 4 (fun _ => 0))) H := hM
  refine lv_aload_n hx hb dd_R_init_102 rfl (lv_at hl 0 rfl) ?_
  refine lv_iconst (v := nI 4) hx hb dd_R_init_103 (by decide) ?_
  refine mr_newlF C0 hM hS 4 rfl (by decide) (by subst hR; exact Nat.le_of_ble_eq_true rfl) (by subst hR; exact Nat.le_of_ble_eq_true rfl) dd_R_init_104 (fun a10 H hf hM hS => ?_)
  obtain ⟨ne_a10_a9, hf⟩ := mu_fr hf
  obtain ⟨ne_a10_a8, hf⟩ := mu_fr hf
  obtain ⟨ne_a10_a7, hf⟩ := mu_fr hf
  obtain ⟨ne_a10_a6, hf⟩ := mu_fr hf
  obtain ⟨ne_a10_a5, hf⟩ := mu_fr hf
  obtain ⟨ne_a10_a4, hf⟩ := mu_fr hf
  obtain ⟨ne_a10_a3, hf⟩ := mu_fr hf
  obtain ⟨ne_a10_a2, hf⟩ := mu_fr hf
  obtain ⟨ne_a10_o, hf⟩ := mu_fr hf
  obtain ⟨ne_a10_a1, hf⟩ := mu_fr hf
  have fr_a10 := hf
  have hM : mm_ G (mu_ (mu_ (mu_ (mu_ (mu_ (mu_ (mu_ (mu_ (mu_ (mu_ (mu_ M a1 (la_ G 4 (nl_ 3))) o (ob_ 2 [.ref a1, .ref a2, .ref a3, .ref a4, .ref a5, .ref a6, .ref a7, .ref a8, .ref a9, .null, .long (lN 0)])) a2 (la_ G 4 (fun _ => 0))) a3 (la_ G 4 (nl_ 1))) a4 (la_ G 4 (fun _ => 0))) a5 (la_ G 4 (fun _ => 0))) a6 (la_ G 4 (fun _ => 0))) a7 (la_ G 6 (fun _ => 0))) a8 (la_ G 4 (fun _ => 0))) a9 (la_ G 4 (fun _ => 0))) a10 (la_ G 4 (fun _ => 0))) H := hM
  refine mr_putF C0 hM hS fk_R_39 fp_R_39 (mu_n' (Ne.symm ne_a10_o) (mu_n' (Ne.symm ne_a9_o) (mu_n' (Ne.symm ne_a8_o) (mu_n' (Ne.symm ne_a7_o) (mu_n' (Ne.symm ne_a6_o) (mu_n' (Ne.symm ne_a5_o) (mu_n' (Ne.symm ne_a4_o) (mu_n' (Ne.symm ne_a3_o) (mu_n' (Ne.symm ne_a2_o) mu_s))))))))) rfl rfl rfl (rfl) (rfl) (Nat.le_of_ble_eq_true rfl) dd_R_init_106 (fun H locs hM hS => ?_)
  have hM := mr_M (mu_c10 (Ne.symm ne_a2_o) (Ne.symm ne_a3_o) (Ne.symm ne_a4_o) (Ne.symm ne_a5_o) (Ne.symm ne_a6_o) (Ne.symm ne_a7_o) (Ne.symm ne_a8_o) (Ne.symm ne_a9_o) (Ne.symm ne_a10_o)) hM
  have hM : mm_ G (mu_ (mu_ (mu_ (mu_ (mu_ (mu_ (mu_ (mu_ (mu_ (mu_ (mu_ M a1 (la_ G 4 (nl_ 3))) o (ob_ 2 [.ref a1, .ref a2, .ref a3, .ref a4, .ref a5, .ref a6, .ref a7, .ref a8, .ref a9, .ref a10, .long (lN 0)])) a2 (la_ G 4 (fun _ => 0))) a3 (la_ G 4 (nl_ 1))) a4 (la_ G 4 (fun _ => 0))) a5 (la_ G 4 (fun _ => 0))) a6 (la_ G 4 (fun _ => 0))) a7 (la_ G 6 (fun _ => 0))) a8 (la_ G 4 (fun _ => 0))) a9 (la_ G 4 (fun _ => 0))) a10 (la_ G 4 (fun _ => 0))) H := hM
  exact mr_ret hQ (mr_vret C0 hM hS (⟨rfl, a1, a2, a3, a4, a5, a6, a7, a8, a9, a10, ⟨fr_a1, fr_a2, fr_a3, fr_a4, fr_a5, fr_a6, fr_a7, fr_a8, fr_a9, fr_a10, ne_a2_a1, ne_a3_a1, ne_a3_a2, ne_a4_a1, ne_a4_a2, ne_a4_a3, ne_a5_a1, ne_a5_a2, ne_a5_a3, ne_a5_a4, ne_a6_a1, ne_a6_a2, ne_a6_a3, ne_a6_a4, ne_a6_a5, ne_a7_a1, ne_a7_a2, ne_a7_a3, ne_a7_a4, ne_a7_a5, ne_a7_a6, ne_a8_a1, ne_a8_a2, ne_a8_a3, ne_a8_a4, ne_a8_a5, ne_a8_a6, ne_a8_a7, ne_a9_a1, ne_a9_a2, ne_a9_a3, ne_a9_a4, ne_a9_a5, ne_a9_a6, ne_a9_a7, ne_a9_a8, ne_a10_a1, ne_a10_a2, ne_a10_a3, ne_a10_a4, ne_a10_a5, ne_a10_a6, ne_a10_a7, ne_a10_a8, ne_a10_a9⟩, rfl⟩) dd_R_init_109)

set_option maxHeartbeats 4000000 in
set_option maxRecDepth 100000 in
theorem c_M_init (l : Launch) {G : mg_} {M : mw_} {o : Nat}  (h_o : M o = some (ob_ 6 [.null, .null, .int (nI 0), .long (lN 0), .long (lN 0), .long (lN 0), .long (lN 0), .int (nI 0), .null, .null, .int (nI 0), .null, .null, .null, .null, .null, .long (lN 0), .long (lN 0), .int (nI 0), .long (lN 0), .long (lN 0), .null]))   : ct_ l my_M_init cd_M_init 1 none { frames := 1, cells := 10, slots := 539, locals := 16 } G [.ref o] M (fun v0 M' => v0 = none ∧ ∃ (a1 : Nat) (a2 : Nat) (a3 : Nat) (a4 : Nat) (a5 : Nat) (a6 : Nat) (a7 : Nat) (a8 : Nat) (a9 : Nat) (a10 : Nat), (M a1 = none ∧ M a2 = none ∧ M a3 = none ∧ M a4 = none ∧ M a5 = none ∧ M a6 = none ∧ M a7 = none ∧ M a8 = none ∧ M a9 = none ∧ M a10 = none ∧ a2 ≠ a1 ∧ a3 ≠ a1 ∧ a3 ≠ a2 ∧ a4 ≠ a1 ∧ a4 ≠ a2 ∧ a4 ≠ a3 ∧ a5 ≠ a1 ∧ a5 ≠ a2 ∧ a5 ≠ a3 ∧ a5 ≠ a4 ∧ a6 ≠ a1 ∧ a6 ≠ a2 ∧ a6 ≠ a3 ∧ a6 ≠ a4 ∧ a6 ≠ a5 ∧ a7 ≠ a1 ∧ a7 ≠ a2 ∧ a7 ≠ a3 ∧ a7 ≠ a4 ∧ a7 ≠ a5 ∧ a7 ≠ a6 ∧ a8 ≠ a1 ∧ a8 ≠ a2 ∧ a8 ≠ a3 ∧ a8 ≠ a4 ∧ a8 ≠ a5 ∧ a8 ≠ a6 ∧ a8 ≠ a7 ∧ a9 ≠ a1 ∧ a9 ≠ a2 ∧ a9 ≠ a3 ∧ a9 ≠ a4 ∧ a9 ≠ a5 ∧ a9 ≠ a6 ∧ a9 ≠ a7 ∧ a9 ≠ a8 ∧ a10 ≠ a1 ∧ a10 ≠ a2 ∧ a10 ≠ a3 ∧ a10 ≠ a4 ∧ a10 ≠ a5 ∧ a10 ≠ a6 ∧ a10 ≠ a7 ∧ a10 ≠ a8 ∧ a10 ≠ a9) ∧ M' = mu_ (mu_ (mu_ (mu_ (mu_ (mu_ (mu_ (mu_ (mu_ (mu_ (mu_ M a1 (la_ G 32 mk_)) o (ob_ 6 [.ref a1, .ref a2, .int (nI 0), .long (lN 0), .long (lN 0), .long (lN 0), .long (lN 0), .int (nI 0), .ref a3, .ref a4, .int (nI 0), .ref a5, .ref a6, .ref a7, .ref a8, .ref a9, .long (lN 0), .long (lN 0), .int (nI 0), .long (lN 0), .long (lN 0), .ref a10])) a2 (ia_ G 64 (fun _ => 0))) a3 (la_ G 10 (fun _ => 0))) a4 (ia_ G 10 (fun _ => 0))) a5 (ia_ G 17 (fun _ => 0))) a6 (la_ G 170 (fun _ => 0))) a7 (ia_ G 170 (fun _ => 0))) a8 (la_ G 17 (fun _ => 0))) a9 (la_ G 17 (fun _ => 0))) a10 (ia_ G 32 (fun _ => 0))) 10 539 := by
  refine ct_.intro2 (by decide) (Nat.le_of_ble_eq_true rfl) ?_
  intro p e s m args below meth c ls R Q hR hQ C0 hl hM hS
  have hx := C0.1
  have hb := C0.2.1
  have hl : lv_has ls 1 [(0, .ref o)] := hl
  refine lv_aload_n hx hb dd_M_init_0 rfl (lv_at hl 0 rfl) ?_
  refine mr_objInit C0 tw_462 hl.1 (by subst hR; decide) (by subst hR; decide) dd_M_init_1 ?_
  refine lv_aload_n hx hb dd_M_init_4 rfl (lv_at hl 0 rfl) ?_
  refine lv_bipush (v := nI 32) hx hb dd_M_init_5 (by decide) ?_
  refine mr_newlF C0 hM hS 32 rfl (by decide) (by subst hR; exact Nat.le_of_ble_eq_true rfl) (by subst hR; exact Nat.le_of_ble_eq_true rfl) dd_M_init_7 (fun a1 H hf hM hS => ?_)
  have fr_a1 := hf
  have ne_a1_o := ne_fr fr_a1 h_o
  have hM : mm_ G (mu_ M a1 (la_ G 32 (fun _ => 0))) H := hM
  refine lv_dup hx hb dd_M_init_9 rfl ?_
  refine lv_iconst (v := nI 0) hx hb dd_M_init_10 (by decide) ?_
  refine mr_ldc2 (v := lN 4794697085070296209) C0 tw_463 dd_M_init_11 ?_
  refine mr_last C0 hM hS mu_s (0) (rfl) (by omega) (by decide) dd_M_init_14 (fun H locs hM hS => ?_)
  have hM := mr_M mu_mu hM
  have hM := mr_M (congrArg (fun z__ => mu_ M a1 (la_ G 32 z__)) (show (vp_updL (fun _ => 0) 0 (lN 4794697085070296209) : Nat → Int64) = (ku_ mk_ 1) from ku_s0 (f := mk_) (by decide))) hM
  have hM : mm_ G (mu_ M a1 (la_ G 32 (ku_ mk_ 1))) H := hM
  refine lv_dup hx hb dd_M_init_15 rfl ?_
  refine lv_iconst (v := nI 1) hx hb dd_M_init_16 (by decide) ?_
  refine mr_ldc2 (v := (-5349999486918337627 : Int64)) C0 tw_464 dd_M_init_17 ?_
  refine mr_last C0 hM hS mu_s (1) (rfl) (by omega) (by decide) dd_M_init_20 (fun H locs hM hS => ?_)
  have hM := mr_M mu_mu hM
  have hM := mr_M (congrArg (fun z__ => mu_ M a1 (la_ G 32 z__)) (show (vp_updL (ku_ mk_ 1) 1 (-5349999486918337627 : Int64) : Nat → Int64) = (ku_ mk_ 2) from ku_s (f := mk_) (by decide))) hM
  have hM : mm_ G (mu_ M a1 (la_ G 32 (ku_ mk_ 2))) H := hM
  refine lv_dup hx hb dd_M_init_21 rfl ?_
  refine lv_iconst (v := nI 2) hx hb dd_M_init_22 (by decide) ?_
  refine mr_ldc2 (v := lN 4131703405765792241) C0 tw_465 dd_M_init_23 ?_
  refine mr_last C0 hM hS mu_s (2) (rfl) (by omega) (by decide) dd_M_init_26 (fun H locs hM hS => ?_)
  have hM := mr_M mu_mu hM
  have hM := mr_M (congrArg (fun z__ => mu_ M a1 (la_ G 32 z__)) (show (vp_updL (ku_ mk_ 2) 2 (lN 4131703405765792241) : Nat → Int64) = (ku_ mk_ 3) from ku_s (f := mk_) (by decide))) hM
  have hM : mm_ G (mu_ M a1 (la_ G 32 (ku_ mk_ 3))) H := hM
  refine lv_dup hx hb dd_M_init_27 rfl ?_
  refine lv_iconst (v := nI 3) hx hb dd_M_init_28 (by decide) ?_
  refine mr_ldc2 (v := (-7908458776882290987 : Int64)) C0 tw_466 dd_M_init_29 ?_
  refine mr_last C0 hM hS mu_s (3) (rfl) (by omega) (by decide) dd_M_init_32 (fun H locs hM hS => ?_)
  have hM := mr_M mu_mu hM
  have hM := mr_M (congrArg (fun z__ => mu_ M a1 (la_ G 32 z__)) (show (vp_updL (ku_ mk_ 3) 3 (-7908458776882290987 : Int64) : Nat → Int64) = (ku_ mk_ 4) from ku_s (f := mk_) (by decide))) hM
  have hM : mm_ G (mu_ M a1 (la_ G 32 (ku_ mk_ 4))) H := hM
  refine lv_dup hx hb dd_M_init_33 rfl ?_
  refine lv_iconst (v := nI 4) hx hb dd_M_init_34 (by decide) ?_
  refine mr_ldc2 (v := (-2880145866557793535 : Int64)) C0 tw_467 dd_M_init_35 ?_
  refine mr_last C0 hM hS mu_s (4) (rfl) (by omega) (by decide) dd_M_init_38 (fun H locs hM hS => ?_)
  have hM := mr_M mu_mu hM
  have hM := mr_M (congrArg (fun z__ => mu_ M a1 (la_ G 32 z__)) (show (vp_updL (ku_ mk_ 4) 4 (-2880145866557793535 : Int64) : Nat → Int64) = (ku_ mk_ 5) from ku_s (f := mk_) (by decide))) hM
  have hM : mm_ G (mu_ M a1 (la_ G 32 (ku_ mk_ 5))) H := hM
  refine lv_dup hx hb dd_M_init_39 rfl ?_
  refine lv_iconst (v := nI 5) hx hb dd_M_init_40 (by decide) ?_
  refine mr_ldc2 (v := lN 2608012711741390275) C0 tw_468 dd_M_init_41 ?_
  refine mr_last C0 hM hS mu_s (5) (rfl) (by omega) (by decide) dd_M_init_44 (fun H locs hM hS => ?_)
  have hM := mr_M mu_mu hM
  have hM := mr_M (congrArg (fun z__ => mu_ M a1 (la_ G 32 z__)) (show (vp_updL (ku_ mk_ 5) 5 (lN 2608012711741390275) : Nat → Int64) = (ku_ mk_ 6) from ku_s (f := mk_) (by decide))) hM
  have hM : mm_ G (mu_ M a1 (la_ G 32 (ku_ mk_ 6))) H := hM
  refine lv_dup hx hb dd_M_init_45 rfl ?_
  refine lv_bipush (v := nI 6) hx hb dd_M_init_46 (by decide) ?_
  refine mr_ldc2 (v := lN 8268148720858477054) C0 tw_469 dd_M_init_48 ?_
  refine mr_last C0 hM hS mu_s (6) (rfl) (by omega) (by decide) dd_M_init_51 (fun H locs hM hS => ?_)
  have hM := mr_M mu_mu hM
  have hM := mr_M (congrArg (fun z__ => mu_ M a1 (la_ G 32 z__)) (show (vp_updL (ku_ mk_ 6) 6 (lN 8268148720858477054) : Nat → Int64) = (ku_ mk_ 7) from ku_s (f := mk_) (by decide))) hM
  have hM : mm_ G (mu_ M a1 (la_ G 32 (ku_ mk_ 7))) H := hM
  refine lv_dup hx hb dd_M_init_52 rfl ?_
  refine lv_bipush (v := nI 7) hx hb dd_M_init_53 (by decide) ?_
  refine mr_ldc2 (v := (-7215885185376849548 : Int64)) C0 tw_470 dd_M_init_55 ?_
  refine mr_last C0 hM hS mu_s (7) (rfl) (by omega) (by decide) dd_M_init_58 (fun H locs hM hS => ?_)
  have hM := mr_M mu_mu hM
  have hM := mr_M (congrArg (fun z__ => mu_ M a1 (la_ G 32 z__)) (show (vp_updL (ku_ mk_ 7) 7 (-7215885185376849548 : Int64) : Nat → Int64) = (ku_ mk_ 8) from ku_s (f := mk_) (by decide))) hM
  have hM : mm_ G (mu_ M a1 (la_ G 32 (ku_ mk_ 8))) H := hM
  refine lv_dup hx hb dd_M_init_59 rfl ?_
  refine lv_bipush (v := nI 8) hx hb dd_M_init_60 (by decide) ?_
  refine mr_ldc2 (v := (-1973867730000001146 : Int64)) C0 tw_471 dd_M_init_62 ?_
  refine mr_last C0 hM hS mu_s (8) (rfl) (by omega) (by decide) dd_M_init_65 (fun H locs hM hS => ?_)
  have hM := mr_M mu_mu hM
  have hM := mr_M (congrArg (fun z__ => mu_ M a1 (la_ G 32 z__)) (show (vp_updL (ku_ mk_ 8) 8 (-1973867730000001146 : Int64) : Nat → Int64) = (ku_ mk_ 9) from ku_s (f := mk_) (by decide))) hM
  have hM : mm_ G (mu_ M a1 (la_ G 32 (ku_ mk_ 9))) H := hM
  refine lv_dup hx hb dd_M_init_66 rfl ?_
  refine lv_bipush (v := nI 9) hx hb dd_M_init_67 (by decide) ?_
  refine mr_ldc2 (v := lN 1135362055407968716) C0 tw_472 dd_M_init_69 ?_
  refine mr_last C0 hM hS mu_s (9) (rfl) (by omega) (by decide) dd_M_init_72 (fun H locs hM hS => ?_)
  have hM := mr_M mu_mu hM
  have hM := mr_M (congrArg (fun z__ => mu_ M a1 (la_ G 32 z__)) (show (vp_updL (ku_ mk_ 9) 9 (lN 1135362055407968716) : Nat → Int64) = (ku_ mk_ 10) from ku_s (f := mk_) (by decide))) hM
  have hM : mm_ G (mu_ M a1 (la_ G 32 (ku_ mk_ 10))) H := hM
  refine lv_dup hx hb dd_M_init_73 rfl ?_
  refine lv_bipush (v := nI 10) hx hb dd_M_init_74 (by decide) ?_
  refine mr_ldc2 (v := lN 3308224257782482090) C0 tw_473 dd_M_init_76 ?_
  refine mr_last C0 hM hS mu_s (10) (rfl) (by omega) (by decide) dd_M_init_79 (fun H locs hM hS => ?_)
  have hM := mr_M mu_mu hM
  have hM := mr_M (congrArg (fun z__ => mu_ M a1 (la_ G 32 z__)) (show (vp_updL (ku_ mk_ 10) 10 (lN 3308224257782482090) : Nat → Int64) = (ku_ mk_ 11) from ku_s (f := mk_) (by decide))) hM
  have hM : mm_ G (mu_ M a1 (la_ G 32 (ku_ mk_ 11))) H := hM
  refine lv_dup hx hb dd_M_init_80 rfl ?_
  refine lv_bipush (v := nI 11) hx hb dd_M_init_81 (by decide) ?_
  refine mr_ldc2 (v := lN 6679025011744409818) C0 tw_474 dd_M_init_83 ?_
  refine mr_last C0 hM hS mu_s (11) (rfl) (by omega) (by decide) dd_M_init_86 (fun H locs hM hS => ?_)
  have hM := mr_M mu_mu hM
  have hM := mr_M (congrArg (fun z__ => mu_ M a1 (la_ G 32 z__)) (show (vp_updL (ku_ mk_ 11) 11 (lN 6679025011744409818) : Nat → Int64) = (ku_ mk_ 12) from ku_s (f := mk_) (by decide))) hM
  have hM : mm_ G (mu_ M a1 (la_ G 32 (ku_ mk_ 12))) H := hM
  refine lv_dup hx hb dd_M_init_87 rfl ?_
  refine lv_bipush (v := nI 12) hx hb dd_M_init_88 (by decide) ?_
  refine mr_ldc2 (v := (-7476448915937442195 : Int64)) C0 tw_475 dd_M_init_90 ?_
  refine mr_last C0 hM hS mu_s (12) (rfl) (by omega) (by decide) dd_M_init_93 (fun H locs hM hS => ?_)
  have hM := mr_M mu_mu hM
  have hM := mr_M (congrArg (fun z__ => mu_ M a1 (la_ G 32 z__)) (show (vp_updL (ku_ mk_ 12) 12 (-7476448915937442195 : Int64) : Nat → Int64) = (ku_ mk_ 13) from ku_s (f := mk_) (by decide))) hM
  have hM : mm_ G (mu_ M a1 (la_ G 32 (ku_ mk_ 13))) H := hM
  refine lv_dup hx hb dd_M_init_94 rfl ?_
  refine lv_bipush (v := nI 13) hx hb dd_M_init_95 (by decide) ?_
  refine mr_ldc2 (v := (-5763719354946846777 : Int64)) C0 tw_476 dd_M_init_97 ?_
  refine mr_last C0 hM hS mu_s (13) (rfl) (by omega) (by decide) dd_M_init_100 (fun H locs hM hS => ?_)
  have hM := mr_M mu_mu hM
  have hM := mr_M (congrArg (fun z__ => mu_ M a1 (la_ G 32 z__)) (show (vp_updL (ku_ mk_ 13) 13 (-5763719354946846777 : Int64) : Nat → Int64) = (ku_ mk_ 14) from ku_s (f := mk_) (by decide))) hM
  have hM : mm_ G (mu_ M a1 (la_ G 32 (ku_ mk_ 14))) H := hM
  refine lv_dup hx hb dd_M_init_101 rfl ?_
  refine lv_bipush (v := nI 14) hx hb dd_M_init_102 (by decide) ?_
  refine mr_ldc2 (v := (-4116276917527146169 : Int64)) C0 tw_477 dd_M_init_104 ?_
  refine mr_last C0 hM hS mu_s (14) (rfl) (by omega) (by decide) dd_M_init_107 (fun H locs hM hS => ?_)
  have hM := mr_M mu_mu hM
  have hM := mr_M (congrArg (fun z__ => mu_ M a1 (la_ G 32 z__)) (show (vp_updL (ku_ mk_ 14) 14 (-4116276917527146169 : Int64) : Nat → Int64) = (ku_ mk_ 15) from ku_s (f := mk_) (by decide))) hM
  have hM : mm_ G (mu_ M a1 (la_ G 32 (ku_ mk_ 15))) H := hM
  refine lv_dup hx hb dd_M_init_108 rfl ?_
  refine lv_bipush (v := nI 15) hx hb dd_M_init_109 (by decide) ?_
  refine mr_ldc2 (v := lN 489312709404862823) C0 tw_478 dd_M_init_111 ?_
  refine mr_last C0 hM hS mu_s (15) (rfl) (by omega) (by decide) dd_M_init_114 (fun H locs hM hS => ?_)
  have hM := mr_M mu_mu hM
  have hM := mr_M (congrArg (fun z__ => mu_ M a1 (la_ G 32 z__)) (show (vp_updL (ku_ mk_ 15) 15 (lN 489312709404862823) : Nat → Int64) = (ku_ mk_ 16) from ku_s (f := mk_) (by decide))) hM
  have hM : mm_ G (mu_ M a1 (la_ G 32 (ku_ mk_ 16))) H := hM
  refine lv_dup hx hb dd_M_init_115 rfl ?_
  refine lv_bipush (v := nI 16) hx hb dd_M_init_116 (by decide) ?_
  refine mr_ldc2 (v := lN 2861767655337697592) C0 tw_479 dd_M_init_118 ?_
  refine mr_last C0 hM hS mu_s (16) (rfl) (by omega) (by decide) dd_M_init_121 (fun H locs hM hS => ?_)
  have hM := mr_M mu_mu hM
  have hM := mr_M (congrArg (fun z__ => mu_ M a1 (la_ G 32 z__)) (show (vp_updL (ku_ mk_ 16) 16 (lN 2861767655337697592) : Nat → Int64) = (ku_ mk_ 17) from ku_s (f := mk_) (by decide))) hM
  have hM : mm_ G (mu_ M a1 (la_ G 32 (ku_ mk_ 17))) H := hM
  refine lv_dup hx hb dd_M_init_122 rfl ?_
  refine lv_bipush (v := nI 17) hx hb dd_M_init_123 (by decide) ?_
  refine mr_ldc2 (v := lN 5560940570391088403) C0 tw_480 dd_M_init_125 ?_
  refine mr_last C0 hM hS mu_s (17) (rfl) (by omega) (by decide) dd_M_init_128 (fun H locs hM hS => ?_)
  have hM := mr_M mu_mu hM
  have hM := mr_M (congrArg (fun z__ => mu_ M a1 (la_ G 32 z__)) (show (vp_updL (ku_ mk_ 17) 17 (lN 5560940570391088403) : Nat → Int64) = (ku_ mk_ 18) from ku_s (f := mk_) (by decide))) hM
  have hM : mm_ G (mu_ M a1 (la_ G 32 (ku_ mk_ 18))) H := hM
  refine lv_dup hx hb dd_M_init_129 rfl ?_
  refine lv_bipush (v := nI 18) hx hb dd_M_init_130 (by decide) ?_
  refine mr_ldc2 (v := lN 7280758554198936251) C0 tw_481 dd_M_init_132 ?_
  refine mr_last C0 hM hS mu_s (18) (rfl) (by omega) (by decide) dd_M_init_135 (fun H locs hM hS => ?_)
  have hM := mr_M mu_mu hM
  have hM := mr_M (congrArg (fun z__ => mu_ M a1 (la_ G 32 z__)) (show (vp_updL (ku_ mk_ 18) 18 (lN 7280758554198936251) : Nat → Int64) = (ku_ mk_ 19) from ku_s (f := mk_) (by decide))) hM
  have hM : mm_ G (mu_ M a1 (la_ G 32 (ku_ mk_ 19))) H := hM
  refine lv_dup hx hb dd_M_init_136 rfl ?_
  refine lv_bipush (v := nI 19) hx hb dd_M_init_137 (by decide) ?_
  refine mr_ldc2 (v := (-9096487095472345979 : Int64)) C0 tw_482 dd_M_init_139 ?_
  refine mr_last C0 hM hS mu_s (19) (rfl) (by omega) (by decide) dd_M_init_142 (fun H locs hM hS => ?_)
  have hM := mr_M mu_mu hM
  have hM := mr_M (congrArg (fun z__ => mu_ M a1 (la_ G 32 z__)) (show (vp_updL (ku_ mk_ 19) 19 (-9096487095472345979 : Int64) : Nat → Int64) = (ku_ mk_ 20) from ku_s (f := mk_) (by decide))) hM
  have hM : mm_ G (mu_ M a1 (la_ G 32 (ku_ mk_ 20))) H := hM
  refine lv_dup hx hb dd_M_init_143 rfl ?_
  refine lv_bipush (v := nI 20) hx hb dd_M_init_144 (by decide) ?_
  refine mr_ldc2 (v := (-6719396338005809589 : Int64)) C0 tw_483 dd_M_init_146 ?_
  refine mr_last C0 hM hS mu_s (20) (rfl) (by omega) (by decide) dd_M_init_149 (fun H locs hM hS => ?_)
  have hM := mr_M mu_mu hM
  have hM := mr_M (congrArg (fun z__ => mu_ M a1 (la_ G 32 z__)) (show (vp_updL (ku_ mk_ 20) 20 (-6719396338005809589 : Int64) : Nat → Int64) = (ku_ mk_ 21) from ku_s (f := mk_) (by decide))) hM
  have hM : mm_ G (mu_ M a1 (la_ G 32 (ku_ mk_ 21))) H := hM
  refine lv_dup hx hb dd_M_init_150 rfl ?_
  refine lv_bipush (v := nI 21) hx hb dd_M_init_151 (by decide) ?_
  refine mr_ldc2 (v := (-4446306890599870045 : Int64)) C0 tw_484 dd_M_init_153 ?_
  refine mr_last C0 hM hS mu_s (21) (rfl) (by omega) (by decide) dd_M_init_156 (fun H locs hM hS => ?_)
  have hM := mr_M mu_mu hM
  have hM := mr_M (congrArg (fun z__ => mu_ M a1 (la_ G 32 z__)) (show (vp_updL (ku_ mk_ 21) 21 (-4446306890599870045 : Int64) : Nat → Int64) = (ku_ mk_ 22) from ku_s (f := mk_) (by decide))) hM
  have hM : mm_ G (mu_ M a1 (la_ G 32 (ku_ mk_ 22))) H := hM
  refine lv_dup hx hb dd_M_init_157 rfl ?_
  refine lv_bipush (v := nI 22) hx hb dd_M_init_158 (by decide) ?_
  refine mr_ldc2 (v := (-3345356375510677980 : Int64)) C0 tw_485 dd_M_init_160 ?_
  refine mr_last C0 hM hS mu_s (22) (rfl) (by omega) (by decide) dd_M_init_163 (fun H locs hM hS => ?_)
  have hM := mr_M mu_mu hM
  have hM := mr_M (congrArg (fun z__ => mu_ M a1 (la_ G 32 z__)) (show (vp_updL (ku_ mk_ 22) 22 (-3345356375510677980 : Int64) : Nat → Int64) = (ku_ mk_ 23) from ku_s (f := mk_) (by decide))) hM
  have hM : mm_ G (mu_ M a1 (la_ G 32 (ku_ mk_ 23))) H := hM
  refine lv_dup hx hb dd_M_init_164 rfl ?_
  refine lv_bipush (v := nI 23) hx hb dd_M_init_165 (by decide) ?_
  refine mr_ldc2 (v := (-860691633158840208 : Int64)) C0 tw_486 dd_M_init_167 ?_
  refine mr_last C0 hM hS mu_s (23) (rfl) (by omega) (by decide) dd_M_init_170 (fun H locs hM hS => ?_)
  have hM := mr_M mu_mu hM
  have hM := mr_M (congrArg (fun z__ => mu_ M a1 (la_ G 32 z__)) (show (vp_updL (ku_ mk_ 23) 23 (-860691633158840208 : Int64) : Nat → Int64) = (ku_ mk_ 24) from ku_s (f := mk_) (by decide))) hM
  have hM : mm_ G (mu_ M a1 (la_ G 32 (ku_ mk_ 24))) H := hM
  refine lv_dup hx hb dd_M_init_171 rfl ?_
  refine lv_bipush (v := nI 24) hx hb dd_M_init_172 (by decide) ?_
  refine mr_ldc2 (v := lN 1847814047869135880) C0 tw_487 dd_M_init_174 ?_
  refine mr_last C0 hM hS mu_s (24) (rfl) (by omega) (by decide) dd_M_init_177 (fun H locs hM hS => ?_)
  have hM := mr_M mu_mu hM
  have hM := mr_M (congrArg (fun z__ => mu_ M a1 (la_ G 32 z__)) (show (vp_updL (ku_ mk_ 24) 24 (lN 1847814047869135880) : Nat → Int64) = (ku_ mk_ 25) from ku_s (f := mk_) (by decide))) hM
  have hM : mm_ G (mu_ M a1 (la_ G 32 (ku_ mk_ 25))) H := hM
  refine lv_dup hx hb dd_M_init_178 rfl ?_
  refine lv_bipush (v := nI 25) hx hb dd_M_init_179 (by decide) ?_
  refine mr_ldc2 (v := lN 2830643534987574453) C0 tw_488 dd_M_init_181 ?_
  refine mr_last C0 hM hS mu_s (25) (rfl) (by omega) (by decide) dd_M_init_184 (fun H locs hM hS => ?_)
  have hM := mr_M mu_mu hM
  have hM := mr_M (congrArg (fun z__ => mu_ M a1 (la_ G 32 z__)) (show (vp_updL (ku_ mk_ 25) 25 (lN 2830643534987574453) : Nat → Int64) = (ku_ mk_ 26) from ku_s (f := mk_) (by decide))) hM
  have hM : mm_ G (mu_ M a1 (la_ G 32 (ku_ mk_ 26))) H := hM
  refine lv_dup hx hb dd_M_init_185 rfl ?_
  refine lv_bipush (v := nI 26) hx hb dd_M_init_186 (by decide) ?_
  refine mr_ldc2 (v := lN 4115178123771292234) C0 tw_489 dd_M_init_188 ?_
  refine mr_last C0 hM hS mu_s (26) (rfl) (by omega) (by decide) dd_M_init_191 (fun H locs hM hS => ?_)
  have hM := mr_M mu_mu hM
  have hM := mr_M (congrArg (fun z__ => mu_ M a1 (la_ G 32 z__)) (show (vp_updL (ku_ mk_ 26) 26 (lN 4115178123771292234) : Nat → Int64) = (ku_ mk_ 27) from ku_s (f := mk_) (by decide))) hM
  have hM : mm_ G (mu_ M a1 (la_ G 32 (ku_ mk_ 27))) H := hM
  refine lv_dup hx hb dd_M_init_192 rfl ?_
  refine lv_bipush (v := nI 27) hx hb dd_M_init_193 (by decide) ?_
  refine mr_ldc2 (v := lN 6601373596217405427) C0 tw_490 dd_M_init_195 ?_
  refine mr_last C0 hM hS mu_s (27) (rfl) (by omega) (by decide) dd_M_init_198 (fun H locs hM hS => ?_)
  have hM := mr_M mu_mu hM
  have hM := mr_M (congrArg (fun z__ => mu_ M a1 (la_ G 32 z__)) (show (vp_updL (ku_ mk_ 27) 27 (lN 6601373596217405427) : Nat → Int64) = (ku_ mk_ 28) from ku_s (f := mk_) (by decide))) hM
  have hM : mm_ G (mu_ M a1 (la_ G 32 (ku_ mk_ 28))) H := hM
  refine lv_dup hx hb dd_M_init_199 rfl ?_
  refine lv_bipush (v := nI 28) hx hb dd_M_init_200 (by decide) ?_
  refine mr_ldc2 (v := lN 8399075790807196527) C0 tw_491 dd_M_init_202 ?_
  refine mr_last C0 hM hS mu_s (28) (rfl) (by omega) (by decide) dd_M_init_205 (fun H locs hM hS => ?_)
  have hM := mr_M mu_mu hM
  have hM := mr_M (congrArg (fun z__ => mu_ M a1 (la_ G 32 z__)) (show (vp_updL (ku_ mk_ 28) 28 (lN 8399075790807196527) : Nat → Int64) = (ku_ mk_ 29) from ku_s (f := mk_) (by decide))) hM
  have hM : mm_ G (mu_ M a1 (la_ G 32 (ku_ mk_ 29))) H := hM
  refine lv_dup hx hb dd_M_init_206 rfl ?_
  refine lv_bipush (v := nI 29) hx hb dd_M_init_207 (by decide) ?_
  refine mr_ldc2 (v := (-8878714635704401400 : Int64)) C0 tw_492 dd_M_init_209 ?_
  refine mr_last C0 hM hS mu_s (29) (rfl) (by omega) (by decide) dd_M_init_212 (fun H locs hM hS => ?_)
  have hM := mr_M mu_mu hM
  have hM := mr_M (congrArg (fun z__ => mu_ M a1 (la_ G 32 z__)) (show (vp_updL (ku_ mk_ 29) 29 (-8878714635704401400 : Int64) : Nat → Int64) = (ku_ mk_ 30) from ku_s (f := mk_) (by decide))) hM
  have hM : mm_ G (mu_ M a1 (la_ G 32 (ku_ mk_ 30))) H := hM
  refine lv_dup hx hb dd_M_init_213 rfl ?_
  refine lv_bipush (v := nI 30) hx hb dd_M_init_214 (by decide) ?_
  refine mr_ldc2 (v := (-8016688834709263125 : Int64)) C0 tw_493 dd_M_init_216 ?_
  refine mr_last C0 hM hS mu_s (30) (rfl) (by omega) (by decide) dd_M_init_219 (fun H locs hM hS => ?_)
  have hM := mr_M mu_mu hM
  have hM := mr_M (congrArg (fun z__ => mu_ M a1 (la_ G 32 z__)) (show (vp_updL (ku_ mk_ 30) 30 (-8016688834709263125 : Int64) : Nat → Int64) = (ku_ mk_ 31) from ku_s (f := mk_) (by decide))) hM
  have hM : mm_ G (mu_ M a1 (la_ G 32 (ku_ mk_ 31))) H := hM
  refine lv_dup hx hb dd_M_init_220 rfl ?_
  refine lv_bipush (v := nI 31) hx hb dd_M_init_221 (by decide) ?_
  refine mr_ldc2 (v := (-4685533652720715534 : Int64)) C0 tw_494 dd_M_init_223 ?_
  refine mr_last C0 hM hS mu_s (31) (rfl) (by omega) (by decide) dd_M_init_226 (fun H locs hM hS => ?_)
  have hM := mr_M mu_mu hM
  have hM := mr_M (congrArg (fun z__ => mu_ M a1 (la_ G 32 z__)) (show (vp_updL (ku_ mk_ 31) 31 (-4685533652720715534 : Int64) : Nat → Int64) = (ku_ mk_ 32) from ku_s (f := mk_) (by decide))) hM
  have hM : mm_ G (mu_ M a1 (la_ G 32 (ku_ mk_ 32))) H := hM
  rw [ku_mk] at hM
  have hM : mm_ G (mu_ M a1 (la_ G 32 mk_)) H := hM
  refine mr_putF C0 hM hS fk_M_71 fp_M_71 (mu_n' (Ne.symm ne_a1_o) h_o) rfl rfl rfl (rfl) (rfl) (Nat.le_of_ble_eq_true rfl) dd_M_init_227 (fun H locs hM hS => ?_)
  have hM : mm_ G (mu_ (mu_ M a1 (la_ G 32 mk_)) o (ob_ 6 [.ref a1, .null, .int (nI 0), .long (lN 0), .long (lN 0), .long (lN 0), .long (lN 0), .int (nI 0), .null, .null, .int (nI 0), .null, .null, .null, .null, .null, .long (lN 0), .long (lN 0), .int (nI 0), .long (lN 0), .long (lN 0), .null])) H := hM
  refine lv_aload_n hx hb dd_M_init_230 rfl (lv_at hl 0 rfl) ?_
  refine lv_bipush (v := nI 64) hx hb dd_M_init_231 (by decide) ?_
  refine mr_newiF C0 hM hS 64 rfl (by decide) (by subst hR; exact Nat.le_of_ble_eq_true rfl) (by subst hR; exact Nat.le_of_ble_eq_true rfl) dd_M_init_233 (fun a2 H hf hM hS => ?_)
  obtain ⟨ne_a2_o, hf⟩ := mu_fr hf
  obtain ⟨ne_a2_a1, hf⟩ := mu_fr hf
  have fr_a2 := hf
  have hM : mm_ G (mu_ (mu_ (mu_ M a1 (la_ G 32 mk_)) o (ob_ 6 [.ref a1, .null, .int (nI 0), .long (lN 0), .long (lN 0), .long (lN 0), .long (lN 0), .int (nI 0), .null, .null, .int (nI 0), .null, .null, .null, .null, .null, .long (lN 0), .long (lN 0), .int (nI 0), .long (lN 0), .long (lN 0), .null])) a2 (ia_ G 64 (fun _ => 0))) H := hM
  refine mr_putF C0 hM hS fk_M_77 fp_M_77 (mu_n' (Ne.symm ne_a2_o) mu_s) rfl rfl rfl (rfl) (rfl) (Nat.le_of_ble_eq_true rfl) dd_M_init_235 (fun H locs hM hS => ?_)
  have hM := mr_M (mu_c2 (Ne.symm ne_a2_o)) hM
  have hM : mm_ G (mu_ (mu_ (mu_ M a1 (la_ G 32 mk_)) o (ob_ 6 [.ref a1, .ref a2, .int (nI 0), .long (lN 0), .long (lN 0), .long (lN 0), .long (lN 0), .int (nI 0), .null, .null, .int (nI 0), .null, .null, .null, .null, .null, .long (lN 0), .long (lN 0), .int (nI 0), .long (lN 0), .long (lN 0), .null])) a2 (ia_ G 64 (fun _ => 0))) H := hM
  refine lv_aload_n hx hb dd_M_init_238 rfl (lv_at hl 0 rfl) ?_
  refine lv_bipush (v := nI 10) hx hb dd_M_init_239 (by decide) ?_
  refine mr_newlF C0 hM hS 10 rfl (by decide) (by subst hR; exact Nat.le_of_ble_eq_true rfl) (by subst hR; exact Nat.le_of_ble_eq_true rfl) dd_M_init_241 (fun a3 H hf hM hS => ?_)
  obtain ⟨ne_a3_a2, hf⟩ := mu_fr hf
  obtain ⟨ne_a3_o, hf⟩ := mu_fr hf
  obtain ⟨ne_a3_a1, hf⟩ := mu_fr hf
  have fr_a3 := hf
  have hM : mm_ G (mu_ (mu_ (mu_ (mu_ M a1 (la_ G 32 mk_)) o (ob_ 6 [.ref a1, .ref a2, .int (nI 0), .long (lN 0), .long (lN 0), .long (lN 0), .long (lN 0), .int (nI 0), .null, .null, .int (nI 0), .null, .null, .null, .null, .null, .long (lN 0), .long (lN 0), .int (nI 0), .long (lN 0), .long (lN 0), .null])) a2 (ia_ G 64 (fun _ => 0))) a3 (la_ G 10 (fun _ => 0))) H := hM
  refine mr_putF C0 hM hS fk_M_81 fp_M_81 (mu_n' (Ne.symm ne_a3_o) (mu_n' (Ne.symm ne_a2_o) mu_s)) rfl rfl rfl (rfl) (rfl) (Nat.le_of_ble_eq_true rfl) dd_M_init_243 (fun H locs hM hS => ?_)
  have hM := mr_M (mu_c3 (Ne.symm ne_a2_o) (Ne.symm ne_a3_o)) hM
  have hM : mm_ G (mu_ (mu_ (mu_ (mu_ M a1 (la_ G 32 mk_)) o (ob_ 6 [.ref a1, .ref a2, .int (nI 0), .long (lN 0), .long (lN 0), .long (lN 0), .long (lN 0), .int (nI 0), .ref a3, .null, .int (nI 0), .null, .null, .null, .null, .null, .long (lN 0), .long (lN 0), .int (nI 0), .long (lN 0), .long (lN 0), .null])) a2 (ia_ G 64 (fun _ => 0))) a3 (la_ G 10 (fun _ => 0))) H := hM
  refine lv_aload_n hx hb dd_M_init_246 rfl (lv_at hl 0 rfl) ?_
  refine lv_bipush (v := nI 10) hx hb dd_M_init_247 (by decide) ?_
  refine mr_newiF C0 hM hS 10 rfl (by decide) (by subst hR; exact Nat.le_of_ble_eq_true rfl) (by subst hR; exact Nat.le_of_ble_eq_true rfl) dd_M_init_249 (fun a4 H hf hM hS => ?_)
  obtain ⟨ne_a4_a3, hf⟩ := mu_fr hf
  obtain ⟨ne_a4_a2, hf⟩ := mu_fr hf
  obtain ⟨ne_a4_o, hf⟩ := mu_fr hf
  obtain ⟨ne_a4_a1, hf⟩ := mu_fr hf
  have fr_a4 := hf
  have hM : mm_ G (mu_ (mu_ (mu_ (mu_ (mu_ M a1 (la_ G 32 mk_)) o (ob_ 6 [.ref a1, .ref a2, .int (nI 0), .long (lN 0), .long (lN 0), .long (lN 0), .long (lN 0), .int (nI 0), .ref a3, .null, .int (nI 0), .null, .null, .null, .null, .null, .long (lN 0), .long (lN 0), .int (nI 0), .long (lN 0), .long (lN 0), .null])) a2 (ia_ G 64 (fun _ => 0))) a3 (la_ G 10 (fun _ => 0))) a4 (ia_ G 10 (fun _ => 0))) H := hM
  refine mr_putF C0 hM hS fk_M_84 fp_M_84 (mu_n' (Ne.symm ne_a4_o) (mu_n' (Ne.symm ne_a3_o) (mu_n' (Ne.symm ne_a2_o) mu_s))) rfl rfl rfl (rfl) (rfl) (Nat.le_of_ble_eq_true rfl) dd_M_init_251 (fun H locs hM hS => ?_)
  have hM := mr_M (mu_c4 (Ne.symm ne_a2_o) (Ne.symm ne_a3_o) (Ne.symm ne_a4_o)) hM
  have hM : mm_ G (mu_ (mu_ (mu_ (mu_ (mu_ M a1 (la_ G 32 mk_)) o (ob_ 6 [.ref a1, .ref a2, .int (nI 0), .long (lN 0), .long (lN 0), .long (lN 0), .long (lN 0), .int (nI 0), .ref a3, .ref a4, .int (nI 0), .null, .null, .null, .null, .null, .long (lN 0), .long (lN 0), .int (nI 0), .long (lN 0), .long (lN 0), .null])) a2 (ia_ G 64 (fun _ => 0))) a3 (la_ G 10 (fun _ => 0))) a4 (ia_ G 10 (fun _ => 0))) H := hM
  refine lv_aload_n hx hb dd_M_init_254 rfl (lv_at hl 0 rfl) ?_
  refine lv_bipush (v := nI 17) hx hb dd_M_init_255 (by decide) ?_
  refine mr_newiF C0 hM hS 17 rfl (by decide) (by subst hR; exact Nat.le_of_ble_eq_true rfl) (by subst hR; exact Nat.le_of_ble_eq_true rfl) dd_M_init_257 (fun a5 H hf hM hS => ?_)
  obtain ⟨ne_a5_a4, hf⟩ := mu_fr hf
  obtain ⟨ne_a5_a3, hf⟩ := mu_fr hf
  obtain ⟨ne_a5_a2, hf⟩ := mu_fr hf
  obtain ⟨ne_a5_o, hf⟩ := mu_fr hf
  obtain ⟨ne_a5_a1, hf⟩ := mu_fr hf
  have fr_a5 := hf
  have hM : mm_ G (mu_ (mu_ (mu_ (mu_ (mu_ (mu_ M a1 (la_ G 32 mk_)) o (ob_ 6 [.ref a1, .ref a2, .int (nI 0), .long (lN 0), .long (lN 0), .long (lN 0), .long (lN 0), .int (nI 0), .ref a3, .ref a4, .int (nI 0), .null, .null, .null, .null, .null, .long (lN 0), .long (lN 0), .int (nI 0), .long (lN 0), .long (lN 0), .null])) a2 (ia_ G 64 (fun _ => 0))) a3 (la_ G 10 (fun _ => 0))) a4 (ia_ G 10 (fun _ => 0))) a5 (ia_ G 17 (fun _ => 0))) H := hM
  refine mr_putF C0 hM hS fk_M_87 fp_M_87 (mu_n' (Ne.symm ne_a5_o) (mu_n' (Ne.symm ne_a4_o) (mu_n' (Ne.symm ne_a3_o) (mu_n' (Ne.symm ne_a2_o) mu_s)))) rfl rfl rfl (rfl) (rfl) (Nat.le_of_ble_eq_true rfl) dd_M_init_259 (fun H locs hM hS => ?_)
  have hM := mr_M (mu_c5 (Ne.symm ne_a2_o) (Ne.symm ne_a3_o) (Ne.symm ne_a4_o) (Ne.symm ne_a5_o)) hM
  have hM : mm_ G (mu_ (mu_ (mu_ (mu_ (mu_ (mu_ M a1 (la_ G 32 mk_)) o (ob_ 6 [.ref a1, .ref a2, .int (nI 0), .long (lN 0), .long (lN 0), .long (lN 0), .long (lN 0), .int (nI 0), .ref a3, .ref a4, .int (nI 0), .ref a5, .null, .null, .null, .null, .long (lN 0), .long (lN 0), .int (nI 0), .long (lN 0), .long (lN 0), .null])) a2 (ia_ G 64 (fun _ => 0))) a3 (la_ G 10 (fun _ => 0))) a4 (ia_ G 10 (fun _ => 0))) a5 (ia_ G 17 (fun _ => 0))) H := hM
  refine lv_aload_n hx hb dd_M_init_262 rfl (lv_at hl 0 rfl) ?_
  refine lv_sipush (v := nI 170) hx hb dd_M_init_263 (by decide) ?_
  refine mr_newlF C0 hM hS 170 rfl (by decide) (by subst hR; exact Nat.le_of_ble_eq_true rfl) (by subst hR; exact Nat.le_of_ble_eq_true rfl) dd_M_init_266 (fun a6 H hf hM hS => ?_)
  obtain ⟨ne_a6_a5, hf⟩ := mu_fr hf
  obtain ⟨ne_a6_a4, hf⟩ := mu_fr hf
  obtain ⟨ne_a6_a3, hf⟩ := mu_fr hf
  obtain ⟨ne_a6_a2, hf⟩ := mu_fr hf
  obtain ⟨ne_a6_o, hf⟩ := mu_fr hf
  obtain ⟨ne_a6_a1, hf⟩ := mu_fr hf
  have fr_a6 := hf
  have hM : mm_ G (mu_ (mu_ (mu_ (mu_ (mu_ (mu_ (mu_ M a1 (la_ G 32 mk_)) o (ob_ 6 [.ref a1, .ref a2, .int (nI 0), .long (lN 0), .long (lN 0), .long (lN 0), .long (lN 0), .int (nI 0), .ref a3, .ref a4, .int (nI 0), .ref a5, .null, .null, .null, .null, .long (lN 0), .long (lN 0), .int (nI 0), .long (lN 0), .long (lN 0), .null])) a2 (ia_ G 64 (fun _ => 0))) a3 (la_ G 10 (fun _ => 0))) a4 (ia_ G 10 (fun _ => 0))) a5 (ia_ G 17 (fun _ => 0))) a6 (la_ G 170 (fun _ => 0))) H := hM
  refine mr_putF C0 hM hS fk_M_90 fp_M_90 (mu_n' (Ne.symm ne_a6_o) (mu_n' (Ne.symm ne_a5_o) (mu_n' (Ne.symm ne_a4_o) (mu_n' (Ne.symm ne_a3_o) (mu_n' (Ne.symm ne_a2_o) mu_s))))) rfl rfl rfl (rfl) (rfl) (Nat.le_of_ble_eq_true rfl) dd_M_init_268 (fun H locs hM hS => ?_)
  have hM := mr_M (mu_c6 (Ne.symm ne_a2_o) (Ne.symm ne_a3_o) (Ne.symm ne_a4_o) (Ne.symm ne_a5_o) (Ne.symm ne_a6_o)) hM
  have hM : mm_ G (mu_ (mu_ (mu_ (mu_ (mu_ (mu_ (mu_ M a1 (la_ G 32 mk_)) o (ob_ 6 [.ref a1, .ref a2, .int (nI 0), .long (lN 0), .long (lN 0), .long (lN 0), .long (lN 0), .int (nI 0), .ref a3, .ref a4, .int (nI 0), .ref a5, .ref a6, .null, .null, .null, .long (lN 0), .long (lN 0), .int (nI 0), .long (lN 0), .long (lN 0), .null])) a2 (ia_ G 64 (fun _ => 0))) a3 (la_ G 10 (fun _ => 0))) a4 (ia_ G 10 (fun _ => 0))) a5 (ia_ G 17 (fun _ => 0))) a6 (la_ G 170 (fun _ => 0))) H := hM
  refine lv_aload_n hx hb dd_M_init_271 rfl (lv_at hl 0 rfl) ?_
  refine lv_sipush (v := nI 170) hx hb dd_M_init_272 (by decide) ?_
  refine mr_newiF C0 hM hS 170 rfl (by decide) (by subst hR; exact Nat.le_of_ble_eq_true rfl) (by subst hR; exact Nat.le_of_ble_eq_true rfl) dd_M_init_275 (fun a7 H hf hM hS => ?_)
  obtain ⟨ne_a7_a6, hf⟩ := mu_fr hf
  obtain ⟨ne_a7_a5, hf⟩ := mu_fr hf
  obtain ⟨ne_a7_a4, hf⟩ := mu_fr hf
  obtain ⟨ne_a7_a3, hf⟩ := mu_fr hf
  obtain ⟨ne_a7_a2, hf⟩ := mu_fr hf
  obtain ⟨ne_a7_o, hf⟩ := mu_fr hf
  obtain ⟨ne_a7_a1, hf⟩ := mu_fr hf
  have fr_a7 := hf
  have hM : mm_ G (mu_ (mu_ (mu_ (mu_ (mu_ (mu_ (mu_ (mu_ M a1 (la_ G 32 mk_)) o (ob_ 6 [.ref a1, .ref a2, .int (nI 0), .long (lN 0), .long (lN 0), .long (lN 0), .long (lN 0), .int (nI 0), .ref a3, .ref a4, .int (nI 0), .ref a5, .ref a6, .null, .null, .null, .long (lN 0), .long (lN 0), .int (nI 0), .long (lN 0), .long (lN 0), .null])) a2 (ia_ G 64 (fun _ => 0))) a3 (la_ G 10 (fun _ => 0))) a4 (ia_ G 10 (fun _ => 0))) a5 (ia_ G 17 (fun _ => 0))) a6 (la_ G 170 (fun _ => 0))) a7 (ia_ G 170 (fun _ => 0))) H := hM
  refine mr_putF C0 hM hS fk_M_93 fp_M_93 (mu_n' (Ne.symm ne_a7_o) (mu_n' (Ne.symm ne_a6_o) (mu_n' (Ne.symm ne_a5_o) (mu_n' (Ne.symm ne_a4_o) (mu_n' (Ne.symm ne_a3_o) (mu_n' (Ne.symm ne_a2_o) mu_s)))))) rfl rfl rfl (rfl) (rfl) (Nat.le_of_ble_eq_true rfl) dd_M_init_277 (fun H locs hM hS => ?_)
  have hM := mr_M (mu_c7 (Ne.symm ne_a2_o) (Ne.symm ne_a3_o) (Ne.symm ne_a4_o) (Ne.symm ne_a5_o) (Ne.symm ne_a6_o) (Ne.symm ne_a7_o)) hM
  have hM : mm_ G (mu_ (mu_ (mu_ (mu_ (mu_ (mu_ (mu_ (mu_ M a1 (la_ G 32 mk_)) o (ob_ 6 [.ref a1, .ref a2, .int (nI 0), .long (lN 0), .long (lN 0), .long (lN 0), .long (lN 0), .int (nI 0), .ref a3, .ref a4, .int (nI 0), .ref a5, .ref a6, .ref a7, .null, .null, .long (lN 0), .long (lN 0), .int (nI 0), .long (lN 0), .long (lN 0), .null])) a2 (ia_ G 64 (fun _ => 0))) a3 (la_ G 10 (fun _ => 0))) a4 (ia_ G 10 (fun _ => 0))) a5 (ia_ G 17 (fun _ => 0))) a6 (la_ G 170 (fun _ => 0))) a7 (ia_ G 170 (fun _ => 0))) H := hM
  refine lv_aload_n hx hb dd_M_init_280 rfl (lv_at hl 0 rfl) ?_
  refine lv_bipush (v := nI 17) hx hb dd_M_init_281 (by decide) ?_
  refine mr_newlF C0 hM hS 17 rfl (by decide) (by subst hR; exact Nat.le_of_ble_eq_true rfl) (by subst hR; exact Nat.le_of_ble_eq_true rfl) dd_M_init_283 (fun a8 H hf hM hS => ?_)
  obtain ⟨ne_a8_a7, hf⟩ := mu_fr hf
  obtain ⟨ne_a8_a6, hf⟩ := mu_fr hf
  obtain ⟨ne_a8_a5, hf⟩ := mu_fr hf
  obtain ⟨ne_a8_a4, hf⟩ := mu_fr hf
  obtain ⟨ne_a8_a3, hf⟩ := mu_fr hf
  obtain ⟨ne_a8_a2, hf⟩ := mu_fr hf
  obtain ⟨ne_a8_o, hf⟩ := mu_fr hf
  obtain ⟨ne_a8_a1, hf⟩ := mu_fr hf
  have fr_a8 := hf
  have hM : mm_ G (mu_ (mu_ (mu_ (mu_ (mu_ (mu_ (mu_ (mu_ (mu_ M a1 (la_ G 32 mk_)) o (ob_ 6 [.ref a1, .ref a2, .int (nI 0), .long (lN 0), .long (lN 0), .long (lN 0), .long (lN 0), .int (nI 0), .ref a3, .ref a4, .int (nI 0), .ref a5, .ref a6, .ref a7, .null, .null, .long (lN 0), .long (lN 0), .int (nI 0), .long (lN 0), .long (lN 0), .null])) a2 (ia_ G 64 (fun _ => 0))) a3 (la_ G 10 (fun _ => 0))) a4 (ia_ G 10 (fun _ => 0))) a5 (ia_ G 17 (fun _ => 0))) a6 (la_ G 170 (fun _ => 0))) a7 (ia_ G 170 (fun _ => 0))) a8 (la_ G 17 (fun _ => 0))) H := hM
  refine mr_putF C0 hM hS fk_M_96 fp_M_96 (mu_n' (Ne.symm ne_a8_o) (mu_n' (Ne.symm ne_a7_o) (mu_n' (Ne.symm ne_a6_o) (mu_n' (Ne.symm ne_a5_o) (mu_n' (Ne.symm ne_a4_o) (mu_n' (Ne.symm ne_a3_o) (mu_n' (Ne.symm ne_a2_o) mu_s))))))) rfl rfl rfl (rfl) (rfl) (Nat.le_of_ble_eq_true rfl) dd_M_init_285 (fun H locs hM hS => ?_)
  have hM := mr_M (mu_c8 (Ne.symm ne_a2_o) (Ne.symm ne_a3_o) (Ne.symm ne_a4_o) (Ne.symm ne_a5_o) (Ne.symm ne_a6_o) (Ne.symm ne_a7_o) (Ne.symm ne_a8_o)) hM
  have hM : mm_ G (mu_ (mu_ (mu_ (mu_ (mu_ (mu_ (mu_ (mu_ (mu_ M a1 (la_ G 32 mk_)) o (ob_ 6 [.ref a1, .ref a2, .int (nI 0), .long (lN 0), .long (lN 0), .long (lN 0), .long (lN 0), .int (nI 0), .ref a3, .ref a4, .int (nI 0), .ref a5, .ref a6, .ref a7, .ref a8, .null, .long (lN 0), .long (lN 0), .int (nI 0), .long (lN 0), .long (lN 0), .null])) a2 (ia_ G 64 (fun _ => 0))) a3 (la_ G 10 (fun _ => 0))) a4 (ia_ G 10 (fun _ => 0))) a5 (ia_ G 17 (fun _ => 0))) a6 (la_ G 170 (fun _ => 0))) a7 (ia_ G 170 (fun _ => 0))) a8 (la_ G 17 (fun _ => 0))) H := hM
  refine lv_aload_n hx hb dd_M_init_288 rfl (lv_at hl 0 rfl) ?_
  refine lv_bipush (v := nI 17) hx hb dd_M_init_289 (by decide) ?_
  refine mr_newlF C0 hM hS 17 rfl (by decide) (by subst hR; exact Nat.le_of_ble_eq_true rfl) (by subst hR; exact Nat.le_of_ble_eq_true rfl) dd_M_init_291 (fun a9 H hf hM hS => ?_)
  obtain ⟨ne_a9_a8, hf⟩ := mu_fr hf
  obtain ⟨ne_a9_a7, hf⟩ := mu_fr hf
  obtain ⟨ne_a9_a6, hf⟩ := mu_fr hf
  obtain ⟨ne_a9_a5, hf⟩ := mu_fr hf
  obtain ⟨ne_a9_a4, hf⟩ := mu_fr hf
  obtain ⟨ne_a9_a3, hf⟩ := mu_fr hf
  obtain ⟨ne_a9_a2, hf⟩ := mu_fr hf
  obtain ⟨ne_a9_o, hf⟩ := mu_fr hf
  obtain ⟨ne_a9_a1, hf⟩ := mu_fr hf
  have fr_a9 := hf
  have hM : mm_ G (mu_ (mu_ (mu_ (mu_ (mu_ (mu_ (mu_ (mu_ (mu_ (mu_ M a1 (la_ G 32 mk_)) o (ob_ 6 [.ref a1, .ref a2, .int (nI 0), .long (lN 0), .long (lN 0), .long (lN 0), .long (lN 0), .int (nI 0), .ref a3, .ref a4, .int (nI 0), .ref a5, .ref a6, .ref a7, .ref a8, .null, .long (lN 0), .long (lN 0), .int (nI 0), .long (lN 0), .long (lN 0), .null])) a2 (ia_ G 64 (fun _ => 0))) a3 (la_ G 10 (fun _ => 0))) a4 (ia_ G 10 (fun _ => 0))) a5 (ia_ G 17 (fun _ => 0))) a6 (la_ G 170 (fun _ => 0))) a7 (ia_ G 170 (fun _ => 0))) a8 (la_ G 17 (fun _ => 0))) a9 (la_ G 17 (fun _ => 0))) H := hM
  refine mr_putF C0 hM hS fk_M_99 fp_M_99 (mu_n' (Ne.symm ne_a9_o) (mu_n' (Ne.symm ne_a8_o) (mu_n' (Ne.symm ne_a7_o) (mu_n' (Ne.symm ne_a6_o) (mu_n' (Ne.symm ne_a5_o) (mu_n' (Ne.symm ne_a4_o) (mu_n' (Ne.symm ne_a3_o) (mu_n' (Ne.symm ne_a2_o) mu_s)))))))) rfl rfl rfl (rfl) (rfl) (Nat.le_of_ble_eq_true rfl) dd_M_init_293 (fun H locs hM hS => ?_)
  have hM := mr_M (mu_c9 (Ne.symm ne_a2_o) (Ne.symm ne_a3_o) (Ne.symm ne_a4_o) (Ne.symm ne_a5_o) (Ne.symm ne_a6_o) (Ne.symm ne_a7_o) (Ne.symm ne_a8_o) (Ne.symm ne_a9_o)) hM
  have hM : mm_ G (mu_ (mu_ (mu_ (mu_ (mu_ (mu_ (mu_ (mu_ (mu_ (mu_ M a1 (la_ G 32 mk_)) o (ob_ 6 [.ref a1, .ref a2, .int (nI 0), .long (lN 0), .long (lN 0), .long (lN 0), .long (lN 0), .int (nI 0), .ref a3, .ref a4, .int (nI 0), .ref a5, .ref a6, .ref a7, .ref a8, .ref a9, .long (lN 0), .long (lN 0), .int (nI 0), .long (lN 0), .long (lN 0), .null])) a2 (ia_ G 64 (fun _ => 0))) a3 (la_ G 10 (fun _ => 0))) a4 (ia_ G 10 (fun _ => 0))) a5 (ia_ G 17 (fun _ => 0))) a6 (la_ G 170 (fun _ => 0))) a7 (ia_ G 170 (fun _ => 0))) a8 (la_ G 17 (fun _ => 0))) a9 (la_ G 17 (fun _ => 0))) H := hM
  refine lv_aload_n hx hb dd_M_init_296 rfl (lv_at hl 0 rfl) ?_
  refine lv_bipush (v := nI 32) hx hb dd_M_init_297 (by decide) ?_
  refine mr_newiF C0 hM hS 32 rfl (by decide) (by subst hR; exact Nat.le_of_ble_eq_true rfl) (by subst hR; exact Nat.le_of_ble_eq_true rfl) dd_M_init_299 (fun a10 H hf hM hS => ?_)
  obtain ⟨ne_a10_a9, hf⟩ := mu_fr hf
  obtain ⟨ne_a10_a8, hf⟩ := mu_fr hf
  obtain ⟨ne_a10_a7, hf⟩ := mu_fr hf
  obtain ⟨ne_a10_a6, hf⟩ := mu_fr hf
  obtain ⟨ne_a10_a5, hf⟩ := mu_fr hf
  obtain ⟨ne_a10_a4, hf⟩ := mu_fr hf
  obtain ⟨ne_a10_a3, hf⟩ := mu_fr hf
  obtain ⟨ne_a10_a2, hf⟩ := mu_fr hf
  obtain ⟨ne_a10_o, hf⟩ := mu_fr hf
  obtain ⟨ne_a10_a1, hf⟩ := mu_fr hf
  have fr_a10 := hf
  have hM : mm_ G (mu_ (mu_ (mu_ (mu_ (mu_ (mu_ (mu_ (mu_ (mu_ (mu_ (mu_ M a1 (la_ G 32 mk_)) o (ob_ 6 [.ref a1, .ref a2, .int (nI 0), .long (lN 0), .long (lN 0), .long (lN 0), .long (lN 0), .int (nI 0), .ref a3, .ref a4, .int (nI 0), .ref a5, .ref a6, .ref a7, .ref a8, .ref a9, .long (lN 0), .long (lN 0), .int (nI 0), .long (lN 0), .long (lN 0), .null])) a2 (ia_ G 64 (fun _ => 0))) a3 (la_ G 10 (fun _ => 0))) a4 (ia_ G 10 (fun _ => 0))) a5 (ia_ G 17 (fun _ => 0))) a6 (la_ G 170 (fun _ => 0))) a7 (ia_ G 170 (fun _ => 0))) a8 (la_ G 17 (fun _ => 0))) a9 (la_ G 17 (fun _ => 0))) a10 (ia_ G 32 (fun _ => 0))) H := hM
  refine mr_putF C0 hM hS fk_M_102 fp_M_102 (mu_n' (Ne.symm ne_a10_o) (mu_n' (Ne.symm ne_a9_o) (mu_n' (Ne.symm ne_a8_o) (mu_n' (Ne.symm ne_a7_o) (mu_n' (Ne.symm ne_a6_o) (mu_n' (Ne.symm ne_a5_o) (mu_n' (Ne.symm ne_a4_o) (mu_n' (Ne.symm ne_a3_o) (mu_n' (Ne.symm ne_a2_o) mu_s))))))))) rfl rfl rfl (rfl) (rfl) (Nat.le_of_ble_eq_true rfl) dd_M_init_301 (fun H locs hM hS => ?_)
  have hM := mr_M (mu_c10 (Ne.symm ne_a2_o) (Ne.symm ne_a3_o) (Ne.symm ne_a4_o) (Ne.symm ne_a5_o) (Ne.symm ne_a6_o) (Ne.symm ne_a7_o) (Ne.symm ne_a8_o) (Ne.symm ne_a9_o) (Ne.symm ne_a10_o)) hM
  have hM : mm_ G (mu_ (mu_ (mu_ (mu_ (mu_ (mu_ (mu_ (mu_ (mu_ (mu_ (mu_ M a1 (la_ G 32 mk_)) o (ob_ 6 [.ref a1, .ref a2, .int (nI 0), .long (lN 0), .long (lN 0), .long (lN 0), .long (lN 0), .int (nI 0), .ref a3, .ref a4, .int (nI 0), .ref a5, .ref a6, .ref a7, .ref a8, .ref a9, .long (lN 0), .long (lN 0), .int (nI 0), .long (lN 0), .long (lN 0), .ref a10])) a2 (ia_ G 64 (fun _ => 0))) a3 (la_ G 10 (fun _ => 0))) a4 (ia_ G 10 (fun _ => 0))) a5 (ia_ G 17 (fun _ => 0))) a6 (la_ G 170 (fun _ => 0))) a7 (ia_ G 170 (fun _ => 0))) a8 (la_ G 17 (fun _ => 0))) a9 (la_ G 17 (fun _ => 0))) a10 (ia_ G 32 (fun _ => 0))) H := hM
  exact mr_ret hQ (mr_vret C0 hM hS (⟨rfl, a1, a2, a3, a4, a5, a6, a7, a8, a9, a10, ⟨fr_a1, fr_a2, fr_a3, fr_a4, fr_a5, fr_a6, fr_a7, fr_a8, fr_a9, fr_a10, ne_a2_a1, ne_a3_a1, ne_a3_a2, ne_a4_a1, ne_a4_a2, ne_a4_a3, ne_a5_a1, ne_a5_a2, ne_a5_a3, ne_a5_a4, ne_a6_a1, ne_a6_a2, ne_a6_a3, ne_a6_a4, ne_a6_a5, ne_a7_a1, ne_a7_a2, ne_a7_a3, ne_a7_a4, ne_a7_a5, ne_a7_a6, ne_a8_a1, ne_a8_a2, ne_a8_a3, ne_a8_a4, ne_a8_a5, ne_a8_a6, ne_a8_a7, ne_a9_a1, ne_a9_a2, ne_a9_a3, ne_a9_a4, ne_a9_a5, ne_a9_a6, ne_a9_a7, ne_a9_a8, ne_a10_a1, ne_a10_a2, ne_a10_a3, ne_a10_a4, ne_a10_a5, ne_a10_a6, ne_a10_a7, ne_a10_a8, ne_a10_a9⟩, rfl⟩) dd_M_init_304)
