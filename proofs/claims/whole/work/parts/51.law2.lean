
theorem PX_tr {G : mg_} {A ap : Nat → Nat} {hs N Vt nw Hd fc : Nat} {Pd : rl_} {Ls : Nat → rl_} {n1 Ex : Nat} {w g0 : Nat → Int32} {f t0 d0 b0 q0 s0 o0 td mn mo mq : Nat → Int64} {ef eu ei : Nat → Nat → Int64} {eg : Nat → Nat → Int32} {M M1 : mw_} (hap : ∀ i, i < 125 → ap i = A i) (k : ∀ i, i < 125 → i ≠ 17 → M1 (A i) = M (A i)) (h17 : M1 (A 17) = some (qa_ G 17 (fun e => some (ap (23 + 6 * e))))) (h : PX_ G A hs N Vt Pd Ls nw Hd fc n1 Ex w g0 f t0 d0 b0 q0 s0 o0 td mn mo mq ef eu ei eg M) : PX_ G ap hs N Vt Pd Ls nw Hd fc n1 Ex w g0 f t0 d0 b0 q0 s0 o0 td mn mo mq ef eu ei eg M1 := by
  obtain ⟨h_po, h_so, h_wA, h_r, h_th, h_td, h_un, h_mn, h_mo, h_mq, h_tt, h_dd, h_bb, h_rr, h_to, h_tS, h_tP, h_ep, h_hd, h_sc, h_os, h_no, h_nA, hE0, hE1, hE2, hE3, hE4, hE5, hrest⟩ := h
  exact ⟨by rw [hap 0 (by decide), hap 1 (by decide), hap 3 (by decide), hap 14 (by decide), hap 17 (by decide), hap 18 (by decide), hap 19 (by decide), hap 20 (by decide), hap 21 (by decide)]; exact (k 0 (by decide) (by decide)).trans h_po, by rw [hap 1 (by decide), hap 2 (by decide)]; exact (k 1 (by decide) (by decide)).trans h_so, by rw [hap 2 (by decide)]; exact (k 2 (by decide) (by decide)).trans h_wA, by rw [hap 3 (by decide), hap 4 (by decide), hap 5 (by decide), hap 6 (by decide), hap 7 (by decide), hap 8 (by decide), hap 9 (by decide), hap 10 (by decide), hap 11 (by decide), hap 12 (by decide), hap 13 (by decide)]; exact (k 3 (by decide) (by decide)).trans h_r, by rw [hap 4 (by decide)]; exact (k 4 (by decide) (by decide)).trans h_th, by rw [hap 5 (by decide)]; exact (k 5 (by decide) (by decide)).trans h_td, by rw [hap 6 (by decide)]; exact (k 6 (by decide) (by decide)).trans h_un, by rw [hap 7 (by decide)]; exact (k 7 (by decide) (by decide)).trans h_mn, by rw [hap 8 (by decide)]; exact (k 8 (by decide) (by decide)).trans h_mo, by rw [hap 9 (by decide)]; exact (k 9 (by decide) (by decide)).trans h_mq, by rw [hap 10 (by decide)]; exact (k 10 (by decide) (by decide)).trans h_tt, by rw [hap 11 (by decide)]; exact (k 11 (by decide) (by decide)).trans h_dd, by rw [hap 12 (by decide)]; exact (k 12 (by decide) (by decide)).trans h_bb, by rw [hap 13 (by decide)]; exact (k 13 (by decide) (by decide)).trans h_rr, by rw [hap 14 (by decide), hap 15 (by decide), hap 16 (by decide)]; exact (k 14 (by decide) (by decide)).trans h_to, by rw [hap 15 (by decide)]; exact (k 15 (by decide) (by decide)).trans h_tS, by rw [hap 16 (by decide)]; exact (k 16 (by decide) (by decide)).trans h_tP, by rw [hap 17 (by decide)]; exact h17, by rw [hap 18 (by decide)]; exact (k 18 (by decide) (by decide)).trans h_hd, by rw [hap 19 (by decide)]; exact (k 19 (by decide) (by decide)).trans h_sc, by rw [hap 20 (by decide)]; exact (k 20 (by decide) (by decide)).trans h_os, by rw [hap 21 (by decide), hap 22 (by decide)]; exact (k 21 (by decide) (by decide)).trans h_no, by rw [hap 22 (by decide)]; exact (k 22 (by decide) (by decide)).trans h_nA, fun e he => by rw [hap (23 + 6 * e) (by omega), hap (24 + 6 * e) (by omega), hap (27 + 6 * e) (by omega), hap (28 + 6 * e) (by omega)]; exact (k (23 + 6 * e) (by omega) (by omega)).trans (hE0 e he), fun e he => by rw [hap (24 + 6 * e) (by omega), hap (25 + 6 * e) (by omega), hap (26 + 6 * e) (by omega)]; exact (k (24 + 6 * e) (by omega) (by omega)).trans (hE1 e he), fun e he => by rw [hap (25 + 6 * e) (by omega)]; exact (k (25 + 6 * e) (by omega) (by omega)).trans (hE2 e he), fun e he => by rw [hap (26 + 6 * e) (by omega)]; exact (k (26 + 6 * e) (by omega) (by omega)).trans (hE3 e he), fun e he => by rw [hap (27 + 6 * e) (by omega)]; exact (k (27 + 6 * e) (by omega) (by omega)).trans (hE4 e he), fun e he => by rw [hap (28 + 6 * e) (by omega)]; exact (k (28 + 6 * e) (by omega) (by omega)).trans (hE5 e he), hrest⟩
theorem PX_some {G : mg_} {A : Nat → Nat} {hs N Vt nw Hd fc : Nat} {Pd : rl_} {Ls : Nat → rl_} {n1 Ex : Nat} {w g0 : Nat → Int32} {f t0 d0 b0 q0 s0 o0 td mn mo mq : Nat → Int64} {ef eu ei : Nat → Nat → Int64} {eg : Nat → Nat → Int32} {M : mw_} (h : PX_ G A hs N Vt Pd Ls nw Hd fc n1 Ex w g0 f t0 d0 b0 q0 s0 o0 td mn mo mq ef eu ei eg M) : ∀ i, i < 125 → ∃ c, M (A i) = some c := by
  obtain ⟨h_po, h_so, h_wA, h_r, h_th, h_td, h_un, h_mn, h_mo, h_mq, h_tt, h_dd, h_bb, h_rr, h_to, h_tS, h_tP, h_ep, h_hd, h_sc, h_os, h_no, h_nA, hE0, hE1, hE2, hE3, hE4, hE5, hrest⟩ := h
  intro i hi
  by_cases h1 : i < 23
  · match i, h1 with
    | 0, _ => exact ⟨_, h_po⟩
    | 1, _ => exact ⟨_, h_so⟩
    | 2, _ => exact ⟨_, h_wA⟩
    | 3, _ => exact ⟨_, h_r⟩
    | 4, _ => exact ⟨_, h_th⟩
    | 5, _ => exact ⟨_, h_td⟩
    | 6, _ => exact ⟨_, h_un⟩
    | 7, _ => exact ⟨_, h_mn⟩
    | 8, _ => exact ⟨_, h_mo⟩
    | 9, _ => exact ⟨_, h_mq⟩
    | 10, _ => exact ⟨_, h_tt⟩
    | 11, _ => exact ⟨_, h_dd⟩
    | 12, _ => exact ⟨_, h_bb⟩
    | 13, _ => exact ⟨_, h_rr⟩
    | 14, _ => exact ⟨_, h_to⟩
    | 15, _ => exact ⟨_, h_tS⟩
    | 16, _ => exact ⟨_, h_tP⟩
    | 17, _ => exact ⟨_, h_ep⟩
    | 18, _ => exact ⟨_, h_hd⟩
    | 19, _ => exact ⟨_, h_sc⟩
    | 20, _ => exact ⟨_, h_os⟩
    | 21, _ => exact ⟨_, h_no⟩
    | 22, _ => exact ⟨_, h_nA⟩
    | n + 23, h => exact absurd h (by omega)
  · have he : (i - 23) / 6 < 17 := by omega
    rcases six_ (i - 23) with q | q | q | q | q | q
    · rw [show i = 23 + 6 * ((i - 23) / 6) by omega]; exact ⟨_, hE0 _ he⟩
    · rw [show i = 24 + 6 * ((i - 23) / 6) by omega]; exact ⟨_, hE1 _ he⟩
    · rw [show i = 25 + 6 * ((i - 23) / 6) by omega]; exact ⟨_, hE2 _ he⟩
    · rw [show i = 26 + 6 * ((i - 23) / 6) by omega]; exact ⟨_, hE3 _ he⟩
    · rw [show i = 27 + 6 * ((i - 23) / 6) by omega]; exact ⟨_, hE4 _ he⟩
    · rw [show i = 28 + 6 * ((i - 23) / 6) by omega]; exact ⟨_, hE5 _ he⟩
theorem bd_ (f : Nat → Nat) : ∀ n, ∃ K, ∀ i, i < n → f i < K
  | 0 => ⟨0, fun i h => absurd h (Nat.not_lt_zero i)⟩
  | n + 1 => by
    obtain ⟨K, hK⟩ := bd_ f n
    refine ⟨K + f n + 1, fun i hi => ?_⟩
    by_cases h : i = n
    · subst h; omega
    · have := hK i (by omega); omega
theorem embed_ {A B : Nat → Nat} (hA : ∀ i j, i < 125 → j < 125 → i ≠ j → A i ≠ A j) (hB : ∀ i j, i < 11 → j < 11 → i ≠ j → B i ≠ B j) (hx : ∀ i, i < 125 → ∀ j, j < 11 → A i ≠ B j) : ∃ ap am : Nat → Nat, (∀ i, i < 125 → ap i = A i) ∧ (∀ i, i < 11 → am i = B i) ∧ (∀ {i j : Nat}, i ≠ j → ap i ≠ ap j) ∧ (∀ {i j : Nat}, i ≠ j → am i ≠ am j) ∧ (∀ i j, ap i ≠ am j) := by
  obtain ⟨K1, h1⟩ := bd_ A 125
  obtain ⟨K2, h2⟩ := bd_ B 11
  refine ⟨fun i => if i < 125 then A i else K1 + K2 + 2 * i, fun i => if i < 11 then B i else K1 + K2 + 2 * i + 1, fun i h => if_pos h, fun i h => if_pos h, ?_, ?_, ?_⟩
  · intro i j hij
    show (if i < 125 then A i else _) ≠ (if j < 125 then A j else _)
    by_cases q1 : i < 125 <;> by_cases q2 : j < 125 <;> simp only [q1, q2, if_true, if_false]
    · exact hA i j q1 q2 hij
    · have := h1 i q1; omega
    · have := h1 j q2; omega
    · omega
  · intro i j hij
    show (if i < 11 then B i else _) ≠ (if j < 11 then B j else _)
    by_cases q1 : i < 11 <;> by_cases q2 : j < 11 <;> simp only [q1, q2, if_true, if_false]
    · exact hB i j q1 q2 hij
    · have := h2 i q1; omega
    · have := h2 j q2; omega
    · omega
  · intro i j
    show (if i < 125 then A i else _) ≠ (if j < 11 then B j else _)
    by_cases q1 : i < 125 <;> by_cases q2 : j < 11 <;> simp only [q1, q2, if_true, if_false]
    · exact hx i q1 j q2
    · have := h1 i q1; omega
    · have := h2 j q2; omega
    · omega
set_option maxRecDepth 100000 in
set_option maxHeartbeats 4000000 in
theorem law_init {G : mg_} {M1 M2 M3 M4 : mw_} {o1 o2 a1 a2 a3 a4 a5 a6 a7 a8 a9 a10 : Nat} {c1 c2 : va_E} (hM1 : M1 o1 = some c1) (hPI : PI_ G o1 M1 M2) (f2 : M2 o2 = none) (e3 : M3 = mu_ M2 o2 c2) (hx : (M3 a1 = none ∧ M3 a2 = none ∧ M3 a3 = none ∧ M3 a4 = none ∧ M3 a5 = none ∧ M3 a6 = none ∧ M3 a7 = none ∧ M3 a8 = none ∧ M3 a9 = none ∧ M3 a10 = none ∧ a2 ≠ a1 ∧ a3 ≠ a1 ∧ a3 ≠ a2 ∧ a4 ≠ a1 ∧ a4 ≠ a2 ∧ a4 ≠ a3 ∧ a5 ≠ a1 ∧ a5 ≠ a2 ∧ a5 ≠ a3 ∧ a5 ≠ a4 ∧ a6 ≠ a1 ∧ a6 ≠ a2 ∧ a6 ≠ a3 ∧ a6 ≠ a4 ∧ a6 ≠ a5 ∧ a7 ≠ a1 ∧ a7 ≠ a2 ∧ a7 ≠ a3 ∧ a7 ≠ a4 ∧ a7 ≠ a5 ∧ a7 ≠ a6 ∧ a8 ≠ a1 ∧ a8 ≠ a2 ∧ a8 ≠ a3 ∧ a8 ≠ a4 ∧ a8 ≠ a5 ∧ a8 ≠ a6 ∧ a8 ≠ a7 ∧ a9 ≠ a1 ∧ a9 ≠ a2 ∧ a9 ≠ a3 ∧ a9 ≠ a4 ∧ a9 ≠ a5 ∧ a9 ≠ a6 ∧ a9 ≠ a7 ∧ a9 ≠ a8 ∧ a10 ≠ a1 ∧ a10 ≠ a2 ∧ a10 ≠ a3 ∧ a10 ≠ a4 ∧ a10 ≠ a5 ∧ a10 ≠ a6 ∧ a10 ≠ a7 ∧ a10 ≠ a8 ∧ a10 ≠ a9)) (e4 : M4 = mu_ (mu_ (mu_ (mu_ (mu_ (mu_ (mu_ (mu_ (mu_ (mu_ (mu_ M3 a1 (la_ G 32 mk_)) o2 (ob_ 6 [.ref a1, .ref a2, .int (nI 0), .long (lN 0), .long (lN 0), .long (lN 0), .long (lN 0), .int (nI 0), .ref a3, .ref a4, .int (nI 0), .ref a5, .ref a6, .ref a7, .ref a8, .ref a9, .long (lN 0), .long (lN 0), .int (nI 0), .long (lN 0), .long (lN 0), .ref a10])) a2 (ia_ G 64 (fun _ => 0))) a3 (la_ G 10 (fun _ => 0))) a4 (ia_ G 10 (fun _ => 0))) a5 (ia_ G 17 (fun _ => 0))) a6 (la_ G 170 (fun _ => 0))) a7 (ia_ G 170 (fun _ => 0))) a8 (la_ G 17 (fun _ => 0))) a9 (la_ G 17 (fun _ => 0))) a10 (ia_ G 32 (fun _ => 0))) :
    ∃ (ap am : Nat → Nat) (M5 : mw_), (∀ {i j : Nat}, i ≠ j → ap i ≠ ap j) ∧ (∀ {i j : Nat}, i ≠ j → am i ≠ am j) ∧ (∀ i j, ap i ≠ am j) ∧ o1 = ap 0 ∧ o2 = am 0 ∧ LI_ G ap am 0 0 0 [] (fun _ => []) 0 0 0 M5 ∧ (∀ H, mm_ G M4 H → mm_ G M5 H) := by
  obtain ⟨hf_a1, hf_a2, hf_a3, hf_a4, hf_a5, hf_a6, hf_a7, hf_a8, hf_a9, hf_a10, ne_a2_a1, ne_a3_a1, ne_a3_a2, ne_a4_a1, ne_a4_a2, ne_a4_a3, ne_a5_a1, ne_a5_a2, ne_a5_a3, ne_a5_a4, ne_a6_a1, ne_a6_a2, ne_a6_a3, ne_a6_a4, ne_a6_a5, ne_a7_a1, ne_a7_a2, ne_a7_a3, ne_a7_a4, ne_a7_a5, ne_a7_a6, ne_a8_a1, ne_a8_a2, ne_a8_a3, ne_a8_a4, ne_a8_a5, ne_a8_a6, ne_a8_a7, ne_a9_a1, ne_a9_a2, ne_a9_a3, ne_a9_a4, ne_a9_a5, ne_a9_a6, ne_a9_a7, ne_a9_a8, ne_a10_a1, ne_a10_a2, ne_a10_a3, ne_a10_a4, ne_a10_a5, ne_a10_a6, ne_a10_a7, ne_a10_a8, ne_a10_a9⟩ := hx
  obtain ⟨A, A0, Ai, Af, Afr, hPX⟩ := hPI
  have hsm := PX_some hPX
  have f3o : M3 o2 = some c2 := by rw [e3]; exact mu_s
  have n_a1 : a1 ≠ o2 := ne_fr hf_a1 f3o
  have n_a2 : a2 ≠ o2 := ne_fr hf_a2 f3o
  have n_a3 : a3 ≠ o2 := ne_fr hf_a3 f3o
  have n_a4 : a4 ≠ o2 := ne_fr hf_a4 f3o
  have n_a5 : a5 ≠ o2 := ne_fr hf_a5 f3o
  have n_a6 : a6 ≠ o2 := ne_fr hf_a6 f3o
  have n_a7 : a7 ≠ o2 := ne_fr hf_a7 f3o
  have n_a8 : a8 ≠ o2 := ne_fr hf_a8 f3o
  have n_a9 : a9 ≠ o2 := ne_fr hf_a9 f3o
  have n_a10 : a10 ≠ o2 := ne_fr hf_a10 f3o
  have hnd : ([o2, a1, a2, a3, a4, a5, a6, a7, a8, a9, a10] : List Nat).Nodup := (List.nodup_cons.mpr ⟨(List.not_mem_cons_of_ne_of_not_mem n_a1.symm (List.not_mem_cons_of_ne_of_not_mem n_a2.symm (List.not_mem_cons_of_ne_of_not_mem n_a3.symm (List.not_mem_cons_of_ne_of_not_mem n_a4.symm (List.not_mem_cons_of_ne_of_not_mem n_a5.symm (List.not_mem_cons_of_ne_of_not_mem n_a6.symm (List.not_mem_cons_of_ne_of_not_mem n_a7.symm (List.not_mem_cons_of_ne_of_not_mem n_a8.symm (List.not_mem_cons_of_ne_of_not_mem n_a9.symm (List.not_mem_cons_of_ne_of_not_mem n_a10.symm List.not_mem_nil)))))))))), (List.nodup_cons.mpr ⟨(List.not_mem_cons_of_ne_of_not_mem ne_a2_a1.symm (List.not_mem_cons_of_ne_of_not_mem ne_a3_a1.symm (List.not_mem_cons_of_ne_of_not_mem ne_a4_a1.symm (List.not_mem_cons_of_ne_of_not_mem ne_a5_a1.symm (List.not_mem_cons_of_ne_of_not_mem ne_a6_a1.symm (List.not_mem_cons_of_ne_of_not_mem ne_a7_a1.symm (List.not_mem_cons_of_ne_of_not_mem ne_a8_a1.symm (List.not_mem_cons_of_ne_of_not_mem ne_a9_a1.symm (List.not_mem_cons_of_ne_of_not_mem ne_a10_a1.symm List.not_mem_nil))))))))), (List.nodup_cons.mpr ⟨(List.not_mem_cons_of_ne_of_not_mem ne_a3_a2.symm (List.not_mem_cons_of_ne_of_not_mem ne_a4_a2.symm (List.not_mem_cons_of_ne_of_not_mem ne_a5_a2.symm (List.not_mem_cons_of_ne_of_not_mem ne_a6_a2.symm (List.not_mem_cons_of_ne_of_not_mem ne_a7_a2.symm (List.not_mem_cons_of_ne_of_not_mem ne_a8_a2.symm (List.not_mem_cons_of_ne_of_not_mem ne_a9_a2.symm (List.not_mem_cons_of_ne_of_not_mem ne_a10_a2.symm List.not_mem_nil)))))))), (List.nodup_cons.mpr ⟨(List.not_mem_cons_of_ne_of_not_mem ne_a4_a3.symm (List.not_mem_cons_of_ne_of_not_mem ne_a5_a3.symm (List.not_mem_cons_of_ne_of_not_mem ne_a6_a3.symm (List.not_mem_cons_of_ne_of_not_mem ne_a7_a3.symm (List.not_mem_cons_of_ne_of_not_mem ne_a8_a3.symm (List.not_mem_cons_of_ne_of_not_mem ne_a9_a3.symm (List.not_mem_cons_of_ne_of_not_mem ne_a10_a3.symm List.not_mem_nil))))))), (List.nodup_cons.mpr ⟨(List.not_mem_cons_of_ne_of_not_mem ne_a5_a4.symm (List.not_mem_cons_of_ne_of_not_mem ne_a6_a4.symm (List.not_mem_cons_of_ne_of_not_mem ne_a7_a4.symm (List.not_mem_cons_of_ne_of_not_mem ne_a8_a4.symm (List.not_mem_cons_of_ne_of_not_mem ne_a9_a4.symm (List.not_mem_cons_of_ne_of_not_mem ne_a10_a4.symm List.not_mem_nil)))))), (List.nodup_cons.mpr ⟨(List.not_mem_cons_of_ne_of_not_mem ne_a6_a5.symm (List.not_mem_cons_of_ne_of_not_mem ne_a7_a5.symm (List.not_mem_cons_of_ne_of_not_mem ne_a8_a5.symm (List.not_mem_cons_of_ne_of_not_mem ne_a9_a5.symm (List.not_mem_cons_of_ne_of_not_mem ne_a10_a5.symm List.not_mem_nil))))), (List.nodup_cons.mpr ⟨(List.not_mem_cons_of_ne_of_not_mem ne_a7_a6.symm (List.not_mem_cons_of_ne_of_not_mem ne_a8_a6.symm (List.not_mem_cons_of_ne_of_not_mem ne_a9_a6.symm (List.not_mem_cons_of_ne_of_not_mem ne_a10_a6.symm List.not_mem_nil)))), (List.nodup_cons.mpr ⟨(List.not_mem_cons_of_ne_of_not_mem ne_a8_a7.symm (List.not_mem_cons_of_ne_of_not_mem ne_a9_a7.symm (List.not_mem_cons_of_ne_of_not_mem ne_a10_a7.symm List.not_mem_nil))), (List.nodup_cons.mpr ⟨(List.not_mem_cons_of_ne_of_not_mem ne_a9_a8.symm (List.not_mem_cons_of_ne_of_not_mem ne_a10_a8.symm List.not_mem_nil)), (List.nodup_cons.mpr ⟨(List.not_mem_cons_of_ne_of_not_mem ne_a10_a9.symm List.not_mem_nil), (List.nodup_cons.mpr ⟨List.not_mem_nil, List.nodup_nil⟩)⟩)⟩)⟩)⟩)⟩)⟩)⟩)⟩)⟩)⟩)
  have hAo : ∀ i, i < 125 → A i ≠ o2 := fun i hi q => by obtain ⟨c, hc⟩ := hsm i hi; rw [q, f2] at hc; cases hc
  have k3 : ∀ i, i < 125 → M3 (A i) = M2 (A i) := fun i hi => by rw [e3]; exact mu_n (hAo i hi)
  have hAn : ∀ {x : Nat}, M3 x = none → ∀ i, i < 125 → A i ≠ x := fun fx i hi q => by
    obtain ⟨c, hc⟩ := hsm i hi
    rw [← k3 i hi, q, fx] at hc; cases hc
  have hball : ∀ y ∈ ([o2, a1, a2, a3, a4, a5, a6, a7, a8, a9, a10] : List Nat), ∀ i, i < 125 → A i ≠ y := List.forall_mem_cons.mpr ⟨hAo, List.forall_mem_cons.mpr ⟨hAn hf_a1, List.forall_mem_cons.mpr ⟨hAn hf_a2, List.forall_mem_cons.mpr ⟨hAn hf_a3, List.forall_mem_cons.mpr ⟨hAn hf_a4, List.forall_mem_cons.mpr ⟨hAn hf_a5, List.forall_mem_cons.mpr ⟨hAn hf_a6, List.forall_mem_cons.mpr ⟨hAn hf_a7, List.forall_mem_cons.mpr ⟨hAn hf_a8, List.forall_mem_cons.mpr ⟨hAn hf_a9, List.forall_mem_cons.mpr ⟨hAn hf_a10, fun _ h => absurd h List.not_mem_nil⟩⟩⟩⟩⟩⟩⟩⟩⟩⟩⟩
  have hAx : ∀ i, i < 125 → ∀ j, j < 11 → A i ≠ ([o2, a1, a2, a3, a4, a5, a6, a7, a8, a9, a10] : List Nat).getD j 0 := fun i hi j hj => hball _ (gd_mem hj) i hi
  obtain ⟨ap, am, hap, ham, np, nm, nx⟩ := embed_ (A := A) (B := fun j => ([o2, a1, a2, a3, a4, a5, a6, a7, a8, a9, a10] : List Nat).getD j 0) Ai (fun i j hi hj hij => nd_get hnd hi hj hij) hAx
  have k4 : ∀ i, i < 125 → M4 (A i) = M2 (A i) := fun i hi => by
    rw [e4]
    exact ((mu_n' (hAn hf_a10 i hi) (mu_n' (hAn hf_a9 i hi) (mu_n' (hAn hf_a8 i hi) (mu_n' (hAn hf_a7 i hi) (mu_n' (hAn hf_a6 i hi) (mu_n' (hAn hf_a5 i hi) (mu_n' (hAn hf_a4 i hi) (mu_n' (hAn hf_a3 i hi) (mu_n' (hAn hf_a2 i hi) (mu_n' (hAo i hi) (mu_n' (hAn hf_a1 i hi) rfl)))))))))))).trans (k3 i hi)
  have hq : M2 (A 17) = some (qa_ G 17 (fun e => some (A (23 + 6 * e)))) := hPX.2.2.2.2.2.2.2.2.2.2.2.2.2.2.2.2.2.1
  refine ⟨ap, am, mu_ M4 (A 17) (qa_ G 17 (fun e => some (ap (23 + 6 * e)))), np, nm, nx, ?_, ?_, ⟨SI_0, ?_, ?_⟩, fun H hM => hM.qeq ((k4 17 (by decide)).trans hq) (fun j hj => by rw [hap _ (by omega)])⟩
  · rw [hap 0 (by decide)]; exact A0.symm
  · rw [ham 0 (by decide)]; rfl
  · exact ⟨_, _, _, _, _, _, _, _, _, _, _, _, _, _, _, _, _, _, _, PX_tr hap (fun i hi h17 => (mu_n (Ai i 17 hi (by decide) h17)).trans (k4 i hi)) mu_s hPX⟩
  · subst e4
    have q5 : ∀ x, A 17 ≠ x → ∀ {Z : mw_} {cz : va_E}, mu_ Z (A 17) cz x = Z x := fun x hx Z cz => mu_n hx.symm
    exact ⟨_, _, _, _, _, _, _, _, _, _, _, ⟨fun j hj => absurd hj (Nat.not_lt_zero j), fun e he => ⟨rfl, Nat.zero_le _, fun j hj => absurd hj (Nat.not_lt_zero j)⟩, fun q => absurd q (by decide)⟩, by rw [ham 1 (by decide)]; exact (q5 _ (hAx 17 (by decide) 1 (by decide))).trans (mu_n' ne_a10_a1.symm (mu_n' ne_a9_a1.symm (mu_n' ne_a8_a1.symm (mu_n' ne_a7_a1.symm (mu_n' ne_a6_a1.symm (mu_n' ne_a5_a1.symm (mu_n' ne_a4_a1.symm (mu_n' ne_a3_a1.symm (mu_n' ne_a2_a1.symm (mu_n' n_a1 mu_s)))))))))), by rw [ham 2 (by decide)]; exact (q5 _ (by exact hAx 17 (by decide) 2 (by decide))).trans (mu_n' ne_a10_a2.symm (mu_n' ne_a9_a2.symm (mu_n' ne_a8_a2.symm (mu_n' ne_a7_a2.symm (mu_n' ne_a6_a2.symm (mu_n' ne_a5_a2.symm (mu_n' ne_a4_a2.symm (mu_n' ne_a3_a2.symm mu_s)))))))), by rw [ham 3 (by decide)]; exact (q5 _ (by exact hAx 17 (by decide) 3 (by decide))).trans (mu_n' ne_a10_a3.symm (mu_n' ne_a9_a3.symm (mu_n' ne_a8_a3.symm (mu_n' ne_a7_a3.symm (mu_n' ne_a6_a3.symm (mu_n' ne_a5_a3.symm (mu_n' ne_a4_a3.symm mu_s))))))), by rw [ham 4 (by decide)]; exact (q5 _ (by exact hAx 17 (by decide) 4 (by decide))).trans (mu_n' ne_a10_a4.symm (mu_n' ne_a9_a4.symm (mu_n' ne_a8_a4.symm (mu_n' ne_a7_a4.symm (mu_n' ne_a6_a4.symm (mu_n' ne_a5_a4.symm mu_s)))))), by rw [ham 5 (by decide)]; exact (q5 _ (by exact hAx 17 (by decide) 5 (by decide))).trans (mu_n' ne_a10_a5.symm (mu_n' ne_a9_a5.symm (mu_n' ne_a8_a5.symm (mu_n' ne_a7_a5.symm (mu_n' ne_a6_a5.symm mu_s))))), by rw [ham 6 (by decide)]; exact (q5 _ (by exact hAx 17 (by decide) 6 (by decide))).trans (mu_n' ne_a10_a6.symm (mu_n' ne_a9_a6.symm (mu_n' ne_a8_a6.symm (mu_n' ne_a7_a6.symm mu_s)))), by rw [ham 7 (by decide)]; exact (q5 _ (by exact hAx 17 (by decide) 7 (by decide))).trans (mu_n' ne_a10_a7.symm (mu_n' ne_a9_a7.symm (mu_n' ne_a8_a7.symm mu_s))), by rw [ham 8 (by decide)]; exact (q5 _ (by exact hAx 17 (by decide) 8 (by decide))).trans (mu_n' ne_a10_a8.symm (mu_n' ne_a9_a8.symm mu_s)), by rw [ham 9 (by decide)]; exact (q5 _ (by exact hAx 17 (by decide) 9 (by decide))).trans (mu_n' ne_a10_a9.symm mu_s), by rw [ham 10 (by decide)]; exact (q5 _ (by exact hAx 17 (by decide) 10 (by decide))).trans mu_s, by rw [ham 0 (by decide), ham 1 (by decide), ham 2 (by decide), ham 3 (by decide), ham 4 (by decide), ham 5 (by decide), ham 6 (by decide), ham 7 (by decide), ham 8 (by decide), ham 9 (by decide), ham 10 (by decide)]; exact (q5 _ (by exact hAx 17 (by decide) 0 (by decide))).trans (mu_n' n_a10.symm (mu_n' n_a9.symm (mu_n' n_a8.symm (mu_n' n_a7.symm (mu_n' n_a6.symm (mu_n' n_a5.symm (mu_n' n_a4.symm (mu_n' n_a3.symm (mu_n' n_a2.symm mu_s)))))))))⟩
