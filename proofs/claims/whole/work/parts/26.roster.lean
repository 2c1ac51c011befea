
theorem ne_il {G : mg_} {M : mw_} {a b n n' : Nat} {f : Nat → Int32} {g : Nat → Int64} (h : M a = some (ia_ G n f)) (k : M b = some (la_ G n' g)) : a ≠ b := by
  intro q
  subst q
  rw [h] at k
  have h1 := Option.some.inj k
  simp at h1
/-! rosters: a list of serials with their primes -/
abbrev rl_ : Type := List (Int64 × Nat)
def sr_ (L : rl_) (j : Nat) : Int64 := (L.getD j (0, 0)).1
def pr_ (L : rl_) (j : Nat) : Nat := (L.getD j (0, 0)).2
def px_ (L : rl_) (s : Int64) : Option Nat := L.findIdx? (fun x => x.1 == s)
def hs_ (L : rl_) (s : Int64) : Bool := L.any (fun x => x.1 == s)
def pz_ (L : rl_) (s : Int64) : Int32 := match px_ L s with
  | some i => nI i
  | none => (-1)
theorem sr_at {L : rl_} {j : Nat} (h : j < L.length) : sr_ L j = (L[j]).1 := by simp [sr_, List.getD_eq_getElem?_getD, h]
theorem pr_at {L : rl_} {j : Nat} (h : j < L.length) : pr_ L j = (L[j]).2 := by simp [pr_, List.getD_eq_getElem?_getD, h]
theorem px_some {L : rl_} {s : Int64} {i : Nat} (hi : i < L.length) (h : sr_ L i = s) (hb : ∀ j, j < i → sr_ L j ≠ s) : px_ L s = some i := by
  unfold px_
  rw [List.findIdx?_eq_some_iff_getElem]
  refine ⟨hi, ?_, fun j hj => ?_⟩
  · rw [sr_at hi] at h; simp [h]
  · have := hb j hj
    rw [sr_at (by omega)] at this
    simpa using this
theorem px_none {L : rl_} {s : Int64} (hb : ∀ j, j < L.length → sr_ L j ≠ s) : px_ L s = none := by
  unfold px_
  rw [List.findIdx?_eq_none_iff]
  intro x hx
  obtain ⟨j, hj, rfl⟩ := List.getElem_of_mem hx
  have := hb j hj
  rw [sr_at hj] at this
  simpa using this
theorem px_lt {L : rl_} {s : Int64} {i : Nat} (h : px_ L s = some i) : i < L.length ∧ sr_ L i = s := by
  unfold px_ at h
  rw [List.findIdx?_eq_some_iff_getElem] at h
  obtain ⟨h1, h2, -⟩ := h
  exact ⟨h1, by rw [sr_at h1]; simpa using h2⟩
theorem hs_px (L : rl_) (s : Int64) : hs_ L s = (px_ L s).isSome := by
  unfold hs_ px_
  rw [List.findIdx?_isSome]
theorem pz_neg {L : rl_} {s : Int64} (hn : L.length ≤ 10) : pz_ L s < 0 ↔ hs_ L s = false := by
  rw [hs_px]
  unfold pz_
  cases h : px_ L s with
  | none => simp
  | some i =>
    have := (px_lt h).1
    simp
    exact nI_pos' (by omega)
def fo_ (L O : rl_) : rl_ := L.filter (fun x => !(hs_ O x.1))
theorem take_s {L : rl_} {i : Nat} (h : i < L.length) : L.take (i + 1) = L.take i ++ [(sr_ L i, pr_ L i)] := by
  rw [List.take_succ_eq_append_getElem h, sr_at h, pr_at h]
def pd_ (L : rl_) : Nat := (L.map (·.2)).foldl (· * ·) 1
theorem pd_nil : pd_ [] = 1 := rfl
theorem pd_snoc (L : rl_) (x : Int64 × Nat) : pd_ (L ++ [x]) = pd_ L * x.2 := by simp [pd_]
def fs_ (L : rl_) (s : Int64) : rl_ := L.filter (fun x => !(x.1 == s))
theorem fo_s {L O : rl_} {i : Nat} (h : i < L.length) : fo_ (L.take (i + 1)) O = fo_ (L.take i) O ++ (if hs_ O (sr_ L i) then [] else [(sr_ L i, pr_ L i)]) := by
  rw [take_s h, fo_, List.filter_append, fo_]
  congr 1
  cases h2 : hs_ O (sr_ L i) <;> simp [h2]
theorem fs_s {L : rl_} {s : Int64} {i : Nat} (h : i < L.length) : fs_ (L.take (i + 1)) s = fs_ (L.take i) s ++ (if sr_ L i = s then [] else [(sr_ L i, pr_ L i)]) := by
  rw [take_s h, fs_, List.filter_append, fs_]
  congr 1
  by_cases h2 : sr_ L i = s <;> simp [h2]
theorem take_all {L : rl_} {i : Nat} (h : L.length ≤ i) : L.take i = L := List.take_of_length_le h
theorem fo_len {L O : rl_} (i : Nat) : (fo_ (L.take i) O).length ≤ i := by
  refine Nat.le_trans (List.length_filter_le _ _) ?_
  rw [List.length_take]; omega
def cf_ (L O : rl_) : Nat := (fo_ L O).length
theorem cf_t {L O : rl_} {i : Nat} (h : i < L.length) (hv : hs_ O (sr_ L i) = true) : cf_ (L.take (i + 1)) O = cf_ (L.take i) O := by unfold cf_; rw [fo_s h, hv]; simp
theorem cf_f {L O : rl_} {i : Nat} (h : i < L.length) (hv : hs_ O (sr_ L i) = false) : cf_ (L.take (i + 1)) O = cf_ (L.take i) O + 1 := by unfold cf_; rw [fo_s h, hv]; simp
theorem cf_le {L O : rl_} (i : Nat) : cf_ (L.take i) O ≤ i := fo_len i
noncomputable def po_ (L O : rl_) (w : Int32) : Int32 := if h : ∃ i, i < (fo_ L O).length ∧ nI i = w then nI (pr_ (fo_ L O) h.choose) else (-2)
theorem po_y {L O : rl_} {w : Int32} {i : Nat} (hl : L.length ≤ 10) (h : i < (fo_ L O).length) (hw : nI i = w) : po_ L O w = nI (pr_ (fo_ L O) i) := by
  have hx : ∃ i, i < (fo_ L O).length ∧ nI i = w := ⟨i, h, hw⟩
  have hlen : (fo_ L O).length ≤ L.length := List.length_filter_le _ _
  unfold po_
  rw [dif_pos hx]
  have hc := hx.choose_spec
  have : hx.choose = i := (nI_eq (by omega) (by omega)).mp (hc.2.trans hw.symm)
  rw [this]
theorem po_n {L O : rl_} {w : Int32} (h : ∀ i, i < (fo_ L O).length → nI i ≠ w) : po_ L O w = (-2) := by
  unfold po_
  rw [dif_neg]
  rintro ⟨i, hi, hw⟩
  exact h i hi hw
theorem fo_split (L O : rl_) (i : Nat) : fo_ L O = fo_ (L.take i) O ++ fo_ (L.drop i) O := by
  unfold fo_
  rw [← List.filter_append, List.take_append_drop]
theorem fo_pick {L O : rl_} {i : Nat} (h : i < L.length) (h2 : hs_ O (sr_ L i) = false) : cf_ (L.take i) O < (fo_ L O).length ∧ pr_ (fo_ L O) (cf_ (L.take i) O) = pr_ L i := by
  unfold cf_
  have e := fo_split L O (i + 1)
  rw [fo_s h, h2] at e
  simp only [Bool.false_eq_true, if_false] at e
  rw [e]
  constructor
  · simp
  · unfold pr_
    simp [List.getD_eq_getElem?_getD, List.getElem?_append]
/-! taking one in, taking one out -/
def mi_ (L : rl_) (s : Int64) : Nat → Nat
  | 0 => 0
  | k + 1 => if s < sr_ L k then mi_ L s k else k + 1
theorem mi_le (L : rl_) (s : Int64) : ∀ k, mi_ L s k ≤ k
  | 0 => Nat.le_refl _
  | k + 1 => by
    unfold mi_
    split
    · exact Nat.le_succ_of_le (mi_le L s k)
    · exact Nat.le_refl _
def ins_ (L : rl_) (s : Int64) (p : Nat) : rl_ := L.take (mi_ L s L.length) ++ (s, p) :: L.drop (mi_ L s L.length)
def sh_ {α : Type} (f : Nat → α) (k n : Nat) : Nat → α := fun j => if k < j ∧ j ≤ n then f (j - 1) else f j
theorem sh_n {α : Type} (f : Nat → α) (n : Nat) : f = sh_ f n n := by
  funext j
  simp only [sh_]
  rw [if_neg (by omega)]
theorem sh_sL {f : Nat → Int64} {k n : Nat} (h : k < n) : vp_updL (sh_ f (k + 1) n) (k + 1) (sh_ f (k + 1) n k) = sh_ f k n := by
  funext j
  simp only [vp_updL, sh_]
  by_cases h1 : j = k + 1
  · subst h1
    rw [if_pos rfl, if_neg (by omega), if_pos (by omega)]
    rfl
  · rw [if_neg h1]
    by_cases h2 : k + 1 < j ∧ j ≤ n
    · rw [if_pos h2, if_pos (by omega)]
    · rw [if_neg h2, if_neg (by omega)]
theorem sh_sI {f : Nat → Int32} {k n : Nat} (h : k < n) : upd (sh_ f (k + 1) n) (k + 1) (sh_ f (k + 1) n k) = sh_ f k n := by
  funext j
  simp only [upd, sh_]
  by_cases h1 : j = k + 1
  · subst h1
    rw [if_pos rfl, if_neg (by omega), if_pos (by omega)]
    rfl
  · rw [if_neg h1]
    by_cases h2 : k + 1 < j ∧ j ≤ n
    · rw [if_pos h2, if_pos (by omega)]
    · rw [if_neg h2, if_neg (by omega)]
def ro_ (f : Nat → Int64) (g : Nat → Int32) (L : rl_) : Prop := ∀ j, j < L.length → f j = sr_ L j ∧ g j = nI (pr_ L j)
theorem ins_len (L : rl_) (s : Int64) (p : Nat) : (ins_ L s p).length = L.length + 1 := by
  have := mi_le L s L.length
  simp [ins_, List.length_take]
  omega
theorem ins_at (L : rl_) (s : Int64) (p j : Nat) : (ins_ L s p).getD j (0, 0) = if j < mi_ L s L.length then L.getD j (0, 0) else if j = mi_ L s L.length then (s, p) else L.getD (j - 1) (0, 0) := by
  have hm := mi_le L s L.length
  unfold ins_
  generalize mi_ L s L.length = m at *
  simp only [List.getD_eq_getElem?_getD]
  by_cases h1 : j < m
  · rw [if_pos h1, List.getElem?_append_left (by rw [List.length_take]; omega), List.getElem?_take_of_lt h1]
  · rw [if_neg h1, List.getElem?_append_right (by rw [List.length_take]; omega), List.length_take, Nat.min_eq_left hm]
    by_cases h2 : j = m
    · subst h2; simp
    · rw [if_neg h2]
      obtain ⟨i, rfl⟩ : ∃ i, j = m + 1 + i := ⟨j - m - 1, by omega⟩
      rw [show m + 1 + i - m = i + 1 by omega, List.getElem?_cons_succ, List.getElem?_drop, show m + 1 + i - 1 = m + i by omega]
theorem ro_ins {f : Nat → Int64} {g : Nat → Int32} {L : rl_} (h : ro_ f g L) (s : Int64) (p : Nat) : ro_ (vp_updL (sh_ f (mi_ L s L.length) L.length) (mi_ L s L.length) s) (upd (sh_ g (mi_ L s L.length) L.length) (mi_ L s L.length) (nI p)) (ins_ L s p) := by
  intro j hj
  rw [ins_len] at hj
  have hm := mi_le L s L.length
  unfold sr_ pr_
  rw [ins_at]
  generalize mi_ L s L.length = m at *
  simp only [vp_updL, upd, sh_]
  by_cases h1 : j = m
  · subst h1; simp
  · simp only [h1, if_false]
    by_cases h2 : j < m
    · simp only [h2, if_true, show ¬ (m < j ∧ j ≤ L.length) by omega, if_false]
      exact h j (by omega)
    · simp only [h2, if_false, show m < j ∧ j ≤ L.length by omega, and_self, if_true]
      exact h (j - 1) (by omega)
def de_ {α : Type} (f : Nat → α) (q i : Nat) : Nat → α := fun j => if q ≤ j ∧ j + 1 < i then f (j + 1) else f j
theorem de_0 {α : Type} (f : Nat → α) (q : Nat) : f = de_ f q (q + 1) := by
  funext j
  simp only [de_]
  rw [if_neg (by omega)]
theorem de_sL {f : Nat → Int64} {q i : Nat} (h : q < i) : vp_updL (de_ f q i) (i - 1) (de_ f q i i) = de_ f q (i + 1) := by
  funext j
  simp only [vp_updL, de_]
  by_cases h1 : j = i - 1
  · subst h1
    rw [if_pos rfl, if_neg (by omega), if_pos (by omega), show i - 1 + 1 = i by omega]
  · rw [if_neg h1]
    by_cases h2 : q ≤ j ∧ j + 1 < i
    · rw [if_pos h2, if_pos (by omega)]
    · rw [if_neg h2, if_neg (by omega)]
theorem de_sI {f : Nat → Int32} {q i : Nat} (h : q < i) : upd (de_ f q i) (i - 1) (de_ f q i i) = de_ f q (i + 1) := by
  funext j
  simp only [upd, de_]
  by_cases h1 : j = i - 1
  · subst h1
    rw [if_pos rfl, if_neg (by omega), if_pos (by omega), show i - 1 + 1 = i by omega]
  · rw [if_neg h1]
    by_cases h2 : q ≤ j ∧ j + 1 < i
    · rw [if_pos h2, if_pos (by omega)]
    · rw [if_neg h2, if_neg (by omega)]
theorem ro_del {f : Nat → Int64} {g : Nat → Int32} {L : rl_} (h : ro_ f g L) {q : Nat} (hq : q < L.length) : ro_ (de_ f q L.length) (de_ g q L.length) (L.eraseIdx q) := by
  intro j hj
  rw [List.length_eraseIdx, if_pos hq] at hj
  unfold sr_ pr_
  simp only [List.getD_eq_getElem?_getD, List.getElem?_eraseIdx, de_]
  by_cases h1 : j < q
  · have := h j (by omega)
    simp only [sr_, pr_, List.getD_eq_getElem?_getD] at this
    simp only [h1, if_true, show ¬ (q ≤ j ∧ j + 1 < L.length) by omega, if_false]
    exact this
  · have := h (j + 1) (by omega)
    simp only [sr_, pr_, List.getD_eq_getElem?_getD] at this
    simp only [h1, if_false, show q ≤ j ∧ j + 1 < L.length by omega, and_self, if_true]
    exact this

def hp_ (L : rl_) (p : Int32) : Bool := L.any (fun x => nI x.2 == p)
theorem hp_y {L : rl_} {p : Int32} {i : Nat} (hi : i < L.length) (h : nI (pr_ L i) = p) : hp_ L p = true := by
  unfold hp_
  rw [List.any_eq_true]
  exact ⟨L[i], List.getElem_mem hi, by rw [pr_at hi] at h; simp [h]⟩
theorem hp_no {L : rl_} {p : Int32} (hb : ∀ j, j < L.length → nI (pr_ L j) ≠ p) : hp_ L p = false := by
  unfold hp_
  rw [List.any_eq_false]
  intro x hx
  obtain ⟨j, hj, rfl⟩ := List.getElem_of_mem hx
  have := hb j hj
  rw [pr_at hj] at this
  simpa using this

theorem pd_take {L : rl_} {i : Nat} (h : i < L.length) : pd_ (L.take (i + 1)) = pd_ (L.take i) * pr_ L i := by rw [take_s h, pd_snoc]
theorem pd_0 (L : rl_) : pd_ (L.take 0) = 1 := rfl

set_option maxHeartbeats 4000000 in
set_option maxRecDepth 100000 in
theorem c_T_placeOf (l : Launch) {G : mg_} {M : mw_} {o sA pA : Nat} {L : rl_} {f : Nat → Int64} {sx : Int64} (h_o : M o = some (ob_ 3 [.ref sA, .ref pA, .int (nI L.length)])) (h_sA : M sA = some (la_ G 10 f))  (hf : ∀ j, j < L.length → f j = sr_ L j) (hn : L.length ≤ 10) : dt_ l my_T_placeOf cd_T_placeOf 4 (some .int) { frames := 0, cells := 0, slots := 0, locals := 0 } G [.ref o, .long sx] M (some (.int (pz_ L sx))) (M) 0 0 := by
  refine ct_.intro2 (by decide) (Nat.le_of_ble_eq_true rfl) ?_
  intro p e s m args below meth c ls R Q hR hQ C0 hl hM hS
  have hx := C0.1
  have hb := C0.2.1
  have hl : lv_has ls 4 [(0, .ref o), (1, .long sx)] := hl
  refine lv_iconst (v := nI 0) hx hb dd_T_placeOf_0 (by decide) ?_
  refine lv_istore_n (lv' := [(3, .int (nI 0)), (0, .ref o), (1, .long sx)]) hx hb dd_T_placeOf_1 rfl hl (by decide) rfl (fun ls hl => ?_)
  have loop_2 : ∀ (k : Nat) (i : Nat) (H : Heap) (locs : List Loc) (ls : Array Slot), i + k = L.length → (∀ j, j < i → sr_ L j ≠ sx) → mm_ G (M) H → va_S (fz_ G) s.heap H locs → lv_has ls 4 [(0, .ref o), (1, .long sx), (3, .int (nI i))] → W p l e R s m args below meth c H locs 0 0 Q (F0 m 2 ls []) := by
    intro k
    induction k with
    | zero =>
      intro i H locs ls hi hb0 hM hS hl
      refine lv_iload_n hx hb dd_T_placeOf_2 rfl (lv_at hl 2 rfl) ?_
      refine lv_aload_n hx hb dd_T_placeOf_3 rfl (lv_at hl 0 rfl) ?_
      refine mr_get C0 hM fk_T_19 h_o (v := .int (nI L.length)) rfl dd_T_placeOf_4 ?_
      refine lv_icmp_ge (tgt := 29) hx hb dd_T_placeOf_7 rfl (fun _ => ?_) (fun hc => absurd (le_nI (a := L.length) (b := i) (by omega) (by omega) (by omega)) hc)
      refine lv_iconst (v := (-1 : Int32)) hx hb dd_T_placeOf_29 (by decide) ?_
      exact mr_ret hQ (mr_iret C0 hM hS (rfl) (⟨by rw [pz_, px_none (fun j hj => hb0 j (by omega))], rfl⟩) dd_T_placeOf_30)
    | succ k ih =>
      intro i H locs ls hi hb0 hM hS hl
      refine lv_iload_n hx hb dd_T_placeOf_2 rfl (lv_at hl 2 rfl) ?_
      refine lv_aload_n hx hb dd_T_placeOf_3 rfl (lv_at hl 0 rfl) ?_
      refine mr_get C0 hM fk_T_19 h_o (v := .int (nI L.length)) rfl dd_T_placeOf_4 ?_
      refine lv_icmp_ge (tgt := 29) hx hb dd_T_placeOf_7 rfl (fun hc => absurd hc (nle_nI (a := L.length) (b := i) (by omega) (by omega) (by omega))) (fun _ => ?_)
      refine lv_aload_n hx hb dd_T_placeOf_10 rfl (lv_at hl 0 rfl) ?_
      refine mr_get C0 hM fk_T_11 h_o (v := .ref sA) rfl dd_T_placeOf_11 ?_
      refine lv_iload_n hx hb dd_T_placeOf_14 rfl (lv_at hl 2 rfl) ?_
      refine mr_lald C0 hM h_sA (i) (rfl) (by omega) (by decide) dd_T_placeOf_15 ?_
      refine lv_lload_n hx hb dd_T_placeOf_16 rfl (lv_at hl 1 rfl) ?_
      refine mr_lif_ne (tgt := 23) hx hb dd_T_placeOf_17 dd_T_placeOf_18 rfl (fun h17 => ?_) (fun h17 => ?_)
      · skip
        refine lv_iinc (k := 2) (v := nI (i + 1)) (lv' := [(3, .int (nI (i + 1))), (0, .ref o), (1, .long sx)]) hx hb dd_T_placeOf_23 hl rfl (inc_ i) (by decide) rfl (fun ls hl => ?_)
        refine lv_goto (tgt := 2) hx hb dd_T_placeOf_26 rfl ?_
        exact ih (i + 1) _ _ _ (by omega) (fun j hj => by rcases (show j < i ∨ j = i by omega) with h | h; exact hb0 j h; subst h; rw [← hf j (by omega)]; exact h17) hM hS (lv_sub hl [1, 2, 0] rfl)
      · skip
        refine lv_iload_n hx hb dd_T_placeOf_21 rfl (lv_at hl 2 rfl) ?_
        exact mr_ret hQ (mr_iret C0 hM hS (rfl) (⟨by rw [pz_, px_some (by omega) (by rw [← hf i (by omega)]; exact h17) hb0], rfl⟩) dd_T_placeOf_22)
  exact loop_2 L.length 0 _ _ _ (Nat.zero_add _) (fun j h => absurd h (Nat.not_lt_zero j)) hM hS (lv_sub hl [1, 2, 0] rfl)

set_option maxHeartbeats 4000000 in
set_option maxRecDepth 100000 in
theorem c_T_has (l : Launch) {G : mg_} {M : mw_} {o sA pA : Nat} {L : rl_} {f : Nat → Int64} {sx : Int64} (h_o : M o = some (ob_ 3 [.ref sA, .ref pA, .int (nI L.length)])) (h_sA : M sA = some (la_ G 10 f))  (hf : ∀ j, j < L.length → f j = sr_ L j) (hn : L.length ≤ 10) : dt_ l my_T_has cd_T_has 3 (some .boolean) { frames := 1, cells := 0, slots := 0, locals := 23 } G [.ref o, .long sx] M (some (.int (nI (if hs_ L sx then 1 else 0)))) (M) 0 0 := by
  refine ct_.intro2 (by decide) (Nat.le_of_ble_eq_true rfl) ?_
  intro p e s m args below meth c ls R Q hR hQ C0 hl hM hS
  have hx := C0.1
  have hb := C0.2.1
  have hl : lv_has ls 3 [(0, .ref o), (1, .long sx)] := hl
  refine lv_aload_n hx hb dd_T_has_0 rfl (lv_at hl 0 rfl) ?_
  refine lv_lload_n hx hb dd_T_has_1 rfl (lv_at hl 1 rfl) ?_
  refine mr_callV (As := [.long sx]) (rest := []) C0 hM hS vk_T_23 h_o rfl (c_T_placeOf l h_o h_sA  hf hn) rfl rfl hl.1 (by decide) rfl rfl (by subst hR; exact ⟨Nat.le_of_ble_eq_true rfl, Nat.le_of_ble_eq_true rfl⟩) (by subst hR; exact ⟨Nat.le_of_ble_eq_true rfl, Nat.le_of_ble_eq_true rfl⟩) dd_T_has_2 (fun v1 M1 H locs hp hM hS => ?_)
  obtain ⟨ev1, eM1⟩ := hp
  subst ev1
  rw [eM1] at hM
  refine W.eq (g2 := F0 m 5 ls [.int (pz_ L sx)]) rfl ?_
  refine lv_if_lt (tgt := 12) hx hb dd_T_has_5 rfl (fun h5 => ?_) (fun h5 => ?_)
  · skip
    have hv := (pz_neg hn).mp h5
    refine lv_iconst (v := nI 0) hx hb dd_T_has_12 (by decide) ?_
    exact mr_ret hQ (mr_iret C0 hM hS (rfl) (⟨by rw [hv]; rfl, rfl⟩) dd_T_has_13)
  · skip
    have hv : hs_ L sx = true := by
      cases h : hs_ L sx with
      | true => rfl
      | false => exact absurd ((pz_neg hn).mpr h) h5
    refine lv_iconst (v := nI 1) hx hb dd_T_has_8 (by decide) ?_
    refine lv_goto (tgt := 13) hx hb dd_T_has_9 rfl ?_
    exact mr_ret hQ (mr_iret C0 hM hS (rfl) (⟨by rw [hv]; rfl, rfl⟩) dd_T_has_13)

set_option maxHeartbeats 4000000 in
set_option maxRecDepth 100000 in
theorem c_T_hasPrime (l : Launch) {G : mg_} {M : mw_} {o sA pA : Nat} {L : rl_} {g0 : Nat → Int32} {p0 : Int32} (h_o : M o = some (ob_ 3 [.ref sA, .ref pA, .int (nI L.length)])) (h_pA : M pA = some (ia_ G 10 g0))  (hg : ∀ j, j < L.length → g0 j = nI (pr_ L j)) (hn : L.length ≤ 10) : dt_ l my_T_hasPrime cd_T_hasPrime 3 (some .boolean) { frames := 0, cells := 0, slots := 0, locals := 0 } G [.ref o, .int p0] M (some (.int (nI (if hp_ L p0 then 1 else 0)))) (M) 0 0 := by
  refine ct_.intro2 (by decide) (Nat.le_of_ble_eq_true rfl) ?_
  intro p e s m args below meth c ls R Q hR hQ C0 hl hM hS
  have hx := C0.1
  have hb := C0.2.1
  have hl : lv_has ls 3 [(0, .ref o), (1, .int p0)] := hl
  refine lv_iconst (v := nI 0) hx hb dd_T_hasPrime_0 (by decide) ?_
  refine lv_istore_n (lv' := [(2, .int (nI 0)), (0, .ref o), (1, .int p0)]) hx hb dd_T_hasPrime_1 rfl hl (by decide) rfl (fun ls hl => ?_)
  have loop_2 : ∀ (k : Nat) (i : Nat) (H : Heap) (locs : List Loc) (ls : Array Slot), i + k = L.length → (∀ j, j < i → nI (pr_ L j) ≠ p0) → mm_ G (M) H → va_S (fz_ G) s.heap H locs → lv_has ls 3 [(0, .ref o), (1, .int p0), (2, .int (nI i))] → W p l e R s m args below meth c H locs 0 0 Q (F0 m 2 ls []) := by
    intro k
    induction k with
    | zero =>
      intro i H locs ls hi hb0 hM hS hl
      refine lv_iload_n hx hb dd_T_hasPrime_2 rfl (lv_at hl 2 rfl) ?_
      refine lv_aload_n hx hb dd_T_hasPrime_3 rfl (lv_at hl 0 rfl) ?_
      refine mr_get C0 hM fk_T_19 h_o (v := .int (nI L.length)) rfl dd_T_hasPrime_4 ?_
      refine lv_icmp_ge (tgt := 28) hx hb dd_T_hasPrime_7 rfl (fun _ => ?_) (fun hc => absurd (le_nI (a := L.length) (b := i) (by omega) (by omega) (by omega)) hc)
      refine lv_iconst (v := nI 0) hx hb dd_T_hasPrime_28 (by decide) ?_
      exact mr_ret hQ (mr_iret C0 hM hS (rfl) (⟨by rw [hp_no (fun j hj => hb0 j (by omega))]; rfl, rfl⟩) dd_T_hasPrime_29)
    | succ k ih =>
      intro i H locs ls hi hb0 hM hS hl
      refine lv_iload_n hx hb dd_T_hasPrime_2 rfl (lv_at hl 2 rfl) ?_
      refine lv_aload_n hx hb dd_T_hasPrime_3 rfl (lv_at hl 0 rfl) ?_
      refine mr_get C0 hM fk_T_19 h_o (v := .int (nI L.length)) rfl dd_T_hasPrime_4 ?_
      refine lv_icmp_ge (tgt := 28) hx hb dd_T_hasPrime_7 rfl (fun hc => absurd hc (nle_nI (a := L.length) (b := i) (by omega) (by omega) (by omega))) (fun _ => ?_)
      refine lv_aload_n hx hb dd_T_hasPrime_10 rfl (lv_at hl 0 rfl) ?_
      refine mr_get C0 hM fk_T_15 h_o (v := .ref pA) rfl dd_T_hasPrime_11 ?_
      refine lv_iload_n hx hb dd_T_hasPrime_14 rfl (lv_at hl 2 rfl) ?_
      refine mr_iald C0 hM h_pA (i) (rfl) (by omega) (by decide) dd_T_hasPrime_15 ?_
      refine lv_iload_n hx hb dd_T_hasPrime_16 rfl (lv_at hl 1 rfl) ?_
      refine lv_icmp_ne (tgt := 22) hx hb dd_T_hasPrime_17 rfl (fun h17 => ?_) (fun h17 => ?_)
      · skip
        refine lv_iinc (k := 2) (v := nI (i + 1)) (lv' := [(2, .int (nI (i + 1))), (0, .ref o), (1, .int p0)]) hx hb dd_T_hasPrime_22 hl rfl (inc_ i) (by decide) rfl (fun ls hl => ?_)
        refine lv_goto (tgt := 2) hx hb dd_T_hasPrime_25 rfl ?_
        exact ih (i + 1) _ _ _ (by omega) (fun j hj => by rcases (show j < i ∨ j = i by omega) with h | h; exact hb0 j h; subst h; rw [← hg j (by omega)]; exact h17) hM hS (lv_sub hl [1, 2, 0] rfl)
      · skip
        refine lv_iconst (v := nI 1) hx hb dd_T_hasPrime_20 (by decide) ?_
        exact mr_ret hQ (mr_iret C0 hM hS (rfl) (⟨by rw [hp_y (i := i) (by omega) (by rw [← hg i (by omega)]; exact h17)]; rfl, rfl⟩) dd_T_hasPrime_21)
  exact loop_2 L.length 0 _ _ _ (Nat.zero_add _) (fun j h => absurd h (Nat.not_lt_zero j)) hM hS (lv_sub hl [1, 2, 0] rfl)

set_option maxHeartbeats 4000000 in
set_option maxRecDepth 100000 in
theorem c_T_insert (l : Launch) {G : mg_} {M : mw_} {o sA pA : Nat} {L : rl_} {f : Nat → Int64} {g0 : Nat → Int32} {sx : Int64} {p0 : Nat} (h_o : M o = some (ob_ 3 [.ref sA, .ref pA, .int (nI L.length)])) (h_sA : M sA = some (la_ G 10 f)) (h_pA : M pA = some (ia_ G 10 g0))  (hro : ro_ f g0 L) (hn : L.length < 10) : ct_ l my_T_insert cd_T_insert 5 none { frames := 0, cells := 0, slots := 0, locals := 0 } G [.ref o, .long sx, .int (nI p0)] M (fun v0 M' => v0 = none ∧ ∃ (f1 : Nat → Int64) (g1 : Nat → Int32), ro_ f1 g1 (ins_ L sx p0) ∧ M' = mu_ (mu_ (mu_ M sA (la_ G 10 f1)) pA (ia_ G 10 g1)) o (ob_ 3 [.ref sA, .ref pA, .int (nI (L.length + 1))])) 0 0 := by
  refine ct_.intro2 (by decide) (Nat.le_of_ble_eq_true rfl) ?_
  intro p e s m args below meth c ls R Q hR hQ C0 hl hM hS
  have hx := C0.1
  have hb := C0.2.1
  have hl : lv_has ls 5 [(0, .ref o), (1, .long sx), (3, .int (nI p0))] := hl
  refine lv_aload_n hx hb dd_T_insert_0 rfl (lv_at hl 0 rfl) ?_
  refine mr_get C0 hM fk_T_19 h_o (v := .int (nI L.length)) rfl dd_T_insert_1 ?_
  refine lv_bipush (v := nI 10) hx hb dd_T_insert_4 (by decide) ?_
  refine lv_icmp_lt (tgt := 10) hx hb dd_T_insert_6 rfl (fun _ => ?_) (fun hc => absurd (lt_nI (a := L.length) (b := 10) (by omega) (by omega) (by omega)) hc)
  refine lv_aload_n hx hb dd_T_insert_10 rfl (lv_at hl 0 rfl) ?_
  refine mr_get C0 hM fk_T_19 h_o (v := .int (nI L.length)) rfl dd_T_insert_11 ?_
  refine lv_istore (lv' := [(4, .int (nI L.length)), (0, .ref o), (1, .long sx), (3, .int (nI p0))]) hx hb dd_T_insert_14 hl (by decide) rfl (fun ls hl => ?_)
  have loop_16 : ∀ (k : Nat)  (H : Heap) (locs : List Loc) (ls : Array Slot), k ≤ L.length → mi_ L sx k = mi_ L sx L.length → mm_ G (mu_ (mu_ M sA (la_ G 10 (sh_ f k L.length))) pA (ia_ G 10 (sh_ g0 k L.length))) H → va_S (fz_ G) s.heap H locs → lv_has ls 5 [(0, .ref o), (1, .long sx), (3, .int (nI p0)), (4, .int (nI k))] → W p l e R s m args below meth c H locs 0 0 Q (F0 m 16 ls []) := by
    intro k
    induction k with
    | zero =>
      intro  H locs ls hk hm hM hS hl
      have hl : lv_has ls 5 [(0, .ref o), (1, .long sx), (3, .int (nI p0)), (4, .int (nI 0))] := by exact hl
      have hM : mm_ G (mu_ (mu_ M sA (la_ G 10 (sh_ f 0 L.length))) pA (ia_ G 10 (sh_ g0 0 L.length))) H := hM
      refine lv_iload hx hb dd_T_insert_16 (lv_at hl 3 rfl) ?_
      refine lv_if_le (tgt := 73) hx hb dd_T_insert_18 rfl (fun _ => ?_) (fun hc => absurd (by decide) hc)
      refine lv_aload_n hx hb dd_T_insert_73 rfl (lv_at hl 0 rfl) ?_
      refine mr_get C0 hM fk_T_11 (mu_n' (ne_k h_o h_pA (fun q => by cases q)) (mu_n' (ne_k h_o h_sA (fun q => by cases q)) h_o)) (v := .ref sA) rfl dd_T_insert_74 ?_
      refine lv_iload hx hb dd_T_insert_77 (lv_at hl 3 rfl) ?_
      refine lv_lload_n hx hb dd_T_insert_79 rfl (lv_at hl 1 rfl) ?_
      refine mr_last C0 hM hS (mu_n' (Ne.symm (ne_il h_pA h_sA)) mu_s) (0) (rfl) (by omega) (by decide) dd_T_insert_80 (fun H locs hM hS => ?_)
      have hM := mr_M (mu_c2 (Ne.symm (ne_il h_pA h_sA))) hM
      refine lv_aload_n hx hb dd_T_insert_81 rfl (lv_at hl 0 rfl) ?_
      refine mr_get C0 hM fk_T_15 (mu_n' (ne_k h_o h_pA (fun q => by cases q)) (mu_n' (ne_k h_o h_sA (fun q => by cases q)) h_o)) (v := .ref pA) rfl dd_T_insert_82 ?_
      refine lv_iload hx hb dd_T_insert_85 (lv_at hl 3 rfl) ?_
      refine lv_iload_n hx hb dd_T_insert_87 rfl (lv_at hl 2 rfl) ?_
      refine mr_iast C0 hM hS mu_s (0) (rfl) (by omega) (by decide) dd_T_insert_88 (fun H locs hM hS => ?_)
      have hM := mr_M mu_mu hM
      refine lv_aload_n hx hb dd_T_insert_89 rfl (lv_at hl 0 rfl) ?_
      refine lv_dup hx hb dd_T_insert_90 rfl ?_
      refine mr_get C0 hM fk_T_19 (mu_n' (ne_k h_o h_pA (fun q => by cases q)) (mu_n' (ne_k h_o h_sA (fun q => by cases q)) h_o)) (v := .int (nI L.length)) rfl dd_T_insert_91 ?_
      refine lv_iconst (v := nI 1) hx hb dd_T_insert_94 (by decide) ?_
      refine lv_iadd hx hb dd_T_insert_95 ?_
      refine mr_vi (nI_add L.length 1) ?_
      refine mr_put C0 hM hS fk_T_19 fp_T_19 (mu_n' (ne_k h_o h_pA (fun q => by cases q)) (mu_n' (ne_k h_o h_sA (fun q => by cases q)) h_o)) rfl (rfl) (rfl) (Nat.le_of_ble_eq_true rfl) dd_T_insert_96 (fun H locs hM hS => ?_)
      have hM : mm_ G (mu_ (mu_ (mu_ M sA (la_ G 10 (vp_updL (sh_ f 0 L.length) 0 sx))) pA (ia_ G 10 (upd (sh_ g0 0 L.length) 0 (nI p0)))) o (ob_ 3 [.ref sA, .ref pA, .int (nI (L.length + 1))])) H := hM
      exact mr_ret hQ (mr_vret C0 hM hS (⟨rfl, _, _, by have h := ro_ins hro sx p0; rw [← hm] at h; exact h, rfl⟩) dd_T_insert_99)
    | succ k ih =>
      intro  H locs ls hk hm hM hS hl
      have hkk : k < L.length := by omega
      have hsk : sh_ f (k + 1) L.length k = sr_ L k := by
        show (if k + 1 < k ∧ k ≤ L.length then f (k - 1) else f k) = _
        rw [if_neg (by omega)]
        exact (hro k hkk).1
      have hl : lv_has ls 5 [(0, .ref o), (1, .long sx), (3, .int (nI p0)), (4, .int (nI (k + 1)))] := hl
      have hM : mm_ G (mu_ (mu_ M sA (la_ G 10 (sh_ f (k + 1) L.length))) pA (ia_ G 10 (sh_ g0 (k + 1) L.length))) H := hM
      refine lv_iload hx hb dd_T_insert_16 (lv_at hl 3 rfl) ?_
      refine lv_if_le (tgt := 73) hx hb dd_T_insert_18 rfl (fun hc => absurd hc (nI_nle (by omega) (by omega))) (fun _ => ?_)
      refine lv_aload_n hx hb dd_T_insert_21 rfl (lv_at hl 0 rfl) ?_
      refine mr_get C0 hM fk_T_11 (mu_n' (ne_k h_o h_pA (fun q => by cases q)) (mu_n' (ne_k h_o h_sA (fun q => by cases q)) h_o)) (v := .ref sA) rfl dd_T_insert_22 ?_
      refine lv_iload hx hb dd_T_insert_25 (lv_at hl 3 rfl) ?_
      refine lv_iconst (v := nI 1) hx hb dd_T_insert_27 (by decide) ?_
      refine lv_isub hx hb dd_T_insert_28 ?_
      refine mr_vi (x' := nI k) (pk_sub (a := k + 1) (b := 1) (by omega)) ?_
      refine mr_lald C0 hM (mu_n' (Ne.symm (ne_il h_pA h_sA)) mu_s) (k) (rfl) (by omega) (by decide) dd_T_insert_29 ?_
      refine lv_lload_n hx hb dd_T_insert_30 rfl (lv_at hl 1 rfl) ?_
      refine mr_lif_le (tgt := 73) hx hb dd_T_insert_31 dd_T_insert_32 rfl (fun h31 => ?_) (fun h31 => ?_)
      · skip
        have hmk : mi_ L sx L.length = k + 1 := by
          rw [← hm]
          show (if sx < sr_ L k then _ else _) = _
          rw [if_neg (fun q => absurd h31 (by rw [hsk]; exact Int64.not_le.mpr q))]
        refine lv_aload_n hx hb dd_T_insert_73 rfl (lv_at hl 0 rfl) ?_
        refine mr_get C0 hM fk_T_11 (mu_n' (ne_k h_o h_pA (fun q => by cases q)) (mu_n' (ne_k h_o h_sA (fun q => by cases q)) h_o)) (v := .ref sA) rfl dd_T_insert_74 ?_
        refine lv_iload hx hb dd_T_insert_77 (lv_at hl 3 rfl) ?_
        refine lv_lload_n hx hb dd_T_insert_79 rfl (lv_at hl 1 rfl) ?_
        refine mr_last C0 hM hS (mu_n' (Ne.symm (ne_il h_pA h_sA)) mu_s) ((k + 1)) (rfl) (by omega) (by decide) dd_T_insert_80 (fun H locs hM hS => ?_)
        have hM := mr_M (mu_c2 (Ne.symm (ne_il h_pA h_sA))) hM
        refine lv_aload_n hx hb dd_T_insert_81 rfl (lv_at hl 0 rfl) ?_
        refine mr_get C0 hM fk_T_15 (mu_n' (ne_k h_o h_pA (fun q => by cases q)) (mu_n' (ne_k h_o h_sA (fun q => by cases q)) h_o)) (v := .ref pA) rfl dd_T_insert_82 ?_
        refine lv_iload hx hb dd_T_insert_85 (lv_at hl 3 rfl) ?_
        refine lv_iload_n hx hb dd_T_insert_87 rfl (lv_at hl 2 rfl) ?_
        refine mr_iast C0 hM hS mu_s ((k + 1)) (rfl) (by omega) (by decide) dd_T_insert_88 (fun H locs hM hS => ?_)
        have hM := mr_M mu_mu hM
        refine lv_aload_n hx hb dd_T_insert_89 rfl (lv_at hl 0 rfl) ?_
        refine lv_dup hx hb dd_T_insert_90 rfl ?_
        refine mr_get C0 hM fk_T_19 (mu_n' (ne_k h_o h_pA (fun q => by cases q)) (mu_n' (ne_k h_o h_sA (fun q => by cases q)) h_o)) (v := .int (nI L.length)) rfl dd_T_insert_91 ?_
        refine lv_iconst (v := nI 1) hx hb dd_T_insert_94 (by decide) ?_
        refine lv_iadd hx hb dd_T_insert_95 ?_
        refine mr_vi (nI_add L.length 1) ?_
        refine mr_put C0 hM hS fk_T_19 fp_T_19 (mu_n' (ne_k h_o h_pA (fun q => by cases q)) (mu_n' (ne_k h_o h_sA (fun q => by cases q)) h_o)) rfl (rfl) (rfl) (Nat.le_of_ble_eq_true rfl) dd_T_insert_96 (fun H locs hM hS => ?_)
        have hM : mm_ G (mu_ (mu_ (mu_ M sA (la_ G 10 (vp_updL (sh_ f (k + 1) L.length) (k + 1) sx))) pA (ia_ G 10 (upd (sh_ g0 (k + 1) L.length) (k + 1) (nI p0)))) o (ob_ 3 [.ref sA, .ref pA, .int (nI (L.length + 1))])) H := hM
        exact mr_ret hQ (mr_vret C0 hM hS (⟨rfl, _, _, by have h := ro_ins hro sx p0; rw [hmk] at h; exact h, rfl⟩) dd_T_insert_99)
      · skip
        have hlt : sx < sr_ L k := by rw [← hsk]; exact Int64.not_le.mp h31
        refine lv_aload_n hx hb dd_T_insert_35 rfl (lv_at hl 0 rfl) ?_
        refine mr_get C0 hM fk_T_11 (mu_n' (ne_k h_o h_pA (fun q => by cases q)) (mu_n' (ne_k h_o h_sA (fun q => by cases q)) h_o)) (v := .ref sA) rfl dd_T_insert_36 ?_
        refine lv_iload hx hb dd_T_insert_39 (lv_at hl 3 rfl) ?_
        refine lv_aload_n hx hb dd_T_insert_41 rfl (lv_at hl 0 rfl) ?_
        refine mr_get C0 hM fk_T_11 (mu_n' (ne_k h_o h_pA (fun q => by cases q)) (mu_n' (ne_k h_o h_sA (fun q => by cases q)) h_o)) (v := .ref sA) rfl dd_T_insert_42 ?_
        refine lv_iload hx hb dd_T_insert_45 (lv_at hl 3 rfl) ?_
        refine lv_iconst (v := nI 1) hx hb dd_T_insert_47 (by decide) ?_
        refine lv_isub hx hb dd_T_insert_48 ?_
        refine mr_vi (x' := nI k) (pk_sub (a := k + 1) (b := 1) (by omega)) ?_
        refine mr_lald C0 hM (mu_n' (Ne.symm (ne_il h_pA h_sA)) mu_s) (k) (rfl) (by omega) (by decide) dd_T_insert_49 ?_
        refine mr_last C0 hM hS (mu_n' (Ne.symm (ne_il h_pA h_sA)) mu_s) ((k + 1)) (rfl) (by omega) (by decide) dd_T_insert_50 (fun H locs hM hS => ?_)
        have hM := mr_M (mu_c2 (Ne.symm (ne_il h_pA h_sA))) hM
        have hM := mr_M (congrArg (fun z__ => mu_ (mu_ M sA (la_ G 10 z__)) pA (ia_ G 10 (sh_ g0 (k + 1) L.length))) (show (vp_updL (sh_ f (k + 1) L.length) (k + 1) ((sh_ f (k + 1) L.length) k) : Nat → Int64) = (sh_ f k L.length) from sh_sL hkk)) hM
        have hM : mm_ G (mu_ (mu_ M sA (la_ G 10 (sh_ f k L.length))) pA (ia_ G 10 (sh_ g0 (k + 1) L.length))) H := hM
        refine lv_aload_n hx hb dd_T_insert_51 rfl (lv_at hl 0 rfl) ?_
        refine mr_get C0 hM fk_T_15 (mu_n' (ne_k h_o h_pA (fun q => by cases q)) (mu_n' (ne_k h_o h_sA (fun q => by cases q)) h_o)) (v := .ref pA) rfl dd_T_insert_52 ?_
        refine lv_iload hx hb dd_T_insert_55 (lv_at hl 3 rfl) ?_
        refine lv_aload_n hx hb dd_T_insert_57 rfl (lv_at hl 0 rfl) ?_
        refine mr_get C0 hM fk_T_15 (mu_n' (ne_k h_o h_pA (fun q => by cases q)) (mu_n' (ne_k h_o h_sA (fun q => by cases q)) h_o)) (v := .ref pA) rfl dd_T_insert_58 ?_
        refine lv_iload hx hb dd_T_insert_61 (lv_at hl 3 rfl) ?_
        refine lv_iconst (v := nI 1) hx hb dd_T_insert_63 (by decide) ?_
        refine lv_isub hx hb dd_T_insert_64 ?_
        refine mr_vi (x' := nI k) (pk_sub (a := k + 1) (b := 1) (by omega)) ?_
        refine mr_iald C0 hM mu_s (k) (rfl) (by omega) (by decide) dd_T_insert_65 ?_
        refine mr_iast C0 hM hS mu_s ((k + 1)) (rfl) (by omega) (by decide) dd_T_insert_66 (fun H locs hM hS => ?_)
        have hM := mr_M mu_mu hM
        have hM := mr_M (congrArg (fun z__ => mu_ (mu_ M sA (la_ G 10 (sh_ f k L.length))) pA (ia_ G 10 z__)) (show (upd (sh_ g0 (k + 1) L.length) (k + 1) ((sh_ g0 (k + 1) L.length) k) : Nat → Int32) = (sh_ g0 k L.length) from sh_sI hkk)) hM
        have hM : mm_ G (mu_ (mu_ M sA (la_ G 10 (sh_ f k L.length))) pA (ia_ G 10 (sh_ g0 k L.length))) H := hM
        refine lv_iinc (k := 3) (v := nI k) (lv' := [(4, .int (nI k)), (0, .ref o), (1, .long sx), (3, .int (nI p0))]) hx hb dd_T_insert_67 hl rfl (pk_m1 k) (by decide) rfl (fun ls hl => ?_)
        refine lv_goto (tgt := 16) hx hb dd_T_insert_70 rfl ?_
        exact ih  _ _ _ (by omega) (by rw [← hm]; show _ = if sx < sr_ L k then _ else _; rw [if_pos hlt]) hM hS (lv_sub hl [1, 2, 3, 0] rfl)
  have hM := mr_M (mu_id h_sA).symm hM
  have hM := mr_M (mu_id (mu_n' (ne_il h_pA h_sA) h_pA)).symm hM
  have hM := mr_M (congrArg (fun z => mu_ (mu_ M sA (la_ G 10 z)) pA (ia_ G 10 g0)) (sh_n f L.length)) hM
  have hM := mr_M (congrArg (fun z => mu_ (mu_ M sA (la_ G 10 (sh_ f L.length L.length))) pA (ia_ G 10 z)) (sh_n g0 L.length)) hM
  exact loop_16 L.length  _ _ _ (Nat.le_refl _) (rfl) hM hS (lv_sub hl [1, 2, 3, 0] rfl)

set_option maxHeartbeats 4000000 in
set_option maxRecDepth 100000 in
theorem c_T_delete (l : Launch) {G : mg_} {M : mw_} {o sA pA q : Nat} {L : rl_} {f : Nat → Int64} {g0 : Nat → Int32} (h_o : M o = some (ob_ 3 [.ref sA, .ref pA, .int (nI L.length)])) (h_sA : M sA = some (la_ G 10 f)) (h_pA : M pA = some (ia_ G 10 g0))  (hro : ro_ f g0 L) (hn : L.length ≤ 10) (hq : q < L.length) : ct_ l my_T_delete cd_T_delete 3 none { frames := 0, cells := 0, slots := 0, locals := 0 } G [.ref o, .int (nI q)] M (fun v0 M' => v0 = none ∧ ∃ (f1 : Nat → Int64) (g1 : Nat → Int32), ro_ f1 g1 (L.eraseIdx q) ∧ M' = mu_ (mu_ (mu_ M sA (la_ G 10 f1)) pA (ia_ G 10 g1)) o (ob_ 3 [.ref sA, .ref pA, .int (nI (L.length - 1))])) 0 0 := by
  refine ct_.intro2 (by decide) (Nat.le_of_ble_eq_true rfl) ?_
  intro p e s m args below meth c ls R Q hR hQ C0 hl hM hS
  have hx := C0.1
  have hb := C0.2.1
  have hl : lv_has ls 3 [(0, .ref o), (1, .int (nI q))] := hl
  refine lv_iload_n hx hb dd_T_delete_0 rfl (lv_at hl 1 rfl) ?_
  refine lv_iconst (v := nI 1) hx hb dd_T_delete_1 (by decide) ?_
  refine lv_iadd hx hb dd_T_delete_2 ?_
  refine mr_vi (nI_add q 1) ?_
  refine lv_istore_n (lv' := [(2, .int (nI (q + 1))), (0, .ref o), (1, .int (nI q))]) hx hb dd_T_delete_3 rfl hl (by decide) rfl (fun ls hl => ?_)
  have loop_4 : ∀ (k : Nat) (i : Nat) (H : Heap) (locs : List Loc) (ls : Array Slot), i + k = L.length → q < i → mm_ G (mu_ (mu_ M sA (la_ G 10 (de_ f q i))) pA (ia_ G 10 (de_ g0 q i))) H → va_S (fz_ G) s.heap H locs → lv_has ls 3 [(0, .ref o), (1, .int (nI q)), (2, .int (nI i))] → W p l e R s m args below meth c H locs 0 0 Q (F0 m 4 ls []) := by
    intro k
    induction k with
    | zero =>
      intro i H locs ls hi hqi hM hS hl
      refine lv_iload_n hx hb dd_T_delete_4 rfl (lv_at hl 2 rfl) ?_
      refine lv_aload_n hx hb dd_T_delete_5 rfl (lv_at hl 0 rfl) ?_
      refine mr_get C0 hM fk_T_19 (mu_n' (ne_k h_o h_pA (fun q => by cases q)) (mu_n' (ne_k h_o h_sA (fun q => by cases q)) h_o)) (v := .int (nI L.length)) rfl dd_T_delete_6 ?_
      refine lv_icmp_ge (tgt := 46) hx hb dd_T_delete_9 rfl (fun _ => ?_) (fun hc => absurd (le_nI (a := L.length) (b := i) (by omega) (by omega) (by omega)) hc)
      refine lv_aload_n hx hb dd_T_delete_46 rfl (lv_at hl 0 rfl) ?_
      refine lv_dup hx hb dd_T_delete_47 rfl ?_
      refine mr_get C0 hM fk_T_19 (mu_n' (ne_k h_o h_pA (fun q => by cases q)) (mu_n' (ne_k h_o h_sA (fun q => by cases q)) h_o)) (v := .int (nI L.length)) rfl dd_T_delete_48 ?_
      refine lv_iconst (v := nI 1) hx hb dd_T_delete_51 (by decide) ?_
      refine lv_isub hx hb dd_T_delete_52 ?_
      refine mr_vi (pk_sub (a := L.length) (b := 1) (by omega)) ?_
      refine mr_put C0 hM hS fk_T_19 fp_T_19 (mu_n' (ne_k h_o h_pA (fun q => by cases q)) (mu_n' (ne_k h_o h_sA (fun q => by cases q)) h_o)) rfl (rfl) (rfl) (Nat.le_of_ble_eq_true rfl) dd_T_delete_53 (fun H locs hM hS => ?_)
      have hM : mm_ G (mu_ (mu_ (mu_ M sA (la_ G 10 (de_ f q i))) pA (ia_ G 10 (de_ g0 q i))) o (ob_ 3 [.ref sA, .ref pA, .int (nI (L.length - 1))])) H := hM
      rw [show i = L.length by omega] at hM
      exact mr_ret hQ (mr_vret C0 hM hS (⟨rfl, _, _, ro_del hro hq, rfl⟩) dd_T_delete_56)
    | succ k ih =>
      intro i H locs ls hi hqi hM hS hl
      refine lv_iload_n hx hb dd_T_delete_4 rfl (lv_at hl 2 rfl) ?_
      refine lv_aload_n hx hb dd_T_delete_5 rfl (lv_at hl 0 rfl) ?_
      refine mr_get C0 hM fk_T_19 (mu_n' (ne_k h_o h_pA (fun q => by cases q)) (mu_n' (ne_k h_o h_sA (fun q => by cases q)) h_o)) (v := .int (nI L.length)) rfl dd_T_delete_6 ?_
      refine lv_icmp_ge (tgt := 46) hx hb dd_T_delete_9 rfl (fun hc => absurd hc (nle_nI (a := L.length) (b := i) (by omega) (by omega) (by omega))) (fun _ => ?_)
      refine lv_aload_n hx hb dd_T_delete_12 rfl (lv_at hl 0 rfl) ?_
      refine mr_get C0 hM fk_T_11 (mu_n' (ne_k h_o h_pA (fun q => by cases q)) (mu_n' (ne_k h_o h_sA (fun q => by cases q)) h_o)) (v := .ref sA) rfl dd_T_delete_13 ?_
      refine lv_iload_n hx hb dd_T_delete_16 rfl (lv_at hl 2 rfl) ?_
      refine lv_iconst (v := nI 1) hx hb dd_T_delete_17 (by decide) ?_
      refine lv_isub hx hb dd_T_delete_18 ?_
      refine mr_vi (pk_sub (a := i) (b := 1) (by omega)) ?_
      refine lv_aload_n hx hb dd_T_delete_19 rfl (lv_at hl 0 rfl) ?_
      refine mr_get C0 hM fk_T_11 (mu_n' (ne_k h_o h_pA (fun q => by cases q)) (mu_n' (ne_k h_o h_sA (fun q => by cases q)) h_o)) (v := .ref sA) rfl dd_T_delete_20 ?_
      refine lv_iload_n hx hb dd_T_delete_23 rfl (lv_at hl 2 rfl) ?_
      refine mr_lald C0 hM (mu_n' (Ne.symm (ne_il h_pA h_sA)) mu_s) (i) (rfl) (by omega) (by decide) dd_T_delete_24 ?_
      refine mr_last C0 hM hS (mu_n' (Ne.symm (ne_il h_pA h_sA)) mu_s) ((i - 1)) (rfl) (by omega) (by decide) dd_T_delete_25 (fun H locs hM hS => ?_)
      have hM := mr_M (mu_c2 (Ne.symm (ne_il h_pA h_sA))) hM
      have hM := mr_M (congrArg (fun z__ => mu_ (mu_ M sA (la_ G 10 z__)) pA (ia_ G 10 (de_ g0 q i))) (show (vp_updL (de_ f q i) (i - 1) ((de_ f q i) i) : Nat → Int64) = (de_ f q (i + 1)) from de_sL hqi)) hM
      have hM : mm_ G (mu_ (mu_ M sA (la_ G 10 (de_ f q (i + 1)))) pA (ia_ G 10 (de_ g0 q i))) H := hM
      refine lv_aload_n hx hb dd_T_delete_26 rfl (lv_at hl 0 rfl) ?_
      refine mr_get C0 hM fk_T_15 (mu_n' (ne_k h_o h_pA (fun q => by cases q)) (mu_n' (ne_k h_o h_sA (fun q => by cases q)) h_o)) (v := .ref pA) rfl dd_T_delete_27 ?_
      refine lv_iload_n hx hb dd_T_delete_30 rfl (lv_at hl 2 rfl) ?_
      refine lv_iconst (v := nI 1) hx hb dd_T_delete_31 (by decide) ?_
      refine lv_isub hx hb dd_T_delete_32 ?_
      refine mr_vi (pk_sub (a := i) (b := 1) (by omega)) ?_
      refine lv_aload_n hx hb dd_T_delete_33 rfl (lv_at hl 0 rfl) ?_
      refine mr_get C0 hM fk_T_15 (mu_n' (ne_k h_o h_pA (fun q => by cases q)) (mu_n' (ne_k h_o h_sA (fun q => by cases q)) h_o)) (v := .ref pA) rfl dd_T_delete_34 ?_
      refine lv_iload_n hx hb dd_T_delete_37 rfl (lv_at hl 2 rfl) ?_
      refine mr_iald C0 hM mu_s (i) (rfl) (by omega) (by decide) dd_T_delete_38 ?_
      refine mr_iast C0 hM hS mu_s ((i - 1)) (rfl) (by omega) (by decide) dd_T_delete_39 (fun H locs hM hS => ?_)
      have hM := mr_M mu_mu hM
      have hM := mr_M (congrArg (fun z__ => mu_ (mu_ M sA (la_ G 10 (de_ f q (i + 1)))) pA (ia_ G 10 z__)) (show (upd (de_ g0 q i) (i - 1) ((de_ g0 q i) i) : Nat → Int32) = (de_ g0 q (i + 1)) from de_sI hqi)) hM
      have hM : mm_ G (mu_ (mu_ M sA (la_ G 10 (de_ f q (i + 1)))) pA (ia_ G 10 (de_ g0 q (i + 1)))) H := hM
      refine lv_iinc (k := 2) (v := nI (i + 1)) (lv' := [(2, .int (nI (i + 1))), (0, .ref o), (1, .int (nI q))]) hx hb dd_T_delete_40 hl rfl (inc_ i) (by decide) rfl (fun ls hl => ?_)
      refine lv_goto (tgt := 4) hx hb dd_T_delete_43 rfl ?_
      exact ih _ _ _ _ (by omega) (by omega) hM hS (lv_sub hl [1, 2, 0] rfl)
  have hM := mr_M (mu_id h_sA).symm hM
  have hM := mr_M (mu_id (mu_n' (ne_il h_pA h_sA) h_pA)).symm hM
  have hM := mr_M (congrArg (fun z => mu_ (mu_ M sA (la_ G 10 z)) pA (ia_ G 10 g0)) (de_0 f q)) hM
  have hM := mr_M (congrArg (fun z => mu_ (mu_ M sA (la_ G 10 (de_ f q (q + 1)))) pA (ia_ G 10 z)) (de_0 g0 q)) hM
  exact loop_4 (L.length - (q + 1)) (q + 1) _ _ _ (by omega) (by omega) hM hS (lv_sub hl [1, 2, 0] rfl)

set_option maxHeartbeats 4000000 in
set_option maxRecDepth 100000 in
theorem c_T_become (l : Launch) {G : mg_} {M : mw_} {o sA pA q qs qp n n1 : Nat} {f f1 : Nat → Int64} {g0 g1 : Nat → Int32} (h_o : M o = some (ob_ 3 [.ref sA, .ref pA, .int (nI n)])) (h_sA : M sA = some (la_ G 10 f)) (h_pA : M pA = some (ia_ G 10 g0)) (h_q : M q = some (ob_ 3 [.ref qs, .ref qp, .int (nI n1)])) (h_qs : M qs = some (la_ G 10 f1)) (h_qp : M qp = some (ia_ G 10 g1)) (ne_o_q : o ≠ q)  : dt_ l my_T_become cd_T_become 2 none { frames := 1, cells := 0, slots := 0, locals := 35 } G [.ref o, .ref q] M none (mu_ (mu_ (mu_ M sA (la_ G 10 f1)) pA (ia_ G 10 g1)) o (ob_ 3 [.ref sA, .ref pA, .int (nI n1)])) 0 0 := by
  refine ct_.intro2 (by decide) (Nat.le_of_ble_eq_true rfl) ?_
  intro p e s m args below meth c ls R Q hR hQ C0 hl hM hS
  have hx := C0.1
  have hb := C0.2.1
  have hl : lv_has ls 2 [(0, .ref o), (1, .ref q)] := hl
  refine lv_aload_n hx hb dd_T_become_0 rfl (lv_at hl 1 rfl) ?_
  refine mr_get C0 hM fk_T_11 h_q (v := .ref qs) rfl dd_T_become_1 ?_
  refine lv_iconst (v := nI 0) hx hb dd_T_become_4 (by decide) ?_
  refine lv_aload_n hx hb dd_T_become_5 rfl (lv_at hl 0 rfl) ?_
  refine mr_get C0 hM fk_T_11 h_o (v := .ref sA) rfl dd_T_become_6 ?_
  refine lv_iconst (v := nI 0) hx hb dd_T_become_9 (by decide) ?_
  refine lv_bipush (v := nI 10) hx hb dd_T_become_10 (by decide) ?_
  refine mr_copyl C0 hl.1 tw_323 hM hS h_qs h_sA (0) (0) (10) rfl rfl rfl (by decide) (by decide) (by decide) (by decide) (by subst hR; decide) (by subst hR; decide) dd_T_become_12 (fun H locs hM hS => ?_)
  have hM := mr_lext (g := f1) (fun j hj => by rw [pk_cpy_in (by omega) (by omega), Nat.zero_add, Nat.sub_zero]) hM
  have hM : mm_ G (mu_ M sA (la_ G 10 f1)) H := hM
  refine lv_aload_n hx hb dd_T_become_15 rfl (lv_at hl 1 rfl) ?_
  refine mr_get C0 hM fk_T_15 (mu_n' (ne_k h_q h_sA (fun q => by cases q)) h_q) (v := .ref qp) rfl dd_T_become_16 ?_
  refine lv_iconst (v := nI 0) hx hb dd_T_become_19 (by decide) ?_
  refine lv_aload_n hx hb dd_T_become_20 rfl (lv_at hl 0 rfl) ?_
  refine mr_get C0 hM fk_T_15 (mu_n' (ne_k h_o h_sA (fun q => by cases q)) h_o) (v := .ref pA) rfl dd_T_become_21 ?_
  refine lv_iconst (v := nI 0) hx hb dd_T_become_24 (by decide) ?_
  refine lv_bipush (v := nI 10) hx hb dd_T_become_25 (by decide) ?_
  refine mr_copyi C0 hl.1 tw_323 hM hS (mu_n' (ne_il h_qp h_sA) h_qp) (mu_n' (ne_il h_pA h_sA) h_pA) (0) (0) (10) rfl rfl rfl (by decide) (by decide) (by decide) (by decide) (by subst hR; decide) (by subst hR; decide) dd_T_become_27 (fun H locs hM hS => ?_)
  have hM := mr_iext (g := g1) (fun j hj => by rw [pk_cpy_in (by omega) (by omega), Nat.zero_add, Nat.sub_zero]) hM
  have hM : mm_ G (mu_ (mu_ M sA (la_ G 10 f1)) pA (ia_ G 10 g1)) H := hM
  refine lv_aload_n hx hb dd_T_become_30 rfl (lv_at hl 0 rfl) ?_
  refine lv_aload_n hx hb dd_T_become_31 rfl (lv_at hl 1 rfl) ?_
  refine mr_get C0 hM fk_T_19 (mu_n' (ne_k h_q h_pA (fun q => by cases q)) (mu_n' (ne_k h_q h_sA (fun q => by cases q)) h_q)) (v := .int (nI n1)) rfl dd_T_become_32 ?_
  refine mr_put C0 hM hS fk_T_19 fp_T_19 (mu_n' (ne_k h_o h_pA (fun q => by cases q)) (mu_n' (ne_k h_o h_sA (fun q => by cases q)) h_o)) rfl (rfl) (rfl) (Nat.le_of_ble_eq_true rfl) dd_T_become_35 (fun H locs hM hS => ?_)
  have hM : mm_ G (mu_ (mu_ (mu_ M sA (la_ G 10 f1)) pA (ia_ G 10 g1)) o (ob_ 3 [.ref sA, .ref pA, .int (nI n1)])) H := hM
  exact mr_ret hQ (mr_vret C0 hM hS (⟨rfl, rfl⟩) dd_T_become_38)

set_option maxHeartbeats 4000000 in
set_option maxRecDepth 100000 in
theorem c_T_countOutside (l : Launch) {G : mg_} {M : mw_} {o sA pA q qs qp : Nat} {L O : rl_} {f f1 : Nat → Int64} (h_o : M o = some (ob_ 3 [.ref sA, .ref pA, .int (nI L.length)])) (h_sA : M sA = some (la_ G 10 f)) (h_q : M q = some (ob_ 3 [.ref qs, .ref qp, .int (nI O.length)])) (h_qs : M qs = some (la_ G 10 f1))  (hf : ∀ j, j < L.length → f j = sr_ L j) (hn : L.length ≤ 10) (hf1 : ∀ j, j < O.length → f1 j = sr_ O j) (hn1 : O.length ≤ 10) : dt_ l my_T_countOutside cd_T_countOutside 4 (some .int) { frames := 2, cells := 0, slots := 0, locals := 45 } G [.ref o, .ref q] M (some (.int (nI (cf_ L O)))) (M) 0 0 := by
  refine ct_.intro2 (by decide) (Nat.le_of_ble_eq_true rfl) ?_
  intro p e s m args below meth c ls R Q hR hQ C0 hl hM hS
  have hx := C0.1
  have hb := C0.2.1
  have hl : lv_has ls 4 [(0, .ref o), (1, .ref q)] := hl
  refine lv_iconst (v := nI 0) hx hb dd_T_countOutside_0 (by decide) ?_
  refine lv_istore_n (lv' := [(2, .int (nI 0)), (0, .ref o), (1, .ref q)]) hx hb dd_T_countOutside_1 rfl hl (by decide) rfl (fun ls hl => ?_)
  refine lv_iconst (v := nI 0) hx hb dd_T_countOutside_2 (by decide) ?_
  refine lv_istore_n (lv' := [(3, .int (nI 0)), (2, .int (nI 0)), (0, .ref o), (1, .ref q)]) hx hb dd_T_countOutside_3 rfl hl (by decide) rfl (fun ls hl => ?_)
  have loop_4 : ∀ (k : Nat) (i : Nat) (H : Heap) (locs : List Loc) (ls : Array Slot), i + k = L.length → mm_ G (M) H → va_S (fz_ G) s.heap H locs → lv_has ls 4 [(0, .ref o), (1, .ref q), (2, .int (nI (cf_ (L.take i) O))), (3, .int (nI i))] → W p l e R s m args below meth c H locs 0 0 Q (F0 m 4 ls []) := by
    intro k
    induction k with
    | zero =>
      intro i H locs ls hi hM hS hl
      refine lv_iload_n hx hb dd_T_countOutside_4 rfl (lv_at hl 3 rfl) ?_
      refine lv_aload_n hx hb dd_T_countOutside_5 rfl (lv_at hl 0 rfl) ?_
      refine mr_get C0 hM fk_T_19 h_o (v := .int (nI L.length)) rfl dd_T_countOutside_6 ?_
      refine lv_icmp_ge (tgt := 34) hx hb dd_T_countOutside_9 rfl (fun _ => ?_) (fun hc => absurd (le_nI (a := L.length) (b := i) (by omega) (by omega) (by omega)) hc)
      refine lv_iload_n hx hb dd_T_countOutside_34 rfl (lv_at hl 2 rfl) ?_
      exact mr_ret hQ (mr_iret C0 hM hS (rfl) (⟨by rw [take_all (show L.length ≤ i by omega)], rfl⟩) dd_T_countOutside_35)
    | succ k ih =>
      intro i H locs ls hi hM hS hl
      have hil : i < L.length := by omega
      have hle := cf_le (L := L) (O := O) i
      refine lv_iload_n hx hb dd_T_countOutside_4 rfl (lv_at hl 3 rfl) ?_
      refine lv_aload_n hx hb dd_T_countOutside_5 rfl (lv_at hl 0 rfl) ?_
      refine mr_get C0 hM fk_T_19 h_o (v := .int (nI L.length)) rfl dd_T_countOutside_6 ?_
      refine lv_icmp_ge (tgt := 34) hx hb dd_T_countOutside_9 rfl (fun hc => absurd hc (nle_nI (a := L.length) (b := i) (by omega) (by omega) (by omega))) (fun _ => ?_)
      refine lv_aload_n hx hb dd_T_countOutside_12 rfl (lv_at hl 1 rfl) ?_
      refine lv_aload_n hx hb dd_T_countOutside_13 rfl (lv_at hl 0 rfl) ?_
      refine mr_get C0 hM fk_T_11 h_o (v := .ref sA) rfl dd_T_countOutside_14 ?_
      refine lv_iload_n hx hb dd_T_countOutside_17 rfl (lv_at hl 3 rfl) ?_
      refine mr_lald C0 hM h_sA (i) (rfl) (by omega) (by decide) dd_T_countOutside_18 ?_
      refine mr_vl (x' := sr_ L i) (hf i hil) ?_
      refine mr_callV (As := [.long (sr_ L i)]) (rest := []) C0 hM hS vk_T_33 h_q rfl (c_T_has l h_q h_qs  hf1 hn1) rfl rfl hl.1 (by decide) rfl rfl (by subst hR; exact ⟨Nat.le_of_ble_eq_true rfl, Nat.le_of_ble_eq_true rfl⟩) (by subst hR; exact ⟨Nat.le_of_ble_eq_true rfl, Nat.le_of_ble_eq_true rfl⟩) dd_T_countOutside_19 (fun v1 M1 H locs hp hM hS => ?_)
      obtain ⟨ev1, eM1⟩ := hp
      subst ev1
      rw [eM1] at hM
      refine W.eq (g2 := F0 m 22 ls [.int (nI (if hs_ O (sr_ L i) then 1 else 0))]) rfl ?_
      refine lv_if_ne (tgt := 28) hx hb dd_T_countOutside_22 rfl (fun h22 => ?_) (fun h22 => ?_)
      · skip
        have hv : hs_ O (sr_ L i) = true := by
          cases h : hs_ O (sr_ L i) with
          | true => rfl
          | false => exact absurd (by rw [h]; rfl) h22
        have hnx : cf_ (L.take (i + 1)) O = cf_ (L.take i) O := cf_t hil hv
        refine lv_iinc (k := 3) (v := nI (i + 1)) (lv' := [(3, .int (nI (i + 1))), (0, .ref o), (1, .ref q), (2, .int (nI (cf_ (L.take i) O)))]) hx hb dd_T_countOutside_28 hl rfl (inc_ i) (by decide) rfl (fun ls hl => ?_)
        refine lv_goto (tgt := 4) hx hb dd_T_countOutside_31 rfl ?_
        exact ih (i + 1) _ _ _ (by omega) hM hS (by rw [hnx]; exact lv_sub hl [1, 2, 3, 0] rfl)
      · skip
        have hv : hs_ O (sr_ L i) = false := by
          cases h : hs_ O (sr_ L i) with
          | false => rfl
          | true => rw [h] at h22; exact absurd h22 (by decide)
        have hnx : cf_ (L.take (i + 1)) O = cf_ (L.take i) O + 1 := cf_f hil hv
        refine lv_iinc (k := 2) (v := nI ((cf_ (L.take i) O) + 1)) (lv' := [(2, .int (nI ((cf_ (L.take i) O) + 1))), (0, .ref o), (1, .ref q), (3, .int (nI i))]) hx hb dd_T_countOutside_25 hl rfl (inc_ (cf_ (L.take i) O)) (by decide) rfl (fun ls hl => ?_)
        refine lv_iinc (k := 3) (v := nI (i + 1)) (lv' := [(3, .int (nI (i + 1))), (2, .int (nI ((cf_ (L.take i) O) + 1))), (0, .ref o), (1, .ref q)]) hx hb dd_T_countOutside_28 hl rfl (inc_ i) (by decide) rfl (fun ls hl => ?_)
        refine lv_goto (tgt := 4) hx hb dd_T_countOutside_31 rfl ?_
        exact ih (i + 1) _ _ _ (by omega) hM hS (by rw [hnx]; exact lv_sub hl [2, 3, 1, 0] rfl)
  exact loop_4 L.length 0 _ _ _ (Nat.zero_add _) hM hS (lv_sub hl [2, 3, 1, 0] rfl)

set_option maxHeartbeats 4000000 in
set_option maxRecDepth 100000 in
theorem c_T_primeOutside (l : Launch) {G : mg_} {M : mw_} {o sA pA q qs qp : Nat} {L O : rl_} {f f1 : Nat → Int64} {g0 : Nat → Int32} {w : Int32} (h_o : M o = some (ob_ 3 [.ref sA, .ref pA, .int (nI L.length)])) (h_sA : M sA = some (la_ G 10 f)) (h_q : M q = some (ob_ 3 [.ref qs, .ref qp, .int (nI O.length)])) (h_qs : M qs = some (la_ G 10 f1)) (h_pA : M pA = some (ia_ G 10 g0))  (hro : ro_ f g0 L) (hn : L.length ≤ 10) (hf1 : ∀ j, j < O.length → f1 j = sr_ O j) (hn1 : O.length ≤ 10) : dt_ l my_T_primeOutside cd_T_primeOutside 5 (some .int) { frames := 2, cells := 0, slots := 0, locals := 45 } G [.ref o, .ref q, .int w] M (some (.int (po_ L O w))) (M) 0 0 := by
  refine ct_.intro2 (by decide) (Nat.le_of_ble_eq_true rfl) ?_
  intro p e s m args below meth c ls R Q hR hQ C0 hl hM hS
  have hx := C0.1
  have hb := C0.2.1
  have hl : lv_has ls 5 [(0, .ref o), (1, .ref q), (2, .int w)] := hl
  refine lv_iconst (v := nI 0) hx hb dd_T_primeOutside_0 (by decide) ?_
  refine lv_istore_n (lv' := [(3, .int (nI 0)), (0, .ref o), (1, .ref q), (2, .int w)]) hx hb dd_T_primeOutside_1 rfl hl (by decide) rfl (fun ls hl => ?_)
  refine lv_iconst (v := nI 0) hx hb dd_T_primeOutside_2 (by decide) ?_
  refine lv_istore (lv' := [(4, .int (nI 0)), (3, .int (nI 0)), (0, .ref o), (1, .ref q), (2, .int w)]) hx hb dd_T_primeOutside_3 hl (by decide) rfl (fun ls hl => ?_)
  have loop_5 : ∀ (k : Nat) (i : Nat) (H : Heap) (locs : List Loc) (ls : Array Slot), i + k = L.length → (∀ j, j < cf_ (L.take i) O → nI j ≠ w) → mm_ G (M) H → va_S (fz_ G) s.heap H locs → lv_has ls 5 [(0, .ref o), (1, .ref q), (2, .int w), (3, .int (nI (cf_ (L.take i) O))), (4, .int (nI i))] → W p l e R s m args below meth c H locs 0 0 Q (F0 m 5 ls []) := by
    intro k
    induction k with
    | zero =>
      intro i H locs ls hi hw hM hS hl
      refine lv_iload hx hb dd_T_primeOutside_5 (lv_at hl 4 rfl) ?_
      refine lv_aload_n hx hb dd_T_primeOutside_7 rfl (lv_at hl 0 rfl) ?_
      refine mr_get C0 hM fk_T_19 h_o (v := .int (nI L.length)) rfl dd_T_primeOutside_8 ?_
      refine lv_icmp_ge (tgt := 50) hx hb dd_T_primeOutside_11 rfl (fun _ => ?_) (fun hc => absurd (le_nI (a := L.length) (b := i) (by omega) (by omega) (by omega)) hc)
      refine lv_bipush (v := (-2 : Int32)) hx hb dd_T_primeOutside_50 (by decide) ?_
      exact mr_ret hQ (mr_iret C0 hM hS (rfl) (⟨by rw [take_all (show L.length ≤ i by omega)] at hw; rw [po_n hw], rfl⟩) dd_T_primeOutside_52)
    | succ k ih =>
      intro i H locs ls hi hw hM hS hl
      have hil : i < L.length := by omega
      have hle := cf_le (L := L) (O := O) i
      refine lv_iload hx hb dd_T_primeOutside_5 (lv_at hl 4 rfl) ?_
      refine lv_aload_n hx hb dd_T_primeOutside_7 rfl (lv_at hl 0 rfl) ?_
      refine mr_get C0 hM fk_T_19 h_o (v := .int (nI L.length)) rfl dd_T_primeOutside_8 ?_
      refine lv_icmp_ge (tgt := 50) hx hb dd_T_primeOutside_11 rfl (fun hc => absurd hc (nle_nI (a := L.length) (b := i) (by omega) (by omega) (by omega))) (fun _ => ?_)
      refine lv_aload_n hx hb dd_T_primeOutside_14 rfl (lv_at hl 1 rfl) ?_
      refine lv_aload_n hx hb dd_T_primeOutside_15 rfl (lv_at hl 0 rfl) ?_
      refine mr_get C0 hM fk_T_11 h_o (v := .ref sA) rfl dd_T_primeOutside_16 ?_
      refine lv_iload hx hb dd_T_primeOutside_19 (lv_at hl 4 rfl) ?_
      refine mr_lald C0 hM h_sA (i) (rfl) (by omega) (by decide) dd_T_primeOutside_21 ?_
      refine mr_vl (x' := sr_ L i) ((hro i hil).1) ?_
      refine mr_callV (As := [.long (sr_ L i)]) (rest := []) C0 hM hS vk_T_33 h_q rfl (c_T_has l h_q h_qs  hf1 hn1) rfl rfl hl.1 (by decide) rfl rfl (by subst hR; exact ⟨Nat.le_of_ble_eq_true rfl, Nat.le_of_ble_eq_true rfl⟩) (by subst hR; exact ⟨Nat.le_of_ble_eq_true rfl, Nat.le_of_ble_eq_true rfl⟩) dd_T_primeOutside_22 (fun v1 M1 H locs hp hM hS => ?_)
      obtain ⟨ev1, eM1⟩ := hp
      subst ev1
      rw [eM1] at hM
      refine W.eq (g2 := F0 m 25 ls [.int (nI (if hs_ O (sr_ L i) then 1 else 0))]) rfl ?_
      refine lv_if_ne (tgt := 44) hx hb dd_T_primeOutside_25 rfl (fun h25 => ?_) (fun h25 => ?_)
      · skip
        have hv : hs_ O (sr_ L i) = true := by
          cases h : hs_ O (sr_ L i) with
          | true => rfl
          | false => exact absurd (by rw [h]; rfl) h25
        have hnx : cf_ (L.take (i + 1)) O = cf_ (L.take i) O := cf_t hil hv
        have hw2 : ∀ j, j < cf_ (L.take (i + 1)) O → nI j ≠ w := by rw [hnx]; exact hw
        refine lv_iinc (k := 4) (v := nI (i + 1)) (lv' := [(4, .int (nI (i + 1))), (0, .ref o), (1, .ref q), (2, .int w), (3, .int (nI (cf_ (L.take i) O)))]) hx hb dd_T_primeOutside_44 hl rfl (inc_ i) (by decide) rfl (fun ls hl => ?_)
        refine lv_goto (tgt := 5) hx hb dd_T_primeOutside_47 rfl ?_
        exact ih (i + 1) _ _ _ (by omega) (hw2) hM hS (by rw [hnx]; exact lv_sub hl [1, 2, 3, 4, 0] rfl)
      · skip
        have hv : hs_ O (sr_ L i) = false := by
          cases h : hs_ O (sr_ L i) with
          | false => rfl
          | true => rw [h] at h25; exact absurd h25 (by decide)
        have hnx : cf_ (L.take (i + 1)) O = cf_ (L.take i) O + 1 := cf_f hil hv
        refine lv_iload_n hx hb dd_T_primeOutside_28 rfl (lv_at hl 3 rfl) ?_
        refine lv_iload_n hx hb dd_T_primeOutside_29 rfl (lv_at hl 2 rfl) ?_
        refine lv_icmp_ne (tgt := 41) hx hb dd_T_primeOutside_30 rfl (fun h30 => ?_) (fun h30 => ?_)
        · skip
          have hw2 : ∀ j, j < cf_ (L.take (i + 1)) O → nI j ≠ w := fun j hj => by
            rw [hnx] at hj
            rcases (show j < cf_ (L.take i) O ∨ j = cf_ (L.take i) O by omega) with h | h
            · exact hw j h
            · rw [h]; exact h30
          refine lv_iinc (k := 3) (v := nI ((cf_ (L.take i) O) + 1)) (lv' := [(3, .int (nI ((cf_ (L.take i) O) + 1))), (0, .ref o), (1, .ref q), (2, .int w), (4, .int (nI i))]) hx hb dd_T_primeOutside_41 hl rfl (inc_ (cf_ (L.take i) O)) (by decide) rfl (fun ls hl => ?_)
          refine lv_iinc (k := 4) (v := nI (i + 1)) (lv' := [(4, .int (nI (i + 1))), (3, .int (nI ((cf_ (L.take i) O) + 1))), (0, .ref o), (1, .ref q), (2, .int w)]) hx hb dd_T_primeOutside_44 hl rfl (inc_ i) (by decide) rfl (fun ls hl => ?_)
          refine lv_goto (tgt := 5) hx hb dd_T_primeOutside_47 rfl ?_
          exact ih (i + 1) _ _ _ (by omega) (hw2) hM hS (by rw [hnx]; exact lv_sub hl [2, 3, 4, 1, 0] rfl)
        · skip
          refine lv_aload_n hx hb dd_T_primeOutside_33 rfl (lv_at hl 0 rfl) ?_
          refine mr_get C0 hM fk_T_15 h_o (v := .ref pA) rfl dd_T_primeOutside_34 ?_
          refine lv_iload hx hb dd_T_primeOutside_37 (lv_at hl 4 rfl) ?_
          refine mr_iald C0 hM h_pA (i) (rfl) (by omega) (by decide) dd_T_primeOutside_39 ?_
          refine mr_vi (x' := nI (pr_ L i)) ((hro i hil).2) ?_
          exact mr_ret hQ (mr_iret C0 hM hS (rfl) (⟨by rw [po_y hn (fo_pick hil hv).1 h30, (fo_pick hil hv).2], rfl⟩) dd_T_primeOutside_40)
  exact loop_5 L.length 0 _ _ _ (Nat.zero_add _) (fun j h => absurd h (by simp [cf_, fo_])) hM hS (lv_sub hl [2, 3, 4, 1, 0] rfl)

set_option maxHeartbeats 4000000 in
set_option maxRecDepth 100000 in
theorem c_T_multiplyInto (l : Launch) {G : mg_} {M : mw_} {o sA pA e0 eA V : Nat} {L : rl_} {g0 : Nat → Int32} (h_o : M o = some (ob_ 3 [.ref sA, .ref pA, .int (nI L.length)])) (h_pA : M pA = some (ia_ G 10 g0)) (h_e : M e0 = some (ob_ 1 [.ref eA])) (h_eA : M eA = some (la_ G 11 (nl_ V)))  (hg : ∀ j, j < L.length → g0 j = nI (pr_ L j)) (hn : L.length ≤ 10) (hp : ∀ x ∈ L, x.2 < 2147483648) : dt_ l my_T_multiplyInto cd_T_multiplyInto 3 none { frames := 1, cells := 0, slots := 0, locals := 26 } G [.ref o, .ref e0] M none (mu_ M eA (la_ G 11 (nl_ (V * pd_ L)))) 0 0 := by
  refine ct_.intro2 (by decide) (Nat.le_of_ble_eq_true rfl) ?_
  intro p e s m args below meth c ls R Q hR hQ C0 hl hM hS
  have hx := C0.1
  have hb := C0.2.1
  have hl : lv_has ls 3 [(0, .ref o), (1, .ref e0)] := hl
  refine lv_iconst (v := nI 0) hx hb dd_T_multiplyInto_0 (by decide) ?_
  refine lv_istore_n (lv' := [(2, .int (nI 0)), (0, .ref o), (1, .ref e0)]) hx hb dd_T_multiplyInto_1 rfl hl (by decide) rfl (fun ls hl => ?_)
  have loop_2 : ∀ (k : Nat) (i : Nat) (H : Heap) (locs : List Loc) (ls : Array Slot), i + k = L.length → mm_ G (mu_ M eA (la_ G 11 (nl_ (V * pd_ (L.take i))))) H → va_S (fz_ G) s.heap H locs → lv_has ls 3 [(0, .ref o), (1, .ref e0), (2, .int (nI i))] → W p l e R s m args below meth c H locs 0 0 Q (F0 m 2 ls []) := by
    intro k
    induction k with
    | zero =>
      intro i H locs ls hi hM hS hl
      refine lv_iload_n hx hb dd_T_multiplyInto_2 rfl (lv_at hl 2 rfl) ?_
      refine lv_aload_n hx hb dd_T_multiplyInto_3 rfl (lv_at hl 0 rfl) ?_
      refine mr_get C0 hM fk_T_19 (mu_n' (ne_k h_o h_eA (fun q => by cases q)) h_o) (v := .int (nI L.length)) rfl dd_T_multiplyInto_4 ?_
      refine lv_icmp_ge (tgt := 26) hx hb dd_T_multiplyInto_7 rfl (fun _ => ?_) (fun hc => absurd (le_nI (a := L.length) (b := i) (by omega) (by omega) (by omega)) hc)
      rw [take_all (show L.length ≤ i by omega)] at hM
      exact mr_ret hQ (mr_vret C0 hM hS (⟨rfl, rfl⟩) dd_T_multiplyInto_26)
    | succ k ih =>
      intro i H locs ls hi hM hS hl
      have hil : i < L.length := by omega
      have hp0 : pr_ L i < 2147483648 := by rw [pr_at hil]; exact hp _ (List.getElem_mem hil)
      refine lv_iload_n hx hb dd_T_multiplyInto_2 rfl (lv_at hl 2 rfl) ?_
      refine lv_aload_n hx hb dd_T_multiplyInto_3 rfl (lv_at hl 0 rfl) ?_
      refine mr_get C0 hM fk_T_19 (mu_n' (ne_k h_o h_eA (fun q => by cases q)) h_o) (v := .int (nI L.length)) rfl dd_T_multiplyInto_4 ?_
      refine lv_icmp_ge (tgt := 26) hx hb dd_T_multiplyInto_7 rfl (fun hc => absurd hc (nle_nI (a := L.length) (b := i) (by omega) (by omega) (by omega))) (fun _ => ?_)
      refine lv_aload_n hx hb dd_T_multiplyInto_10 rfl (lv_at hl 1 rfl) ?_
      refine lv_aload_n hx hb dd_T_multiplyInto_11 rfl (lv_at hl 0 rfl) ?_
      refine mr_get C0 hM fk_T_15 (mu_n' (ne_k h_o h_eA (fun q => by cases q)) h_o) (v := .ref pA) rfl dd_T_multiplyInto_12 ?_
      refine lv_iload_n hx hb dd_T_multiplyInto_15 rfl (lv_at hl 2 rfl) ?_
      refine mr_iald C0 hM (mu_n' (ne_il h_pA h_eA) h_pA) (i) (rfl) (by omega) (by decide) dd_T_multiplyInto_16 ?_
      refine mr_vi (x' := nI (pr_ L i)) (hg i hil) ?_
      refine mr_callV (As := [.int (nI (pr_ L i))]) (rest := []) C0 hM hS vk_T_37 (mu_n' (ne_k h_e h_eA (fun q => by cases q)) h_e) rfl (c_N_multiply l (mu_n' (ne_k h_e h_eA (fun q => by cases q)) h_e) mu_s  hp0) rfl rfl hl.1 (by decide) rfl rfl (by subst hR; exact ⟨Nat.le_of_ble_eq_true rfl, Nat.le_of_ble_eq_true rfl⟩) (by subst hR; exact ⟨Nat.le_of_ble_eq_true rfl, Nat.le_of_ble_eq_true rfl⟩) dd_T_multiplyInto_17 (fun v1 M1 H locs hp hM hS => ?_)
      obtain ⟨ev1, eM1⟩ := hp
      subst ev1
      rw [eM1] at hM
      have hM := mr_M mu_mu hM
      have hM : mm_ G (mu_ M eA (la_ G 11 (nl_ (V * pd_ (L.take i) * pr_ L i)))) H := hM
      refine W.eq (g2 := F0 m 20 ls []) rfl ?_
      refine lv_iinc (k := 2) (v := nI (i + 1)) (lv' := [(2, .int (nI (i + 1))), (0, .ref o), (1, .ref e0)]) hx hb dd_T_multiplyInto_20 hl rfl (inc_ i) (by decide) rfl (fun ls hl => ?_)
      refine lv_goto (tgt := 2) hx hb dd_T_multiplyInto_23 rfl ?_
      rw [Nat.mul_assoc, ← pd_take hil] at hM
      exact ih _ _ _ _ (by omega) hM hS (lv_sub hl [1, 2, 0] rfl)
  have hM := mr_M (mu_id h_eA).symm hM
  rw [show V = V * pd_ (L.take 0) by rw [pd_0, Nat.mul_one]] at hM
  exact loop_2 L.length 0 _ _ _ (Nat.zero_add _) hM hS (lv_sub hl [1, 2, 0] rfl)

set_option maxHeartbeats 4000000 in
set_option maxRecDepth 100000 in
theorem c_T_multiplyOthersInto (l : Launch) {G : mg_} {M : mw_} {o sA pA e0 eA V : Nat} {L : rl_} {f : Nat → Int64} {g0 : Nat → Int32} {sx : Int64} (h_o : M o = some (ob_ 3 [.ref sA, .ref pA, .int (nI L.length)])) (h_sA : M sA = some (la_ G 10 f)) (h_pA : M pA = some (ia_ G 10 g0)) (h_e : M e0 = some (ob_ 1 [.ref eA])) (h_eA : M eA = some (la_ G 11 (nl_ V))) (ne_sA_eA : sA ≠ eA) (hro : ro_ f g0 L) (hn : L.length ≤ 10) (hp : ∀ x ∈ L, x.2 < 2147483648) : dt_ l my_T_multiplyOthersInto cd_T_multiplyOthersInto 5 none { frames := 1, cells := 0, slots := 0, locals := 26 } G [.ref o, .long sx, .ref e0] M none (mu_ M eA (la_ G 11 (nl_ (V * pd_ (fs_ L sx))))) 0 0 := by
  refine ct_.intro2 (by decide) (Nat.le_of_ble_eq_true rfl) ?_
  intro p e s m args below meth c ls R Q hR hQ C0 hl hM hS
  have hx := C0.1
  have hb := C0.2.1
  have hl : lv_has ls 5 [(0, .ref o), (1, .long sx), (3, .ref e0)] := hl
  refine lv_iconst (v := nI 0) hx hb dd_T_multiplyOthersInto_0 (by decide) ?_
  refine lv_istore (lv' := [(4, .int (nI 0)), (0, .ref o), (1, .long sx), (3, .ref e0)]) hx hb dd_T_multiplyOthersInto_1 hl (by decide) rfl (fun ls hl => ?_)
  have loop_3 : ∀ (k : Nat) (i : Nat) (H : Heap) (locs : List Loc) (ls : Array Slot), i + k = L.length → mm_ G (mu_ M eA (la_ G 11 (nl_ (V * pd_ (fs_ (L.take i) sx))))) H → va_S (fz_ G) s.heap H locs → lv_has ls 5 [(0, .ref o), (1, .long sx), (3, .ref e0), (4, .int (nI i))] → W p l e R s m args below meth c H locs 0 0 Q (F0 m 3 ls []) := by
    intro k
    induction k with
    | zero =>
      intro i H locs ls hi hM hS hl
      refine lv_iload hx hb dd_T_multiplyOthersInto_3 (lv_at hl 3 rfl) ?_
      refine lv_aload_n hx hb dd_T_multiplyOthersInto_5 rfl (lv_at hl 0 rfl) ?_
      refine mr_get C0 hM fk_T_19 (mu_n' (ne_k h_o h_eA (fun q => by cases q)) h_o) (v := .int (nI L.length)) rfl dd_T_multiplyOthersInto_6 ?_
      refine lv_icmp_ge (tgt := 41) hx hb dd_T_multiplyOthersInto_9 rfl (fun _ => ?_) (fun hc => absurd (le_nI (a := L.length) (b := i) (by omega) (by omega) (by omega)) hc)
      rw [take_all (show L.length ≤ i by omega)] at hM
      exact mr_ret hQ (mr_vret C0 hM hS (⟨rfl, rfl⟩) dd_T_multiplyOthersInto_41)
    | succ k ih =>
      intro i H locs ls hi hM hS hl
      have hil : i < L.length := by omega
      have hp0 : pr_ L i < 2147483648 := by rw [pr_at hil]; exact hp _ (List.getElem_mem hil)
      refine lv_iload hx hb dd_T_multiplyOthersInto_3 (lv_at hl 3 rfl) ?_
      refine lv_aload_n hx hb dd_T_multiplyOthersInto_5 rfl (lv_at hl 0 rfl) ?_
      refine mr_get C0 hM fk_T_19 (mu_n' (ne_k h_o h_eA (fun q => by cases q)) h_o) (v := .int (nI L.length)) rfl dd_T_multiplyOthersInto_6 ?_
      refine lv_icmp_ge (tgt := 41) hx hb dd_T_multiplyOthersInto_9 rfl (fun hc => absurd hc (nle_nI (a := L.length) (b := i) (by omega) (by omega) (by omega))) (fun _ => ?_)
      refine lv_aload_n hx hb dd_T_multiplyOthersInto_12 rfl (lv_at hl 0 rfl) ?_
      refine mr_get C0 hM fk_T_11 (mu_n' (ne_k h_o h_eA (fun q => by cases q)) h_o) (v := .ref sA) rfl dd_T_multiplyOthersInto_13 ?_
      refine lv_iload hx hb dd_T_multiplyOthersInto_16 (lv_at hl 3 rfl) ?_
      refine mr_lald C0 hM (mu_n' ne_sA_eA h_sA) (i) (rfl) (by omega) (by decide) dd_T_multiplyOthersInto_18 ?_
      refine mr_vl (x' := sr_ L i) ((hro i hil).1) ?_
      refine lv_lload_n hx hb dd_T_multiplyOthersInto_19 rfl (lv_at hl 1 rfl) ?_
      refine mr_lif_eq (tgt := 35) hx hb dd_T_multiplyOthersInto_20 dd_T_multiplyOthersInto_21 rfl (fun h20 => ?_) (fun h20 => ?_)
      · skip
        rw [show fs_ (L.take i) sx = fs_ (L.take (i + 1)) sx by rw [fs_s hil, if_pos h20, List.append_nil]] at hM
        have hM : mm_ G (mu_ M eA (la_ G 11 (nl_ (V * pd_ (fs_ (L.take (i + 1)) sx))))) H := hM
        refine lv_iinc (k := 3) (v := nI (i + 1)) (lv' := [(4, .int (nI (i + 1))), (0, .ref o), (1, .long sx), (3, .ref e0)]) hx hb dd_T_multiplyOthersInto_35 hl rfl (inc_ i) (by decide) rfl (fun ls hl => ?_)
        refine lv_goto (tgt := 3) hx hb dd_T_multiplyOthersInto_38 rfl ?_
        exact ih (i + 1) _ _ _ (by omega) hM hS (lv_sub hl [1, 2, 3, 0] rfl)
      · skip
        refine lv_aload_n hx hb dd_T_multiplyOthersInto_24 rfl (lv_at hl 2 rfl) ?_
        refine lv_aload_n hx hb dd_T_multiplyOthersInto_25 rfl (lv_at hl 0 rfl) ?_
        refine mr_get C0 hM fk_T_15 (mu_n' (ne_k h_o h_eA (fun q => by cases q)) h_o) (v := .ref pA) rfl dd_T_multiplyOthersInto_26 ?_
        refine lv_iload hx hb dd_T_multiplyOthersInto_29 (lv_at hl 3 rfl) ?_
        refine mr_iald C0 hM (mu_n' (ne_il h_pA h_eA) h_pA) (i) (rfl) (by omega) (by decide) dd_T_multiplyOthersInto_31 ?_
        refine mr_vi (x' := nI (pr_ L i)) ((hro i hil).2) ?_
        refine mr_callV (As := [.int (nI (pr_ L i))]) (rest := []) C0 hM hS vk_T_37 (mu_n' (ne_k h_e h_eA (fun q => by cases q)) h_e) rfl (c_N_multiply l (mu_n' (ne_k h_e h_eA (fun q => by cases q)) h_e) mu_s  hp0) rfl rfl hl.1 (by decide) rfl rfl (by subst hR; exact ⟨Nat.le_of_ble_eq_true rfl, Nat.le_of_ble_eq_true rfl⟩) (by subst hR; exact ⟨Nat.le_of_ble_eq_true rfl, Nat.le_of_ble_eq_true rfl⟩) dd_T_multiplyOthersInto_32 (fun v1 M1 H locs hp hM hS => ?_)
        obtain ⟨ev1, eM1⟩ := hp
        subst ev1
        rw [eM1] at hM
        have hM := mr_M mu_mu hM
        have hM : mm_ G (mu_ M eA (la_ G 11 (nl_ (V * pd_ (fs_ (L.take i) sx) * pr_ L i)))) H := hM
        refine W.eq (g2 := F0 m 35 ls []) rfl ?_
        rw [Nat.mul_assoc, show pd_ (fs_ (L.take i) sx) * pr_ L i = pd_ (fs_ (L.take (i + 1)) sx) by rw [fs_s hil, if_neg h20, pd_snoc]] at hM
        have hM : mm_ G (mu_ M eA (la_ G 11 (nl_ (V * pd_ (fs_ (L.take (i + 1)) sx))))) H := hM
        refine lv_iinc (k := 3) (v := nI (i + 1)) (lv' := [(4, .int (nI (i + 1))), (0, .ref o), (1, .long sx), (3, .ref e0)]) hx hb dd_T_multiplyOthersInto_35 hl rfl (inc_ i) (by decide) rfl (fun ls hl => ?_)
        refine lv_goto (tgt := 3) hx hb dd_T_multiplyOthersInto_38 rfl ?_
        exact ih (i + 1) _ _ _ (by omega) hM hS (lv_sub hl [1, 2, 3, 0] rfl)
  have hM := mr_M (mu_id h_eA).symm hM
  rw [show V = V * pd_ (fs_ (L.take 0) sx) by simp [fs_, pd_]] at hM
  exact loop_3 L.length 0 _ _ _ (Nat.zero_add _) hM hS (lv_sub hl [1, 2, 3, 0] rfl)

set_option maxHeartbeats 4000000 in
set_option maxRecDepth 100000 in
theorem c_T_multiplyOutsideInto (l : Launch) {G : mg_} {M : mw_} {o sA pA q qs qp e0 eA V : Nat} {L O : rl_} {f f1 : Nat → Int64} {g0 : Nat → Int32} (h_o : M o = some (ob_ 3 [.ref sA, .ref pA, .int (nI L.length)])) (h_sA : M sA = some (la_ G 10 f)) (h_q : M q = some (ob_ 3 [.ref qs, .ref qp, .int (nI O.length)])) (h_qs : M qs = some (la_ G 10 f1)) (h_pA : M pA = some (ia_ G 10 g0)) (h_e : M e0 = some (ob_ 1 [.ref eA])) (h_eA : M eA = some (la_ G 11 (nl_ V))) (ne_qs_eA : qs ≠ eA) (ne_sA_eA : sA ≠ eA) (hro : ro_ f g0 L) (hn : L.length ≤ 10) (hf1 : ∀ j, j < O.length → f1 j = sr_ O j) (hn1 : O.length ≤ 10) (hp : ∀ x ∈ L, x.2 < 2147483648) : dt_ l my_T_multiplyOutsideInto cd_T_multiplyOutsideInto 4 none { frames := 2, cells := 0, slots := 0, locals := 45 } G [.ref o, .ref q, .ref e0] M none (mu_ M eA (la_ G 11 (nl_ (V * pd_ (fo_ L O))))) 0 0 := by
  refine ct_.intro2 (by decide) (Nat.le_of_ble_eq_true rfl) ?_
  intro p e s m args below meth c ls R Q hR hQ C0 hl hM hS
  have hx := C0.1
  have hb := C0.2.1
  have hl : lv_has ls 4 [(0, .ref o), (1, .ref q), (2, .ref e0)] := hl
  refine lv_iconst (v := nI 0) hx hb dd_T_multiplyOutsideInto_0 (by decide) ?_
  refine lv_istore_n (lv' := [(3, .int (nI 0)), (0, .ref o), (1, .ref q), (2, .ref e0)]) hx hb dd_T_multiplyOutsideInto_1 rfl hl (by decide) rfl (fun ls hl => ?_)
  have loop_2 : ∀ (k : Nat) (i : Nat) (H : Heap) (locs : List Loc) (ls : Array Slot), i + k = L.length → mm_ G (mu_ M eA (la_ G 11 (nl_ (V * pd_ (fo_ (L.take i) O))))) H → va_S (fz_ G) s.heap H locs → lv_has ls 4 [(0, .ref o), (1, .ref q), (2, .ref e0), (3, .int (nI i))] → W p l e R s m args below meth c H locs 0 0 Q (F0 m 2 ls []) := by
    intro k
    induction k with
    | zero =>
      intro i H locs ls hi hM hS hl
      refine lv_iload_n hx hb dd_T_multiplyOutsideInto_2 rfl (lv_at hl 3 rfl) ?_
      refine lv_aload_n hx hb dd_T_multiplyOutsideInto_3 rfl (lv_at hl 0 rfl) ?_
      refine mr_get C0 hM fk_T_19 (mu_n' (ne_k h_o h_eA (fun q => by cases q)) h_o) (v := .int (nI L.length)) rfl dd_T_multiplyOutsideInto_4 ?_
      refine lv_icmp_ge (tgt := 39) hx hb dd_T_multiplyOutsideInto_7 rfl (fun _ => ?_) (fun hc => absurd (le_nI (a := L.length) (b := i) (by omega) (by omega) (by omega)) hc)
      rw [take_all (show L.length ≤ i by omega)] at hM
      exact mr_ret hQ (mr_vret C0 hM hS (⟨rfl, rfl⟩) dd_T_multiplyOutsideInto_39)
    | succ k ih =>
      intro i H locs ls hi hM hS hl
      have hil : i < L.length := by omega
      have hp0 : pr_ L i < 2147483648 := by rw [pr_at hil]; exact hp _ (List.getElem_mem hil)
      refine lv_iload_n hx hb dd_T_multiplyOutsideInto_2 rfl (lv_at hl 3 rfl) ?_
      refine lv_aload_n hx hb dd_T_multiplyOutsideInto_3 rfl (lv_at hl 0 rfl) ?_
      refine mr_get C0 hM fk_T_19 (mu_n' (ne_k h_o h_eA (fun q => by cases q)) h_o) (v := .int (nI L.length)) rfl dd_T_multiplyOutsideInto_4 ?_
      refine lv_icmp_ge (tgt := 39) hx hb dd_T_multiplyOutsideInto_7 rfl (fun hc => absurd hc (nle_nI (a := L.length) (b := i) (by omega) (by omega) (by omega))) (fun _ => ?_)
      refine lv_aload_n hx hb dd_T_multiplyOutsideInto_10 rfl (lv_at hl 1 rfl) ?_
      refine lv_aload_n hx hb dd_T_multiplyOutsideInto_11 rfl (lv_at hl 0 rfl) ?_
      refine mr_get C0 hM fk_T_11 (mu_n' (ne_k h_o h_eA (fun q => by cases q)) h_o) (v := .ref sA) rfl dd_T_multiplyOutsideInto_12 ?_
      refine lv_iload_n hx hb dd_T_multiplyOutsideInto_15 rfl (lv_at hl 3 rfl) ?_
      refine mr_lald C0 hM (mu_n' ne_sA_eA h_sA) (i) (rfl) (by omega) (by decide) dd_T_multiplyOutsideInto_16 ?_
      refine mr_vl (x' := sr_ L i) ((hro i hil).1) ?_
      refine mr_callV (As := [.long (sr_ L i)]) (rest := []) C0 hM hS vk_T_33 (mu_n' (ne_k h_q h_eA (fun q => by cases q)) h_q) rfl (c_T_has l (mu_n' (ne_k h_q h_eA (fun q => by cases q)) h_q) (mu_n' ne_qs_eA h_qs)  hf1 hn1) rfl rfl hl.1 (by decide) rfl rfl (by subst hR; exact ⟨Nat.le_of_ble_eq_true rfl, Nat.le_of_ble_eq_true rfl⟩) (by subst hR; exact ⟨Nat.le_of_ble_eq_true rfl, Nat.le_of_ble_eq_true rfl⟩) dd_T_multiplyOutsideInto_17 (fun v1 M1 H locs hp hM hS => ?_)
      obtain ⟨ev1, eM1⟩ := hp
      subst ev1
      rw [eM1] at hM
      refine W.eq (g2 := F0 m 20 ls [.int (nI (if hs_ O (sr_ L i) then 1 else 0))]) rfl ?_
      refine lv_if_ne (tgt := 33) hx hb dd_T_multiplyOutsideInto_20 rfl (fun h20 => ?_) (fun h20 => ?_)
      · skip
        have hv : hs_ O (sr_ L i) = true := by
          cases h : hs_ O (sr_ L i) with
          | true => rfl
          | false => exact absurd (by rw [h]; rfl) h20
        rw [show fo_ (L.take i) O = fo_ (L.take (i + 1)) O by rw [fo_s hil, hv, if_pos rfl, List.append_nil]] at hM
        have hM : mm_ G (mu_ M eA (la_ G 11 (nl_ (V * pd_ (fo_ (L.take (i + 1)) O))))) H := hM
        refine lv_iinc (k := 3) (v := nI (i + 1)) (lv' := [(3, .int (nI (i + 1))), (0, .ref o), (1, .ref q), (2, .ref e0)]) hx hb dd_T_multiplyOutsideInto_33 hl rfl (inc_ i) (by decide) rfl (fun ls hl => ?_)
        refine lv_goto (tgt := 2) hx hb dd_T_multiplyOutsideInto_36 rfl ?_
        exact ih (i + 1) _ _ _ (by omega) hM hS (lv_sub hl [1, 2, 3, 0] rfl)
      · skip
        have hv : hs_ O (sr_ L i) = false := by
          cases h : hs_ O (sr_ L i) with
          | false => rfl
          | true => rw [h] at h20; exact absurd h20 (by decide)
        refine lv_aload_n hx hb dd_T_multiplyOutsideInto_23 rfl (lv_at hl 2 rfl) ?_
        refine lv_aload_n hx hb dd_T_multiplyOutsideInto_24 rfl (lv_at hl 0 rfl) ?_
        refine mr_get C0 hM fk_T_15 (mu_n' (ne_k h_o h_eA (fun q => by cases q)) h_o) (v := .ref pA) rfl dd_T_multiplyOutsideInto_25 ?_
        refine lv_iload_n hx hb dd_T_multiplyOutsideInto_28 rfl (lv_at hl 3 rfl) ?_
        refine mr_iald C0 hM (mu_n' (ne_il h_pA h_eA) h_pA) (i) (rfl) (by omega) (by decide) dd_T_multiplyOutsideInto_29 ?_
        refine mr_vi (x' := nI (pr_ L i)) ((hro i hil).2) ?_
        refine mr_callV (As := [.int (nI (pr_ L i))]) (rest := []) C0 hM hS vk_T_37 (mu_n' (ne_k h_e h_eA (fun q => by cases q)) h_e) rfl (c_N_multiply l (mu_n' (ne_k h_e h_eA (fun q => by cases q)) h_e) mu_s  hp0) rfl rfl hl.1 (by decide) rfl rfl (by subst hR; exact ⟨Nat.le_of_ble_eq_true rfl, Nat.le_of_ble_eq_true rfl⟩) (by subst hR; exact ⟨Nat.le_of_ble_eq_true rfl, Nat.le_of_ble_eq_true rfl⟩) dd_T_multiplyOutsideInto_30 (fun v1 M1 H locs hp hM hS => ?_)
        obtain ⟨ev1, eM1⟩ := hp
        subst ev1
        rw [eM1] at hM
        have hM := mr_M mu_mu hM
        have hM : mm_ G (mu_ M eA (la_ G 11 (nl_ (V * pd_ (fo_ (L.take i) O) * pr_ L i)))) H := hM
        refine W.eq (g2 := F0 m 33 ls []) rfl ?_
        rw [Nat.mul_assoc, show pd_ (fo_ (L.take i) O) * pr_ L i = pd_ (fo_ (L.take (i + 1)) O) by rw [fo_s hil, hv, if_neg (by decide), pd_snoc]] at hM
        have hM : mm_ G (mu_ M eA (la_ G 11 (nl_ (V * pd_ (fo_ (L.take (i + 1)) O))))) H := hM
        refine lv_iinc (k := 3) (v := nI (i + 1)) (lv' := [(3, .int (nI (i + 1))), (0, .ref o), (1, .ref q), (2, .ref e0)]) hx hb dd_T_multiplyOutsideInto_33 hl rfl (inc_ i) (by decide) rfl (fun ls hl => ?_)
        refine lv_goto (tgt := 2) hx hb dd_T_multiplyOutsideInto_36 rfl ?_
        exact ih (i + 1) _ _ _ (by omega) hM hS (lv_sub hl [1, 2, 3, 0] rfl)
  have hM := mr_M (mu_id h_eA).symm hM
  rw [show V = V * pd_ (fo_ (L.take 0) O) by simp [fo_, pd_]] at hM
  exact loop_2 L.length 0 _ _ _ (Nat.zero_add _) hM hS (lv_sub hl [1, 2, 3, 0] rfl)
