
/-- the epochs that a new register has made so far -/
def ES_ (G : mg_) (M1 : mw_) (ep i : Nat) (B : Nat → Nat) (q : Nat → Option Nat) (M : mw_) : Prop :=
  (∀ e, e < i → q e = some (B (6 * e))) ∧
  (∀ e, e < i → M (B (6 * e)) = some (ob_ 0 [.ref (B (6 * e + 1)), .ref (B (6 * e + 4)), .ref (B (6 * e + 5))]) ∧ M (B (6 * e + 1)) = some (ob_ 3 [.ref (B (6 * e + 2)), .ref (B (6 * e + 3)), .int (nI 0)]) ∧ M (B (6 * e + 2)) = some (la_ G 10 (fun _ => 0)) ∧ M (B (6 * e + 3)) = some (ia_ G 10 (fun _ => 0)) ∧ M (B (6 * e + 4)) = some (la_ G 4 (fun _ => 0)) ∧ M (B (6 * e + 5)) = some (la_ G 4 (fun _ => 0))) ∧
  (∀ x y, x < 6 * i → y < 6 * i → x ≠ y → B x ≠ B y) ∧
  (∀ x, x < 6 * i → M1 (B x) = none ∧ B x ≠ ep) ∧
  (∀ a, a ≠ ep → (∀ x, x < 6 * i → a ≠ B x) → M a = M1 a)
theorem ES_0 {G : mg_} {M1 : mw_} {ep : Nat} {B : Nat → Nat} {q : Nat → Option Nat} : ES_ G M1 ep 0 B q M1 :=
  ⟨fun e h => absurd h (Nat.not_lt_zero e), fun e h => absurd h (Nat.not_lt_zero e), fun x y h => absurd h (Nat.not_lt_zero x), fun x h => absurd h (Nat.not_lt_zero x), fun _ _ _ => rfl⟩
theorem six_ (x : Nat) : x = 6 * (x / 6) ∨ x = 6 * (x / 6) + 1 ∨ x = 6 * (x / 6) + 2 ∨ x = 6 * (x / 6) + 3 ∨ x = 6 * (x / 6) + 4 ∨ x = 6 * (x / 6) + 5 := by omega
theorem ES_B {G : mg_} {M1 M : mw_} {ep i : Nat} {B : Nat → Nat} {q : Nat → Option Nat} (h : ES_ G M1 ep i B q M) {x : Nat} (hx : x < 6 * i) : ∃ c, M (B x) = some c := by
  obtain ⟨h0, h1, h2, h3, h4, h5⟩ := h.2.1 (x / 6) (by omega)
  rcases six_ x with q | q | q | q | q | q <;> rw [q]
  · exact ⟨_, h0⟩
  · exact ⟨_, h1⟩
  · exact ⟨_, h2⟩
  · exact ⟨_, h3⟩
  · exact ⟨_, h4⟩
  · exact ⟨_, h5⟩
theorem ES_old {G : mg_} {M1 M : mw_} {ep i : Nat} {B : Nat → Nat} {q : Nat → Option Nat} (h : ES_ G M1 ep i B q M) {a : Nat} {c : va_E} (ha : a ≠ ep) (hc : M1 a = some c) : M a = some c := by
  rw [h.2.2.2.2 a ha (fun x hx q => by have := (h.2.2.2.1 x hx).1; rw [← q, hc] at this; cases this)]
  exact hc
def bx_ (B : Nat → Nat) (n a0 a1 a2 a3 a4 a5 : Nat) : Nat → Nat := fun x => if x < n then B x else if x = n then a0 else if x = n + 1 then a1 else if x = n + 2 then a2 else if x = n + 3 then a3 else if x = n + 4 then a4 else a5
theorem bx_b {B : Nat → Nat} {n a0 a1 a2 a3 a4 a5 x : Nat} (h : x < n) : bx_ B n a0 a1 a2 a3 a4 a5 x = B x := if_pos h
theorem bx_0 {B : Nat → Nat} {n a0 a1 a2 a3 a4 a5 : Nat} : bx_ B n a0 a1 a2 a3 a4 a5 n = a0 := by simp [bx_]
theorem bx_1 {B : Nat → Nat} {n a0 a1 a2 a3 a4 a5 : Nat} : bx_ B n a0 a1 a2 a3 a4 a5 (n + 1) = a1 := by simp [bx_]; intro h; omega
theorem bx_2 {B : Nat → Nat} {n a0 a1 a2 a3 a4 a5 : Nat} : bx_ B n a0 a1 a2 a3 a4 a5 (n + 2) = a2 := by simp [bx_]; intro h; omega
theorem bx_3 {B : Nat → Nat} {n a0 a1 a2 a3 a4 a5 : Nat} : bx_ B n a0 a1 a2 a3 a4 a5 (n + 3) = a3 := by simp [bx_]; intro h; omega
theorem bx_4 {B : Nat → Nat} {n a0 a1 a2 a3 a4 a5 : Nat} : bx_ B n a0 a1 a2 a3 a4 a5 (n + 4) = a4 := by simp [bx_]; intro h; omega
theorem bx_5 {B : Nat → Nat} {n a0 a1 a2 a3 a4 a5 : Nat} : bx_ B n a0 a1 a2 a3 a4 a5 (n + 5) = a5 := by simp [bx_]; intro h; omega
theorem nd_get {L : List Nat} (h : L.Nodup) {i j : Nat} (hi : i < L.length) (hj : j < L.length) (hij : i ≠ j) : L.getD i 0 ≠ L.getD j 0 := by
  rw [List.getD_eq_getElem?_getD, List.getD_eq_getElem?_getD, List.getElem?_eq_getElem hi, List.getElem?_eq_getElem hj]
  intro q
  exact hij ((List.getElem_inj h).mp q)
theorem gd_mem {L : List Nat} {i : Nat} (hi : i < L.length) : L.getD i 0 ∈ L := by
  rw [List.getD_eq_getElem?_getD, List.getElem?_eq_getElem hi]
  exact List.getElem_mem hi
theorem bx_cases {B : Nat → Nat} {n a0 a1 a2 a3 a4 a5 x : Nat} (h : x < n + 6) : (x < n ∧ bx_ B n a0 a1 a2 a3 a4 a5 x = B x) ∨ (x = n ∧ bx_ B n a0 a1 a2 a3 a4 a5 x = a0) ∨ (x = n + 1 ∧ bx_ B n a0 a1 a2 a3 a4 a5 x = a1) ∨ (x = n + 2 ∧ bx_ B n a0 a1 a2 a3 a4 a5 x = a2) ∨ (x = n + 3 ∧ bx_ B n a0 a1 a2 a3 a4 a5 x = a3) ∨ (x = n + 4 ∧ bx_ B n a0 a1 a2 a3 a4 a5 x = a4) ∨ (x = n + 5 ∧ bx_ B n a0 a1 a2 a3 a4 a5 x = a5) := by
  rcases (show x < n ∨ x = n ∨ x = n + 1 ∨ x = n + 2 ∨ x = n + 3 ∨ x = n + 4 ∨ x = n + 5 by omega) with q | q | q | q | q | q | q
  · exact Or.inl ⟨q, bx_b q⟩
  · exact Or.inr (Or.inl ⟨q, by rw [q]; exact bx_0⟩)
  · exact Or.inr (Or.inr (Or.inl ⟨q, by rw [q]; exact bx_1⟩))
  · exact Or.inr (Or.inr (Or.inr (Or.inl ⟨q, by rw [q]; exact bx_2⟩)))
  · exact Or.inr (Or.inr (Or.inr (Or.inr (Or.inl ⟨q, by rw [q]; exact bx_3⟩))))
  · exact Or.inr (Or.inr (Or.inr (Or.inr (Or.inr (Or.inl ⟨q, by rw [q]; exact bx_4⟩)))))
  · exact Or.inr (Or.inr (Or.inr (Or.inr (Or.inr (Or.inr ⟨q, by rw [q]; exact bx_5⟩)))))
theorem ES_s {G : mg_} {M1 M M' : mw_} {ep i : Nat} {B : Nat → Nat} {q : Nat → Option Nat} {a0 a1 a2 a3 a4 a5 : Nat} {ce : va_E} (h : ES_ G M1 ep i B q M) (hep : M ep = some ce)
    (f0 : M a0 = none) (f1 : M a1 = none) (f2 : M a2 = none) (f3 : M a3 = none) (f4 : M a4 = none) (f5 : M a5 = none)
    (d10 : a1 ≠ a0) (d20 : a2 ≠ a0) (d21 : a2 ≠ a1) (d30 : a3 ≠ a0) (d31 : a3 ≠ a1) (d32 : a3 ≠ a2) (d40 : a4 ≠ a0) (d41 : a4 ≠ a1) (d42 : a4 ≠ a2) (d43 : a4 ≠ a3) (d50 : a5 ≠ a0) (d51 : a5 ≠ a1) (d52 : a5 ≠ a2) (d53 : a5 ≠ a3) (d54 : a5 ≠ a4)
    (g0 : M' a0 = some (ob_ 0 [.ref a1, .ref a4, .ref a5])) (g1 : M' a1 = some (ob_ 3 [.ref a2, .ref a3, .int (nI 0)])) (g2 : M' a2 = some (la_ G 10 (fun _ => 0))) (g3 : M' a3 = some (ia_ G 10 (fun _ => 0))) (g4 : M' a4 = some (la_ G 4 (fun _ => 0))) (g5 : M' a5 = some (la_ G 4 (fun _ => 0)))
    (ho : ∀ b, b ≠ ep → b ≠ a0 → b ≠ a1 → b ≠ a2 → b ≠ a3 → b ≠ a4 → b ≠ a5 → M' b = M b) : ES_ G M1 ep (i + 1) (bx_ B (6 * i) a0 a1 a2 a3 a4 a5) (va_up q i (some a0)) M' := by
  have hBs := fun x (hx : x < 6 * i) => ES_B h hx
  have nB : ∀ {a x : Nat}, M a = none → x < 6 * i → B x ≠ a := fun fa hx z => by
    obtain ⟨c, hc⟩ := hBs _ hx
    rw [z, fa] at hc; cases hc
  have ne : ∀ {a : Nat}, M a = none → a ≠ ep := fun fa z => by rw [z, hep] at fa; cases fa
  have n1 : ∀ {a : Nat}, M a = none → M1 a = none := fun fa => by
    rw [← h.2.2.2.2 _ (ne fa) (fun x hx z => nB fa hx z.symm)]; exact fa
  obtain ⟨h1, h2, h3, h4, h5⟩ := h
  have nep : ∀ x, x < 6 * i → B x ≠ ep → M' (B x) = M (B x) := fun x hx z => ho _ z (nB f0 hx) (nB f1 hx) (nB f2 hx) (nB f3 hx) (nB f4 hx) (nB f5 hx)
  refine ⟨?_, ?_, ?_, ?_, ?_⟩
  · intro e he
    by_cases z : e = i
    · rw [z, va_up_self, bx_0]
    · rw [va_up_ne _ _ z, h1 e (by omega), bx_b (by omega)]
  · intro e he
    by_cases z : e = i
    · rw [z, bx_0, bx_1, bx_2, bx_3, bx_4, bx_5]
      exact ⟨g0, g1, g2, g3, g4, g5⟩
    · have hl : e < i := by omega
      obtain ⟨k0, k1, k2, k3, k4, k5⟩ := h2 e hl
      rw [bx_b (by omega), bx_b (by omega), bx_b (by omega), bx_b (by omega), bx_b (by omega), bx_b (by omega)]
      have hx : ∀ x, x < 6 * i → B x ≠ ep := fun x hx => (h4 x hx).2
      exact ⟨(nep _ (by omega) (hx _ (by omega))).trans k0, (nep _ (by omega) (hx _ (by omega))).trans k1, (nep _ (by omega) (hx _ (by omega))).trans k2, (nep _ (by omega) (hx _ (by omega))).trans k3, (nep _ (by omega) (hx _ (by omega))).trans k4, (nep _ (by omega) (hx _ (by omega))).trans k5⟩
  · intro x y hx hy hxy
    rcases bx_cases (B := B) (n := 6 * i) (a0 := a0) (a1 := a1) (a2 := a2) (a3 := a3) (a4 := a4) (a5 := a5) (x := x) (by omega) with ⟨u, v⟩ | ⟨u, v⟩ | ⟨u, v⟩ | ⟨u, v⟩ | ⟨u, v⟩ | ⟨u, v⟩ | ⟨u, v⟩
    · rcases bx_cases (B := B) (n := 6 * i) (a0 := a0) (a1 := a1) (a2 := a2) (a3 := a3) (a4 := a4) (a5 := a5) (x := y) (by omega) with ⟨u2, v2⟩ | ⟨u2, v2⟩ | ⟨u2, v2⟩ | ⟨u2, v2⟩ | ⟨u2, v2⟩ | ⟨u2, v2⟩ | ⟨u2, v2⟩
      · rw [v, v2]; exact h3 x y u u2 hxy
      · rw [v, v2]; exact nB f0 u
      · rw [v, v2]; exact nB f1 u
      · rw [v, v2]; exact nB f2 u
      · rw [v, v2]; exact nB f3 u
      · rw [v, v2]; exact nB f4 u
      · rw [v, v2]; exact nB f5 u
    · rcases bx_cases (B := B) (n := 6 * i) (a0 := a0) (a1 := a1) (a2 := a2) (a3 := a3) (a4 := a4) (a5 := a5) (x := y) (by omega) with ⟨u2, v2⟩ | ⟨u2, v2⟩ | ⟨u2, v2⟩ | ⟨u2, v2⟩ | ⟨u2, v2⟩ | ⟨u2, v2⟩ | ⟨u2, v2⟩
      · rw [v, v2]; exact (nB f0 u2).symm
      · omega
      · rw [v, v2]; exact d10.symm
      · rw [v, v2]; exact d20.symm
      · rw [v, v2]; exact d30.symm
      · rw [v, v2]; exact d40.symm
      · rw [v, v2]; exact d50.symm
    · rcases bx_cases (B := B) (n := 6 * i) (a0 := a0) (a1 := a1) (a2 := a2) (a3 := a3) (a4 := a4) (a5 := a5) (x := y) (by omega) with ⟨u2, v2⟩ | ⟨u2, v2⟩ | ⟨u2, v2⟩ | ⟨u2, v2⟩ | ⟨u2, v2⟩ | ⟨u2, v2⟩ | ⟨u2, v2⟩
      · rw [v, v2]; exact (nB f1 u2).symm
      · rw [v, v2]; exact d10
      · omega
      · rw [v, v2]; exact d21.symm
      · rw [v, v2]; exact d31.symm
      · rw [v, v2]; exact d41.symm
      · rw [v, v2]; exact d51.symm
    · rcases bx_cases (B := B) (n := 6 * i) (a0 := a0) (a1 := a1) (a2 := a2) (a3 := a3) (a4 := a4) (a5 := a5) (x := y) (by omega) with ⟨u2, v2⟩ | ⟨u2, v2⟩ | ⟨u2, v2⟩ | ⟨u2, v2⟩ | ⟨u2, v2⟩ | ⟨u2, v2⟩ | ⟨u2, v2⟩
      · rw [v, v2]; exact (nB f2 u2).symm
      · rw [v, v2]; exact d20
      · rw [v, v2]; exact d21
      · omega
      · rw [v, v2]; exact d32.symm
      · rw [v, v2]; exact d42.symm
      · rw [v, v2]; exact d52.symm
    · rcases bx_cases (B := B) (n := 6 * i) (a0 := a0) (a1 := a1) (a2 := a2) (a3 := a3) (a4 := a4) (a5 := a5) (x := y) (by omega) with ⟨u2, v2⟩ | ⟨u2, v2⟩ | ⟨u2, v2⟩ | ⟨u2, v2⟩ | ⟨u2, v2⟩ | ⟨u2, v2⟩ | ⟨u2, v2⟩
      · rw [v, v2]; exact (nB f3 u2).symm
      · rw [v, v2]; exact d30
      · rw [v, v2]; exact d31
      · rw [v, v2]; exact d32
      · omega
      · rw [v, v2]; exact d43.symm
      · rw [v, v2]; exact d53.symm
    · rcases bx_cases (B := B) (n := 6 * i) (a0 := a0) (a1 := a1) (a2 := a2) (a3 := a3) (a4 := a4) (a5 := a5) (x := y) (by omega) with ⟨u2, v2⟩ | ⟨u2, v2⟩ | ⟨u2, v2⟩ | ⟨u2, v2⟩ | ⟨u2, v2⟩ | ⟨u2, v2⟩ | ⟨u2, v2⟩
      · rw [v, v2]; exact (nB f4 u2).symm
      · rw [v, v2]; exact d40
      · rw [v, v2]; exact d41
      · rw [v, v2]; exact d42
      · rw [v, v2]; exact d43
      · omega
      · rw [v, v2]; exact d54.symm
    · rcases bx_cases (B := B) (n := 6 * i) (a0 := a0) (a1 := a1) (a2 := a2) (a3 := a3) (a4 := a4) (a5 := a5) (x := y) (by omega) with ⟨u2, v2⟩ | ⟨u2, v2⟩ | ⟨u2, v2⟩ | ⟨u2, v2⟩ | ⟨u2, v2⟩ | ⟨u2, v2⟩ | ⟨u2, v2⟩
      · rw [v, v2]; exact (nB f5 u2).symm
      · rw [v, v2]; exact d50
      · rw [v, v2]; exact d51
      · rw [v, v2]; exact d52
      · rw [v, v2]; exact d53
      · rw [v, v2]; exact d54
      · omega
  · intro x hx
    rcases bx_cases (B := B) (n := 6 * i) (a0 := a0) (a1 := a1) (a2 := a2) (a3 := a3) (a4 := a4) (a5 := a5) (x := x) (by omega) with ⟨u, v⟩ | ⟨u, v⟩ | ⟨u, v⟩ | ⟨u, v⟩ | ⟨u, v⟩ | ⟨u, v⟩ | ⟨u, v⟩
    · rw [v]; exact h4 x u
    · rw [v]; exact ⟨n1 f0, ne f0⟩
    · rw [v]; exact ⟨n1 f1, ne f1⟩
    · rw [v]; exact ⟨n1 f2, ne f2⟩
    · rw [v]; exact ⟨n1 f3, ne f3⟩
    · rw [v]; exact ⟨n1 f4, ne f4⟩
    · rw [v]; exact ⟨n1 f5, ne f5⟩
  · intro a ha hx
    have e0 := hx (6 * i) (by omega)
    have e1 := hx (6 * i + 1) (by omega)
    have e2 := hx (6 * i + 2) (by omega)
    have e3 := hx (6 * i + 3) (by omega)
    have e4 := hx (6 * i + 4) (by omega)
    have e5 := hx (6 * i + 5) (by omega)
    rw [bx_0] at e0
    rw [bx_1] at e1
    rw [bx_2] at e2
    rw [bx_3] at e3
    rw [bx_4] at e4
    rw [bx_5] at e5
    rw [ho a ha e0 e1 e2 e3 e4 e5]
    exact h5 a ha (fun x hx2 => by have := hx x (by omega); rw [bx_b hx2] at this; exact this)

def PI_ (G : mg_) (o : Nat) (M M' : mw_) : Prop := ∃ A : Nat → Nat, A 0 = o ∧ (∀ i j, i < 125 → j < 125 → i ≠ j → A i ≠ A j) ∧ (∀ i, 0 < i → i < 125 → M (A i) = none) ∧ (∀ a, (∀ i, i < 125 → a ≠ A i) → M' a = M a) ∧ PX_ G A 0 0 0 [] (fun _ => []) 0 0 0 0 0 (fun _ => 0) (fun _ => 0) (fun _ => 0) (fun _ => 0) (fun _ => 0) (fun _ => 0) (fun _ => 0) (fun _ => 0) (fun _ => 0) (fun _ => 0) (fun _ => 0) (fun _ => 0) (fun _ => 0) (fun _ _ => 0) (fun _ _ => 0) (fun _ _ => 0) (fun _ _ => 0) M'

set_option maxHeartbeats 4000000 in
set_option maxRecDepth 100000 in
theorem c_P_init (l : Launch) {G : mg_} {M : mw_} {o : Nat}  (h_o : M o = some (ob_ 5 [.null, .null, .null, .null, .null, .null, .null, .null, .int (nI 0), .int (nI 0), .int (nI 0)]))   : ct_ l my_P_init cd_P_init 2 none { frames := 3, cells := 124, slots := 760, locals := 56 } G [.ref o] M (fun v0 M' => v0 = none ∧ PI_ G o M M') 124 760 := by
  refine ct_.intro2 (by decide) (Nat.le_of_ble_eq_true rfl) ?_
  intro p e s m args below meth c ls R Q hR hQ C0 hl hM hS
  have hx := C0.1
  have hb := C0.2.1
  have hl : lv_has ls 2 [(0, .ref o)] := hl
  refine lv_aload_n hx hb dd_P_init_0 rfl (lv_at hl 0 rfl) ?_
  refine mr_objInit C0 tw_15 hl.1 (by subst hR; decide) (by subst hR; decide) dd_P_init_1 ?_
  refine lv_aload_n hx hb dd_P_init_4 rfl (lv_at hl 0 rfl) ?_
  refine mr_newoF (ci := 4) (fs := [.null]) C0 hM hS rfl ly_S ok_S tw_18 tw_19 tw_2 (fun j hj => by match j, hj with | 0, _ => rfl) (by subst hR; exact Nat.le_of_ble_eq_true rfl) (by subst hR; exact Nat.le_of_ble_eq_true rfl) dd_P_init_5 (fun y1 H hf hM hS => ?_)
  have fr_y1 := hf
  have ne_y1_o := ne_fr fr_y1 h_o
  have hM : mm_ G (mu_ M y1 (ob_ 4 [.null])) H := hM
  refine lv_dup hx hb dd_P_init_8 rfl ?_
  refine mr_callI (As := []) (rest := [.ref y1, .ref o]) C0 hM hS tw_22 C0.2.2.2.2.2.2.2.1.2.1 tw_2 tw_21 ⟨by decide, by decide, by decide +kernel⟩ rfl (c_S_init l mu_s) rfl rfl hl.1 (Nat.le_of_ble_eq_true rfl) rfl rfl (by subst hR; exact ⟨Nat.le_of_ble_eq_true rfl, Nat.le_of_ble_eq_true rfl⟩) (by subst hR; exact ⟨Nat.le_of_ble_eq_true rfl, Nat.le_of_ble_eq_true rfl⟩) dd_P_init_9 (fun v1 M1 H locs hp hM hS => ?_)
  obtain ⟨ev1, y2, hf_y2, eM1⟩ := hp
  subst ev1
  rw [eM1] at hM
  have hf := hf_y2
  obtain ⟨ne_y2_y1, hf⟩ := mu_fr hf
  have fr_y2 := hf
  have ne_y2_o := ne_fr fr_y2 h_o
  have hM := mr_M (mu_c2 (Ne.symm ne_y2_y1)) hM
  have hM : mm_ G (mu_ (mu_ M y1 (ob_ 4 [.ref y2])) y2 (ia_ G 64 (fun _ => 0))) H := hM
  refine W.eq (g2 := F0 m 12 ls [.ref y1, .ref o]) rfl ?_
  refine mr_putF C0 hM hS fk_P_10 fp_P_10 (mu_n' (Ne.symm ne_y2_o) (mu_n' (Ne.symm ne_y1_o) h_o)) rfl rfl rfl (rfl) (rfl) (Nat.le_of_ble_eq_true rfl) dd_P_init_12 (fun H locs hM hS => ?_)
  have hM : mm_ G (mu_ (mu_ (mu_ M y1 (ob_ 4 [.ref y2])) y2 (ia_ G 64 (fun _ => 0))) o (ob_ 5 [.ref y1, .null, .null, .null, .null, .null, .null, .null, .int (nI 0), .int (nI 0), .int (nI 0)])) H := hM
  refine lv_aload_n hx hb dd_P_init_15 rfl (lv_at hl 0 rfl) ?_
  refine mr_newoF (ci := 2) (fs := [.null, .null, .null, .null, .null, .null, .null, .null, .null, .null, .long (lN 0)]) C0 hM hS rfl ly_R ok_R tw_29 tw_30 tw_3 (fun j hj => by match j, hj with | 0, _ => rfl | 1, _ => rfl | 2, _ => rfl | 3, _ => rfl | 4, _ => rfl | 5, _ => rfl | 6, _ => rfl | 7, _ => rfl | 8, _ => rfl | 9, _ => rfl | 10, _ => rfl) (by subst hR; exact Nat.le_of_ble_eq_true rfl) (by subst hR; exact Nat.le_of_ble_eq_true rfl) dd_P_init_16 (fun y3 H hf hM hS => ?_)
  obtain ⟨ne_y3_o, hf⟩ := mu_fr hf
  obtain ⟨ne_y3_y2, hf⟩ := mu_fr hf
  obtain ⟨ne_y3_y1, hf⟩ := mu_fr hf
  have fr_y3 := hf
  have hM : mm_ G (mu_ (mu_ (mu_ (mu_ M y1 (ob_ 4 [.ref y2])) y2 (ia_ G 64 (fun _ => 0))) o (ob_ 5 [.ref y1, .null, .null, .null, .null, .null, .null, .null, .int (nI 0), .int (nI 0), .int (nI 0)])) y3 (ob_ 2 [.null, .null, .null, .null, .null, .null, .null, .null, .null, .null, .long (lN 0)])) H := hM
  refine lv_dup hx hb dd_P_init_19 rfl ?_
  refine mr_callI (As := []) (rest := [.ref y3, .ref o]) C0 hM hS tw_33 C0.2.2.2.2.2.2.2.1.2.2.1 tw_3 tw_32 ⟨by decide, by decide, by decide +kernel⟩ rfl (c_R_init l mu_s) rfl rfl hl.1 (Nat.le_of_ble_eq_true rfl) rfl rfl (by subst hR; exact ⟨Nat.le_of_ble_eq_true rfl, Nat.le_of_ble_eq_true rfl⟩) (by subst hR; exact ⟨Nat.le_of_ble_eq_true rfl, Nat.le_of_ble_eq_true rfl⟩) dd_P_init_20 (fun v1 M1 H locs hp hM hS => ?_)
  obtain ⟨ev1, y4, y5, y6, y7, y8, y9, y10, y11, y12, y13, ⟨hf_y4, hf_y5, hf_y6, hf_y7, hf_y8, hf_y9, hf_y10, hf_y11, hf_y12, hf_y13, ne_y5_y4, ne_y6_y4, ne_y6_y5, ne_y7_y4, ne_y7_y5, ne_y7_y6, ne_y8_y4, ne_y8_y5, ne_y8_y6, ne_y8_y7, ne_y9_y4, ne_y9_y5, ne_y9_y6, ne_y9_y7, ne_y9_y8, ne_y10_y4, ne_y10_y5, ne_y10_y6, ne_y10_y7, ne_y10_y8, ne_y10_y9, ne_y11_y4, ne_y11_y5, ne_y11_y6, ne_y11_y7, ne_y11_y8, ne_y11_y9, ne_y11_y10, ne_y12_y4, ne_y12_y5, ne_y12_y6, ne_y12_y7, ne_y12_y8, ne_y12_y9, ne_y12_y10, ne_y12_y11, ne_y13_y4, ne_y13_y5, ne_y13_y6, ne_y13_y7, ne_y13_y8, ne_y13_y9, ne_y13_y10, ne_y13_y11, ne_y13_y12⟩, eM1⟩ := hp
  subst ev1
  rw [eM1] at hM
  have hf := hf_y4
  obtain ⟨ne_y4_y3, hf⟩ := mu_fr hf
  obtain ⟨ne_y4_o, hf⟩ := mu_fr hf
  obtain ⟨ne_y4_y2, hf⟩ := mu_fr hf
  obtain ⟨ne_y4_y1, hf⟩ := mu_fr hf
  have fr_y4 := hf
  have hf := hf_y5
  obtain ⟨ne_y5_y3, hf⟩ := mu_fr hf
  obtain ⟨ne_y5_o, hf⟩ := mu_fr hf
  obtain ⟨ne_y5_y2, hf⟩ := mu_fr hf
  obtain ⟨ne_y5_y1, hf⟩ := mu_fr hf
  have fr_y5 := hf
  have hf := hf_y6
  obtain ⟨ne_y6_y3, hf⟩ := mu_fr hf
  obtain ⟨ne_y6_o, hf⟩ := mu_fr hf
  obtain ⟨ne_y6_y2, hf⟩ := mu_fr hf
  obtain ⟨ne_y6_y1, hf⟩ := mu_fr hf
  have fr_y6 := hf
  have hf := hf_y7
  obtain ⟨ne_y7_y3, hf⟩ := mu_fr hf
  obtain ⟨ne_y7_o, hf⟩ := mu_fr hf
  obtain ⟨ne_y7_y2, hf⟩ := mu_fr hf
  obtain ⟨ne_y7_y1, hf⟩ := mu_fr hf
  have fr_y7 := hf
  have hf := hf_y8
  obtain ⟨ne_y8_y3, hf⟩ := mu_fr hf
  obtain ⟨ne_y8_o, hf⟩ := mu_fr hf
  obtain ⟨ne_y8_y2, hf⟩ := mu_fr hf
  obtain ⟨ne_y8_y1, hf⟩ := mu_fr hf
  have fr_y8 := hf
  have hf := hf_y9
  obtain ⟨ne_y9_y3, hf⟩ := mu_fr hf
  obtain ⟨ne_y9_o, hf⟩ := mu_fr hf
  obtain ⟨ne_y9_y2, hf⟩ := mu_fr hf
  obtain ⟨ne_y9_y1, hf⟩ := mu_fr hf
  have fr_y9 := hf
  have hf := hf_y10
  obtain ⟨ne_y10_y3, hf⟩ := mu_fr hf
  obtain ⟨ne_y10_o, hf⟩ := mu_fr hf
  obtain ⟨ne_y10_y2, hf⟩ := mu_fr hf
  obtain ⟨ne_y10_y1, hf⟩ := mu_fr hf
  have fr_y10 := hf
  have hf := hf_y11
  obtain ⟨ne_y11_y3, hf⟩ := mu_fr hf
  obtain ⟨ne_y11_o, hf⟩ := mu_fr hf
  obtain ⟨ne_y11_y2, hf⟩ := mu_fr hf
  obtain ⟨ne_y11_y1, hf⟩ := mu_fr hf
  have fr_y11 := hf
  have hf := hf_y12
  obtain ⟨ne_y12_y3, hf⟩ := mu_fr hf
  obtain ⟨ne_y12_o, hf⟩ := mu_fr hf
  obtain ⟨ne_y12_y2, hf⟩ := mu_fr hf
  obtain ⟨ne_y12_y1, hf⟩ := mu_fr hf
  have fr_y12 := hf
  have hf := hf_y13
  obtain ⟨ne_y13_y3, hf⟩ := mu_fr hf
  obtain ⟨ne_y13_o, hf⟩ := mu_fr hf
  obtain ⟨ne_y13_y2, hf⟩ := mu_fr hf
  obtain ⟨ne_y13_y1, hf⟩ := mu_fr hf
  have fr_y13 := hf
  have hM := mr_M (congrArg (fun X__ => mu_ X__ y13 (la_ G 4 (fun _ => 0))) (congrArg (fun X__ => mu_ X__ y12 (la_ G 4 (fun _ => 0))) (congrArg (fun X__ => mu_ X__ y11 (la_ G 4 (fun _ => 0))) (congrArg (fun X__ => mu_ X__ y10 (la_ G 6 (fun _ => 0))) (congrArg (fun X__ => mu_ X__ y9 (la_ G 4 (fun _ => 0))) (congrArg (fun X__ => mu_ X__ y8 (la_ G 4 (fun _ => 0))) (congrArg (fun X__ => mu_ X__ y7 (la_ G 4 (fun _ => 0))) (congrArg (fun X__ => mu_ X__ y6 (la_ G 4 (nl_ 1))) (congrArg (fun X__ => mu_ X__ y5 (la_ G 4 (fun _ => 0))) (mu_c2 (Ne.symm ne_y4_y3))))))))))) hM
  have hM : mm_ G (mu_ (mu_ (mu_ (mu_ (mu_ (mu_ (mu_ (mu_ (mu_ (mu_ (mu_ (mu_ (mu_ (mu_ M y1 (ob_ 4 [.ref y2])) y2 (ia_ G 64 (fun _ => 0))) o (ob_ 5 [.ref y1, .null, .null, .null, .null, .null, .null, .null, .int (nI 0), .int (nI 0), .int (nI 0)])) y3 (ob_ 2 [.ref y4, .ref y5, .ref y6, .ref y7, .ref y8, .ref y9, .ref y10, .ref y11, .ref y12, .ref y13, .long (lN 0)])) y4 (la_ G 4 (nl_ 3))) y5 (la_ G 4 (fun _ => 0))) y6 (la_ G 4 (nl_ 1))) y7 (la_ G 4 (fun _ => 0))) y8 (la_ G 4 (fun _ => 0))) y9 (la_ G 4 (fun _ => 0))) y10 (la_ G 6 (fun _ => 0))) y11 (la_ G 4 (fun _ => 0))) y12 (la_ G 4 (fun _ => 0))) y13 (la_ G 4 (fun _ => 0))) H := hM
  refine W.eq (g2 := F0 m 23 ls [.ref y3, .ref o]) rfl ?_
  refine mr_putF C0 hM hS fk_P_19 fp_P_19 (mu_n' (Ne.symm ne_y13_o) (mu_n' (Ne.symm ne_y12_o) (mu_n' (Ne.symm ne_y11_o) (mu_n' (Ne.symm ne_y10_o) (mu_n' (Ne.symm ne_y9_o) (mu_n' (Ne.symm ne_y8_o) (mu_n' (Ne.symm ne_y7_o) (mu_n' (Ne.symm ne_y6_o) (mu_n' (Ne.symm ne_y5_o) (mu_n' (Ne.symm ne_y4_o) (mu_n' (Ne.symm ne_y3_o) mu_s))))))))))) rfl rfl rfl (rfl) (rfl) (Nat.le_of_ble_eq_true rfl) dd_P_init_23 (fun H locs hM hS => ?_)
  have hM := mr_M (mu_c12 (Ne.symm ne_y3_o) (Ne.symm ne_y4_o) (Ne.symm ne_y5_o) (Ne.symm ne_y6_o) (Ne.symm ne_y7_o) (Ne.symm ne_y8_o) (Ne.symm ne_y9_o) (Ne.symm ne_y10_o) (Ne.symm ne_y11_o) (Ne.symm ne_y12_o) (Ne.symm ne_y13_o)) hM
  have hM : mm_ G (mu_ (mu_ (mu_ (mu_ (mu_ (mu_ (mu_ (mu_ (mu_ (mu_ (mu_ (mu_ (mu_ (mu_ M y1 (ob_ 4 [.ref y2])) y2 (ia_ G 64 (fun _ => 0))) o (ob_ 5 [.ref y1, .ref y3, .null, .null, .null, .null, .null, .null, .int (nI 0), .int (nI 0), .int (nI 0)])) y3 (ob_ 2 [.ref y4, .ref y5, .ref y6, .ref y7, .ref y8, .ref y9, .ref y10, .ref y11, .ref y12, .ref y13, .long (lN 0)])) y4 (la_ G 4 (nl_ 3))) y5 (la_ G 4 (fun _ => 0))) y6 (la_ G 4 (nl_ 1))) y7 (la_ G 4 (fun _ => 0))) y8 (la_ G 4 (fun _ => 0))) y9 (la_ G 4 (fun _ => 0))) y10 (la_ G 6 (fun _ => 0))) y11 (la_ G 4 (fun _ => 0))) y12 (la_ G 4 (fun _ => 0))) y13 (la_ G 4 (fun _ => 0))) H := hM
  refine lv_aload_n hx hb dd_P_init_26 rfl (lv_at hl 0 rfl) ?_
  refine mr_newoF (ci := 3) (fs := [.null, .null, .int (nI 0)]) C0 hM hS rfl ly_T ok_T tw_73 tw_74 tw_4 (fun j hj => by match j, hj with | 0, _ => rfl | 1, _ => rfl | 2, _ => rfl) (by subst hR; exact Nat.le_of_ble_eq_true rfl) (by subst hR; exact Nat.le_of_ble_eq_true rfl) dd_P_init_27 (fun y14 H hf hM hS => ?_)
  obtain ⟨ne_y14_y13, hf⟩ := mu_fr hf
  obtain ⟨ne_y14_y12, hf⟩ := mu_fr hf
  obtain ⟨ne_y14_y11, hf⟩ := mu_fr hf
  obtain ⟨ne_y14_y10, hf⟩ := mu_fr hf
  obtain ⟨ne_y14_y9, hf⟩ := mu_fr hf
  obtain ⟨ne_y14_y8, hf⟩ := mu_fr hf
  obtain ⟨ne_y14_y7, hf⟩ := mu_fr hf
  obtain ⟨ne_y14_y6, hf⟩ := mu_fr hf
  obtain ⟨ne_y14_y5, hf⟩ := mu_fr hf
  obtain ⟨ne_y14_y4, hf⟩ := mu_fr hf
  obtain ⟨ne_y14_y3, hf⟩ := mu_fr hf
  obtain ⟨ne_y14_o, hf⟩ := mu_fr hf
  obtain ⟨ne_y14_y2, hf⟩ := mu_fr hf
  obtain ⟨ne_y14_y1, hf⟩ := mu_fr hf
  have fr_y14 := hf
  have hM : mm_ G (mu_ (mu_ (mu_ (mu_ (mu_ (mu_ (mu_ (mu_ (mu_ (mu_ (mu_ (mu_ (mu_ (mu_ (mu_ M y1 (ob_ 4 [.ref y2])) y2 (ia_ G 64 (fun _ => 0))) o (ob_ 5 [.ref y1, .ref y3, .null, .null, .null, .null, .null, .null, .int (nI 0), .int (nI 0), .int (nI 0)])) y3 (ob_ 2 [.ref y4, .ref y5, .ref y6, .ref y7, .ref y8, .ref y9, .ref y10, .ref y11, .ref y12, .ref y13, .long (lN 0)])) y4 (la_ G 4 (nl_ 3))) y5 (la_ G 4 (fun _ => 0))) y6 (la_ G 4 (nl_ 1))) y7 (la_ G 4 (fun _ => 0))) y8 (la_ G 4 (fun _ => 0))) y9 (la_ G 4 (fun _ => 0))) y10 (la_ G 6 (fun _ => 0))) y11 (la_ G 4 (fun _ => 0))) y12 (la_ G 4 (fun _ => 0))) y13 (la_ G 4 (fun _ => 0))) y14 (ob_ 3 [.null, .null, .int (nI 0)])) H := hM
  refine lv_dup hx hb dd_P_init_30 rfl ?_
  refine mr_callI (As := []) (rest := [.ref y14, .ref o]) C0 hM hS tw_77 C0.2.2.2.2.2.2.2.1.2.2.2.1 tw_4 tw_76 ⟨by decide, by decide, by decide +kernel⟩ rfl (c_T_init l mu_s) rfl rfl hl.1 (Nat.le_of_ble_eq_true rfl) rfl rfl (by subst hR; exact ⟨Nat.le_of_ble_eq_true rfl, Nat.le_of_ble_eq_true rfl⟩) (by subst hR; exact ⟨Nat.le_of_ble_eq_true rfl, Nat.le_of_ble_eq_true rfl⟩) dd_P_init_31 (fun v1 M1 H locs hp hM hS => ?_)
  obtain ⟨ev1, y15, y16, ⟨hf_y15, hf_y16, ne_y16_y15⟩, eM1⟩ := hp
  subst ev1
  rw [eM1] at hM
  have hf := hf_y15
  obtain ⟨ne_y15_y14, hf⟩ := mu_fr hf
  obtain ⟨ne_y15_y13, hf⟩ := mu_fr hf
  obtain ⟨ne_y15_y12, hf⟩ := mu_fr hf
  obtain ⟨ne_y15_y11, hf⟩ := mu_fr hf
  obtain ⟨ne_y15_y10, hf⟩ := mu_fr hf
  obtain ⟨ne_y15_y9, hf⟩ := mu_fr hf
  obtain ⟨ne_y15_y8, hf⟩ := mu_fr hf
  obtain ⟨ne_y15_y7, hf⟩ := mu_fr hf
  obtain ⟨ne_y15_y6, hf⟩ := mu_fr hf
  obtain ⟨ne_y15_y5, hf⟩ := mu_fr hf
  obtain ⟨ne_y15_y4, hf⟩ := mu_fr hf
  obtain ⟨ne_y15_y3, hf⟩ := mu_fr hf
  obtain ⟨ne_y15_o, hf⟩ := mu_fr hf
  obtain ⟨ne_y15_y2, hf⟩ := mu_fr hf
  obtain ⟨ne_y15_y1, hf⟩ := mu_fr hf
  have fr_y15 := hf
  have hf := hf_y16
  obtain ⟨ne_y16_y14, hf⟩ := mu_fr hf
  obtain ⟨ne_y16_y13, hf⟩ := mu_fr hf
  obtain ⟨ne_y16_y12, hf⟩ := mu_fr hf
  obtain ⟨ne_y16_y11, hf⟩ := mu_fr hf
  obtain ⟨ne_y16_y10, hf⟩ := mu_fr hf
  obtain ⟨ne_y16_y9, hf⟩ := mu_fr hf
  obtain ⟨ne_y16_y8, hf⟩ := mu_fr hf
  obtain ⟨ne_y16_y7, hf⟩ := mu_fr hf
  obtain ⟨ne_y16_y6, hf⟩ := mu_fr hf
  obtain ⟨ne_y16_y5, hf⟩ := mu_fr hf
  obtain ⟨ne_y16_y4, hf⟩ := mu_fr hf
  obtain ⟨ne_y16_y3, hf⟩ := mu_fr hf
  obtain ⟨ne_y16_o, hf⟩ := mu_fr hf
  obtain ⟨ne_y16_y2, hf⟩ := mu_fr hf
  obtain ⟨ne_y16_y1, hf⟩ := mu_fr hf
  have fr_y16 := hf
  have hM := mr_M (congrArg (fun X__ => mu_ X__ y16 (ia_ G 10 (fun _ => 0))) (mu_c2 (Ne.symm ne_y15_y14))) hM
  have hM : mm_ G (mu_ (mu_ (mu_ (mu_ (mu_ (mu_ (mu_ (mu_ (mu_ (mu_ (mu_ (mu_ (mu_ (mu_ (mu_ (mu_ (mu_ M y1 (ob_ 4 [.ref y2])) y2 (ia_ G 64 (fun _ => 0))) o (ob_ 5 [.ref y1, .ref y3, .null, .null, .null, .null, .null, .null, .int (nI 0), .int (nI 0), .int (nI 0)])) y3 (ob_ 2 [.ref y4, .ref y5, .ref y6, .ref y7, .ref y8, .ref y9, .ref y10, .ref y11, .ref y12, .ref y13, .long (lN 0)])) y4 (la_ G 4 (nl_ 3))) y5 (la_ G 4 (fun _ => 0))) y6 (la_ G 4 (nl_ 1))) y7 (la_ G 4 (fun _ => 0))) y8 (la_ G 4 (fun _ => 0))) y9 (la_ G 4 (fun _ => 0))) y10 (la_ G 6 (fun _ => 0))) y11 (la_ G 4 (fun _ => 0))) y12 (la_ G 4 (fun _ => 0))) y13 (la_ G 4 (fun _ => 0))) y14 (ob_ 3 [.ref y15, .ref y16, .int (nI 0)])) y15 (la_ G 10 (fun _ => 0))) y16 (ia_ G 10 (fun _ => 0))) H := hM
  refine W.eq (g2 := F0 m 34 ls [.ref y14, .ref o]) rfl ?_
  refine mr_putF C0 hM hS fk_P_26 fp_P_26 (mu_n' (Ne.symm ne_y16_o) (mu_n' (Ne.symm ne_y15_o) (mu_n' (Ne.symm ne_y14_o) (mu_n' (Ne.symm ne_y13_o) (mu_n' (Ne.symm ne_y12_o) (mu_n' (Ne.symm ne_y11_o) (mu_n' (Ne.symm ne_y10_o) (mu_n' (Ne.symm ne_y9_o) (mu_n' (Ne.symm ne_y8_o) (mu_n' (Ne.symm ne_y7_o) (mu_n' (Ne.symm ne_y6_o) (mu_n' (Ne.symm ne_y5_o) (mu_n' (Ne.symm ne_y4_o) (mu_n' (Ne.symm ne_y3_o) mu_s)))))))))))))) rfl rfl rfl (rfl) (rfl) (Nat.le_of_ble_eq_true rfl) dd_P_init_34 (fun H locs hM hS => ?_)
  have hM := mr_M (mu_c15 (Ne.symm ne_y3_o) (Ne.symm ne_y4_o) (Ne.symm ne_y5_o) (Ne.symm ne_y6_o) (Ne.symm ne_y7_o) (Ne.symm ne_y8_o) (Ne.symm ne_y9_o) (Ne.symm ne_y10_o) (Ne.symm ne_y11_o) (Ne.symm ne_y12_o) (Ne.symm ne_y13_o) (Ne.symm ne_y14_o) (Ne.symm ne_y15_o) (Ne.symm ne_y16_o)) hM
  have hM : mm_ G (mu_ (mu_ (mu_ (mu_ (mu_ (mu_ (mu_ (mu_ (mu_ (mu_ (mu_ (mu_ (mu_ (mu_ (mu_ (mu_ (mu_ M y1 (ob_ 4 [.ref y2])) y2 (ia_ G 64 (fun _ => 0))) o (ob_ 5 [.ref y1, .ref y3, .ref y14, .null, .null, .null, .null, .null, .int (nI 0), .int (nI 0), .int (nI 0)])) y3 (ob_ 2 [.ref y4, .ref y5, .ref y6, .ref y7, .ref y8, .ref y9, .ref y10, .ref y11, .ref y12, .ref y13, .long (lN 0)])) y4 (la_ G 4 (nl_ 3))) y5 (la_ G 4 (fun _ => 0))) y6 (la_ G 4 (nl_ 1))) y7 (la_ G 4 (fun _ => 0))) y8 (la_ G 4 (fun _ => 0))) y9 (la_ G 4 (fun _ => 0))) y10 (la_ G 6 (fun _ => 0))) y11 (la_ G 4 (fun _ => 0))) y12 (la_ G 4 (fun _ => 0))) y13 (la_ G 4 (fun _ => 0))) y14 (ob_ 3 [.ref y15, .ref y16, .int (nI 0)])) y15 (la_ G 10 (fun _ => 0))) y16 (ia_ G 10 (fun _ => 0))) H := hM
  refine lv_aload_n hx hb dd_P_init_37 rfl (lv_at hl 0 rfl) ?_
  refine lv_bipush (v := nI 17) hx hb dd_P_init_38 (by decide) ?_
  refine mr_newqF C0 hM hS tw_90 17 rfl (by decide) (by subst hR; exact Nat.le_of_ble_eq_true rfl) (by subst hR; exact Nat.le_of_ble_eq_true rfl) dd_P_init_40 (fun y17 H hf hM hS => ?_)
  obtain ⟨ne_y17_y16, hf⟩ := mu_fr hf
  obtain ⟨ne_y17_y15, hf⟩ := mu_fr hf
  obtain ⟨ne_y17_y14, hf⟩ := mu_fr hf
  obtain ⟨ne_y17_y13, hf⟩ := mu_fr hf
  obtain ⟨ne_y17_y12, hf⟩ := mu_fr hf
  obtain ⟨ne_y17_y11, hf⟩ := mu_fr hf
  obtain ⟨ne_y17_y10, hf⟩ := mu_fr hf
  obtain ⟨ne_y17_y9, hf⟩ := mu_fr hf
  obtain ⟨ne_y17_y8, hf⟩ := mu_fr hf
  obtain ⟨ne_y17_y7, hf⟩ := mu_fr hf
  obtain ⟨ne_y17_y6, hf⟩ := mu_fr hf
  obtain ⟨ne_y17_y5, hf⟩ := mu_fr hf
  obtain ⟨ne_y17_y4, hf⟩ := mu_fr hf
  obtain ⟨ne_y17_y3, hf⟩ := mu_fr hf
  obtain ⟨ne_y17_o, hf⟩ := mu_fr hf
  obtain ⟨ne_y17_y2, hf⟩ := mu_fr hf
  obtain ⟨ne_y17_y1, hf⟩ := mu_fr hf
  have fr_y17 := hf
  have hM : mm_ G (mu_ (mu_ (mu_ (mu_ (mu_ (mu_ (mu_ (mu_ (mu_ (mu_ (mu_ (mu_ (mu_ (mu_ (mu_ (mu_ (mu_ (mu_ M y1 (ob_ 4 [.ref y2])) y2 (ia_ G 64 (fun _ => 0))) o (ob_ 5 [.ref y1, .ref y3, .ref y14, .null, .null, .null, .null, .null, .int (nI 0), .int (nI 0), .int (nI 0)])) y3 (ob_ 2 [.ref y4, .ref y5, .ref y6, .ref y7, .ref y8, .ref y9, .ref y10, .ref y11, .ref y12, .ref y13, .long (lN 0)])) y4 (la_ G 4 (nl_ 3))) y5 (la_ G 4 (fun _ => 0))) y6 (la_ G 4 (nl_ 1))) y7 (la_ G 4 (fun _ => 0))) y8 (la_ G 4 (fun _ => 0))) y9 (la_ G 4 (fun _ => 0))) y10 (la_ G 6 (fun _ => 0))) y11 (la_ G 4 (fun _ => 0))) y12 (la_ G 4 (fun _ => 0))) y13 (la_ G 4 (fun _ => 0))) y14 (ob_ 3 [.ref y15, .ref y16, .int (nI 0)])) y15 (la_ G 10 (fun _ => 0))) y16 (ia_ G 10 (fun _ => 0))) y17 (qa_ G 17 (fun _ => none))) H := hM
  refine mr_putF C0 hM hS fk_P_32 fp_P_32 (mu_n' (Ne.symm ne_y17_o) (mu_n' (Ne.symm ne_y16_o) (mu_n' (Ne.symm ne_y15_o) (mu_n' (Ne.symm ne_y14_o) (mu_n' (Ne.symm ne_y13_o) (mu_n' (Ne.symm ne_y12_o) (mu_n' (Ne.symm ne_y11_o) (mu_n' (Ne.symm ne_y10_o) (mu_n' (Ne.symm ne_y9_o) (mu_n' (Ne.symm ne_y8_o) (mu_n' (Ne.symm ne_y7_o) (mu_n' (Ne.symm ne_y6_o) (mu_n' (Ne.symm ne_y5_o) (mu_n' (Ne.symm ne_y4_o) (mu_n' (Ne.symm ne_y3_o) mu_s))))))))))))))) rfl rfl rfl (rfl) (rfl) (Nat.le_of_ble_eq_true rfl) dd_P_init_43 (fun H locs hM hS => ?_)
  have hM := mr_M (mu_c16 (Ne.symm ne_y3_o) (Ne.symm ne_y4_o) (Ne.symm ne_y5_o) (Ne.symm ne_y6_o) (Ne.symm ne_y7_o) (Ne.symm ne_y8_o) (Ne.symm ne_y9_o) (Ne.symm ne_y10_o) (Ne.symm ne_y11_o) (Ne.symm ne_y12_o) (Ne.symm ne_y13_o) (Ne.symm ne_y14_o) (Ne.symm ne_y15_o) (Ne.symm ne_y16_o) (Ne.symm ne_y17_o)) hM
  have hM : mm_ G (mu_ (mu_ (mu_ (mu_ (mu_ (mu_ (mu_ (mu_ (mu_ (mu_ (mu_ (mu_ (mu_ (mu_ (mu_ (mu_ (mu_ (mu_ M y1 (ob_ 4 [.ref y2])) y2 (ia_ G 64 (fun _ => 0))) o (ob_ 5 [.ref y1, .ref y3, .ref y14, .ref y17, .null, .null, .null, .null, .int (nI 0), .int (nI 0), .int (nI 0)])) y3 (ob_ 2 [.ref y4, .ref y5, .ref y6, .ref y7, .ref y8, .ref y9, .ref y10, .ref y11, .ref y12, .ref y13, .long (lN 0)])) y4 (la_ G 4 (nl_ 3))) y5 (la_ G 4 (fun _ => 0))) y6 (la_ G 4 (nl_ 1))) y7 (la_ G 4 (fun _ => 0))) y8 (la_ G 4 (fun _ => 0))) y9 (la_ G 4 (fun _ => 0))) y10 (la_ G 6 (fun _ => 0))) y11 (la_ G 4 (fun _ => 0))) y12 (la_ G 4 (fun _ => 0))) y13 (la_ G 4 (fun _ => 0))) y14 (ob_ 3 [.ref y15, .ref y16, .int (nI 0)])) y15 (la_ G 10 (fun _ => 0))) y16 (ia_ G 10 (fun _ => 0))) y17 (qa_ G 17 (fun _ => none))) H := hM
  refine lv_iconst (v := nI 0) hx hb dd_P_init_46 (by decide) ?_
  obtain ⟨M1, eM1⟩ : ∃ Z : mw_, Z = mu_ (mu_ (mu_ (mu_ (mu_ (mu_ (mu_ (mu_ (mu_ (mu_ (mu_ (mu_ (mu_ (mu_ (mu_ (mu_ (mu_ (mu_ M y1 (ob_ 4 [.ref y2])) y2 (ia_ G 64 (fun _ => 0))) o (ob_ 5 [.ref y1, .ref y3, .ref y14, .ref y17, .null, .null, .null, .null, .int (nI 0), .int (nI 0), .int (nI 0)])) y3 (ob_ 2 [.ref y4, .ref y5, .ref y6, .ref y7, .ref y8, .ref y9, .ref y10, .ref y11, .ref y12, .ref y13, .long (lN 0)])) y4 (la_ G 4 (nl_ 3))) y5 (la_ G 4 (fun _ => 0))) y6 (la_ G 4 (nl_ 1))) y7 (la_ G 4 (fun _ => 0))) y8 (la_ G 4 (fun _ => 0))) y9 (la_ G 4 (fun _ => 0))) y10 (la_ G 6 (fun _ => 0))) y11 (la_ G 4 (fun _ => 0))) y12 (la_ G 4 (fun _ => 0))) y13 (la_ G 4 (fun _ => 0))) y14 (ob_ 3 [.ref y15, .ref y16, .int (nI 0)])) y15 (la_ G 10 (fun _ => 0))) y16 (ia_ G 10 (fun _ => 0))) y17 (qa_ G 17 (fun _ => none)) := ⟨_, rfl⟩
  rw [← eM1] at hM
  have j_o : M1 o = some (ob_ 5 [.ref y1, .ref y3, .ref y14, .ref y17, .null, .null, .null, .null, .int (nI 0), .int (nI 0), .int (nI 0)]) := by rw [eM1]; exact (mu_n' (Ne.symm ne_y17_o) (mu_n' (Ne.symm ne_y16_o) (mu_n' (Ne.symm ne_y15_o) (mu_n' (Ne.symm ne_y14_o) (mu_n' (Ne.symm ne_y13_o) (mu_n' (Ne.symm ne_y12_o) (mu_n' (Ne.symm ne_y11_o) (mu_n' (Ne.symm ne_y10_o) (mu_n' (Ne.symm ne_y9_o) (mu_n' (Ne.symm ne_y8_o) (mu_n' (Ne.symm ne_y7_o) (mu_n' (Ne.symm ne_y6_o) (mu_n' (Ne.symm ne_y5_o) (mu_n' (Ne.symm ne_y4_o) (mu_n' (Ne.symm ne_y3_o) mu_s)))))))))))))))
  have j_y1 : M1 y1 = some (ob_ 4 [.ref y2]) := by rw [eM1]; exact (mu_n' (Ne.symm ne_y17_y1) (mu_n' (Ne.symm ne_y16_y1) (mu_n' (Ne.symm ne_y15_y1) (mu_n' (Ne.symm ne_y14_y1) (mu_n' (Ne.symm ne_y13_y1) (mu_n' (Ne.symm ne_y12_y1) (mu_n' (Ne.symm ne_y11_y1) (mu_n' (Ne.symm ne_y10_y1) (mu_n' (Ne.symm ne_y9_y1) (mu_n' (Ne.symm ne_y8_y1) (mu_n' (Ne.symm ne_y7_y1) (mu_n' (Ne.symm ne_y6_y1) (mu_n' (Ne.symm ne_y5_y1) (mu_n' (Ne.symm ne_y4_y1) (mu_n' (Ne.symm ne_y3_y1) (mu_n' ne_y1_o (mu_n' (Ne.symm ne_y2_y1) mu_s)))))))))))))))))
  have j_y2 : M1 y2 = some (ia_ G 64 (fun _ => 0)) := by rw [eM1]; exact (mu_n' (Ne.symm ne_y17_y2) (mu_n' (Ne.symm ne_y16_y2) (mu_n' (Ne.symm ne_y15_y2) (mu_n' (Ne.symm ne_y14_y2) (mu_n' (Ne.symm ne_y13_y2) (mu_n' (Ne.symm ne_y12_y2) (mu_n' (Ne.symm ne_y11_y2) (mu_n' (Ne.symm ne_y10_y2) (mu_n' (Ne.symm ne_y9_y2) (mu_n' (Ne.symm ne_y8_y2) (mu_n' (Ne.symm ne_y7_y2) (mu_n' (Ne.symm ne_y6_y2) (mu_n' (Ne.symm ne_y5_y2) (mu_n' (Ne.symm ne_y4_y2) (mu_n' (Ne.symm ne_y3_y2) (mu_n' ne_y2_o mu_s))))))))))))))))
  have j_y3 : M1 y3 = some (ob_ 2 [.ref y4, .ref y5, .ref y6, .ref y7, .ref y8, .ref y9, .ref y10, .ref y11, .ref y12, .ref y13, .long (lN 0)]) := by rw [eM1]; exact (mu_n' (Ne.symm ne_y17_y3) (mu_n' (Ne.symm ne_y16_y3) (mu_n' (Ne.symm ne_y15_y3) (mu_n' (Ne.symm ne_y14_y3) (mu_n' (Ne.symm ne_y13_y3) (mu_n' (Ne.symm ne_y12_y3) (mu_n' (Ne.symm ne_y11_y3) (mu_n' (Ne.symm ne_y10_y3) (mu_n' (Ne.symm ne_y9_y3) (mu_n' (Ne.symm ne_y8_y3) (mu_n' (Ne.symm ne_y7_y3) (mu_n' (Ne.symm ne_y6_y3) (mu_n' (Ne.symm ne_y5_y3) (mu_n' (Ne.symm ne_y4_y3) mu_s))))))))))))))
  have j_y4 : M1 y4 = some (la_ G 4 (nl_ 3)) := by rw [eM1]; exact (mu_n' (Ne.symm ne_y17_y4) (mu_n' (Ne.symm ne_y16_y4) (mu_n' (Ne.symm ne_y15_y4) (mu_n' (Ne.symm ne_y14_y4) (mu_n' (Ne.symm ne_y13_y4) (mu_n' (Ne.symm ne_y12_y4) (mu_n' (Ne.symm ne_y11_y4) (mu_n' (Ne.symm ne_y10_y4) (mu_n' (Ne.symm ne_y9_y4) (mu_n' (Ne.symm ne_y8_y4) (mu_n' (Ne.symm ne_y7_y4) (mu_n' (Ne.symm ne_y6_y4) (mu_n' (Ne.symm ne_y5_y4) mu_s)))))))))))))
  have j_y5 : M1 y5 = some (la_ G 4 (fun _ => 0)) := by rw [eM1]; exact (mu_n' (Ne.symm ne_y17_y5) (mu_n' (Ne.symm ne_y16_y5) (mu_n' (Ne.symm ne_y15_y5) (mu_n' (Ne.symm ne_y14_y5) (mu_n' (Ne.symm ne_y13_y5) (mu_n' (Ne.symm ne_y12_y5) (mu_n' (Ne.symm ne_y11_y5) (mu_n' (Ne.symm ne_y10_y5) (mu_n' (Ne.symm ne_y9_y5) (mu_n' (Ne.symm ne_y8_y5) (mu_n' (Ne.symm ne_y7_y5) (mu_n' (Ne.symm ne_y6_y5) mu_s))))))))))))
  have j_y6 : M1 y6 = some (la_ G 4 (nl_ 1)) := by rw [eM1]; exact (mu_n' (Ne.symm ne_y17_y6) (mu_n' (Ne.symm ne_y16_y6) (mu_n' (Ne.symm ne_y15_y6) (mu_n' (Ne.symm ne_y14_y6) (mu_n' (Ne.symm ne_y13_y6) (mu_n' (Ne.symm ne_y12_y6) (mu_n' (Ne.symm ne_y11_y6) (mu_n' (Ne.symm ne_y10_y6) (mu_n' (Ne.symm ne_y9_y6) (mu_n' (Ne.symm ne_y8_y6) (mu_n' (Ne.symm ne_y7_y6) mu_s)))))))))))
  have j_y7 : M1 y7 = some (la_ G 4 (fun _ => 0)) := by rw [eM1]; exact (mu_n' (Ne.symm ne_y17_y7) (mu_n' (Ne.symm ne_y16_y7) (mu_n' (Ne.symm ne_y15_y7) (mu_n' (Ne.symm ne_y14_y7) (mu_n' (Ne.symm ne_y13_y7) (mu_n' (Ne.symm ne_y12_y7) (mu_n' (Ne.symm ne_y11_y7) (mu_n' (Ne.symm ne_y10_y7) (mu_n' (Ne.symm ne_y9_y7) (mu_n' (Ne.symm ne_y8_y7) mu_s))))))))))
  have j_y8 : M1 y8 = some (la_ G 4 (fun _ => 0)) := by rw [eM1]; exact (mu_n' (Ne.symm ne_y17_y8) (mu_n' (Ne.symm ne_y16_y8) (mu_n' (Ne.symm ne_y15_y8) (mu_n' (Ne.symm ne_y14_y8) (mu_n' (Ne.symm ne_y13_y8) (mu_n' (Ne.symm ne_y12_y8) (mu_n' (Ne.symm ne_y11_y8) (mu_n' (Ne.symm ne_y10_y8) (mu_n' (Ne.symm ne_y9_y8) mu_s)))))))))
  have j_y9 : M1 y9 = some (la_ G 4 (fun _ => 0)) := by rw [eM1]; exact (mu_n' (Ne.symm ne_y17_y9) (mu_n' (Ne.symm ne_y16_y9) (mu_n' (Ne.symm ne_y15_y9) (mu_n' (Ne.symm ne_y14_y9) (mu_n' (Ne.symm ne_y13_y9) (mu_n' (Ne.symm ne_y12_y9) (mu_n' (Ne.symm ne_y11_y9) (mu_n' (Ne.symm ne_y10_y9) mu_s))))))))
  have j_y10 : M1 y10 = some (la_ G 6 (fun _ => 0)) := by rw [eM1]; exact (mu_n' (Ne.symm ne_y17_y10) (mu_n' (Ne.symm ne_y16_y10) (mu_n' (Ne.symm ne_y15_y10) (mu_n' (Ne.symm ne_y14_y10) (mu_n' (Ne.symm ne_y13_y10) (mu_n' (Ne.symm ne_y12_y10) (mu_n' (Ne.symm ne_y11_y10) mu_s)))))))
  have j_y11 : M1 y11 = some (la_ G 4 (fun _ => 0)) := by rw [eM1]; exact (mu_n' (Ne.symm ne_y17_y11) (mu_n' (Ne.symm ne_y16_y11) (mu_n' (Ne.symm ne_y15_y11) (mu_n' (Ne.symm ne_y14_y11) (mu_n' (Ne.symm ne_y13_y11) (mu_n' (Ne.symm ne_y12_y11) mu_s))))))
  have j_y12 : M1 y12 = some (la_ G 4 (fun _ => 0)) := by rw [eM1]; exact (mu_n' (Ne.symm ne_y17_y12) (mu_n' (Ne.symm ne_y16_y12) (mu_n' (Ne.symm ne_y15_y12) (mu_n' (Ne.symm ne_y14_y12) (mu_n' (Ne.symm ne_y13_y12) mu_s)))))
  have j_y13 : M1 y13 = some (la_ G 4 (fun _ => 0)) := by rw [eM1]; exact (mu_n' (Ne.symm ne_y17_y13) (mu_n' (Ne.symm ne_y16_y13) (mu_n' (Ne.symm ne_y15_y13) (mu_n' (Ne.symm ne_y14_y13) mu_s))))
  have j_y14 : M1 y14 = some (ob_ 3 [.ref y15, .ref y16, .int (nI 0)]) := by rw [eM1]; exact (mu_n' (Ne.symm ne_y17_y14) (mu_n' (Ne.symm ne_y16_y14) (mu_n' (Ne.symm ne_y15_y14) mu_s)))
  have j_y15 : M1 y15 = some (la_ G 10 (fun _ => 0)) := by rw [eM1]; exact (mu_n' (Ne.symm ne_y17_y15) (mu_n' (Ne.symm ne_y16_y15) mu_s))
  have j_y16 : M1 y16 = some (ia_ G 10 (fun _ => 0)) := by rw [eM1]; exact (mu_n' (Ne.symm ne_y17_y16) mu_s)
  have j_y17 : M1 y17 = some (qa_ G 17 (fun _ => none)) := by rw [eM1]; exact mu_s
  have hfr1 : ∀ a, (∀ x ∈ ([o, y1, y2, y3, y4, y5, y6, y7, y8, y9, y10, y11, y12, y13, y14, y15, y16, y17] : List Nat), a ≠ x) → M1 a = M a := fun a ha => by rw [eM1]; exact (mu_n' (ha _ (List.mem_of_getElem? (i := 17) rfl)) (mu_n' (ha _ (List.mem_of_getElem? (i := 16) rfl)) (mu_n' (ha _ (List.mem_of_getElem? (i := 15) rfl)) (mu_n' (ha _ (List.mem_of_getElem? (i := 14) rfl)) (mu_n' (ha _ (List.mem_of_getElem? (i := 13) rfl)) (mu_n' (ha _ (List.mem_of_getElem? (i := 12) rfl)) (mu_n' (ha _ (List.mem_of_getElem? (i := 11) rfl)) (mu_n' (ha _ (List.mem_of_getElem? (i := 10) rfl)) (mu_n' (ha _ (List.mem_of_getElem? (i := 9) rfl)) (mu_n' (ha _ (List.mem_of_getElem? (i := 8) rfl)) (mu_n' (ha _ (List.mem_of_getElem? (i := 7) rfl)) (mu_n' (ha _ (List.mem_of_getElem? (i := 6) rfl)) (mu_n' (ha _ (List.mem_of_getElem? (i := 5) rfl)) (mu_n' (ha _ (List.mem_of_getElem? (i := 4) rfl)) (mu_n' (ha _ (List.mem_of_getElem? (i := 3) rfl)) (mu_n' (ha _ (List.mem_of_getElem? (i := 0) rfl)) (mu_n' (ha _ (List.mem_of_getElem? (i := 2) rfl)) (mu_n' (ha _ (List.mem_of_getElem? (i := 1) rfl)) rfl))))))))))))))))))
  refine lv_istore_n (lv' := [(1, .int (nI 0)), (0, .ref o)]) hx hb dd_P_init_47 rfl hl (by decide) rfl (fun ls hl => ?_)
  have loop_48 : ∀ (k : Nat) (i : Nat) (Mk : mw_) (B : Nat → Nat) (q : Nat → Option Nat) (H : Heap) (locs : List Loc) (ls : Array Slot), i + k = 17 → Mk o = some (ob_ 5 [.ref y1, .ref y3, .ref y14, .ref y17, .null, .null, .null, .null, .int (nI 0), .int (nI 0), .int (nI 0)]) → Mk y17 = some (qa_ G 17 q) → ES_ G M1 y17 i B q Mk → mm_ G (Mk) H → va_S (fz_ G) s.heap H locs → lv_has ls 2 [(0, .ref o), (1, .int (nI i))] → W p l e R s m args below meth c H locs (17 + 6 * i) (158 + 34 * i) Q (F0 m 48 ls []) := by
    intro k
    induction k with
    | zero =>
      intro i Mk B q H locs ls hi h_o h_ep hES hM hS hl
      refine lv_iload_n hx hb dd_P_init_48 rfl (lv_at hl 1 rfl) ?_
      refine lv_bipush (v := nI 16) hx hb dd_P_init_49 (by decide) ?_
      refine lv_icmp_gt (tgt := 73) hx hb dd_P_init_51 rfl (fun _ => ?_) (fun hc => absurd (lt_nI (a := 16) (b := i) (by omega) (by omega) (by omega)) hc)
      have hi17 : i = 17 := by omega
      subst hi17
      have hl : lv_has ls 2 [(0, .ref o)] := lv_sub hl [0] rfl
      have h_y1 := ES_old hES ((Ne.symm ne_y17_y1)) j_y1
      have h_y2 := ES_old hES ((Ne.symm ne_y17_y2)) j_y2
      have h_y3 := ES_old hES ((Ne.symm ne_y17_y3)) j_y3
      have h_y4 := ES_old hES ((Ne.symm ne_y17_y4)) j_y4
      have h_y5 := ES_old hES ((Ne.symm ne_y17_y5)) j_y5
      have h_y6 := ES_old hES ((Ne.symm ne_y17_y6)) j_y6
      have h_y7 := ES_old hES ((Ne.symm ne_y17_y7)) j_y7
      have h_y8 := ES_old hES ((Ne.symm ne_y17_y8)) j_y8
      have h_y9 := ES_old hES ((Ne.symm ne_y17_y9)) j_y9
      have h_y10 := ES_old hES ((Ne.symm ne_y17_y10)) j_y10
      have h_y11 := ES_old hES ((Ne.symm ne_y17_y11)) j_y11
      have h_y12 := ES_old hES ((Ne.symm ne_y17_y12)) j_y12
      have h_y13 := ES_old hES ((Ne.symm ne_y17_y13)) j_y13
      have h_y14 := ES_old hES ((Ne.symm ne_y17_y14)) j_y14
      have h_y15 := ES_old hES ((Ne.symm ne_y17_y15)) j_y15
      have h_y16 := ES_old hES ((Ne.symm ne_y17_y16)) j_y16
      refine lv_aload_n hx hb dd_P_init_73 rfl (lv_at hl 0 rfl) ?_
      refine lv_iconst (v := nI 4) hx hb dd_P_init_74 (by decide) ?_
      refine mr_newlF C0 hM hS 4 rfl (by decide) (by subst hR; exact Nat.le_of_ble_eq_true rfl) (by subst hR; exact Nat.le_of_ble_eq_true rfl) dd_P_init_75 (fun y18 H hf hM hS => ?_)
      have fr_y18 := hf
      have ne_y18_o := ne_fr fr_y18 h_o
      have ne_y18_y17 := ne_fr fr_y18 h_ep
      have ne_y18_y1 := ne_fr fr_y18 h_y1
      have ne_y18_y2 := ne_fr fr_y18 h_y2
      have ne_y18_y3 := ne_fr fr_y18 h_y3
      have ne_y18_y4 := ne_fr fr_y18 h_y4
      have ne_y18_y5 := ne_fr fr_y18 h_y5
      have ne_y18_y6 := ne_fr fr_y18 h_y6
      have ne_y18_y7 := ne_fr fr_y18 h_y7
      have ne_y18_y8 := ne_fr fr_y18 h_y8
      have ne_y18_y9 := ne_fr fr_y18 h_y9
      have ne_y18_y10 := ne_fr fr_y18 h_y10
      have ne_y18_y11 := ne_fr fr_y18 h_y11
      have ne_y18_y12 := ne_fr fr_y18 h_y12
      have ne_y18_y13 := ne_fr fr_y18 h_y13
      have ne_y18_y14 := ne_fr fr_y18 h_y14
      have ne_y18_y15 := ne_fr fr_y18 h_y15
      have ne_y18_y16 := ne_fr fr_y18 h_y16
      have hM : mm_ G (mu_ Mk y18 (la_ G 4 (fun _ => 0))) H := hM
      refine mr_putF C0 hM hS fk_P_37 fp_P_37 (mu_n' (Ne.symm ne_y18_o) h_o) rfl rfl rfl (rfl) (rfl) (Nat.le_of_ble_eq_true rfl) dd_P_init_77 (fun H locs hM hS => ?_)
      have hM : mm_ G (mu_ (mu_ Mk y18 (la_ G 4 (fun _ => 0))) o (ob_ 5 [.ref y1, .ref y3, .ref y14, .ref y17, .ref y18, .null, .null, .null, .int (nI 0), .int (nI 0), .int (nI 0)])) H := hM
      refine lv_aload_n hx hb dd_P_init_80 rfl (lv_at hl 0 rfl) ?_
      refine lv_iconst (v := nI 4) hx hb dd_P_init_81 (by decide) ?_
      refine mr_newlF C0 hM hS 4 rfl (by decide) (by subst hR; exact Nat.le_of_ble_eq_true rfl) (by subst hR; exact Nat.le_of_ble_eq_true rfl) dd_P_init_82 (fun y19 H hf hM hS => ?_)
      obtain ⟨ne_y19_o, hf⟩ := mu_fr hf
      obtain ⟨ne_y19_y18, hf⟩ := mu_fr hf
      have fr_y19 := hf
      have ne_y19_y17 := ne_fr fr_y19 h_ep
      have ne_y19_y1 := ne_fr fr_y19 h_y1
      have ne_y19_y2 := ne_fr fr_y19 h_y2
      have ne_y19_y3 := ne_fr fr_y19 h_y3
      have ne_y19_y4 := ne_fr fr_y19 h_y4
      have ne_y19_y5 := ne_fr fr_y19 h_y5
      have ne_y19_y6 := ne_fr fr_y19 h_y6
      have ne_y19_y7 := ne_fr fr_y19 h_y7
      have ne_y19_y8 := ne_fr fr_y19 h_y8
      have ne_y19_y9 := ne_fr fr_y19 h_y9
      have ne_y19_y10 := ne_fr fr_y19 h_y10
      have ne_y19_y11 := ne_fr fr_y19 h_y11
      have ne_y19_y12 := ne_fr fr_y19 h_y12
      have ne_y19_y13 := ne_fr fr_y19 h_y13
      have ne_y19_y14 := ne_fr fr_y19 h_y14
      have ne_y19_y15 := ne_fr fr_y19 h_y15
      have ne_y19_y16 := ne_fr fr_y19 h_y16
      have hM : mm_ G (mu_ (mu_ (mu_ Mk y18 (la_ G 4 (fun _ => 0))) o (ob_ 5 [.ref y1, .ref y3, .ref y14, .ref y17, .ref y18, .null, .null, .null, .int (nI 0), .int (nI 0), .int (nI 0)])) y19 (la_ G 4 (fun _ => 0))) H := hM
      refine mr_putF C0 hM hS fk_P_41 fp_P_41 (mu_n' (Ne.symm ne_y19_o) mu_s) rfl rfl rfl (rfl) (rfl) (Nat.le_of_ble_eq_true rfl) dd_P_init_84 (fun H locs hM hS => ?_)
      have hM := mr_M (mu_c2 (Ne.symm ne_y19_o)) hM
      have hM : mm_ G (mu_ (mu_ (mu_ Mk y18 (la_ G 4 (fun _ => 0))) o (ob_ 5 [.ref y1, .ref y3, .ref y14, .ref y17, .ref y18, .ref y19, .null, .null, .int (nI 0), .int (nI 0), .int (nI 0)])) y19 (la_ G 4 (fun _ => 0))) H := hM
      refine lv_aload_n hx hb dd_P_init_87 rfl (lv_at hl 0 rfl) ?_
      refine lv_iconst (v := nI 4) hx hb dd_P_init_88 (by decide) ?_
      refine mr_newlF C0 hM hS 4 rfl (by decide) (by subst hR; exact Nat.le_of_ble_eq_true rfl) (by subst hR; exact Nat.le_of_ble_eq_true rfl) dd_P_init_89 (fun y20 H hf hM hS => ?_)
      obtain ⟨ne_y20_y19, hf⟩ := mu_fr hf
      obtain ⟨ne_y20_o, hf⟩ := mu_fr hf
      obtain ⟨ne_y20_y18, hf⟩ := mu_fr hf
      have fr_y20 := hf
      have ne_y20_y17 := ne_fr fr_y20 h_ep
      have ne_y20_y1 := ne_fr fr_y20 h_y1
      have ne_y20_y2 := ne_fr fr_y20 h_y2
      have ne_y20_y3 := ne_fr fr_y20 h_y3
      have ne_y20_y4 := ne_fr fr_y20 h_y4
      have ne_y20_y5 := ne_fr fr_y20 h_y5
      have ne_y20_y6 := ne_fr fr_y20 h_y6
      have ne_y20_y7 := ne_fr fr_y20 h_y7
      have ne_y20_y8 := ne_fr fr_y20 h_y8
      have ne_y20_y9 := ne_fr fr_y20 h_y9
      have ne_y20_y10 := ne_fr fr_y20 h_y10
      have ne_y20_y11 := ne_fr fr_y20 h_y11
      have ne_y20_y12 := ne_fr fr_y20 h_y12
      have ne_y20_y13 := ne_fr fr_y20 h_y13
      have ne_y20_y14 := ne_fr fr_y20 h_y14
      have ne_y20_y15 := ne_fr fr_y20 h_y15
      have ne_y20_y16 := ne_fr fr_y20 h_y16
      have hM : mm_ G (mu_ (mu_ (mu_ (mu_ Mk y18 (la_ G 4 (fun _ => 0))) o (ob_ 5 [.ref y1, .ref y3, .ref y14, .ref y17, .ref y18, .ref y19, .null, .null, .int (nI 0), .int (nI 0), .int (nI 0)])) y19 (la_ G 4 (fun _ => 0))) y20 (la_ G 4 (fun _ => 0))) H := hM
      refine mr_putF C0 hM hS fk_P_44 fp_P_44 (mu_n' (Ne.symm ne_y20_o) (mu_n' (Ne.symm ne_y19_o) mu_s)) rfl rfl rfl (rfl) (rfl) (Nat.le_of_ble_eq_true rfl) dd_P_init_91 (fun H locs hM hS => ?_)
      have hM := mr_M (mu_c3 (Ne.symm ne_y19_o) (Ne.symm ne_y20_o)) hM
      have hM : mm_ G (mu_ (mu_ (mu_ (mu_ Mk y18 (la_ G 4 (fun _ => 0))) o (ob_ 5 [.ref y1, .ref y3, .ref y14, .ref y17, .ref y18, .ref y19, .ref y20, .null, .int (nI 0), .int (nI 0), .int (nI 0)])) y19 (la_ G 4 (fun _ => 0))) y20 (la_ G 4 (fun _ => 0))) H := hM
      refine lv_aload_n hx hb dd_P_init_94 rfl (lv_at hl 0 rfl) ?_
      refine mr_newoF (ci := 1) (fs := [.null]) C0 hM hS rfl ly_N ok_N tw_112 tw_113 tw_6 (fun j hj => by match j, hj with | 0, _ => rfl) (by subst hR; exact Nat.le_of_ble_eq_true rfl) (by subst hR; exact Nat.le_of_ble_eq_true rfl) dd_P_init_95 (fun y21 H hf hM hS => ?_)
      obtain ⟨ne_y21_y20, hf⟩ := mu_fr hf
      obtain ⟨ne_y21_y19, hf⟩ := mu_fr hf
      obtain ⟨ne_y21_o, hf⟩ := mu_fr hf
      obtain ⟨ne_y21_y18, hf⟩ := mu_fr hf
      have fr_y21 := hf
      have ne_y21_y17 := ne_fr fr_y21 h_ep
      have ne_y21_y1 := ne_fr fr_y21 h_y1
      have ne_y21_y2 := ne_fr fr_y21 h_y2
      have ne_y21_y3 := ne_fr fr_y21 h_y3
      have ne_y21_y4 := ne_fr fr_y21 h_y4
      have ne_y21_y5 := ne_fr fr_y21 h_y5
      have ne_y21_y6 := ne_fr fr_y21 h_y6
      have ne_y21_y7 := ne_fr fr_y21 h_y7
      have ne_y21_y8 := ne_fr fr_y21 h_y8
      have ne_y21_y9 := ne_fr fr_y21 h_y9
      have ne_y21_y10 := ne_fr fr_y21 h_y10
      have ne_y21_y11 := ne_fr fr_y21 h_y11
      have ne_y21_y12 := ne_fr fr_y21 h_y12
      have ne_y21_y13 := ne_fr fr_y21 h_y13
      have ne_y21_y14 := ne_fr fr_y21 h_y14
      have ne_y21_y15 := ne_fr fr_y21 h_y15
      have ne_y21_y16 := ne_fr fr_y21 h_y16
      have hM : mm_ G (mu_ (mu_ (mu_ (mu_ (mu_ Mk y18 (la_ G 4 (fun _ => 0))) o (ob_ 5 [.ref y1, .ref y3, .ref y14, .ref y17, .ref y18, .ref y19, .ref y20, .null, .int (nI 0), .int (nI 0), .int (nI 0)])) y19 (la_ G 4 (fun _ => 0))) y20 (la_ G 4 (fun _ => 0))) y21 (ob_ 1 [.null])) H := hM
      refine lv_dup hx hb dd_P_init_98 rfl ?_
      refine mr_callI (As := []) (rest := [.ref y21, .ref o]) C0 hM hS tw_116 C0.2.2.2.2.2.2.2.1.2.2.2.2.2.1 tw_6 tw_115 ⟨by decide, by decide, by decide +kernel⟩ rfl (c_N_init l mu_s) rfl rfl hl.1 (Nat.le_of_ble_eq_true rfl) rfl rfl (by subst hR; exact ⟨Nat.le_of_ble_eq_true rfl, Nat.le_of_ble_eq_true rfl⟩) (by subst hR; exact ⟨Nat.le_of_ble_eq_true rfl, Nat.le_of_ble_eq_true rfl⟩) dd_P_init_99 (fun v1 M1 H locs hp hM hS => ?_)
      obtain ⟨ev1, y22, hf_y22, eM1⟩ := hp
      subst ev1
      rw [eM1] at hM
      have hf := hf_y22
      obtain ⟨ne_y22_y21, hf⟩ := mu_fr hf
      obtain ⟨ne_y22_y20, hf⟩ := mu_fr hf
      obtain ⟨ne_y22_y19, hf⟩ := mu_fr hf
      obtain ⟨ne_y22_o, hf⟩ := mu_fr hf
      obtain ⟨ne_y22_y18, hf⟩ := mu_fr hf
      have fr_y22 := hf
      have ne_y22_y17 := ne_fr fr_y22 h_ep
      have ne_y22_y1 := ne_fr fr_y22 h_y1
      have ne_y22_y2 := ne_fr fr_y22 h_y2
      have ne_y22_y3 := ne_fr fr_y22 h_y3
      have ne_y22_y4 := ne_fr fr_y22 h_y4
      have ne_y22_y5 := ne_fr fr_y22 h_y5
      have ne_y22_y6 := ne_fr fr_y22 h_y6
      have ne_y22_y7 := ne_fr fr_y22 h_y7
      have ne_y22_y8 := ne_fr fr_y22 h_y8
      have ne_y22_y9 := ne_fr fr_y22 h_y9
      have ne_y22_y10 := ne_fr fr_y22 h_y10
      have ne_y22_y11 := ne_fr fr_y22 h_y11
      have ne_y22_y12 := ne_fr fr_y22 h_y12
      have ne_y22_y13 := ne_fr fr_y22 h_y13
      have ne_y22_y14 := ne_fr fr_y22 h_y14
      have ne_y22_y15 := ne_fr fr_y22 h_y15
      have ne_y22_y16 := ne_fr fr_y22 h_y16
      have hM := mr_M (mu_c2 (Ne.symm ne_y22_y21)) hM
      have hM : mm_ G (mu_ (mu_ (mu_ (mu_ (mu_ (mu_ Mk y18 (la_ G 4 (fun _ => 0))) o (ob_ 5 [.ref y1, .ref y3, .ref y14, .ref y17, .ref y18, .ref y19, .ref y20, .null, .int (nI 0), .int (nI 0), .int (nI 0)])) y19 (la_ G 4 (fun _ => 0))) y20 (la_ G 4 (fun _ => 0))) y21 (ob_ 1 [.ref y22])) y22 (la_ G 11 (fun _ => 0))) H := hM
      refine W.eq (g2 := F0 m 102 ls [.ref y21, .ref o]) rfl ?_
      refine mr_putF C0 hM hS fk_P_50 fp_P_50 (mu_n' (Ne.symm ne_y22_o) (mu_n' (Ne.symm ne_y21_o) (mu_n' (Ne.symm ne_y20_o) (mu_n' (Ne.symm ne_y19_o) mu_s)))) rfl rfl rfl (rfl) (rfl) (Nat.le_of_ble_eq_true rfl) dd_P_init_102 (fun H locs hM hS => ?_)
      have hM := mr_M (mu_c5 (Ne.symm ne_y19_o) (Ne.symm ne_y20_o) (Ne.symm ne_y21_o) (Ne.symm ne_y22_o)) hM
      have hM : mm_ G (mu_ (mu_ (mu_ (mu_ (mu_ (mu_ Mk y18 (la_ G 4 (fun _ => 0))) o (ob_ 5 [.ref y1, .ref y3, .ref y14, .ref y17, .ref y18, .ref y19, .ref y20, .ref y21, .int (nI 0), .int (nI 0), .int (nI 0)])) y19 (la_ G 4 (fun _ => 0))) y20 (la_ G 4 (fun _ => 0))) y21 (ob_ 1 [.ref y22])) y22 (la_ G 11 (fun _ => 0))) H := hM
      have hb_o : ∀ x, x < 102 → B x ≠ o := fun x hx q => by have h := (hES.2.2.2.1 x hx).1; rw [q, j_o] at h; cases h
      have hb_y1 : ∀ x, x < 102 → B x ≠ y1 := fun x hx q => by have h := (hES.2.2.2.1 x hx).1; rw [q, j_y1] at h; cases h
      have hb_y2 : ∀ x, x < 102 → B x ≠ y2 := fun x hx q => by have h := (hES.2.2.2.1 x hx).1; rw [q, j_y2] at h; cases h
      have hb_y3 : ∀ x, x < 102 → B x ≠ y3 := fun x hx q => by have h := (hES.2.2.2.1 x hx).1; rw [q, j_y3] at h; cases h
      have hb_y4 : ∀ x, x < 102 → B x ≠ y4 := fun x hx q => by have h := (hES.2.2.2.1 x hx).1; rw [q, j_y4] at h; cases h
      have hb_y5 : ∀ x, x < 102 → B x ≠ y5 := fun x hx q => by have h := (hES.2.2.2.1 x hx).1; rw [q, j_y5] at h; cases h
      have hb_y6 : ∀ x, x < 102 → B x ≠ y6 := fun x hx q => by have h := (hES.2.2.2.1 x hx).1; rw [q, j_y6] at h; cases h
      have hb_y7 : ∀ x, x < 102 → B x ≠ y7 := fun x hx q => by have h := (hES.2.2.2.1 x hx).1; rw [q, j_y7] at h; cases h
      have hb_y8 : ∀ x, x < 102 → B x ≠ y8 := fun x hx q => by have h := (hES.2.2.2.1 x hx).1; rw [q, j_y8] at h; cases h
      have hb_y9 : ∀ x, x < 102 → B x ≠ y9 := fun x hx q => by have h := (hES.2.2.2.1 x hx).1; rw [q, j_y9] at h; cases h
      have hb_y10 : ∀ x, x < 102 → B x ≠ y10 := fun x hx q => by have h := (hES.2.2.2.1 x hx).1; rw [q, j_y10] at h; cases h
      have hb_y11 : ∀ x, x < 102 → B x ≠ y11 := fun x hx q => by have h := (hES.2.2.2.1 x hx).1; rw [q, j_y11] at h; cases h
      have hb_y12 : ∀ x, x < 102 → B x ≠ y12 := fun x hx q => by have h := (hES.2.2.2.1 x hx).1; rw [q, j_y12] at h; cases h
      have hb_y13 : ∀ x, x < 102 → B x ≠ y13 := fun x hx q => by have h := (hES.2.2.2.1 x hx).1; rw [q, j_y13] at h; cases h
      have hb_y14 : ∀ x, x < 102 → B x ≠ y14 := fun x hx q => by have h := (hES.2.2.2.1 x hx).1; rw [q, j_y14] at h; cases h
      have hb_y15 : ∀ x, x < 102 → B x ≠ y15 := fun x hx q => by have h := (hES.2.2.2.1 x hx).1; rw [q, j_y15] at h; cases h
      have hb_y16 : ∀ x, x < 102 → B x ≠ y16 := fun x hx q => by have h := (hES.2.2.2.1 x hx).1; rw [q, j_y16] at h; cases h
      have hb_y17 : ∀ x, x < 102 → B x ≠ y17 := fun x hx q => by have h := (hES.2.2.2.1 x hx).1; rw [q, j_y17] at h; cases h
      have hb_y18 : ∀ x, x < 102 → B x ≠ y18 := fun x hx q => by obtain ⟨c, hc⟩ := ES_B hES hx; rw [q, fr_y18] at hc; cases hc
      have hb_y19 : ∀ x, x < 102 → B x ≠ y19 := fun x hx q => by obtain ⟨c, hc⟩ := ES_B hES hx; rw [q, fr_y19] at hc; cases hc
      have hb_y20 : ∀ x, x < 102 → B x ≠ y20 := fun x hx q => by obtain ⟨c, hc⟩ := ES_B hES hx; rw [q, fr_y20] at hc; cases hc
      have hb_y21 : ∀ x, x < 102 → B x ≠ y21 := fun x hx q => by obtain ⟨c, hc⟩ := ES_B hES hx; rw [q, fr_y21] at hc; cases hc
      have hb_y22 : ∀ x, x < 102 → B x ≠ y22 := fun x hx q => by obtain ⟨c, hc⟩ := ES_B hES hx; rw [q, fr_y22] at hc; cases hc
      have hball : ∀ y ∈ ([o, y1, y2, y3, y4, y5, y6, y7, y8, y9, y10, y11, y12, y13, y14, y15, y16, y17, y18, y19, y20, y21, y22] : List Nat), ∀ x, x < 102 → B x ≠ y := List.forall_mem_cons.mpr ⟨hb_o, List.forall_mem_cons.mpr ⟨hb_y1, List.forall_mem_cons.mpr ⟨hb_y2, List.forall_mem_cons.mpr ⟨hb_y3, List.forall_mem_cons.mpr ⟨hb_y4, List.forall_mem_cons.mpr ⟨hb_y5, List.forall_mem_cons.mpr ⟨hb_y6, List.forall_mem_cons.mpr ⟨hb_y7, List.forall_mem_cons.mpr ⟨hb_y8, List.forall_mem_cons.mpr ⟨hb_y9, List.forall_mem_cons.mpr ⟨hb_y10, List.forall_mem_cons.mpr ⟨hb_y11, List.forall_mem_cons.mpr ⟨hb_y12, List.forall_mem_cons.mpr ⟨hb_y13, List.forall_mem_cons.mpr ⟨hb_y14, List.forall_mem_cons.mpr ⟨hb_y15, List.forall_mem_cons.mpr ⟨hb_y16, List.forall_mem_cons.mpr ⟨hb_y17, List.forall_mem_cons.mpr ⟨hb_y18, List.forall_mem_cons.mpr ⟨hb_y19, List.forall_mem_cons.mpr ⟨hb_y20, List.forall_mem_cons.mpr ⟨hb_y21, List.forall_mem_cons.mpr ⟨hb_y22, fun _ h => absurd h List.not_mem_nil⟩⟩⟩⟩⟩⟩⟩⟩⟩⟩⟩⟩⟩⟩⟩⟩⟩⟩⟩⟩⟩⟩⟩
      have hnd : ([o, y1, y2, y3, y4, y5, y6, y7, y8, y9, y10, y11, y12, y13, y14, y15, y16, y17, y18, y19, y20, y21, y22] : List Nat).Nodup := (List.nodup_cons.mpr ⟨(List.not_mem_cons_of_ne_of_not_mem (Ne.symm ne_y1_o) (List.not_mem_cons_of_ne_of_not_mem (Ne.symm ne_y2_o) (List.not_mem_cons_of_ne_of_not_mem (Ne.symm ne_y3_o) (List.not_mem_cons_of_ne_of_not_mem (Ne.symm ne_y4_o) (List.not_mem_cons_of_ne_of_not_mem (Ne.symm ne_y5_o) (List.not_mem_cons_of_ne_of_not_mem (Ne.symm ne_y6_o) (List.not_mem_cons_of_ne_of_not_mem (Ne.symm ne_y7_o) (List.not_mem_cons_of_ne_of_not_mem (Ne.symm ne_y8_o) (List.not_mem_cons_of_ne_of_not_mem (Ne.symm ne_y9_o) (List.not_mem_cons_of_ne_of_not_mem (Ne.symm ne_y10_o) (List.not_mem_cons_of_ne_of_not_mem (Ne.symm ne_y11_o) (List.not_mem_cons_of_ne_of_not_mem (Ne.symm ne_y12_o) (List.not_mem_cons_of_ne_of_not_mem (Ne.symm ne_y13_o) (List.not_mem_cons_of_ne_of_not_mem (Ne.symm ne_y14_o) (List.not_mem_cons_of_ne_of_not_mem (Ne.symm ne_y15_o) (List.not_mem_cons_of_ne_of_not_mem (Ne.symm ne_y16_o) (List.not_mem_cons_of_ne_of_not_mem (Ne.symm ne_y17_o) (List.not_mem_cons_of_ne_of_not_mem (Ne.symm ne_y18_o) (List.not_mem_cons_of_ne_of_not_mem (Ne.symm ne_y19_o) (List.not_mem_cons_of_ne_of_not_mem (Ne.symm ne_y20_o) (List.not_mem_cons_of_ne_of_not_mem (Ne.symm ne_y21_o) (List.not_mem_cons_of_ne_of_not_mem (Ne.symm ne_y22_o) List.not_mem_nil)))))))))))))))))))))), (List.nodup_cons.mpr ⟨(List.not_mem_cons_of_ne_of_not_mem (Ne.symm ne_y2_y1) (List.not_mem_cons_of_ne_of_not_mem (Ne.symm ne_y3_y1) (List.not_mem_cons_of_ne_of_not_mem (Ne.symm ne_y4_y1) (List.not_mem_cons_of_ne_of_not_mem (Ne.symm ne_y5_y1) (List.not_mem_cons_of_ne_of_not_mem (Ne.symm ne_y6_y1) (List.not_mem_cons_of_ne_of_not_mem (Ne.symm ne_y7_y1) (List.not_mem_cons_of_ne_of_not_mem (Ne.symm ne_y8_y1) (List.not_mem_cons_of_ne_of_not_mem (Ne.symm ne_y9_y1) (List.not_mem_cons_of_ne_of_not_mem (Ne.symm ne_y10_y1) (List.not_mem_cons_of_ne_of_not_mem (Ne.symm ne_y11_y1) (List.not_mem_cons_of_ne_of_not_mem (Ne.symm ne_y12_y1) (List.not_mem_cons_of_ne_of_not_mem (Ne.symm ne_y13_y1) (List.not_mem_cons_of_ne_of_not_mem (Ne.symm ne_y14_y1) (List.not_mem_cons_of_ne_of_not_mem (Ne.symm ne_y15_y1) (List.not_mem_cons_of_ne_of_not_mem (Ne.symm ne_y16_y1) (List.not_mem_cons_of_ne_of_not_mem (Ne.symm ne_y17_y1) (List.not_mem_cons_of_ne_of_not_mem (Ne.symm ne_y18_y1) (List.not_mem_cons_of_ne_of_not_mem (Ne.symm ne_y19_y1) (List.not_mem_cons_of_ne_of_not_mem (Ne.symm ne_y20_y1) (List.not_mem_cons_of_ne_of_not_mem (Ne.symm ne_y21_y1) (List.not_mem_cons_of_ne_of_not_mem (Ne.symm ne_y22_y1) List.not_mem_nil))))))))))))))))))))), (List.nodup_cons.mpr ⟨(List.not_mem_cons_of_ne_of_not_mem (Ne.symm ne_y3_y2) (List.not_mem_cons_of_ne_of_not_mem (Ne.symm ne_y4_y2) (List.not_mem_cons_of_ne_of_not_mem (Ne.symm ne_y5_y2) (List.not_mem_cons_of_ne_of_not_mem (Ne.symm ne_y6_y2) (List.not_mem_cons_of_ne_of_not_mem (Ne.symm ne_y7_y2) (List.not_mem_cons_of_ne_of_not_mem (Ne.symm ne_y8_y2) (List.not_mem_cons_of_ne_of_not_mem (Ne.symm ne_y9_y2) (List.not_mem_cons_of_ne_of_not_mem (Ne.symm ne_y10_y2) (List.not_mem_cons_of_ne_of_not_mem (Ne.symm ne_y11_y2) (List.not_mem_cons_of_ne_of_not_mem (Ne.symm ne_y12_y2) (List.not_mem_cons_of_ne_of_not_mem (Ne.symm ne_y13_y2) (List.not_mem_cons_of_ne_of_not_mem (Ne.symm ne_y14_y2) (List.not_mem_cons_of_ne_of_not_mem (Ne.symm ne_y15_y2) (List.not_mem_cons_of_ne_of_not_mem (Ne.symm ne_y16_y2) (List.not_mem_cons_of_ne_of_not_mem (Ne.symm ne_y17_y2) (List.not_mem_cons_of_ne_of_not_mem (Ne.symm ne_y18_y2) (List.not_mem_cons_of_ne_of_not_mem (Ne.symm ne_y19_y2) (List.not_mem_cons_of_ne_of_not_mem (Ne.symm ne_y20_y2) (List.not_mem_cons_of_ne_of_not_mem (Ne.symm ne_y21_y2) (List.not_mem_cons_of_ne_of_not_mem (Ne.symm ne_y22_y2) List.not_mem_nil)))))))))))))))))))), (List.nodup_cons.mpr ⟨(List.not_mem_cons_of_ne_of_not_mem (Ne.symm ne_y4_y3) (List.not_mem_cons_of_ne_of_not_mem (Ne.symm ne_y5_y3) (List.not_mem_cons_of_ne_of_not_mem (Ne.symm ne_y6_y3) (List.not_mem_cons_of_ne_of_not_mem (Ne.symm ne_y7_y3) (List.not_mem_cons_of_ne_of_not_mem (Ne.symm ne_y8_y3) (List.not_mem_cons_of_ne_of_not_mem (Ne.symm ne_y9_y3) (List.not_mem_cons_of_ne_of_not_mem (Ne.symm ne_y10_y3) (List.not_mem_cons_of_ne_of_not_mem (Ne.symm ne_y11_y3) (List.not_mem_cons_of_ne_of_not_mem (Ne.symm ne_y12_y3) (List.not_mem_cons_of_ne_of_not_mem (Ne.symm ne_y13_y3) (List.not_mem_cons_of_ne_of_not_mem (Ne.symm ne_y14_y3) (List.not_mem_cons_of_ne_of_not_mem (Ne.symm ne_y15_y3) (List.not_mem_cons_of_ne_of_not_mem (Ne.symm ne_y16_y3) (List.not_mem_cons_of_ne_of_not_mem (Ne.symm ne_y17_y3) (List.not_mem_cons_of_ne_of_not_mem (Ne.symm ne_y18_y3) (List.not_mem_cons_of_ne_of_not_mem (Ne.symm ne_y19_y3) (List.not_mem_cons_of_ne_of_not_mem (Ne.symm ne_y20_y3) (List.not_mem_cons_of_ne_of_not_mem (Ne.symm ne_y21_y3) (List.not_mem_cons_of_ne_of_not_mem (Ne.symm ne_y22_y3) List.not_mem_nil))))))))))))))))))), (List.nodup_cons.mpr ⟨(List.not_mem_cons_of_ne_of_not_mem (Ne.symm ne_y5_y4) (List.not_mem_cons_of_ne_of_not_mem (Ne.symm ne_y6_y4) (List.not_mem_cons_of_ne_of_not_mem (Ne.symm ne_y7_y4) (List.not_mem_cons_of_ne_of_not_mem (Ne.symm ne_y8_y4) (List.not_mem_cons_of_ne_of_not_mem (Ne.symm ne_y9_y4) (List.not_mem_cons_of_ne_of_not_mem (Ne.symm ne_y10_y4) (List.not_mem_cons_of_ne_of_not_mem (Ne.symm ne_y11_y4) (List.not_mem_cons_of_ne_of_not_mem (Ne.symm ne_y12_y4) (List.not_mem_cons_of_ne_of_not_mem (Ne.symm ne_y13_y4) (List.not_mem_cons_of_ne_of_not_mem (Ne.symm ne_y14_y4) (List.not_mem_cons_of_ne_of_not_mem (Ne.symm ne_y15_y4) (List.not_mem_cons_of_ne_of_not_mem (Ne.symm ne_y16_y4) (List.not_mem_cons_of_ne_of_not_mem (Ne.symm ne_y17_y4) (List.not_mem_cons_of_ne_of_not_mem (Ne.symm ne_y18_y4) (List.not_mem_cons_of_ne_of_not_mem (Ne.symm ne_y19_y4) (List.not_mem_cons_of_ne_of_not_mem (Ne.symm ne_y20_y4) (List.not_mem_cons_of_ne_of_not_mem (Ne.symm ne_y21_y4) (List.not_mem_cons_of_ne_of_not_mem (Ne.symm ne_y22_y4) List.not_mem_nil)))))))))))))))))), (List.nodup_cons.mpr ⟨(List.not_mem_cons_of_ne_of_not_mem (Ne.symm ne_y6_y5) (List.not_mem_cons_of_ne_of_not_mem (Ne.symm ne_y7_y5) (List.not_mem_cons_of_ne_of_not_mem (Ne.symm ne_y8_y5) (List.not_mem_cons_of_ne_of_not_mem (Ne.symm ne_y9_y5) (List.not_mem_cons_of_ne_of_not_mem (Ne.symm ne_y10_y5) (List.not_mem_cons_of_ne_of_not_mem (Ne.symm ne_y11_y5) (List.not_mem_cons_of_ne_of_not_mem (Ne.symm ne_y12_y5) (List.not_mem_cons_of_ne_of_not_mem (Ne.symm ne_y13_y5) (List.not_mem_cons_of_ne_of_not_mem (Ne.symm ne_y14_y5) (List.not_mem_cons_of_ne_of_not_mem (Ne.symm ne_y15_y5) (List.not_mem_cons_of_ne_of_not_mem (Ne.symm ne_y16_y5) (List.not_mem_cons_of_ne_of_not_mem (Ne.symm ne_y17_y5) (List.not_mem_cons_of_ne_of_not_mem (Ne.symm ne_y18_y5) (List.not_mem_cons_of_ne_of_not_mem (Ne.symm ne_y19_y5) (List.not_mem_cons_of_ne_of_not_mem (Ne.symm ne_y20_y5) (List.not_mem_cons_of_ne_of_not_mem (Ne.symm ne_y21_y5) (List.not_mem_cons_of_ne_of_not_mem (Ne.symm ne_y22_y5) List.not_mem_nil))))))))))))))))), (List.nodup_cons.mpr ⟨(List.not_mem_cons_of_ne_of_not_mem (Ne.symm ne_y7_y6) (List.not_mem_cons_of_ne_of_not_mem (Ne.symm ne_y8_y6) (List.not_mem_cons_of_ne_of_not_mem (Ne.symm ne_y9_y6) (List.not_mem_cons_of_ne_of_not_mem (Ne.symm ne_y10_y6) (List.not_mem_cons_of_ne_of_not_mem (Ne.symm ne_y11_y6) (List.not_mem_cons_of_ne_of_not_mem (Ne.symm ne_y12_y6) (List.not_mem_cons_of_ne_of_not_mem (Ne.symm ne_y13_y6) (List.not_mem_cons_of_ne_of_not_mem (Ne.symm ne_y14_y6) (List.not_mem_cons_of_ne_of_not_mem (Ne.symm ne_y15_y6) (List.not_mem_cons_of_ne_of_not_mem (Ne.symm ne_y16_y6) (List.not_mem_cons_of_ne_of_not_mem (Ne.symm ne_y17_y6) (List.not_mem_cons_of_ne_of_not_mem (Ne.symm ne_y18_y6) (List.not_mem_cons_of_ne_of_not_mem (Ne.symm ne_y19_y6) (List.not_mem_cons_of_ne_of_not_mem (Ne.symm ne_y20_y6) (List.not_mem_cons_of_ne_of_not_mem (Ne.symm ne_y21_y6) (List.not_mem_cons_of_ne_of_not_mem (Ne.symm ne_y22_y6) List.not_mem_nil)))))))))))))))), (List.nodup_cons.mpr ⟨(List.not_mem_cons_of_ne_of_not_mem (Ne.symm ne_y8_y7) (List.not_mem_cons_of_ne_of_not_mem (Ne.symm ne_y9_y7) (List.not_mem_cons_of_ne_of_not_mem (Ne.symm ne_y10_y7) (List.not_mem_cons_of_ne_of_not_mem (Ne.symm ne_y11_y7) (List.not_mem_cons_of_ne_of_not_mem (Ne.symm ne_y12_y7) (List.not_mem_cons_of_ne_of_not_mem (Ne.symm ne_y13_y7) (List.not_mem_cons_of_ne_of_not_mem (Ne.symm ne_y14_y7) (List.not_mem_cons_of_ne_of_not_mem (Ne.symm ne_y15_y7) (List.not_mem_cons_of_ne_of_not_mem (Ne.symm ne_y16_y7) (List.not_mem_cons_of_ne_of_not_mem (Ne.symm ne_y17_y7) (List.not_mem_cons_of_ne_of_not_mem (Ne.symm ne_y18_y7) (List.not_mem_cons_of_ne_of_not_mem (Ne.symm ne_y19_y7) (List.not_mem_cons_of_ne_of_not_mem (Ne.symm ne_y20_y7) (List.not_mem_cons_of_ne_of_not_mem (Ne.symm ne_y21_y7) (List.not_mem_cons_of_ne_of_not_mem (Ne.symm ne_y22_y7) List.not_mem_nil))))))))))))))), (List.nodup_cons.mpr ⟨(List.not_mem_cons_of_ne_of_not_mem (Ne.symm ne_y9_y8) (List.not_mem_cons_of_ne_of_not_mem (Ne.symm ne_y10_y8) (List.not_mem_cons_of_ne_of_not_mem (Ne.symm ne_y11_y8) (List.not_mem_cons_of_ne_of_not_mem (Ne.symm ne_y12_y8) (List.not_mem_cons_of_ne_of_not_mem (Ne.symm ne_y13_y8) (List.not_mem_cons_of_ne_of_not_mem (Ne.symm ne_y14_y8) (List.not_mem_cons_of_ne_of_not_mem (Ne.symm ne_y15_y8) (List.not_mem_cons_of_ne_of_not_mem (Ne.symm ne_y16_y8) (List.not_mem_cons_of_ne_of_not_mem (Ne.symm ne_y17_y8) (List.not_mem_cons_of_ne_of_not_mem (Ne.symm ne_y18_y8) (List.not_mem_cons_of_ne_of_not_mem (Ne.symm ne_y19_y8) (List.not_mem_cons_of_ne_of_not_mem (Ne.symm ne_y20_y8) (List.not_mem_cons_of_ne_of_not_mem (Ne.symm ne_y21_y8) (List.not_mem_cons_of_ne_of_not_mem (Ne.symm ne_y22_y8) List.not_mem_nil)))))))))))))), (List.nodup_cons.mpr ⟨(List.not_mem_cons_of_ne_of_not_mem (Ne.symm ne_y10_y9) (List.not_mem_cons_of_ne_of_not_mem (Ne.symm ne_y11_y9) (List.not_mem_cons_of_ne_of_not_mem (Ne.symm ne_y12_y9) (List.not_mem_cons_of_ne_of_not_mem (Ne.symm ne_y13_y9) (List.not_mem_cons_of_ne_of_not_mem (Ne.symm ne_y14_y9) (List.not_mem_cons_of_ne_of_not_mem (Ne.symm ne_y15_y9) (List.not_mem_cons_of_ne_of_not_mem (Ne.symm ne_y16_y9) (List.not_mem_cons_of_ne_of_not_mem (Ne.symm ne_y17_y9) (List.not_mem_cons_of_ne_of_not_mem (Ne.symm ne_y18_y9) (List.not_mem_cons_of_ne_of_not_mem (Ne.symm ne_y19_y9) (List.not_mem_cons_of_ne_of_not_mem (Ne.symm ne_y20_y9) (List.not_mem_cons_of_ne_of_not_mem (Ne.symm ne_y21_y9) (List.not_mem_cons_of_ne_of_not_mem (Ne.symm ne_y22_y9) List.not_mem_nil))))))))))))), (List.nodup_cons.mpr ⟨(List.not_mem_cons_of_ne_of_not_mem (Ne.symm ne_y11_y10) (List.not_mem_cons_of_ne_of_not_mem (Ne.symm ne_y12_y10) (List.not_mem_cons_of_ne_of_not_mem (Ne.symm ne_y13_y10) (List.not_mem_cons_of_ne_of_not_mem (Ne.symm ne_y14_y10) (List.not_mem_cons_of_ne_of_not_mem (Ne.symm ne_y15_y10) (List.not_mem_cons_of_ne_of_not_mem (Ne.symm ne_y16_y10) (List.not_mem_cons_of_ne_of_not_mem (Ne.symm ne_y17_y10) (List.not_mem_cons_of_ne_of_not_mem (Ne.symm ne_y18_y10) (List.not_mem_cons_of_ne_of_not_mem (Ne.symm ne_y19_y10) (List.not_mem_cons_of_ne_of_not_mem (Ne.symm ne_y20_y10) (List.not_mem_cons_of_ne_of_not_mem (Ne.symm ne_y21_y10) (List.not_mem_cons_of_ne_of_not_mem (Ne.symm ne_y22_y10) List.not_mem_nil)))))))))))), (List.nodup_cons.mpr ⟨(List.not_mem_cons_of_ne_of_not_mem (Ne.symm ne_y12_y11) (List.not_mem_cons_of_ne_of_not_mem (Ne.symm ne_y13_y11) (List.not_mem_cons_of_ne_of_not_mem (Ne.symm ne_y14_y11) (List.not_mem_cons_of_ne_of_not_mem (Ne.symm ne_y15_y11) (List.not_mem_cons_of_ne_of_not_mem (Ne.symm ne_y16_y11) (List.not_mem_cons_of_ne_of_not_mem (Ne.symm ne_y17_y11) (List.not_mem_cons_of_ne_of_not_mem (Ne.symm ne_y18_y11) (List.not_mem_cons_of_ne_of_not_mem (Ne.symm ne_y19_y11) (List.not_mem_cons_of_ne_of_not_mem (Ne.symm ne_y20_y11) (List.not_mem_cons_of_ne_of_not_mem (Ne.symm ne_y21_y11) (List.not_mem_cons_of_ne_of_not_mem (Ne.symm ne_y22_y11) List.not_mem_nil))))))))))), (List.nodup_cons.mpr ⟨(List.not_mem_cons_of_ne_of_not_mem (Ne.symm ne_y13_y12) (List.not_mem_cons_of_ne_of_not_mem (Ne.symm ne_y14_y12) (List.not_mem_cons_of_ne_of_not_mem (Ne.symm ne_y15_y12) (List.not_mem_cons_of_ne_of_not_mem (Ne.symm ne_y16_y12) (List.not_mem_cons_of_ne_of_not_mem (Ne.symm ne_y17_y12) (List.not_mem_cons_of_ne_of_not_mem (Ne.symm ne_y18_y12) (List.not_mem_cons_of_ne_of_not_mem (Ne.symm ne_y19_y12) (List.not_mem_cons_of_ne_of_not_mem (Ne.symm ne_y20_y12) (List.not_mem_cons_of_ne_of_not_mem (Ne.symm ne_y21_y12) (List.not_mem_cons_of_ne_of_not_mem (Ne.symm ne_y22_y12) List.not_mem_nil)))))))))), (List.nodup_cons.mpr ⟨(List.not_mem_cons_of_ne_of_not_mem (Ne.symm ne_y14_y13) (List.not_mem_cons_of_ne_of_not_mem (Ne.symm ne_y15_y13) (List.not_mem_cons_of_ne_of_not_mem (Ne.symm ne_y16_y13) (List.not_mem_cons_of_ne_of_not_mem (Ne.symm ne_y17_y13) (List.not_mem_cons_of_ne_of_not_mem (Ne.symm ne_y18_y13) (List.not_mem_cons_of_ne_of_not_mem (Ne.symm ne_y19_y13) (List.not_mem_cons_of_ne_of_not_mem (Ne.symm ne_y20_y13) (List.not_mem_cons_of_ne_of_not_mem (Ne.symm ne_y21_y13) (List.not_mem_cons_of_ne_of_not_mem (Ne.symm ne_y22_y13) List.not_mem_nil))))))))), (List.nodup_cons.mpr ⟨(List.not_mem_cons_of_ne_of_not_mem (Ne.symm ne_y15_y14) (List.not_mem_cons_of_ne_of_not_mem (Ne.symm ne_y16_y14) (List.not_mem_cons_of_ne_of_not_mem (Ne.symm ne_y17_y14) (List.not_mem_cons_of_ne_of_not_mem (Ne.symm ne_y18_y14) (List.not_mem_cons_of_ne_of_not_mem (Ne.symm ne_y19_y14) (List.not_mem_cons_of_ne_of_not_mem (Ne.symm ne_y20_y14) (List.not_mem_cons_of_ne_of_not_mem (Ne.symm ne_y21_y14) (List.not_mem_cons_of_ne_of_not_mem (Ne.symm ne_y22_y14) List.not_mem_nil)))))))), (List.nodup_cons.mpr ⟨(List.not_mem_cons_of_ne_of_not_mem (Ne.symm ne_y16_y15) (List.not_mem_cons_of_ne_of_not_mem (Ne.symm ne_y17_y15) (List.not_mem_cons_of_ne_of_not_mem (Ne.symm ne_y18_y15) (List.not_mem_cons_of_ne_of_not_mem (Ne.symm ne_y19_y15) (List.not_mem_cons_of_ne_of_not_mem (Ne.symm ne_y20_y15) (List.not_mem_cons_of_ne_of_not_mem (Ne.symm ne_y21_y15) (List.not_mem_cons_of_ne_of_not_mem (Ne.symm ne_y22_y15) List.not_mem_nil))))))), (List.nodup_cons.mpr ⟨(List.not_mem_cons_of_ne_of_not_mem (Ne.symm ne_y17_y16) (List.not_mem_cons_of_ne_of_not_mem (Ne.symm ne_y18_y16) (List.not_mem_cons_of_ne_of_not_mem (Ne.symm ne_y19_y16) (List.not_mem_cons_of_ne_of_not_mem (Ne.symm ne_y20_y16) (List.not_mem_cons_of_ne_of_not_mem (Ne.symm ne_y21_y16) (List.not_mem_cons_of_ne_of_not_mem (Ne.symm ne_y22_y16) List.not_mem_nil)))))), (List.nodup_cons.mpr ⟨(List.not_mem_cons_of_ne_of_not_mem (Ne.symm ne_y18_y17) (List.not_mem_cons_of_ne_of_not_mem (Ne.symm ne_y19_y17) (List.not_mem_cons_of_ne_of_not_mem (Ne.symm ne_y20_y17) (List.not_mem_cons_of_ne_of_not_mem (Ne.symm ne_y21_y17) (List.not_mem_cons_of_ne_of_not_mem (Ne.symm ne_y22_y17) List.not_mem_nil))))), (List.nodup_cons.mpr ⟨(List.not_mem_cons_of_ne_of_not_mem (Ne.symm ne_y19_y18) (List.not_mem_cons_of_ne_of_not_mem (Ne.symm ne_y20_y18) (List.not_mem_cons_of_ne_of_not_mem (Ne.symm ne_y21_y18) (List.not_mem_cons_of_ne_of_not_mem (Ne.symm ne_y22_y18) List.not_mem_nil)))), (List.nodup_cons.mpr ⟨(List.not_mem_cons_of_ne_of_not_mem (Ne.symm ne_y20_y19) (List.not_mem_cons_of_ne_of_not_mem (Ne.symm ne_y21_y19) (List.not_mem_cons_of_ne_of_not_mem (Ne.symm ne_y22_y19) List.not_mem_nil))), (List.nodup_cons.mpr ⟨(List.not_mem_cons_of_ne_of_not_mem (Ne.symm ne_y21_y20) (List.not_mem_cons_of_ne_of_not_mem (Ne.symm ne_y22_y20) List.not_mem_nil)), (List.nodup_cons.mpr ⟨(List.not_mem_cons_of_ne_of_not_mem (Ne.symm ne_y22_y21) List.not_mem_nil), (List.nodup_cons.mpr ⟨List.not_mem_nil, List.nodup_nil⟩)⟩)⟩)⟩)⟩)⟩)⟩)⟩)⟩)⟩)⟩)⟩)⟩)⟩)⟩)⟩)⟩)⟩)⟩)⟩)⟩)⟩)⟩)
      have m_y18 : M y18 = none := by
        rw [← hfr1 y18 (List.forall_mem_cons.mpr ⟨ne_y18_o, List.forall_mem_cons.mpr ⟨ne_y18_y1, List.forall_mem_cons.mpr ⟨ne_y18_y2, List.forall_mem_cons.mpr ⟨ne_y18_y3, List.forall_mem_cons.mpr ⟨ne_y18_y4, List.forall_mem_cons.mpr ⟨ne_y18_y5, List.forall_mem_cons.mpr ⟨ne_y18_y6, List.forall_mem_cons.mpr ⟨ne_y18_y7, List.forall_mem_cons.mpr ⟨ne_y18_y8, List.forall_mem_cons.mpr ⟨ne_y18_y9, List.forall_mem_cons.mpr ⟨ne_y18_y10, List.forall_mem_cons.mpr ⟨ne_y18_y11, List.forall_mem_cons.mpr ⟨ne_y18_y12, List.forall_mem_cons.mpr ⟨ne_y18_y13, List.forall_mem_cons.mpr ⟨ne_y18_y14, List.forall_mem_cons.mpr ⟨ne_y18_y15, List.forall_mem_cons.mpr ⟨ne_y18_y16, List.forall_mem_cons.mpr ⟨ne_y18_y17, fun _ h => absurd h List.not_mem_nil⟩⟩⟩⟩⟩⟩⟩⟩⟩⟩⟩⟩⟩⟩⟩⟩⟩⟩), ← hES.2.2.2.2 y18 ne_y18_y17 (fun x hx q => hb_y18 x hx q.symm)]
        exact fr_y18
      have m_y19 : M y19 = none := by
        rw [← hfr1 y19 (List.forall_mem_cons.mpr ⟨ne_y19_o, List.forall_mem_cons.mpr ⟨ne_y19_y1, List.forall_mem_cons.mpr ⟨ne_y19_y2, List.forall_mem_cons.mpr ⟨ne_y19_y3, List.forall_mem_cons.mpr ⟨ne_y19_y4, List.forall_mem_cons.mpr ⟨ne_y19_y5, List.forall_mem_cons.mpr ⟨ne_y19_y6, List.forall_mem_cons.mpr ⟨ne_y19_y7, List.forall_mem_cons.mpr ⟨ne_y19_y8, List.forall_mem_cons.mpr ⟨ne_y19_y9, List.forall_mem_cons.mpr ⟨ne_y19_y10, List.forall_mem_cons.mpr ⟨ne_y19_y11, List.forall_mem_cons.mpr ⟨ne_y19_y12, List.forall_mem_cons.mpr ⟨ne_y19_y13, List.forall_mem_cons.mpr ⟨ne_y19_y14, List.forall_mem_cons.mpr ⟨ne_y19_y15, List.forall_mem_cons.mpr ⟨ne_y19_y16, List.forall_mem_cons.mpr ⟨ne_y19_y17, fun _ h => absurd h List.not_mem_nil⟩⟩⟩⟩⟩⟩⟩⟩⟩⟩⟩⟩⟩⟩⟩⟩⟩⟩), ← hES.2.2.2.2 y19 ne_y19_y17 (fun x hx q => hb_y19 x hx q.symm)]
        exact fr_y19
      have m_y20 : M y20 = none := by
        rw [← hfr1 y20 (List.forall_mem_cons.mpr ⟨ne_y20_o, List.forall_mem_cons.mpr ⟨ne_y20_y1, List.forall_mem_cons.mpr ⟨ne_y20_y2, List.forall_mem_cons.mpr ⟨ne_y20_y3, List.forall_mem_cons.mpr ⟨ne_y20_y4, List.forall_mem_cons.mpr ⟨ne_y20_y5, List.forall_mem_cons.mpr ⟨ne_y20_y6, List.forall_mem_cons.mpr ⟨ne_y20_y7, List.forall_mem_cons.mpr ⟨ne_y20_y8, List.forall_mem_cons.mpr ⟨ne_y20_y9, List.forall_mem_cons.mpr ⟨ne_y20_y10, List.forall_mem_cons.mpr ⟨ne_y20_y11, List.forall_mem_cons.mpr ⟨ne_y20_y12, List.forall_mem_cons.mpr ⟨ne_y20_y13, List.forall_mem_cons.mpr ⟨ne_y20_y14, List.forall_mem_cons.mpr ⟨ne_y20_y15, List.forall_mem_cons.mpr ⟨ne_y20_y16, List.forall_mem_cons.mpr ⟨ne_y20_y17, fun _ h => absurd h List.not_mem_nil⟩⟩⟩⟩⟩⟩⟩⟩⟩⟩⟩⟩⟩⟩⟩⟩⟩⟩), ← hES.2.2.2.2 y20 ne_y20_y17 (fun x hx q => hb_y20 x hx q.symm)]
        exact fr_y20
      have m_y21 : M y21 = none := by
        rw [← hfr1 y21 (List.forall_mem_cons.mpr ⟨ne_y21_o, List.forall_mem_cons.mpr ⟨ne_y21_y1, List.forall_mem_cons.mpr ⟨ne_y21_y2, List.forall_mem_cons.mpr ⟨ne_y21_y3, List.forall_mem_cons.mpr ⟨ne_y21_y4, List.forall_mem_cons.mpr ⟨ne_y21_y5, List.forall_mem_cons.mpr ⟨ne_y21_y6, List.forall_mem_cons.mpr ⟨ne_y21_y7, List.forall_mem_cons.mpr ⟨ne_y21_y8, List.forall_mem_cons.mpr ⟨ne_y21_y9, List.forall_mem_cons.mpr ⟨ne_y21_y10, List.forall_mem_cons.mpr ⟨ne_y21_y11, List.forall_mem_cons.mpr ⟨ne_y21_y12, List.forall_mem_cons.mpr ⟨ne_y21_y13, List.forall_mem_cons.mpr ⟨ne_y21_y14, List.forall_mem_cons.mpr ⟨ne_y21_y15, List.forall_mem_cons.mpr ⟨ne_y21_y16, List.forall_mem_cons.mpr ⟨ne_y21_y17, fun _ h => absurd h List.not_mem_nil⟩⟩⟩⟩⟩⟩⟩⟩⟩⟩⟩⟩⟩⟩⟩⟩⟩⟩), ← hES.2.2.2.2 y21 ne_y21_y17 (fun x hx q => hb_y21 x hx q.symm)]
        exact fr_y21
      have m_y22 : M y22 = none := by
        rw [← hfr1 y22 (List.forall_mem_cons.mpr ⟨ne_y22_o, List.forall_mem_cons.mpr ⟨ne_y22_y1, List.forall_mem_cons.mpr ⟨ne_y22_y2, List.forall_mem_cons.mpr ⟨ne_y22_y3, List.forall_mem_cons.mpr ⟨ne_y22_y4, List.forall_mem_cons.mpr ⟨ne_y22_y5, List.forall_mem_cons.mpr ⟨ne_y22_y6, List.forall_mem_cons.mpr ⟨ne_y22_y7, List.forall_mem_cons.mpr ⟨ne_y22_y8, List.forall_mem_cons.mpr ⟨ne_y22_y9, List.forall_mem_cons.mpr ⟨ne_y22_y10, List.forall_mem_cons.mpr ⟨ne_y22_y11, List.forall_mem_cons.mpr ⟨ne_y22_y12, List.forall_mem_cons.mpr ⟨ne_y22_y13, List.forall_mem_cons.mpr ⟨ne_y22_y14, List.forall_mem_cons.mpr ⟨ne_y22_y15, List.forall_mem_cons.mpr ⟨ne_y22_y16, List.forall_mem_cons.mpr ⟨ne_y22_y17, fun _ h => absurd h List.not_mem_nil⟩⟩⟩⟩⟩⟩⟩⟩⟩⟩⟩⟩⟩⟩⟩⟩⟩⟩), ← hES.2.2.2.2 y22 ne_y22_y17 (fun x hx q => hb_y22 x hx q.symm)]
        exact fr_y22
      obtain ⟨A, eA⟩ : ∃ z : Nat → Nat, z = fun x => if x < 23 then ([o, y1, y2, y3, y4, y5, y6, y7, y8, y9, y10, y11, y12, y13, y14, y15, y16, y17, y18, y19, y20, y21, y22] : List Nat).getD x 0 else B (x - 23) := ⟨_, rfl⟩
      have A_0 : A 0 = o := by rw [eA]; rfl
      have A_1 : A 1 = y1 := by rw [eA]; rfl
      have A_2 : A 2 = y2 := by rw [eA]; rfl
      have A_3 : A 3 = y3 := by rw [eA]; rfl
      have A_4 : A 4 = y4 := by rw [eA]; rfl
      have A_5 : A 5 = y5 := by rw [eA]; rfl
      have A_6 : A 6 = y6 := by rw [eA]; rfl
      have A_7 : A 7 = y7 := by rw [eA]; rfl
      have A_8 : A 8 = y8 := by rw [eA]; rfl
      have A_9 : A 9 = y9 := by rw [eA]; rfl
      have A_10 : A 10 = y10 := by rw [eA]; rfl
      have A_11 : A 11 = y11 := by rw [eA]; rfl
      have A_12 : A 12 = y12 := by rw [eA]; rfl
      have A_13 : A 13 = y13 := by rw [eA]; rfl
      have A_14 : A 14 = y14 := by rw [eA]; rfl
      have A_15 : A 15 = y15 := by rw [eA]; rfl
      have A_16 : A 16 = y16 := by rw [eA]; rfl
      have A_17 : A 17 = y17 := by rw [eA]; rfl
      have A_18 : A 18 = y18 := by rw [eA]; rfl
      have A_19 : A 19 = y19 := by rw [eA]; rfl
      have A_20 : A 20 = y20 := by rw [eA]; rfl
      have A_21 : A 21 = y21 := by rw [eA]; rfl
      have A_22 : A 22 = y22 := by rw [eA]; rfl
      have A_l : ∀ i, i < 23 → A i = ([o, y1, y2, y3, y4, y5, y6, y7, y8, y9, y10, y11, y12, y13, y14, y15, y16, y17, y18, y19, y20, y21, y22] : List Nat).getD i 0 := fun i hi => by rw [eA]; exact if_pos hi
      have A_b : ∀ x, A (23 + x) = B x := fun x => by
        rw [eA]
        show (if 23 + x < 23 then _ else B (23 + x - 23)) = B x
        rw [if_neg (by omega), Nat.add_sub_cancel_left]
      have A_e0 : ∀ e, A (23 + 6 * e) = B (6 * e + 0) := fun e => by rw [show 23 + 6 * e = 23 + (6 * e + 0) by omega]; exact A_b _
      have A_e1 : ∀ e, A (24 + 6 * e) = B (6 * e + 1) := fun e => by rw [show 24 + 6 * e = 23 + (6 * e + 1) by omega]; exact A_b _
      have A_e2 : ∀ e, A (25 + 6 * e) = B (6 * e + 2) := fun e => by rw [show 25 + 6 * e = 23 + (6 * e + 2) by omega]; exact A_b _
      have A_e3 : ∀ e, A (26 + 6 * e) = B (6 * e + 3) := fun e => by rw [show 26 + 6 * e = 23 + (6 * e + 3) by omega]; exact A_b _
      have A_e4 : ∀ e, A (27 + 6 * e) = B (6 * e + 4) := fun e => by rw [show 27 + 6 * e = 23 + (6 * e + 4) by omega]; exact A_b _
      have A_e5 : ∀ e, A (28 + 6 * e) = B (6 * e + 5) := fun e => by rw [show 28 + 6 * e = 23 + (6 * e + 5) by omega]; exact A_b _
      have hfrl : ∀ y ∈ ([y1, y2, y3, y4, y5, y6, y7, y8, y9, y10, y11, y12, y13, y14, y15, y16, y17, y18, y19, y20, y21, y22] : List Nat), M y = none := List.forall_mem_cons.mpr ⟨fr_y1, List.forall_mem_cons.mpr ⟨fr_y2, List.forall_mem_cons.mpr ⟨fr_y3, List.forall_mem_cons.mpr ⟨fr_y4, List.forall_mem_cons.mpr ⟨fr_y5, List.forall_mem_cons.mpr ⟨fr_y6, List.forall_mem_cons.mpr ⟨fr_y7, List.forall_mem_cons.mpr ⟨fr_y8, List.forall_mem_cons.mpr ⟨fr_y9, List.forall_mem_cons.mpr ⟨fr_y10, List.forall_mem_cons.mpr ⟨fr_y11, List.forall_mem_cons.mpr ⟨fr_y12, List.forall_mem_cons.mpr ⟨fr_y13, List.forall_mem_cons.mpr ⟨fr_y14, List.forall_mem_cons.mpr ⟨fr_y15, List.forall_mem_cons.mpr ⟨fr_y16, List.forall_mem_cons.mpr ⟨fr_y17, List.forall_mem_cons.mpr ⟨m_y18, List.forall_mem_cons.mpr ⟨m_y19, List.forall_mem_cons.mpr ⟨m_y20, List.forall_mem_cons.mpr ⟨m_y21, List.forall_mem_cons.mpr ⟨m_y22, fun _ h => absurd h List.not_mem_nil⟩⟩⟩⟩⟩⟩⟩⟩⟩⟩⟩⟩⟩⟩⟩⟩⟩⟩⟩⟩⟩⟩
      have hB1 : ∀ x, x < 102 → M (B x) = none := fun x hx => by rw [← hfr1 (B x) (fun y hy => hball y (List.mem_append_left [y18, y19, y20, y21, y22] hy) x hx)]; exact (hES.2.2.2.1 x hx).1
      have hM := mm_.qeq (g := fun e => some (A (23 + 6 * e))) hM (mu_n' (Ne.symm ne_y22_y17) (mu_n' (Ne.symm ne_y21_y17) (mu_n' (Ne.symm ne_y20_y17) (mu_n' (Ne.symm ne_y19_y17) (mu_n' ne_y17_o (mu_n' (Ne.symm ne_y18_y17) h_ep)))))) (fun j hj => by show _ = some (A (23 + 6 * j)); rw [A_e0, hES.1 j hj]; rfl)
      refine mr_ret hQ (mr_vret C0 hM hS ⟨rfl, A, A_0, ?_, ?_, ?_, ?_⟩ dd_P_init_105)
      · intro i j hi hj hij
        by_cases h1 : i < 23
        · by_cases h2 : j < 23
          · rw [A_l i h1, A_l j h2]; exact nd_get hnd h1 h2 hij
          · rw [A_l i h1, show j = 23 + (j - 23) by omega, A_b]; exact (hball _ (gd_mem h1) _ (by omega)).symm
        · by_cases h2 : j < 23
          · rw [A_l j h2, show i = 23 + (i - 23) by omega, A_b]; exact hball _ (gd_mem h2) _ (by omega)
          · rw [show i = 23 + (i - 23) by omega, show j = 23 + (j - 23) by omega, A_b, A_b]; exact hES.2.2.1 _ _ (by omega) (by omega) (by omega)
      · intro i h0 hi
        by_cases h1 : i < 23
        · rw [A_l i h1, show i = (i - 1) + 1 by omega]; exact hfrl _ (gd_mem (L := [y1, y2, y3, y4, y5, y6, y7, y8, y9, y10, y11, y12, y13, y14, y15, y16, y17, y18, y19, y20, y21, y22]) (show i - 1 < 22 by omega))
        · rw [show i = 23 + (i - 23) by omega, A_b]; exact hB1 _ (by omega)
      · intro a ha
        exact (mu_n' (by have := ha 17 (by decide); rw [A_17] at this; exact this) (mu_n' (by have := ha 22 (by decide); rw [A_22] at this; exact this) (mu_n' (by have := ha 21 (by decide); rw [A_21] at this; exact this) (mu_n' (by have := ha 20 (by decide); rw [A_20] at this; exact this) (mu_n' (by have := ha 19 (by decide); rw [A_19] at this; exact this) (mu_n' (by have := ha 0 (by decide); rw [A_0] at this; exact this) (mu_n' (by have := ha 18 (by decide); rw [A_18] at this; exact this) ((hES.2.2.2.2 a (by have := ha 17 (by decide); rw [A_17] at this; exact this) (fun x hx q => ha (23 + x) (by omega) (q.trans (A_b x).symm))).trans (hfr1 a (List.forall_mem_cons.mpr ⟨by have := ha 0 (by decide); rw [A_0] at this; exact this, List.forall_mem_cons.mpr ⟨by have := ha 1 (by decide); rw [A_1] at this; exact this, List.forall_mem_cons.mpr ⟨by have := ha 2 (by decide); rw [A_2] at this; exact this, List.forall_mem_cons.mpr ⟨by have := ha 3 (by decide); rw [A_3] at this; exact this, List.forall_mem_cons.mpr ⟨by have := ha 4 (by decide); rw [A_4] at this; exact this, List.forall_mem_cons.mpr ⟨by have := ha 5 (by decide); rw [A_5] at this; exact this, List.forall_mem_cons.mpr ⟨by have := ha 6 (by decide); rw [A_6] at this; exact this, List.forall_mem_cons.mpr ⟨by have := ha 7 (by decide); rw [A_7] at this; exact this, List.forall_mem_cons.mpr ⟨by have := ha 8 (by decide); rw [A_8] at this; exact this, List.forall_mem_cons.mpr ⟨by have := ha 9 (by decide); rw [A_9] at this; exact this, List.forall_mem_cons.mpr ⟨by have := ha 10 (by decide); rw [A_10] at this; exact this, List.forall_mem_cons.mpr ⟨by have := ha 11 (by decide); rw [A_11] at this; exact this, List.forall_mem_cons.mpr ⟨by have := ha 12 (by decide); rw [A_12] at this; exact this, List.forall_mem_cons.mpr ⟨by have := ha 13 (by decide); rw [A_13] at this; exact this, List.forall_mem_cons.mpr ⟨by have := ha 14 (by decide); rw [A_14] at this; exact this, List.forall_mem_cons.mpr ⟨by have := ha 15 (by decide); rw [A_15] at this; exact this, List.forall_mem_cons.mpr ⟨by have := ha 16 (by decide); rw [A_16] at this; exact this, List.forall_mem_cons.mpr ⟨by have := ha 17 (by decide); rw [A_17] at this; exact this, fun _ h => absurd h List.not_mem_nil⟩⟩⟩⟩⟩⟩⟩⟩⟩⟩⟩⟩⟩⟩⟩⟩⟩⟩))))))))))
      · exact ⟨by rw [A_0, A_1, A_3, A_14, A_17, A_18, A_19, A_20, A_21]; exact (mu_n' (Ne.symm ne_y17_o) (mu_n' (Ne.symm ne_y22_o) (mu_n' (Ne.symm ne_y21_o) (mu_n' (Ne.symm ne_y20_o) (mu_n' (Ne.symm ne_y19_o) mu_s))))), by rw [A_1, A_2]; exact (mu_n' (Ne.symm ne_y17_y1) (mu_n' (Ne.symm ne_y22_y1) (mu_n' (Ne.symm ne_y21_y1) (mu_n' (Ne.symm ne_y20_y1) (mu_n' (Ne.symm ne_y19_y1) (mu_n' ne_y1_o (mu_n' (Ne.symm ne_y18_y1) h_y1))))))), by rw [A_2]; exact (mu_n' (Ne.symm ne_y17_y2) (mu_n' (Ne.symm ne_y22_y2) (mu_n' (Ne.symm ne_y21_y2) (mu_n' (Ne.symm ne_y20_y2) (mu_n' (Ne.symm ne_y19_y2) (mu_n' ne_y2_o (mu_n' (Ne.symm ne_y18_y2) h_y2))))))), by rw [A_3, A_4, A_5, A_6, A_7, A_8, A_9, A_10, A_11, A_12, A_13]; exact (mu_n' (Ne.symm ne_y17_y3) (mu_n' (Ne.symm ne_y22_y3) (mu_n' (Ne.symm ne_y21_y3) (mu_n' (Ne.symm ne_y20_y3) (mu_n' (Ne.symm ne_y19_y3) (mu_n' ne_y3_o (mu_n' (Ne.symm ne_y18_y3) h_y3))))))), by rw [A_4]; exact (mu_n' (Ne.symm ne_y17_y4) (mu_n' (Ne.symm ne_y22_y4) (mu_n' (Ne.symm ne_y21_y4) (mu_n' (Ne.symm ne_y20_y4) (mu_n' (Ne.symm ne_y19_y4) (mu_n' ne_y4_o (mu_n' (Ne.symm ne_y18_y4) h_y4))))))), by rw [A_5]; exact (mu_n' (Ne.symm ne_y17_y5) (mu_n' (Ne.symm ne_y22_y5) (mu_n' (Ne.symm ne_y21_y5) (mu_n' (Ne.symm ne_y20_y5) (mu_n' (Ne.symm ne_y19_y5) (mu_n' ne_y5_o (mu_n' (Ne.symm ne_y18_y5) h_y5))))))), by rw [A_6]; exact (mu_n' (Ne.symm ne_y17_y6) (mu_n' (Ne.symm ne_y22_y6) (mu_n' (Ne.symm ne_y21_y6) (mu_n' (Ne.symm ne_y20_y6) (mu_n' (Ne.symm ne_y19_y6) (mu_n' ne_y6_o (mu_n' (Ne.symm ne_y18_y6) h_y6))))))), by rw [A_7]; exact (mu_n' (Ne.symm ne_y17_y7) (mu_n' (Ne.symm ne_y22_y7) (mu_n' (Ne.symm ne_y21_y7) (mu_n' (Ne.symm ne_y20_y7) (mu_n' (Ne.symm ne_y19_y7) (mu_n' ne_y7_o (mu_n' (Ne.symm ne_y18_y7) h_y7))))))), by rw [A_8]; exact (mu_n' (Ne.symm ne_y17_y8) (mu_n' (Ne.symm ne_y22_y8) (mu_n' (Ne.symm ne_y21_y8) (mu_n' (Ne.symm ne_y20_y8) (mu_n' (Ne.symm ne_y19_y8) (mu_n' ne_y8_o (mu_n' (Ne.symm ne_y18_y8) h_y8))))))), by rw [A_9]; exact (mu_n' (Ne.symm ne_y17_y9) (mu_n' (Ne.symm ne_y22_y9) (mu_n' (Ne.symm ne_y21_y9) (mu_n' (Ne.symm ne_y20_y9) (mu_n' (Ne.symm ne_y19_y9) (mu_n' ne_y9_o (mu_n' (Ne.symm ne_y18_y9) h_y9))))))), by rw [A_10]; exact (mu_n' (Ne.symm ne_y17_y10) (mu_n' (Ne.symm ne_y22_y10) (mu_n' (Ne.symm ne_y21_y10) (mu_n' (Ne.symm ne_y20_y10) (mu_n' (Ne.symm ne_y19_y10) (mu_n' ne_y10_o (mu_n' (Ne.symm ne_y18_y10) h_y10))))))), by rw [A_11]; exact (mu_n' (Ne.symm ne_y17_y11) (mu_n' (Ne.symm ne_y22_y11) (mu_n' (Ne.symm ne_y21_y11) (mu_n' (Ne.symm ne_y20_y11) (mu_n' (Ne.symm ne_y19_y11) (mu_n' ne_y11_o (mu_n' (Ne.symm ne_y18_y11) h_y11))))))), by rw [A_12]; exact (mu_n' (Ne.symm ne_y17_y12) (mu_n' (Ne.symm ne_y22_y12) (mu_n' (Ne.symm ne_y21_y12) (mu_n' (Ne.symm ne_y20_y12) (mu_n' (Ne.symm ne_y19_y12) (mu_n' ne_y12_o (mu_n' (Ne.symm ne_y18_y12) h_y12))))))), by rw [A_13]; exact (mu_n' (Ne.symm ne_y17_y13) (mu_n' (Ne.symm ne_y22_y13) (mu_n' (Ne.symm ne_y21_y13) (mu_n' (Ne.symm ne_y20_y13) (mu_n' (Ne.symm ne_y19_y13) (mu_n' ne_y13_o (mu_n' (Ne.symm ne_y18_y13) h_y13))))))), by rw [A_14, A_15, A_16]; exact (mu_n' (Ne.symm ne_y17_y14) (mu_n' (Ne.symm ne_y22_y14) (mu_n' (Ne.symm ne_y21_y14) (mu_n' (Ne.symm ne_y20_y14) (mu_n' (Ne.symm ne_y19_y14) (mu_n' ne_y14_o (mu_n' (Ne.symm ne_y18_y14) h_y14))))))), by rw [A_15]; exact (mu_n' (Ne.symm ne_y17_y15) (mu_n' (Ne.symm ne_y22_y15) (mu_n' (Ne.symm ne_y21_y15) (mu_n' (Ne.symm ne_y20_y15) (mu_n' (Ne.symm ne_y19_y15) (mu_n' ne_y15_o (mu_n' (Ne.symm ne_y18_y15) h_y15))))))), by rw [A_16]; exact (mu_n' (Ne.symm ne_y17_y16) (mu_n' (Ne.symm ne_y22_y16) (mu_n' (Ne.symm ne_y21_y16) (mu_n' (Ne.symm ne_y20_y16) (mu_n' (Ne.symm ne_y19_y16) (mu_n' ne_y16_o (mu_n' (Ne.symm ne_y18_y16) h_y16))))))), by rw [A_17]; exact mu_s, by rw [A_18]; rw [nl_0]; exact (mu_n' ne_y18_y17 (mu_n' (Ne.symm ne_y22_y18) (mu_n' (Ne.symm ne_y21_y18) (mu_n' (Ne.symm ne_y20_y18) (mu_n' (Ne.symm ne_y19_y18) (mu_n' ne_y18_o mu_s)))))), by rw [A_19]; exact (mu_n' ne_y19_y17 (mu_n' (Ne.symm ne_y22_y19) (mu_n' (Ne.symm ne_y21_y19) (mu_n' (Ne.symm ne_y20_y19) mu_s)))), by rw [A_20]; exact (mu_n' ne_y20_y17 (mu_n' (Ne.symm ne_y22_y20) (mu_n' (Ne.symm ne_y21_y20) mu_s))), by rw [A_21, A_22]; exact (mu_n' ne_y21_y17 (mu_n' (Ne.symm ne_y22_y21) mu_s)), by rw [A_22]; rw [nl_0]; exact (mu_n' ne_y22_y17 mu_s), fun e he => by rw [A_e0, A_e1, A_e4, A_e5]; exact (mu_n' (hb_y17 _ (by omega)) (mu_n' (hb_y22 _ (by omega)) (mu_n' (hb_y21 _ (by omega)) (mu_n' (hb_y20 _ (by omega)) (mu_n' (hb_y19 _ (by omega)) (mu_n' (hb_o _ (by omega)) (mu_n' (hb_y18 _ (by omega)) (hES.2.1 e he).1))))))), fun e he => by rw [A_e1, A_e2, A_e3]; exact (mu_n' (hb_y17 _ (by omega)) (mu_n' (hb_y22 _ (by omega)) (mu_n' (hb_y21 _ (by omega)) (mu_n' (hb_y20 _ (by omega)) (mu_n' (hb_y19 _ (by omega)) (mu_n' (hb_o _ (by omega)) (mu_n' (hb_y18 _ (by omega)) (hES.2.1 e he).2.1))))))), fun e he => by rw [A_e2]; exact (mu_n' (hb_y17 _ (by omega)) (mu_n' (hb_y22 _ (by omega)) (mu_n' (hb_y21 _ (by omega)) (mu_n' (hb_y20 _ (by omega)) (mu_n' (hb_y19 _ (by omega)) (mu_n' (hb_o _ (by omega)) (mu_n' (hb_y18 _ (by omega)) (hES.2.1 e he).2.2.1))))))), fun e he => by rw [A_e3]; exact (mu_n' (hb_y17 _ (by omega)) (mu_n' (hb_y22 _ (by omega)) (mu_n' (hb_y21 _ (by omega)) (mu_n' (hb_y20 _ (by omega)) (mu_n' (hb_y19 _ (by omega)) (mu_n' (hb_o _ (by omega)) (mu_n' (hb_y18 _ (by omega)) (hES.2.1 e he).2.2.2.1))))))), fun e he => by rw [A_e4]; exact (mu_n' (hb_y17 _ (by omega)) (mu_n' (hb_y22 _ (by omega)) (mu_n' (hb_y21 _ (by omega)) (mu_n' (hb_y20 _ (by omega)) (mu_n' (hb_y19 _ (by omega)) (mu_n' (hb_o _ (by omega)) (mu_n' (hb_y18 _ (by omega)) (hES.2.1 e he).2.2.2.2.1))))))), fun e he => by rw [A_e5]; exact (mu_n' (hb_y17 _ (by omega)) (mu_n' (hb_y22 _ (by omega)) (mu_n' (hb_y21 _ (by omega)) (mu_n' (hb_y20 _ (by omega)) (mu_n' (hb_y19 _ (by omega)) (mu_n' (hb_o _ (by omega)) (mu_n' (hb_y18 _ (by omega)) (hES.2.1 e he).2.2.2.2.2))))))), fun j hj => absurd hj (Nat.not_lt_zero j), fun e he j hj => absurd hj (Nat.not_lt_zero j), fun h => absurd h (by decide), fun h => absurd h (by decide)⟩
    | succ k ih =>
      intro i Mk B q H locs ls hi h_o h_ep hES hM hS hl
      refine lv_iload_n hx hb dd_P_init_48 rfl (lv_at hl 1 rfl) ?_
      refine lv_bipush (v := nI 16) hx hb dd_P_init_49 (by decide) ?_
      refine lv_icmp_gt (tgt := 73) hx hb dd_P_init_51 rfl (fun hc => absurd hc (nlt_nI (a := 16) (b := i) (by omega) (by omega) (by omega))) (fun _ => ?_)
      refine lv_aload_n hx hb dd_P_init_54 rfl (lv_at hl 0 rfl) ?_
      refine mr_get C0 hM fk_P_32 h_o (v := .ref y17) rfl dd_P_init_55 ?_
      refine lv_iload_n hx hb dd_P_init_58 rfl (lv_at hl 1 rfl) ?_
      refine mr_newoF (ci := 0) (fs := [.null, .null, .null]) C0 hM hS rfl ly_E ok_E tw_90 tw_92 tw_5 (fun j hj => by match j, hj with | 0, _ => rfl | 1, _ => rfl | 2, _ => rfl) (by subst hR; dsimp only; omega) (by subst hR; dsimp only; omega) dd_P_init_59 (fun z0 H hf hM hS => ?_)
      have fr_z0 := hf
      have ne_z0_o := ne_fr fr_z0 h_o
      have ne_z0_y17 := ne_fr fr_z0 h_ep
      have hM : mm_ G (mu_ Mk z0 (ob_ 0 [.null, .null, .null])) H := hM
      refine lv_dup hx hb dd_P_init_62 rfl ?_
      refine mr_callI (As := []) (rest := [.ref z0, .int (nI i), .ref y17]) C0 hM hS tw_95 C0.2.2.2.2.2.2.2.1.2.2.2.2.1 tw_5 tw_94 ⟨by decide, by decide, by decide +kernel⟩ rfl (c_E_init l mu_s) rfl rfl hl.1 (Nat.le_of_ble_eq_true rfl) rfl rfl (by subst hR; exact ⟨Nat.le_of_ble_eq_true rfl, Nat.le_of_ble_eq_true rfl⟩) (by subst hR; exact ⟨by dsimp only; omega, by dsimp only; omega⟩) dd_P_init_63 (fun v1 M1 H locs hp hM hS => ?_)
      obtain ⟨ev1, z1, z2, z3, z4, z5, ⟨hf_z1, hf_z2, hf_z3, hf_z4, hf_z5, ne_z2_z1, ne_z3_z1, ne_z3_z2, ne_z4_z1, ne_z4_z2, ne_z4_z3, ne_z5_z1, ne_z5_z2, ne_z5_z3, ne_z5_z4⟩, eM1⟩ := hp
      subst ev1
      rw [eM1] at hM
      have hf := hf_z1
      obtain ⟨ne_z1_z0, hf⟩ := mu_fr hf
      have fr_z1 := hf
      have ne_z1_o := ne_fr fr_z1 h_o
      have ne_z1_y17 := ne_fr fr_z1 h_ep
      have hf := hf_z2
      obtain ⟨ne_z2_z0, hf⟩ := mu_fr hf
      have fr_z2 := hf
      have ne_z2_o := ne_fr fr_z2 h_o
      have ne_z2_y17 := ne_fr fr_z2 h_ep
      have hf := hf_z3
      obtain ⟨ne_z3_z0, hf⟩ := mu_fr hf
      have fr_z3 := hf
      have ne_z3_o := ne_fr fr_z3 h_o
      have ne_z3_y17 := ne_fr fr_z3 h_ep
      have hf := hf_z4
      obtain ⟨ne_z4_z0, hf⟩ := mu_fr hf
      have fr_z4 := hf
      have ne_z4_o := ne_fr fr_z4 h_o
      have ne_z4_y17 := ne_fr fr_z4 h_ep
      have hf := hf_z5
      obtain ⟨ne_z5_z0, hf⟩ := mu_fr hf
      have fr_z5 := hf
      have ne_z5_o := ne_fr fr_z5 h_o
      have ne_z5_y17 := ne_fr fr_z5 h_ep
      have hM := mr_M (congrArg (fun X__ => mu_ X__ z5 (la_ G 4 (fun _ => 0))) (congrArg (fun X__ => mu_ X__ z4 (la_ G 4 (fun _ => 0))) (mu_c4 (Ne.symm ne_z1_z0) (Ne.symm ne_z2_z0) (Ne.symm ne_z3_z0)))) hM
      have hM : mm_ G (mu_ (mu_ (mu_ (mu_ (mu_ (mu_ Mk z0 (ob_ 0 [.ref z1, .ref z4, .ref z5])) z1 (ob_ 3 [.ref z2, .ref z3, .int (nI 0)])) z2 (la_ G 10 (fun _ => 0))) z3 (ia_ G 10 (fun _ => 0))) z4 (la_ G 4 (fun _ => 0))) z5 (la_ G 4 (fun _ => 0))) H := hM
      refine W.eq (g2 := F0 m 66 ls [.ref z0, .int (nI i), .ref y17]) rfl ?_
      refine mr_aast C0 hM hS (mu_n' (Ne.symm ne_z5_y17) (mu_n' (Ne.symm ne_z4_y17) (mu_n' (Ne.symm ne_z3_y17) (mu_n' (Ne.symm ne_z2_y17) (mu_n' (Ne.symm ne_z1_y17) (mu_n' (Ne.symm ne_z0_y17) h_ep)))))) (mu_n' (Ne.symm ne_z5_z0) (mu_n' (Ne.symm ne_z4_z0) (mu_n' (Ne.symm ne_z3_z0) (mu_n' (Ne.symm ne_z2_z0) (mu_n' (Ne.symm ne_z1_z0) mu_s))))) (i) (rfl) (by omega) (by decide) dd_P_init_66 (fun H locs hM hS => ?_)
      have hM : mm_ G (mu_ (mu_ (mu_ (mu_ (mu_ (mu_ (mu_ Mk z0 (ob_ 0 [.ref z1, .ref z4, .ref z5])) z1 (ob_ 3 [.ref z2, .ref z3, .int (nI 0)])) z2 (la_ G 10 (fun _ => 0))) z3 (ia_ G 10 (fun _ => 0))) z4 (la_ G 4 (fun _ => 0))) z5 (la_ G 4 (fun _ => 0))) y17 (qa_ G 17 (va_up q i (some z0)))) H := hM
      refine lv_iinc (k := 1) (v := nI (i + 1)) (lv' := [(1, .int (nI (i + 1))), (0, .ref o)]) hx hb dd_P_init_67 hl rfl (inc_ i) (by decide) rfl (fun ls hl => ?_)
      refine lv_goto (tgt := 48) hx hb dd_P_init_70 rfl ?_
      refine mr_cs (c' := 17 + 6 * (i + 1)) (s' := 158 + 34 * (i + 1)) (by omega) (by omega) ?_
      exact ih (i + 1) (mu_ (mu_ (mu_ (mu_ (mu_ (mu_ (mu_ Mk z0 (ob_ 0 [.ref z1, .ref z4, .ref z5])) z1 (ob_ 3 [.ref z2, .ref z3, .int (nI 0)])) z2 (la_ G 10 (fun _ => 0))) z3 (ia_ G 10 (fun _ => 0))) z4 (la_ G 4 (fun _ => 0))) z5 (la_ G 4 (fun _ => 0))) y17 (qa_ G 17 (va_up q i (some z0)))) (bx_ B (6 * i) z0 z1 z2 z3 z4 z5) (va_up q i (some z0)) _ _ _ (by omega) ((mu_n' (Ne.symm ne_y17_o) (mu_n' (Ne.symm ne_z5_o) (mu_n' (Ne.symm ne_z4_o) (mu_n' (Ne.symm ne_z3_o) (mu_n' (Ne.symm ne_z2_o) (mu_n' (Ne.symm ne_z1_o) (mu_n' (Ne.symm ne_z0_o) h_o)))))))) (mu_s) (ES_s hES h_ep fr_z0 fr_z1 fr_z2 fr_z3 fr_z4 fr_z5 ne_z1_z0 ne_z2_z0 ne_z2_z1 ne_z3_z0 ne_z3_z1 ne_z3_z2 ne_z4_z0 ne_z4_z1 ne_z4_z2 ne_z4_z3 ne_z5_z0 ne_z5_z1 ne_z5_z2 ne_z5_z3 ne_z5_z4 (mu_n' ne_z0_y17 (mu_n' (Ne.symm ne_z5_z0) (mu_n' (Ne.symm ne_z4_z0) (mu_n' (Ne.symm ne_z3_z0) (mu_n' (Ne.symm ne_z2_z0) (mu_n' (Ne.symm ne_z1_z0) mu_s)))))) (mu_n' ne_z1_y17 (mu_n' (Ne.symm ne_z5_z1) (mu_n' (Ne.symm ne_z4_z1) (mu_n' (Ne.symm ne_z3_z1) (mu_n' (Ne.symm ne_z2_z1) mu_s))))) (mu_n' ne_z2_y17 (mu_n' (Ne.symm ne_z5_z2) (mu_n' (Ne.symm ne_z4_z2) (mu_n' (Ne.symm ne_z3_z2) mu_s)))) (mu_n' ne_z3_y17 (mu_n' (Ne.symm ne_z5_z3) (mu_n' (Ne.symm ne_z4_z3) mu_s))) (mu_n' ne_z4_y17 (mu_n' (Ne.symm ne_z5_z4) mu_s)) (mu_n' ne_z5_y17 mu_s) (fun b k9 k0 k1 k2 k3 k4 k5 => (mu_n' k9 (mu_n' k5 (mu_n' k4 (mu_n' k3 (mu_n' k2 (mu_n' k1 (mu_n' k0 rfl))))))))) hM hS (lv_sub hl [1, 0] rfl)
  exact loop_48 17 0 M1 (fun _ => 0) _ _ _ _ (by omega) (j_o) (j_y17) (ES_0) hM hS (lv_sub hl [1, 0] rfl)
