/-! numbers under the ring: a product added, a limb dropped, a modulus taken off -/
def ca_ (b T X l j : Nat) : Nat := (T % b ^ j + X % b ^ j * l) / b ^ j
theorem ca_0 (b T X l : Nat) : ca_ b T X l 0 = 0 := by simp [ca_, Nat.mod_one]
theorem ca_step {b : Nat} (hb : 0 < b) (T X l j : Nat) : db_ b T j + db_ b X j * l + ca_ b T X l j = (T % b ^ (j + 1) + X % b ^ (j + 1) * l) / b ^ j := by
  have e : T % b ^ (j + 1) + X % b ^ (j + 1) * l = (T % b ^ j + X % b ^ j * l) + b ^ j * (db_ b T j + db_ b X j * l) := by
    rw [db_split, db_split, Nat.add_mul, Nat.mul_add, Nat.mul_assoc]
    omega
  rw [e, Nat.add_mul_div_left _ _ (Nat.pow_pos hb), ca_]
  omega
theorem ca_dig (b T X l j : Nat) : (T % b ^ (j + 1) + X % b ^ (j + 1) * l) / b ^ j % b = db_ b (T + X * l) j := by
  have h : (T % b ^ (j + 1) + X % b ^ (j + 1) * l) / b ^ j % b = db_ b (T % b ^ (j + 1) + X % b ^ (j + 1) * l) j := rfl
  rw [h, db_mod, db_mod b (T + X * l), Nat.add_mod, Nat.mod_mod, Nat.mod_mul_mod, ← Nat.add_mod]
theorem ca_next (b T X l j : Nat) : (T % b ^ (j + 1) + X % b ^ (j + 1) * l) / b ^ j / b = ca_ b T X l (j + 1) := by
  rw [ca_, Nat.div_div_eq_div_mul, ← Nat.pow_succ]
theorem ca_le {b : Nat} (hb : 0 < b) (T X l j : Nat) : ca_ b T X l j ≤ l := by
  rw [ca_]
  have hp : 0 < b ^ j := Nat.pow_pos hb
  apply Nat.le_of_lt_succ
  rw [Nat.div_lt_iff_lt_mul hp]
  have h1 : T % b ^ j < b ^ j := Nat.mod_lt _ hp
  have h2 : X % b ^ j * l ≤ b ^ j * l := Nat.mul_le_mul_right l (Nat.le_of_lt (Nat.mod_lt _ hp))
  rw [Nat.succ_mul, Nat.mul_comm l]
  omega
theorem ca_top {b T X l n : Nat} (hb : 0 < b) (hX : X < b ^ n) (hT : T < b ^ (n + 1)) : db_ b T n + ca_ b T X l n = (T + X * l) / b ^ n := by
  have hp : 0 < b ^ n := Nat.pow_pos hb
  have e : T + X * l = (T % b ^ n + X * l) + b ^ n * (T / b ^ n) := by
    have := Nat.mod_add_div T (b ^ n)
    omega
  have h2 : db_ b T n = T / b ^ n := by
    rw [db_]
    apply Nat.mod_eq_of_lt
    rw [Nat.div_lt_iff_lt_mul hp, Nat.mul_comm, ← Nat.pow_succ]
    exact hT
  rw [e, Nat.add_mul_div_left _ _ hp, ca_, h2, Nat.mod_eq_of_lt hX]
  omega
theorem db_div (b W j : Nat) : db_ b (W / b) j = db_ b W (j + 1) := by
  rw [db_, db_, Nat.div_div_eq_div_mul, ← Nat.pow_succ']
theorem db_last {b W n : Nat} (hb : 0 < b) (h : W < b ^ (n + 1)) : db_ b W n = W / b ^ n := by
  rw [db_]
  apply Nat.mod_eq_of_lt
  rw [Nat.div_lt_iff_lt_mul (Nat.pow_pos hb), Nat.mul_comm, ← Nat.pow_succ]
  exact h
/-- carries with a constant -/
def ce_ (b A V x i : Nat) : Nat := (A + V % b ^ i * x) / b ^ i
theorem ce_0 (b A V x : Nat) : ce_ b A V x 0 = A := by simp [ce_, Nat.mod_one]
theorem ce_step {b : Nat} (hb : 0 < b) (A V x i : Nat) : db_ b V i * x + ce_ b A V x i = (A + V % b ^ (i + 1) * x) / b ^ i := by
  have e : A + V % b ^ (i + 1) * x = (A + V % b ^ i * x) + b ^ i * (db_ b V i * x) := by
    rw [db_split, Nat.add_mul, Nat.mul_assoc]; omega
  rw [e, Nat.add_mul_div_left _ _ (Nat.pow_pos hb), ce_, Nat.add_comm]
theorem ce_dig (b A V x i : Nat) : (A + V % b ^ (i + 1) * x) / b ^ i % b = db_ b (A + V * x) i := by
  have h : (A + V % b ^ (i + 1) * x) / b ^ i % b = db_ b (A + V % b ^ (i + 1) * x) i := rfl
  rw [h, db_mod, db_mod b (A + V * x), Nat.add_mod, Nat.mod_mul_mod, ← Nat.add_mod]
theorem ce_next (b A V x i : Nat) : (A + V % b ^ (i + 1) * x) / b ^ i / b = ce_ b A V x (i + 1) := by
  rw [ce_, Nat.div_div_eq_div_mul, ← Nat.pow_succ]
theorem ce_le {b : Nat} (hb : 0 < b) {A : Nat} (V x i : Nat) : ce_ b A V x i ≤ A + x := by
  rw [ce_]
  have hp : 0 < b ^ i := Nat.pow_pos hb
  apply Nat.div_le_of_le_mul
  have h2 : V % b ^ i * x ≤ b ^ i * x := Nat.mul_le_mul_right x (Nat.le_of_lt (Nat.mod_lt _ hp))
  have h3 : A ≤ b ^ i * A := Nat.le_mul_of_pos_left A hp
  rw [Nat.mul_add]
  omega
/-- the borrow before limb j -/
def bo_ (b T N j : Nat) : Nat := if T % b ^ j < N % b ^ j then 1 else 0
theorem bo_0 (b T N : Nat) : bo_ b T N 0 = 0 := by simp [bo_, Nat.mod_one]
theorem bo_le (b T N j : Nat) : bo_ b T N j ≤ 1 := by rw [bo_]; split <;> omega
theorem bo_s {b : Nat} (hb : 0 < b) (T N j : Nat) : bo_ b T N (j + 1) = if db_ b T j < db_ b N j + bo_ b T N j then 1 else 0 := by
  have hp : 0 < b ^ j := Nat.pow_pos hb
  have h1 : T % b ^ j < b ^ j := Nat.mod_lt _ hp
  have h2 : N % b ^ j < b ^ j := Nat.mod_lt _ hp
  rw [bo_, bo_, db_split, db_split]
  generalize T % b ^ j = t at *
  generalize N % b ^ j = n at *
  generalize db_ b T j = x
  generalize db_ b N j = y
  generalize b ^ j = P at *
  congr 1
  apply propext
  rcases Nat.lt_trichotomy x y with h | h | h
  · have h3 : P * (x + 1) ≤ P * y := Nat.mul_le_mul_left P h
    rw [Nat.mul_add, Nat.mul_one] at h3
    constructor
    · intro _; split <;> omega
    · intro _; omega
  · subst h
    constructor
    · intro h; rw [if_pos (by omega)]; omega
    · intro h
      by_cases h4 : t < n
      · omega
      · rw [if_neg h4] at h; omega
  · have h3 : P * (y + 1) ≤ P * x := Nat.mul_le_mul_left P h
    rw [Nat.mul_add, Nat.mul_one] at h3
    constructor
    · intro _; omega
    · intro h4; split at h4 <;> omega
theorem bo_dig {b T N n j : Nat} (hb : 0 < b) (hN : N < b ^ n) (hj : j < n) : (db_ b T j + b - db_ b N j - bo_ b T N j) % b = db_ b (T % b ^ n + b ^ n - N) j := by
  have hp : 0 < b ^ j := Nat.pow_pos hb
  have h1 : T % b ^ j < b ^ j := Nat.mod_lt _ hp
  have h2 : N % b ^ j < b ^ j := Nat.mod_lt _ hp
  have hx : db_ b T j < b := db_lt hb
  have hy : db_ b N j < b := db_lt hb
  obtain ⟨c, hc⟩ : ∃ c, b ^ n = b ^ (j + 1) * c := ⟨b ^ (n - (j + 1)), by rw [← Nat.pow_add]; congr 1; omega⟩
  have hcp : 0 < c := by
    rcases Nat.eq_zero_or_pos c with h | h
    · rw [h, Nat.mul_zero] at hc; have := Nat.pow_pos (n := n) hb; omega
    · exact h
  have e1 : (T % b ^ n + b ^ n - N) % b ^ (j + 1) = (T % b ^ (j + 1) + b ^ (j + 1) - N % b ^ (j + 1)) % b ^ (j + 1) := by
    have hT : T % b ^ n % b ^ (j + 1) = T % b ^ (j + 1) := by rw [hc, Nat.mod_mul_right_mod]
    generalize T % b ^ n = T' at *
    rw [← hT]
    have hP1 : 0 < b ^ (j + 1) := Nat.pow_pos hb
    generalize b ^ (j + 1) = P1 at *
    rw [hc] at hN ⊢
    have a1 := Nat.div_add_mod T' P1
    have a2 := Nat.div_add_mod N P1
    have a3 : N / P1 < c := by rw [Nat.div_lt_iff_lt_mul hP1, Nat.mul_comm]; exact hN
    have a4 : N % P1 < P1 := Nat.mod_lt _ hP1
    have a5 : P1 * (N / P1 + 1) ≤ P1 * c := Nat.mul_le_mul_left P1 a3
    rw [Nat.mul_add, Nat.mul_one] at a5
    obtain ⟨d, hd⟩ : ∃ d, P1 * c = P1 * (N / P1) + P1 + d * P1 := by
      refine ⟨c - (N / P1 + 1), ?_⟩
      have : c = N / P1 + 1 + (c - (N / P1 + 1)) := by omega
      conv => lhs; rw [this]
      rw [Nat.mul_add, Nat.mul_add, Nat.mul_one, Nat.mul_comm P1 (c - _)]
    have a6 : T' + P1 * c - N = (T' % P1 + P1 - N % P1) + P1 * (T' / P1 + d) := by
      rw [Nat.mul_add, Nat.mul_comm P1 d]
      omega
    rw [a6, Nat.add_mul_mod_self_left]
  rw [db_mod b (T % b ^ n + b ^ n - N), e1, db_split b T j, db_split b N j, Nat.pow_succ]
  have hbo : bo_ b T N j = if T % b ^ j < N % b ^ j then 1 else 0 := rfl
  generalize T % b ^ j = t at *
  generalize N % b ^ j = m at *
  generalize db_ b T j = x at *
  generalize db_ b N j = y at *
  generalize hP : b ^ j = P at *
  have e2 : t + P * x + P * b - (m + P * y) = (t + P * bo_ b T N j - m) + P * (x + b - y - bo_ b T N j) := by
    rw [hbo]
    have b1 : P * (x + b - y - if t < m then 1 else 0) = P * x + P * b - P * y - P * (if t < m then 1 else 0) := by
      rw [Nat.mul_sub, Nat.mul_sub, Nat.mul_add]
    have b2 : P * (y + 1) ≤ P * b := Nat.mul_le_mul_left P hy
    rw [Nat.mul_add, Nat.mul_one] at b2
    rw [b1]
    split <;> omega
  rw [e2, Nat.mod_mul_right_div_self, Nat.add_mul_div_left _ _ hp]
  have e3 : (t + P * bo_ b T N j - m) / P = 0 := by
    apply Nat.div_eq_of_lt
    rw [hbo]
    split <;> omega
  rw [e3, Nat.zero_add]
theorem red_val {T N P : Nat} (hN : N < P) (hT : T < 2 * N) : (if T / P < (if T % P < N then 1 else 0) then T else (T % P + P - N) % P) = T % N := by
  have h1 := Nat.div_add_mod T P
  have h4 : T % P < P := Nat.mod_lt _ (by omega)
  have h3 : T / P < 2 := by rw [Nat.div_lt_iff_lt_mul (by omega)]; omega
  have key : T % N = if T < N then T else T - N := by
    split
    · exact Nat.mod_eq_of_lt (by assumption)
    · rw [Nat.mod_eq_sub_mod (by omega), Nat.mod_eq_of_lt (by omega)]
  rw [key]
  rcases Nat.lt_or_ge (T / P) 1 with h | h
  · have h0 : T / P = 0 := Nat.lt_one_iff.mp h
    rw [h0, Nat.mul_zero, Nat.zero_add] at h1
    rw [h0, h1]
    by_cases h5 : T < N
    · simp [h5]
    · simp only [h5, if_false, Nat.lt_irrefl]
      rw [show T + P - N = (T - N) + P by omega, Nat.add_mod_right, Nat.mod_eq_of_lt (by omega)]
  · have h0 : T / P = 1 := Nat.le_antisymm (Nat.le_of_lt_succ h3) h
    rw [h0, Nat.mul_one] at h1
    rw [h0, if_neg (by split <;> omega), if_neg (by omega), Nat.mod_eq_of_lt (by omega)]
    omega

theorem lsb_ {a b c : Nat} (ha : a < 4294967296) (hb : b < 4294967296) (hc : c ≤ 1) : lN a - lN b - lN c = lN (a + 18446744073709551616 - b - c) := by
  have e : lN a = lN (a + 18446744073709551616) := by
    rw [wb_mod (a + 18446744073709551616), wb_mod a, show (a + 18446744073709551616) % 2 ^ 64 = a % 2 ^ 64 by omega]
  rw [e, lN_sub (by omega), lN_sub (by omega)]
theorem lsb_m {a b c : Nat} (ha : a < 4294967296) (hb : b < 4294967296) (hc : c ≤ 1) : (lN a - lN b - lN c) &&& lN 4294967295 = lN ((a + 4294967296 - b - c) % 4294967296) := by
  rw [lsb_ ha hb hc, wb_mod, lm_ (by omega)]
  congr 1
  omega
theorem lsb_s {a b c : Nat} (ha : a < 4294967296) (hb : b < 4294967296) (hc : c ≤ 1) : lus_ (lN a - lN b - lN c) (nI 63) = lN (if a < b + c then 1 else 0) := by
  rw [lsb_ ha hb hc, wb_mod]
  refine (wb_shr (k := 63) (by omega) (by decide)).trans (congrArg lN ?_)
  split <;> omega
/-- Montgomery's step -/
theorem mg_step {b T X l N m i : Nat} (hb : 0 < b) (hd : (T + X * l + N * m) % b = 0) {Y : Nat} (hl : l = db_ b Y i) (h : T * b ^ i % N = X * (Y % b ^ i) % N) : (T + X * l + N * m) / b * b ^ (i + 1) % N = X * (Y % b ^ (i + 1)) % N := by
  have e1 : (T + X * l + N * m) / b * b ^ (i + 1) = (T + X * l + N * m) * b ^ i := by
    rw [Nat.pow_succ', ← Nat.mul_assoc, Nat.div_mul_cancel (Nat.dvd_of_mod_eq_zero hd)]
  have e2 : (T + X * l + N * m) * b ^ i = (T * b ^ i + X * (b ^ i * l)) + N * (m * b ^ i) := by
    rw [Nat.add_mul, Nat.add_mul, Nat.mul_assoc, Nat.mul_assoc, Nat.mul_comm l]
  rw [e1, e2, Nat.add_mul_mod_self_left, Nat.add_mod, h, ← Nat.add_mod, db_split, Nat.mul_add, hl]
theorem mg_lt {b T X l N m : Nat} (hb : 0 < b) (hT : T < 2 * N) (hX : X < N) (hl : l < b) (hm : m < b) : (T + X * l + N * m) / b < 2 * N := by
  rw [Nat.div_lt_iff_lt_mul hb]
  obtain ⟨x, rfl⟩ : ∃ x, N = X + 1 + x := ⟨N - X - 1, by omega⟩
  obtain ⟨u, rfl⟩ : ∃ u, b = l + 1 + u := ⟨b - l - 1, by omega⟩
  obtain ⟨w, hw⟩ : ∃ w, l + 1 + u = m + 1 + w := ⟨l + 1 + u - m - 1, by omega⟩
  have h1 : X * l + X + X * u = X * (l + 1 + u) := by simp only [Nat.mul_add, Nat.mul_one]
  have h2 : (X + 1 + x) * m + (X + 1 + x) + (X + 1 + x) * w = (X + 1 + x) * (l + 1 + u) := by rw [hw]; simp only [Nat.mul_add, Nat.mul_one]
  have h3 : X * (l + 1 + u) + (l + 1 + u) + x * (l + 1 + u) = (X + 1 + x) * (l + 1 + u) := by rw [Nat.add_mul, Nat.add_mul, Nat.one_mul]
  have h4 : x ≤ x * (l + 1 + u) := Nat.le_mul_of_pos_right x (by omega)
  rw [Nat.mul_assoc]
  omega
theorem mg_zero {b t n' N : Nat} (h : (n' * N + 1) % b = 0) : (t + N * (t % b * n' % b)) % b = 0 := by
  have e : (t + N * (t % b * n' % b)) % b = (t * (n' * N + 1)) % b := by
    rw [Nat.add_mod, Nat.mul_mod_mod, Nat.mul_comm N, Nat.mul_assoc, Nat.mod_mul_mod, ← Nat.add_mod]
    congr 1
    rw [Nat.mul_add, Nat.mul_one, Nat.add_comm]
  rw [e, Nat.mul_mod, h, Nat.mul_zero, Nat.zero_mod]
/-- what is left of a product behind Montgomery's division -/
theorem mg_end {T X Y N P Bi : Nat} (hBi : P * Bi % N = 1 % N) (h : T * P % N = X * Y % N) : T % N = X * Y * Bi % N := by
  have e : T * P * Bi % N = X * Y * Bi % N := by rw [Nat.mul_mod, h, ← Nat.mul_mod]
  rw [← e, Nat.mul_assoc, Nat.mul_mod, hBi, ← Nat.mul_mod, Nat.mul_one]
/-- limbs of W / 2^32 below j, of T from there on -/
def ds_ (T W j : Nat) : Nat → Int64 := fun i => if i + 1 < j then lN (dg_ W (i + 1)) else lN (dg_ T i)
theorem ds_1 (T W : Nat) : nl_ T = ds_ T W 1 := by funext i; simp [nl_, ds_]
theorem ds_s {T W j : Nat} (h : 0 < j) : vp_updL (ds_ T W j) (j - 1) (lN (dg_ W j)) = ds_ T W (j + 1) := by
  funext i
  by_cases h1 : i = j - 1
  · subst h1
    simp [vp_updL, ds_, show j - 1 + 1 = j by omega]
  · by_cases h2 : i + 1 < j
    · simp [vp_updL, ds_, h1, h2, show i + 1 < j + 1 by omega]
    · simp [vp_updL, ds_, h1, h2, show ¬ i < j by omega]
theorem ds_at {T W j : Nat} : ds_ T W j j = lN (dg_ T j) := if_neg (by omega)
theorem ds_b {T W j i : Nat} (h : i + 1 < j) : ds_ T W j i = lN (dg_ W (i + 1)) := if_pos h
theorem ds_a {T W j i : Nat} (h : ¬ i + 1 < j) : ds_ T W j i = lN (dg_ T i) := if_neg h
/-- limbs of W below i, else as before -/
def nu_ (f : Nat → Int64) (W i : Nat) : Nat → Int64 := fun j => if j < i then lN (dg_ W j) else f j
theorem nu_0 (f : Nat → Int64) (W : Nat) : f = nu_ f W 0 := by funext j; simp [nu_]
theorem nu_s (f : Nat → Int64) (W i : Nat) : vp_updL (nu_ f W i) i (lN (dg_ W i)) = nu_ f W (i + 1) := by
  funext j
  by_cases h : j = i
  · subst h; simp [vp_updL, nu_]
  · by_cases h2 : j < i
    · simp [vp_updL, nu_, h, h2, Nat.lt_succ_of_lt h2]
    · simp [vp_updL, nu_, h, h2, show ¬ j < i + 1 by omega]
theorem nu_at (f : Nat → Int64) (W i : Nat) : nu_ f W i i = f i := by simp [nu_]
theorem nu_b {f : Nat → Int64} {W i j : Nat} (h : j < i) : nu_ f W i j = lN (dg_ W j) := if_pos h
theorem nu_a {f : Nat → Int64} {W i j : Nat} (h : ¬ j < i) : nu_ f W i j = f j := if_neg h
