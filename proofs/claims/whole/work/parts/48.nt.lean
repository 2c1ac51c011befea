/-! primes -/
def Pr_ (p : Nat) : Prop := 2 ≤ p ∧ ∀ m, m ∣ p → m = 1 ∨ m = p
theorem Pr_ex : ∀ n, 2 ≤ n → ∃ p, Pr_ p ∧ p ∣ n := by
  intro n
  induction n using Nat.strongRecOn with
  | _ n ih =>
    intro h
    by_cases hp : ∀ m, m ∣ n → m = 1 ∨ m = n
    · exact ⟨n, ⟨h, hp⟩, Nat.dvd_refl n⟩
    · obtain ⟨m, hm⟩ := Classical.not_forall.mp hp
      have hd : m ∣ n := Classical.byContradiction (fun q => hm (fun z => absurd z q))
      have h1 : m ≠ 1 := fun q => hm (fun _ => Or.inl q)
      have h2 : m ≠ n := fun q => hm (fun _ => Or.inr q)
      have h3 : m ≤ n := Nat.le_of_dvd (by omega) hd
      have h4 : m ≠ 0 := fun q => by subst q; have := Nat.eq_zero_of_zero_dvd hd; omega
      obtain ⟨p, hp, hq⟩ := ih m (by omega) (by omega)
      exact ⟨p, hp, Nat.dvd_trans hq hd⟩
theorem Pr_cop {p a : Nat} (hp : Pr_ p) (h : ¬ p ∣ a) : Nat.Coprime p a := by
  rcases hp.2 _ (Nat.gcd_dvd_left p a) with q | q
  · exact q
  · exact absurd (q ▸ Nat.gcd_dvd_right p a) h
theorem Pr_mul {p a b : Nat} (hp : Pr_ p) (h : p ∣ a * b) : p ∣ a ∨ p ∣ b := by
  by_cases q : p ∣ a
  · exact Or.inl q
  · exact Or.inr ((Pr_cop hp q).dvd_of_dvd_mul_left h)
theorem Pr_pow {p a : Nat} (hp : Pr_ p) : ∀ {k : Nat}, p ∣ a ^ k → p ∣ a := by
  intro k
  induction k with
  | zero => intro h; rw [Nat.pow_zero] at h; have h1 := Nat.le_of_dvd (by decide) h; have h2 := hp.1; omega
  | succ k ih => intro h; rw [Nat.pow_succ] at h; exact (Pr_mul hp h).elim ih id
/-! binomials, and the small theorem -/
def nt_ch : Nat → Nat → Nat
  | _, 0 => 1
  | 0, _ + 1 => 0
  | n + 1, k + 1 => nt_ch n k + nt_ch n (k + 1)
theorem nt_ch0 (n : Nat) : nt_ch n 0 = 1 := by cases n <;> rfl
theorem nt_chs (n k : Nat) : nt_ch (n + 1) (k + 1) = nt_ch n k + nt_ch n (k + 1) := rfl
theorem nt_chz : ∀ n k, n < k → nt_ch n k = 0 := by
  intro n
  induction n with
  | zero => intro k h; cases k with
    | zero => omega
    | succ k => rfl
  | succ n ih => intro k h; cases k with
    | zero => omega
    | succ k => rw [nt_chs, ih k (by omega), ih (k + 1) (by omega)]
theorem nt_chm : ∀ n k, (k + 1) * nt_ch (n + 1) (k + 1) = (n + 1) * nt_ch n k := by
  intro n
  induction n with
  | zero => intro k; cases k with
    | zero => rfl
    | succ k => rw [nt_chz 1 (k + 1 + 1) (by omega), nt_chz 0 (k + 1) (by omega)]; rfl
  | succ n ih =>
    intro k
    cases k with
    | zero =>
      have h1 := ih 0
      rw [nt_chs (n + 1) 0, nt_ch0, Nat.mul_add, h1, nt_ch0]
      omega
    | succ k =>
      have h1 := ih (k + 1)
      have h2 := ih k
      rw [nt_chs (n + 1) (k + 1), Nat.mul_add, h1]
      have h3 : (k + 1 + 1) * nt_ch (n + 1) (k + 1) = (n + 1) * nt_ch n k + nt_ch (n + 1) (k + 1) := by rw [Nat.add_mul, h2, Nat.one_mul]
      rw [h3, nt_chs n k, Nat.add_mul (n + 1) 1, Nat.mul_add (n + 1), Nat.one_mul]
      omega
def nt_sm (f : Nat → Nat) : Nat → Nat
  | 0 => 0
  | n + 1 => nt_sm f n + f n
theorem nt_sm_add (f g : Nat → Nat) : ∀ n, nt_sm (fun k => f k + g k) n = nt_sm f n + nt_sm g n
  | 0 => rfl
  | n + 1 => by rw [nt_sm, nt_sm, nt_sm, nt_sm_add f g n]; omega
theorem nt_sm_mul (f : Nat → Nat) (c : Nat) : ∀ n, nt_sm (fun k => f k * c) n = nt_sm f n * c
  | 0 => (Nat.zero_mul c).symm
  | n + 1 => by rw [nt_sm, nt_sm, nt_sm_mul f c n, Nat.add_mul]
theorem nt_sm_front (f : Nat → Nat) : ∀ n, nt_sm f (n + 1) = f 0 + nt_sm (fun k => f (k + 1)) n
  | 0 => by rw [nt_sm, nt_sm, nt_sm]; omega
  | n + 1 => by rw [nt_sm, nt_sm_front f n, nt_sm]; omega
theorem nt_sm_congr {f g : Nat → Nat} : ∀ {n}, (∀ k, k < n → f k = g k) → nt_sm f n = nt_sm g n
  | 0, _ => rfl
  | n + 1, h => by rw [nt_sm, nt_sm, nt_sm_congr (fun k hk => h k (by omega)), h n (by omega)]
theorem nt_binom (a : Nat) : ∀ n, (a + 1) ^ n = nt_sm (fun k => nt_ch n k * a ^ k) (n + 1)
  | 0 => by simp [nt_sm, nt_ch0]
  | n + 1 => by
    have h0 := nt_binom a n
    rw [Nat.pow_succ, Nat.mul_add, Nat.mul_one]
    have h1 : (a + 1) ^ n * a = nt_sm (fun k => nt_ch n k * a ^ (k + 1)) (n + 1) := by
      rw [h0, ← nt_sm_mul]
      exact nt_sm_congr (fun k _ => by show nt_ch n k * a ^ k * a = _; rw [Nat.pow_succ, Nat.mul_assoc])
    have h2 : (a + 1) ^ n = 1 + nt_sm (fun k => nt_ch n (k + 1) * a ^ (k + 1)) (n + 1) := by
      have h3 := nt_sm_front (fun k => nt_ch n k * a ^ k) (n + 1)
      rw [nt_sm] at h3
      simp only [nt_chz n (n + 1) (by omega), Nat.zero_mul, Nat.add_zero, nt_ch0, Nat.pow_zero, Nat.mul_one] at h3
      rw [h0]; exact h3
    rw [nt_sm_front, h1, h2, nt_ch0, Nat.pow_zero, Nat.mul_one]
    have h4 : nt_sm (fun k => nt_ch (n + 1) (k + 1) * a ^ (k + 1)) (n + 1) = nt_sm (fun k => nt_ch n k * a ^ (k + 1)) (n + 1) + nt_sm (fun k => nt_ch n (k + 1) * a ^ (k + 1)) (n + 1) := by
      rw [← nt_sm_add]
      exact nt_sm_congr (fun k _ => by show nt_ch (n + 1) (k + 1) * _ = _; rw [nt_chs, Nat.add_mul])
    rw [h4]; omega
theorem nt_pch {p k : Nat} (hp : Pr_ p) (h : k + 1 < p) : p ∣ nt_ch p (k + 1) := by
  obtain ⟨q, rfl⟩ : ∃ q, p = q + 1 := ⟨p - 1, by omega⟩
  have h1 := nt_chm q k
  rcases Pr_mul hp (⟨nt_ch q k, h1⟩ : (q + 1) ∣ (k + 1) * nt_ch (q + 1) (k + 1)) with z | z
  · have := Nat.le_of_dvd (by omega) z; omega
  · exact z
theorem nt_sm_dvd {f : Nat → Nat} {p : Nat} : ∀ {n}, (∀ k, k < n → p ∣ f k) → p ∣ nt_sm f n
  | 0, _ => Nat.dvd_zero p
  | n + 1, h => by rw [nt_sm]; exact Nat.dvd_add (nt_sm_dvd (fun k hk => h k (by omega))) (h n (by omega))
theorem nt_fr {p : Nat} (hp : Pr_ p) : ∀ a, a ^ p % p = a % p := by
  intro a
  induction a with
  | zero => rw [Nat.zero_pow (by have := hp.1; omega)]
  | succ a ih =>
    obtain ⟨q, hq⟩ : ∃ q, p = q + 1 := ⟨p - 1, by have := hp.1; omega⟩
    have h1 : (a + 1) ^ p = 1 + nt_sm (fun k => nt_ch p (k + 1) * a ^ (k + 1)) q + a ^ p := by
      rw [nt_binom, nt_sm_front]
      have h2 : nt_sm (fun k => nt_ch p (k + 1) * a ^ (k + 1)) p = nt_sm (fun k => nt_ch p (k + 1) * a ^ (k + 1)) q + nt_ch p p * a ^ p := by
        have : nt_sm (fun k => nt_ch p (k + 1) * a ^ (k + 1)) (q + 1) = nt_sm (fun k => nt_ch p (k + 1) * a ^ (k + 1)) q + nt_ch p (q + 1) * a ^ (q + 1) := rfl
        rw [← hq] at this
        exact this
      have h3 : nt_ch p p = 1 := by
        have : ∀ n, nt_ch n n = 1 := by
          intro n
          induction n with
          | zero => rfl
          | succ n ih => rw [nt_chs, ih, nt_chz n (n + 1) (by omega)]
        exact this p
      rw [h2, h3, nt_ch0]
      simp only [Nat.pow_zero, Nat.one_mul]
      omega
    have h4 : p ∣ nt_sm (fun k => nt_ch p (k + 1) * a ^ (k + 1)) q :=
      nt_sm_dvd (fun k hk => Nat.dvd_mul_right_of_dvd (nt_pch hp (by omega)) _)
    rw [h1, Nat.add_mod, ih, ← Nat.add_mod, Nat.add_comm 1, Nat.add_assoc, Nat.add_mod, Nat.mod_eq_zero_of_dvd h4, Nat.zero_add, Nat.mod_mod, Nat.add_comm]
theorem nt_mod_sub {a b n : Nat} (h : a % n = b % n) (hl : b ≤ a) : n ∣ a - b := by
  have h1 := Nat.div_add_mod a n
  have h2 := Nat.div_add_mod b n
  refine ⟨a / n - b / n, ?_⟩
  rw [Nat.mul_sub]
  omega
theorem nt_fermat {p a : Nat} (hp : Pr_ p) (h : ¬ p ∣ a) : a ^ (p - 1) % p = 1 := by
  have h0 := hp.1
  have ha : 0 < a := Nat.pos_of_ne_zero (fun q => h (q ▸ Nat.dvd_zero p))
  have h1 := nt_fr hp a
  have h2 : a ^ p = a * a ^ (p - 1) := by rw [← Nat.pow_succ']; congr 1; omega
  have h3 : 1 ≤ a ^ (p - 1) := Nat.pow_pos ha
  have h4 : p ∣ a * (a ^ (p - 1) - 1) := by
    rw [Nat.mul_sub, Nat.mul_one, ← h2]
    exact nt_mod_sub h1 (by rw [h2]; exact Nat.le_mul_of_pos_right a h3)
  obtain ⟨c, hc⟩ := (Pr_mul hp h4).resolve_left h
  have : a ^ (p - 1) = 1 + p * c := by omega
  rw [this, Nat.add_mul_mod_self_left, Nat.mod_eq_of_lt (by omega)]
/-! powers that leave one -/
theorem nt_one_mul {a m k n : Nat} (h : a ^ m % n = 1) (hn : 2 ≤ n) : a ^ (m * k) % n = 1 := by
  rw [Nat.pow_mul, Nat.pow_mod, h, Nat.one_pow, Nat.mod_eq_of_lt (by omega)]
theorem nt_one_mod {a m k n : Nat} (h : a ^ m % n = 1) (h2 : a ^ k % n = 1) (hn : 2 ≤ n) : a ^ (k % m) % n = 1 := by
  have h3 : a ^ k = a ^ (m * (k / m)) * a ^ (k % m) := by rw [← Nat.pow_add, Nat.div_add_mod]
  rw [h3, Nat.mul_mod, nt_one_mul h hn, Nat.one_mul, Nat.mod_mod] at h2
  exact h2
theorem nt_one_gcd {a n : Nat} (hn : 2 ≤ n) (m k : Nat) : a ^ m % n = 1 → a ^ k % n = 1 → a ^ (Nat.gcd m k) % n = 1 := by
  induction m, k using Nat.gcd.induction with
  | H0 k => intro _ h; rw [Nat.gcd_zero_left]; exact h
  | H1 m k hm ih => intro h1 h2; rw [Nat.gcd_rec]; exact ih (nt_one_mod h1 h2 hn) h1
theorem nt_dvd_mod {x n q r : Nat} (h : x % n = r) (hq : q ∣ n) : x % q = r % q := by
  rw [← h, Nat.mod_mod_of_dvd _ hq]
theorem nt_pred_mod {n q : Nat} (hn : 0 < n) (hq : q ∣ n) (h2 : 0 < q) : (n - 1) % q = q - 1 := by
  obtain ⟨c, rfl⟩ := hq
  cases c with
  | zero => simp at hn
  | succ c =>
    have : q * (c + 1) - 1 = q - 1 + q * c := by rw [Nat.mul_add]; omega
    rw [this, Nat.add_mul_mod_self_left, Nat.mod_eq_of_lt (by omega)]
theorem nt_sq_one {x n : Nat} (hn : 2 ≤ n) (h : x % n = n - 1) : x * x % n = 1 := by
  rw [Nat.mul_mod, h]
  obtain ⟨c, rfl⟩ : ∃ c, n = c + 2 := ⟨n - 2, by omega⟩
  have : (c + 2 - 1) * (c + 2 - 1) = 1 + (c + 2) * c := by
    show (c + 1) * (c + 1) = _
    simp only [Nat.mul_add, Nat.add_mul]; omega
  rw [this, Nat.add_mul_mod_self_left, Nat.mod_eq_of_lt (by omega)]
theorem nt_pow2 (j i d : Nat) : 2 ^ (j + i) * d = 2 ^ j * d * 2 ^ i := by rw [Nat.pow_add, Nat.mul_right_comm]
theorem nt_neg_up {a j d n i : Nat} (hn : 2 ≤ n) (h : a ^ (2 ^ j * d) % n = n - 1) : a ^ (2 ^ (j + 1 + i) * d) % n = 1 := by
  have h1 : a ^ (2 ^ (j + 1) * d) % n = 1 := by
    rw [nt_pow2 j 1 d, Nat.pow_one, Nat.mul_two, Nat.pow_add]
    exact nt_sq_one hn h
  rw [nt_pow2]
  exact nt_one_mul h1 hn
theorem SP_fermat {n a : Nat} (hn : 2 ≤ n) (h : SP_ n a) : a ^ (n - 1) % n = 1 := by
  obtain ⟨h, d, e, hd, q | ⟨j, hj, q⟩⟩ := h
  · rw [e, Nat.mul_comm]; exact nt_one_mul q hn
  · obtain ⟨i, rfl⟩ : ∃ i, h = j + 1 + i := ⟨h - (j + 1), by omega⟩
    rw [e]; exact nt_neg_up hn q
/-! a prime passes -/
theorem nt_root {p x : Nat} (hp : Pr_ p) (h : x * x % p = 1) : x % p = 1 ∨ x % p = p - 1 := by
  have h0 := hp.1
  have hx : 0 < x := Nat.pos_of_ne_zero (fun q => by subst q; simp at h)
  have h1 : p ∣ x * x - 1 := nt_mod_sub (by rw [h, Nat.mod_eq_of_lt (by omega)]) (Nat.mul_pos hx hx)
  have h2 : x * x - 1 = (x - 1) * (x + 1) := by
    obtain ⟨c, rfl⟩ : ∃ c, x = c + 1 := ⟨x - 1, by omega⟩
    show (c + 1) * (c + 1) - 1 = c * (c + 1 + 1)
    rw [Nat.mul_add, Nat.add_mul, Nat.mul_add, Nat.mul_add]; omega
  rw [h2] at h1
  rcases Pr_mul hp h1 with ⟨c, hc⟩ | ⟨c, hc⟩
  · left
    have : x = 1 + p * c := by omega
    rw [this, Nat.add_mul_mod_self_left, Nat.mod_eq_of_lt (by omega)]
  · right
    cases c with
    | zero => simp at hc
    | succ c =>
      have : x = p - 1 + p * c := by rw [Nat.mul_add] at hc; omega
      rw [this, Nat.add_mul_mod_self_left, Nat.mod_eq_of_lt (by omega)]
theorem nt_split : ∀ m, 0 < m → ∃ h d, m = 2 ^ h * d ∧ d % 2 = 1 := by
  intro m
  induction m using Nat.strongRecOn with
  | _ m ih =>
    intro hm
    by_cases h : m % 2 = 1
    · exact ⟨0, m, by simp, h⟩
    · obtain ⟨k, d, e, hd⟩ := ih (m / 2) (by omega) (by omega)
      exact ⟨k + 1, d, by rw [Nat.pow_succ, Nat.mul_right_comm, ← e]; omega, hd⟩
theorem SP_prime {p a : Nat} (hp : Pr_ p) (h : ¬ p ∣ a) : SP_ p a := by
  have h0 := hp.1
  obtain ⟨k, d, e, hd⟩ := nt_split (p - 1) (by omega)
  refine ⟨k, d, e, hd, ?_⟩
  have hf := nt_fermat hp h
  rw [e] at hf
  clear e
  induction k with
  | zero => left; rw [Nat.pow_zero, Nat.one_mul] at hf; exact hf
  | succ k ih =>
    rw [nt_pow2 k 1 d, Nat.pow_one, Nat.mul_two, Nat.pow_add] at hf
    rcases nt_root hp hf with q | q
    · rcases ih q with z | ⟨j, hj, z⟩
      · exact Or.inl z
      · exact Or.inr ⟨j, by omega, z⟩
    · exact Or.inr ⟨k, by omega, q⟩
theorem TD_prime {n : Nat} (h1 : 2 ≤ n) (ho : n % 2 = 1) (h : TD_ n) : Pr_ n := by
  refine ⟨h1, fun m hm => ?_⟩
  obtain ⟨c, hc⟩ := hm
  by_cases q1 : m = 1
  · exact Or.inl q1
  by_cases q2 : c = 1
  · subst q2; rw [Nat.mul_one] at hc; exact Or.inr hc.symm
  exfalso
  have hm2 : m % 2 = 1 := by
    rcases Nat.mod_two_eq_zero_or_one m with z | z
    · rw [hc, Nat.mul_mod, z, Nat.zero_mul] at ho; simp at ho
    · exact z
  have hc2 : c % 2 = 1 := by
    rcases Nat.mod_two_eq_zero_or_one c with z | z
    · rw [hc, Nat.mul_mod, z, Nat.mul_zero] at ho; simp at ho
    · exact z
  by_cases q : m ≤ c
  · exact h m hm2 (by omega) (by rw [hc]; exact Nat.mul_le_mul_left m q) (by rw [hc]; exact Nat.mul_mod_right m c)
  · exact h c hc2 (by omega) (by rw [hc]; exact Nat.mul_le_mul_right c (by omega)) (by rw [hc]; exact Nat.mul_mod_left m c)
theorem TD_PP {n : Nat} (h1 : 1073741825 ≤ n) (ho : n % 2 = 1) (h : TD_ n) : PP_ n := by
  have hp := TD_prime (by omega) ho h
  exact ⟨SP_prime hp (fun q => by have := Nat.le_of_dvd (by decide) q; omega), SP_prime hp (fun q => by have := Nat.le_of_dvd (by decide) q; omega), SP_prime hp (fun q => by have := Nat.le_of_dvd (by decide) q; omega)⟩
/-! what a number that passes says of its divisors -/
def Q_ (m a e : Nat) : Prop := ∃ d, d % 2 = 1 ∧ ((e = 0 ∧ a ^ d % m = 1) ∨ ∃ j, e = j + 1 ∧ a ^ (2 ^ j * d) % m = m - 1)
theorem SP_Q {n a : Nat} (h : SP_ n a) : ∃ e, Q_ n a e := by
  obtain ⟨h, d, e, hd, q | ⟨j, hj, q⟩⟩ := h
  · exact ⟨0, d, hd, Or.inl ⟨rfl, q⟩⟩
  · exact ⟨j + 1, d, hd, Or.inr ⟨j, rfl, q⟩⟩
theorem Q_dvd {n q a e : Nat} (hn : 0 < n) (hq : q ∣ n) (h3 : 3 ≤ q) (h : Q_ n a e) : Q_ q a e := by
  obtain ⟨d, hd, ⟨z, x⟩ | ⟨j, z, x⟩⟩ := h
  · exact ⟨d, hd, Or.inl ⟨z, by rw [nt_dvd_mod x hq, Nat.mod_eq_of_lt (by omega)]⟩⟩
  · exact ⟨d, hd, Or.inr ⟨j, z, by rw [nt_dvd_mod x hq, nt_pred_mod hn hq (by omega)]⟩⟩
theorem nt_neg_odd {a m n d : Nat} (hn : 2 ≤ n) (hd : d % 2 = 1) (h : a ^ m % n = n - 1) : a ^ (m * d) % n = n - 1 := by
  obtain ⟨c, rfl⟩ : ∃ c, d = 2 * c + 1 := ⟨d / 2, by omega⟩
  rw [Nat.mul_add, Nat.mul_one, Nat.pow_add, Nat.mul_mod, h]
  have h2 : a ^ (m * (2 * c)) % n = 1 := by
    rw [← Nat.mul_assoc]
    apply nt_one_mul _ hn
    rw [Nat.mul_two, Nat.pow_add]
    exact nt_sq_one hn h
  rw [h2, Nat.one_mul, Nat.mod_eq_of_lt (by omega)]
theorem nt_Q_no {m a d e i j : Nat} (h3 : 3 ≤ m) (hd : d % 2 = 1) (he : e % 2 = 1) (h1 : a ^ (2 ^ j * d) % m = m - 1) (h2 : a ^ (2 ^ i * e) % m = m - 1) (hl : i < j) : False := by
  have h4 := nt_neg_odd (d := e) (by omega) he h1
  have h5 := nt_neg_odd (d := d) (by omega) hd h2
  have h6 : a ^ (2 ^ (i + 1 + (j - (i + 1))) * (e * d)) % m = 1 := nt_neg_up (by omega) (by rw [← Nat.mul_assoc]; exact h5)
  have h7 : 2 ^ (i + 1 + (j - (i + 1))) * (e * d) = 2 ^ j * d * e := by
    rw [Nat.mul_comm e d, ← Nat.mul_assoc]; congr 3; omega
  rw [h7, h4] at h6
  omega
theorem nt_Q_no0 {m a d e j : Nat} (h3 : 3 ≤ m) (he : e % 2 = 1) (h1 : a ^ (2 ^ j * d) % m = m - 1) (h2 : a ^ e % m = 1) : False := by
  have h4 := nt_neg_odd (d := e) (by omega) he h1
  rw [Nat.mul_comm, nt_one_mul h2 (by omega)] at h4
  omega
theorem Q_uniq {m a e e' : Nat} (h3 : 3 ≤ m) (h : Q_ m a e) (h' : Q_ m a e') : e = e' := by
  obtain ⟨d, hd, ⟨z, x⟩ | ⟨j, z, x⟩⟩ := h
  · obtain ⟨d', hd', ⟨z', x'⟩ | ⟨j', z', x'⟩⟩ := h'
    · omega
    · exact (nt_Q_no0 h3 hd x' x).elim
  · obtain ⟨d', hd', ⟨z', x'⟩ | ⟨j', z', x'⟩⟩ := h'
    · exact (nt_Q_no0 h3 hd' x x').elim
    · rcases Nat.lt_trichotomy j j' with q | q | q
      · exact (nt_Q_no h3 hd' hd x' x q).elim
      · omega
      · exact (nt_Q_no h3 hd hd' x x' q).elim
theorem nt_self {q : Nat} {m : Nat} (hm : 0 < m) : q ^ m % q = 0 := by
  obtain ⟨c, rfl⟩ : ∃ c, m = c + 1 := ⟨m - 1, by omega⟩
  rw [Nat.pow_succ]; exact Nat.mul_mod_left _ _
theorem Q_self {q e : Nat} (h3 : 3 ≤ q) (h : Q_ q q e) : False := by
  obtain ⟨d, hd, ⟨z, x⟩ | ⟨j, z, x⟩⟩ := h
  · rw [nt_self (by omega)] at x; omega
  · rw [nt_self (Nat.mul_pos (Nat.pow_pos (by decide)) (by omega))] at x; omega
noncomputable def nt_if (c t e : Bool) : Bool := Bool.rec (motive := fun _ => Bool) e t c
noncomputable def nt_al (f : Nat → Bool) (d : Nat) : Nat → Bool := Nat.rec (motive := fun _ => Nat → Bool) f (fun d ih a => Bool.rec false (ih (Nat.add a (Nat.pow 2 d))) (ih a)) d
def nt_pm (a e n : Nat) : Nat := (Nat.mod (Nat.mul (Nat.pow (Nat.mod (Nat.mul (Nat.pow (Nat.mod (Nat.mul (Nat.pow (Nat.mod (Nat.mul (Nat.pow (Nat.mod (Nat.mul (Nat.pow (Nat.mod (Nat.pow a (Nat.div e 33554432)) n) 32) (Nat.pow a (Nat.mod (Nat.div e 1048576) 32))) n) 32) (Nat.pow a (Nat.mod (Nat.div e 32768) 32))) n) 32) (Nat.pow a (Nat.mod (Nat.div e 1024) 32))) n) 32) (Nat.pow a (Nat.mod (Nat.div e 32) 32))) n) 32) (Nat.pow a (Nat.mod e 32))) n)
noncomputable def nt_h (n : Nat) : Nat := Nat.log2 (Nat.gcd (Nat.sub n 1) 2147483648)
noncomputable def nt_sq (n a h d : Nat) : Bool := nt_if (Nat.beq (Nat.mul (Nat.pow 2 h) d) (Nat.sub n 1)) (nt_if (Nat.beq (Nat.mod d 2) 1) (nt_if (Nat.ble h 32) (nt_if (Nat.beq (nt_pm a d n) 1) false (nt_al (fun j => nt_if (Nat.ble h j) true (nt_if (Nat.beq (nt_pm a (Nat.mul (Nat.pow 2 j) d) n) (Nat.sub n 1)) false true)) 5 0)) false) false) false
noncomputable def nt_str (n a : Nat) : Bool := nt_sq n a (nt_h n) (Nat.div (Nat.sub n 1) (Nat.pow 2 (nt_h n)))
noncomputable def nt_kill (m n : Nat) : Bool := nt_if (Nat.beq (nt_pm 2 m n) 1) (nt_if (nt_str n 2) true (nt_if (nt_str n 7) true (nt_str n 61))) true
noncomputable def nt_ok (n : Nat) : Bool := Nat.rec (motive := fun _ => Bool) true (fun m _ => nt_if (Nat.ble m 1073741823) true (nt_if (Nat.ble 2147483647 m) true (nt_if (Nat.beq (Nat.mod m 2) 1) true (nt_kill m (Nat.succ m))))) n
noncomputable def nt_pt (b : Nat) (d : Nat) : Nat → Nat := Nat.rec (motive := fun _ => Nat → Nat) (fun a => Bool.rec (motive := fun _ => Nat) 1 (Nat.succ (Nat.mul 2 a)) (Nat.ble (Nat.succ (Nat.mul 2 a)) b)) (fun d ih a => Nat.mul (ih a) (ih (Nat.add a (Nat.pow 2 d)))) d
noncomputable def nt_F : Nat := nt_pt 46340 15 0
noncomputable def nt_G : Nat := nt_pt 215 7 0
noncomputable def nt_gd (h : Nat) : Bool := nt_if (Nat.ble h 2147488280) (nt_if (Nat.beq (Nat.mod h 2) 1) (Nat.beq (Nat.gcd h nt_F) 1) false) false
noncomputable def nt_f2 (k h p q : Nat) : Bool := nt_if (Nat.beq (Nat.mul p q) h) (nt_if (nt_gd p) (nt_if (nt_gd q) (nt_if (nt_ok (Nat.mul p k)) (nt_ok (Nat.mul q k)) false) false) false) false
noncomputable def nt_f1 (k h p : Nat) : Bool := nt_f2 k h p (Nat.div h p)
noncomputable def nt_f (k h : Nat) : Bool := nt_if (Nat.beq h 1) true (nt_if (nt_gd h) (nt_ok (Nat.mul h k)) (nt_f1 k h (Nat.gcd h 1709886020684518631469119799862091371740027353797344433)))
noncomputable def nt_g1 (i g : Nat) : Bool := nt_if (Nat.beq g 1) true (nt_f (Nat.succ (Nat.mul 2 i)) (Nat.gcd g (Nat.sub (Nat.pow 3721 i) 1)))
noncomputable def nt_g2 (F i g : Nat) : Bool := nt_g1 i (Nat.div g (Nat.gcd g F))
noncomputable def nt_A (i : Nat) : Bool := nt_if (Nat.beq i 0) true (nt_if (Nat.ble 23170 i) true (nt_g2 nt_F i (Nat.gcd (Nat.sub (Nat.pow 4 i) 1) (Nat.sub (Nat.pow 49 i) 1))))
noncomputable def nt_ak (s g u v : Nat) : Bool := nt_al (fun i => nt_ok (Nat.mul s (Nat.succ (Nat.mul g i)))) (Nat.succ (Nat.log2 (Nat.sub v u))) u
noncomputable def nt_sv (s g : Nat) : Bool := nt_if (Nat.beq (nt_pm 2 g s) 1) (nt_if (Nat.beq (nt_pm 7 g s) 1) (nt_if (Nat.beq (nt_pm 61 g s) 1) (nt_ak s g (Nat.div 1073741824 (Nat.mul s g)) (Nat.div 2147483648 (Nat.mul s g))) true) true) true
noncomputable def nt_j (s i : Nat) : Bool := nt_al (fun j => nt_if (Nat.beq (Nat.mod i j) 0) (nt_if (nt_sv s (Nat.mul 2 j)) (nt_sv s (Nat.mul 2 (Nat.div i j))) false) true) (Nat.succ (Nat.div (Nat.log2 i) 2)) 0
noncomputable def nt_s (s i : Nat) : Bool := nt_if (Nat.ble s 2000) true (nt_if (Nat.ble 46341 s) true (nt_if (Nat.beq (Nat.gcd s nt_G) 1) (nt_j s i) true))
noncomputable def nt_B (i : Nat) : Bool := nt_s (Nat.succ (Nat.mul 2 i)) i
theorem nt_beq (a b : Nat) : (Nat.beq a b = true) = (a = b) := propext ⟨Nat.eq_of_beq_eq_true, fun h => by subst h; exact Nat.beq_refl a⟩
theorem nt_if_eq (c t e : Bool) : nt_if c t e = (if c = true then t else e) := by cases c <;> rfl
theorem nt_al_ok {f : Nat → Bool} : ∀ {d a : Nat}, nt_al f d a = true → ∀ i, a ≤ i → i < a + 2 ^ d → f i = true := by
  intro d
  induction d with
  | zero => intro a h i h1 h2; have : i = a := by rw [Nat.pow_zero] at h2; omega
            rw [this]; exact h
  | succ d ih =>
    intro a h i h1 h2
    have hh : Bool.rec (motive := fun _ => Bool) false (nt_al f d (a + 2 ^ d)) (nt_al f d a) = true := h
    cases hl : nt_al f d a with
    | false => rw [hl] at hh; exact (Bool.false_ne_true hh).elim
    | true =>
      rw [hl] at hh
      by_cases q : i < a + 2 ^ d
      · exact ih hl i h1 q
      · exact ih hh i (by omega) (by rw [Nat.pow_succ] at h2; omega)
theorem nt_pm_s (a n u v e k : Nat) (he : u * k + v = e) : ((a ^ u % n) ^ k * a ^ v) % n = a ^ e % n := by
  rw [Nat.mul_mod, ← Nat.pow_mod, ← Nat.mul_mod, ← Nat.pow_mul, ← Nat.pow_add, he]
theorem nt_pm_eq (a e n : Nat) : nt_pm a e n = a ^ e % n := by
  have h1 := nt_pm_s a n (e / 33554432) (e / 1048576 % 32) (e / 1048576) 32 (by omega)
  have h2 := nt_pm_s a n (e / 1048576) (e / 32768 % 32) (e / 32768) 32 (by omega)
  have h3 := nt_pm_s a n (e / 32768) (e / 1024 % 32) (e / 1024) 32 (by omega)
  have h4 := nt_pm_s a n (e / 1024) (e / 32 % 32) (e / 32) 32 (by omega)
  have h5 := nt_pm_s a n (e / 32) (e % 32) e 32 (by omega)
  rw [← h5, ← h4, ← h3, ← h2, ← h1]
  rfl
theorem nt_str_no {n a : Nat} (h : nt_str n a = true) : ¬ SP_ n a := by
  have hh : nt_sq n a (nt_h n) ((n - 1) / 2 ^ (nt_h n)) = true := h
  generalize nt_h n = k at hh
  generalize (n - 1) / 2 ^ k = d at hh
  unfold nt_sq at hh
  simp only [nt_if_eq, nt_beq, Nat.ble_eq, nt_pm_eq] at hh
  split at hh
  · rename_i e1
    split at hh
    · rename_i e2
      split at hh
      · rename_i e3
        split at hh
        · exact absurd hh (by decide)
        · rename_i e4
          intro q
          rcases (SP_iff (show n - 1 = 2 ^ k * d from e1.symm) e2).mp q with z | ⟨j, hj, z⟩
          · exact e4 z
          · have := nt_al_ok hh j (by omega) (by omega)
            split at this
            · omega
            · split at this
              · exact absurd this (by decide)
              · rename_i e5; exact e5 z
      · exact absurd hh (by decide)
    · exact absurd hh (by decide)
  · exact absurd hh (by decide)
theorem nt_ok_no {n : Nat} (h : nt_ok n = true) (h1 : 1073741825 ≤ n) (h2 : n < 2147483648) (h3 : n % 2 = 1) : ¬ PP_ n := by
  obtain ⟨m, rfl⟩ : ∃ m, n = m + 1 := ⟨n - 1, by omega⟩
  have hh : nt_if (Nat.ble m 1073741823) true (nt_if (Nat.ble 2147483647 m) true (nt_if (Nat.beq (Nat.mod m 2) 1) true (nt_kill m (Nat.succ m)))) = true := h
  simp only [nt_if_eq, nt_beq, Nat.ble_eq] at hh
  rw [if_neg (by omega), if_neg (by omega), if_neg (by show ¬ (m % 2 = 1); omega)] at hh
  unfold nt_kill at hh
  simp only [nt_if_eq, nt_beq, nt_pm_eq] at hh
  intro q
  rw [if_pos (show 2 ^ m % (m + 1) = 1 from SP_fermat (by omega) q.1)] at hh
  split at hh
  · rename_i z; exact nt_str_no z q.1
  · split at hh
    · rename_i z; exact nt_str_no z q.2.1
    · exact nt_str_no hh q.2.2
theorem nt_pt_cop {s b : Nat} (hp : Pr_ s) (hb : b < s) : ∀ d a, Nat.Coprime s (nt_pt b d a) := by
  intro d
  induction d with
  | zero =>
    intro a
    show Nat.Coprime s (Bool.rec (motive := fun _ => Nat) 1 (2 * a + 1) (Nat.ble (2 * a + 1) b))
    cases hc : Nat.ble (2 * a + 1) b with
    | false => exact Nat.coprime_one_right s
    | true =>
      rw [Nat.ble_eq] at hc
      show Nat.Coprime s (2 * a + 1)
      exact Pr_cop hp (fun q => by have := Nat.le_of_dvd (by omega) q; omega)
  | succ d ih => intro a; exact Nat.Coprime.mul_right (ih a) (ih (a + 2 ^ d))
theorem nt_lg {x : Nat} : x < 2 ^ (Nat.log2 x + 1) := Nat.lt_log2_self
/-! a large prime factor -/
theorem nt_km {s k a : Nat} (hp : Pr_ s) (ha : ¬ s ∣ a) (hk : 1 ≤ k) (h : a ^ (s * k - 1) % s = 1) : a ^ (k - 1) % s = 1 := by
  have h0 := hp.1
  have h2 := nt_fermat hp ha
  have h3 : s * k - 1 = (s - 1) * k + (k - 1) := by
    have : (s - 1) * k = s * k - k := by rw [Nat.sub_mul, Nat.one_mul]
    have : k ≤ s * k := Nat.le_mul_of_pos_left k (by omega)
    omega
  rw [h3, Nat.pow_add, Nat.mul_mod, nt_one_mul h2 h0, Nat.one_mul, Nat.mod_mod] at h
  exact h
theorem nt_dv {x s : Nat} (h : x % s = 1) : s ∣ x - 1 := by
  refine ⟨x / s, ?_⟩
  have := Nat.div_add_mod x s
  omega
theorem nt_pt_dvd {b : Nat} : ∀ d a i, a ≤ i → i < a + 2 ^ d → 2 * i + 1 ≤ b → (2 * i + 1) ∣ nt_pt b d a := by
  intro d
  induction d with
  | zero =>
    intro a i h1 h2 h3
    obtain rfl : i = a := by rw [Nat.pow_zero] at h2; omega
    show (2 * i + 1) ∣ Bool.rec (motive := fun _ => Nat) 1 (2 * i + 1) (Nat.ble (2 * i + 1) b)
    rw [Nat.ble_eq.mpr h3]
    exact Nat.dvd_refl _
  | succ d ih =>
    intro a i h1 h2 h3
    show (2 * i + 1) ∣ nt_pt b d a * nt_pt b d (a + 2 ^ d)
    by_cases q : i < a + 2 ^ d
    · exact Nat.dvd_mul_right_of_dvd (ih a i h1 q h3) _
    · exact Nat.dvd_mul_left_of_dvd (ih (a + 2 ^ d) i (by omega) (by rw [Nat.pow_succ] at h2; omega) h3) _
theorem nt_gd_eq {s h : Nat} (hg : nt_gd h = true) (hs : 46340 < s) (hd : s ∣ h) : s = h := by
  unfold nt_gd at hg
  simp only [nt_if_eq, nt_beq, Nat.ble_eq] at hg
  split at hg
  · rename_i e1
    split at hg
    · rename_i e2
      have e3 : Nat.gcd h nt_F = 1 := Nat.eq_of_beq_eq_true hg
      have e2' : h % 2 = 1 := e2
      obtain ⟨t, rfl⟩ := hd
      have ht : 0 < t := Nat.pos_of_ne_zero (fun z => by subst z; simp at e2')
      by_cases q : t = 1
      · rw [q, Nat.mul_one]
      · exfalso
        obtain ⟨r, hr, hrt⟩ := Pr_ex t (by omega)
        have hr0 := hr.1
        have hrh : r ∣ s * t := Nat.dvd_mul_left_of_dvd hrt s
        have hro : r % 2 = 1 := by
          obtain ⟨c, hc⟩ := hrh
          rw [hc] at e2'
          rcases Nat.mod_two_eq_zero_or_one r with z | z
          · rw [Nat.mul_mod, z, Nat.zero_mul] at e2'; simp at e2'
          · exact z
        by_cases hl : r ≤ 46340
        · have hF : r ∣ nt_F := by
            have := nt_pt_dvd (b := 46340) 15 0 (r / 2) (by omega) (by omega) (by omega)
            have hr2 : 2 * (r / 2) + 1 = r := by omega
            rw [hr2] at this
            exact this
          have h7 := Nat.dvd_gcd hrh hF
          rw [e3] at h7
          have := Nat.le_of_dvd (by decide) h7
          omega
        · have h8 : r ≤ t := Nat.le_of_dvd ht hrt
          have h9 : 46341 * 46341 ≤ s * t := Nat.mul_le_mul (by omega) (by omega)
          omega
    · exact (Bool.false_ne_true hg).elim
  · exact (Bool.false_ne_true hg).elim
theorem nt_f_no {s k h : Nat} (hh : nt_f k h = true) (hp : Pr_ s) (hs : 46340 < s) (hd : s ∣ h) (h1 : 1073741825 ≤ s * k) (h2 : s * k < 2147483648) (h3 : s * k % 2 = 1) : ¬ PP_ (s * k) := by
  unfold nt_f at hh
  simp only [nt_if_eq, nt_beq] at hh
  split at hh
  · rename_i z
    rw [z] at hd
    have := Nat.le_of_dvd (by decide) hd
    omega
  · split at hh
    · rename_i z
      obtain rfl := nt_gd_eq z hs hd
      exact nt_ok_no hh h1 h2 h3
    · generalize Nat.gcd h _ = p at hh
      have hh2 : nt_f2 k h p (h / p) = true := hh
      generalize h / p = q at hh2
      unfold nt_f2 at hh2
      simp only [nt_if_eq, nt_beq] at hh2
      split at hh2
      · rename_i e1
        have e1' : p * q = h := e1
        split at hh2
        · rename_i e2
          split at hh2
          · rename_i e3
            split at hh2
            · rename_i e4
              rw [← e1'] at hd
              rcases Pr_mul hp hd with z | z
              · obtain rfl := nt_gd_eq e2 hs z
                exact nt_ok_no e4 h1 h2 h3
              · obtain rfl := nt_gd_eq e3 hs z
                exact nt_ok_no hh2 h1 h2 h3
            · exact (Bool.false_ne_true hh2).elim
          · exact (Bool.false_ne_true hh2).elim
        · exact (Bool.false_ne_true hh2).elim
      · exact (Bool.false_ne_true hh2).elim
theorem nt_caseA {s i : Nat} (hA : nt_A i = true) (hp : Pr_ s) (hs : 46340 < s) (hi : 0 < i) (hi2 : i < 23170) (h1 : 1073741825 ≤ s * (2 * i + 1)) (h2 : s * (2 * i + 1) < 2147483648) (h3 : s * (2 * i + 1) % 2 = 1) : ¬ PP_ (s * (2 * i + 1)) := by
  intro q
  have h0 := hp.1
  have hm : ∀ a, 0 < a → a < s → SP_ (s * (2 * i + 1)) a → s ∣ (a ^ 2) ^ i - 1 := by
    intro a ha hl hq
    have h5 := nt_dvd_mod (SP_fermat (by omega) hq) (Nat.dvd_mul_right s (2 * i + 1))
    rw [Nat.mod_eq_of_lt (by omega : 1 < s)] at h5
    have h6 := nt_km hp (fun z => by have := Nat.le_of_dvd ha z; omega) (by omega) h5
    rw [← Nat.pow_mul]
    exact nt_dv h6
  have d2 := hm 2 (by decide) (by omega) q.1
  have d7 := hm 7 (by decide) (by omega) q.2.1
  have d61 := hm 61 (by decide) (by omega) q.2.2
  unfold nt_A at hA
  simp only [nt_if_eq, nt_beq, Nat.ble_eq] at hA
  rw [if_neg (by omega), if_neg (by omega)] at hA
  have dg : s ∣ Nat.gcd (4 ^ i - 1) (49 ^ i - 1) := Nat.dvd_gcd d2 d7
  have hA2 : nt_g2 nt_F i (Nat.gcd (4 ^ i - 1) (49 ^ i - 1)) = true := hA
  have hF : Nat.Coprime s nt_F := nt_pt_cop hp hs 15 0
  generalize Nat.gcd (4 ^ i - 1) (49 ^ i - 1) = g at dg hA2
  have hA3 : nt_g1 i (g / Nat.gcd g nt_F) = true := hA2
  have dg2 : s ∣ g / Nat.gcd g nt_F := by
    have h7 : Nat.gcd g nt_F * (g / Nat.gcd g nt_F) = g := Nat.mul_div_cancel' (Nat.gcd_dvd_left g nt_F)
    exact (Nat.Coprime.coprime_dvd_right (Nat.gcd_dvd_right g nt_F) hF).dvd_of_dvd_mul_left (by rw [h7]; exact dg)
  generalize g / Nat.gcd g nt_F = g' at dg2 hA3
  unfold nt_g1 at hA3
  simp only [nt_if_eq, nt_beq] at hA3
  split at hA3
  · rename_i z
    subst z
    have := Nat.le_of_dvd (by decide) dg2
    omega
  · exact nt_f_no hA3 hp hs (Nat.dvd_gcd dg2 d61) h1 h2 h3 q
/-! a middle one -/
theorem nt_ak_no {s g i : Nat} (h : nt_ak s g (1073741824 / (s * g)) (2147483648 / (s * g)) = true) (hs : 0 < s) (hg : 0 < g) (h1 : 1073741825 ≤ s * (g * i + 1)) (h2 : s * (g * i + 1) < 2147483648) (h3 : s * (g * i + 1) % 2 = 1) : ¬ PP_ (s * (g * i + 1)) := by
  have hsg := Nat.mul_pos hs hg
  have h5 : i * (s * g) = s * (g * i) := by rw [Nat.mul_comm, Nat.mul_assoc]
  have hu : 1073741824 / (s * g) ≤ i := by
    refine Nat.le_of_lt_succ (Nat.lt_of_mul_lt_mul_right (a := s * g) ?_)
    refine Nat.lt_of_le_of_lt (Nat.div_mul_le_self _ _) ?_
    rw [Nat.succ_mul, h5]
    rw [Nat.mul_add, Nat.mul_one] at h1
    have : s * 1 ≤ s * g := Nat.mul_le_mul_left s hg
    omega
  have hv : i ≤ 2147483648 / (s * g) := by
    refine (Nat.le_div_iff_mul_le hsg).mpr ?_
    rw [h5]
    rw [Nat.mul_add] at h2
    omega
  have h4 := nt_al_ok h i hu (by
    have := @nt_lg (2147483648 / (s * g) - 1073741824 / (s * g))
    have h6 : i - 1073741824 / (s * g) < 2 ^ (Nat.log2 (2147483648 / (s * g) - 1073741824 / (s * g)) + 1) := by omega
    show i < 1073741824 / (s * g) + 2 ^ (Nat.log2 (2147483648 / (s * g) - 1073741824 / (s * g)) + 1)
    omega)
  exact nt_ok_no h4 h1 h2 h3
theorem nt_sv_no {s g i : Nat} (h : nt_sv s g = true) (e2 : 2 ^ g % s = 1) (e7 : 7 ^ g % s = 1) (e61 : 61 ^ g % s = 1) (hs : 0 < s) (hg : 0 < g) (h1 : 1073741825 ≤ s * (g * i + 1)) (h2 : s * (g * i + 1) < 2147483648) (h3 : s * (g * i + 1) % 2 = 1) : ¬ PP_ (s * (g * i + 1)) := by
  unfold nt_sv at h
  simp only [nt_if_eq, nt_beq, nt_pm_eq] at h
  rw [if_pos e2, if_pos e7, if_pos e61] at h
  exact nt_ak_no h hs hg h1 h2 h3
theorem nt_caseB {i k : Nat} (hB : nt_B i = true) (hp : Pr_ (2 * i + 1)) (hs : 2000 < 2 * i + 1) (hs2 : 2 * i + 1 ≤ 46340) (h1 : 1073741825 ≤ (2 * i + 1) * (2 * k + 1)) (h2 : (2 * i + 1) * (2 * k + 1) < 2147483648) (h3 : (2 * i + 1) * (2 * k + 1) % 2 = 1) : ¬ PP_ ((2 * i + 1) * (2 * k + 1)) := by
  intro q
  have hG : Nat.Coprime (2 * i + 1) nt_G := nt_pt_cop hp (by omega) 7 0
  have hB2 : nt_s (2 * i + 1) i = true := hB
  unfold nt_s at hB2
  simp only [nt_if_eq, nt_beq, Nat.ble_eq] at hB2
  rw [if_neg (by omega), if_neg (by omega), if_pos hG] at hB2
  have hm : ∀ a, 0 < a → a < 2 * i + 1 → SP_ ((2 * i + 1) * (2 * k + 1)) a → a ^ (2 * Nat.gcd k i) % (2 * i + 1) = 1 := by
    intro a ha hl hq
    have h5 := nt_dvd_mod (SP_fermat (by omega) hq) (Nat.dvd_mul_right (2 * i + 1) (2 * k + 1))
    rw [Nat.mod_eq_of_lt (by omega : 1 < 2 * i + 1)] at h5
    have hd : ¬ (2 * i + 1) ∣ a := fun z => by have := Nat.le_of_dvd ha z; omega
    rw [← Nat.gcd_mul_left]
    exact nt_one_gcd (by omega) _ _ (nt_km hp hd (by omega) h5) (nt_fermat hp hd)
  have d2 := hm 2 (by decide) (by omega) q.1
  have d7 := hm 7 (by decide) (by omega) q.2.1
  have d61 := hm 61 (by decide) (by omega) q.2.2
  have hg0 : 0 < Nat.gcd k i := Nat.gcd_pos_of_pos_right _ (by omega)
  obtain ⟨u, hu⟩ := Nat.gcd_dvd_left k i
  obtain ⟨v, hv⟩ := Nat.gcd_dvd_right k i
  generalize Nat.gcd k i = g at d2 d7 d61 hg0 hu hv
  subst hu
  have hsv : nt_sv (2 * i + 1) (2 * g) = true := by
    have hv0 : 0 < v := Nat.pos_of_ne_zero (fun z => by subst z; simp at hv; omega)
    by_cases hgv : g < 2 ^ (Nat.log2 i / 2 + 1)
    · have h6 := nt_al_ok hB2 g (by omega) (by rw [Nat.zero_add]; exact hgv)
      have h7 : Nat.mod i g = 0 := by rw [hv]; exact Nat.mul_mod_right g v
      simp only [nt_if_eq, h7, nt_beq] at h6
      rw [if_pos trivial] at h6
      split at h6
      · rename_i z; exact z
      · exact absurd h6 (by decide)
    · have hv2 : v < 2 ^ (Nat.log2 i / 2 + 1) := by
        refine Nat.lt_of_not_le (fun z => ?_)
        have h8 : 2 ^ (Nat.log2 i / 2 + 1) * 2 ^ (Nat.log2 i / 2 + 1) ≤ g * v := Nat.mul_le_mul (by omega) z
        rw [← Nat.pow_add, ← hv] at h8
        have h9 := @nt_lg i
        have h10 : 2 ^ (Nat.log2 i + 1) ≤ 2 ^ (Nat.log2 i / 2 + 1 + (Nat.log2 i / 2 + 1)) := Nat.pow_le_pow_right (by decide) (by omega)
        omega
      have h6 := nt_al_ok hB2 v (by omega) (by rw [Nat.zero_add]; exact hv2)
      have h7 : Nat.mod i v = 0 := by rw [hv]; exact Nat.mul_mod_left g v
      have h8 : Nat.div i v = g := by rw [hv]; exact Nat.mul_div_cancel g hv0
      simp only [nt_if_eq, h7, h8, nt_beq] at h6
      rw [if_pos trivial] at h6
      split at h6
      · exact h6
      · exact absurd h6 (by decide)
  rw [← Nat.mul_assoc] at h1 h2 h3 q
  exact nt_sv_no hsv d2 d7 d61 (by omega) (by omega) h1 h2 h3 q
/-! only small ones -/
def nt_T : List (Nat × Nat) := [(1999, 16), (1997, 512), (1993, 561), (1987, 257), (1979, 256), (1973, 546), (1951, 0), (1949, 545), (1933, 528), (1931, 257), (1913, 32), (1907, 256), (1901, 530), (1889, 853), (1879, 0), (1877, 528), (1873, 772), (1871, 16), (1867, 257), (1861, 546), (1847, 1), (1831, 16), (1823, 1), (1811, 256), (1801, 19), (1789, 529), (1787, 273), (1783, 0), (1777, 324), (1759, 17), (1753, 306), (1747, 272), (1741, 546), (1733, 513), (1723, 272), (1721, 50), (1709, 529), (1699, 256), (1697, 1109), (1693, 545), (1669, 545), (1667, 272), (1663, 16), (1657, 563), (1637, 546), (1627, 256), (1621, 514), (1619, 273), (1613, 545), (1609, 51), (1607, 17), (1601, 1121), (1597, 530), (1583, 16), (1579, 273), (1571, 256), (1567, 0), (1559, 0), (1553, 324), (1549, 530), (1543, 1), (1531, 257), (1523, 273), (1511, 0), (1499, 273), (1493, 530), (1489, 832), (1487, 1), (1483, 256), (1481, 259), (1471, 17), (1459, 256), (1453, 514), (1451, 272), (1447, 1), (1439, 16), (1433, 51), (1429, 514), (1427, 257), (1423, 16), (1409, 1575), (1399, 0), (1381, 512), (1373, 514), (1367, 16), (1361, 834), (1327, 16), (1321, 563), (1319, 1), (1307, 257), (1303, 16), (1301, 545), (1297, 819), (1291, 257), (1289, 19), (1283, 273), (1279, 1), (1277, 544), (1259, 256), (1249, 597), (1237, 546), (1231, 1), (1229, 528), (1223, 0), (1217, 869), (1213, 514), (1201, 562), (1193, 304), (1187, 273), (1181, 544), (1171, 272), (1163, 272), (1153, 1399), (1151, 1), (1129, 547), (1123, 256), (1117, 528), (1109, 546), (1103, 16), (1097, 306), (1093, 513), (1091, 257), (1087, 17), (1069, 546), (1063, 1), (1061, 514), (1051, 272), (1049, 304), (1039, 1), (1033, 290), (1031, 17), (1021, 545), (1019, 273), (1013, 546), (1009, 804), (997, 546), (991, 16), (983, 1), (977, 816), (971, 256), (967, 16), (953, 531), (947, 273), (941, 546), (937, 48), (929, 1108), (919, 16), (911, 16), (907, 273), (887, 1), (883, 273), (881, 66), (877, 514), (863, 16), (859, 256), (857, 562), (853, 544), (839, 0), (829, 545), (827, 272), (823, 17), (821, 530), (811, 257), (809, 514), (797, 544), (787, 257), (773, 545), (769, 1928), (761, 563), (757, 513), (751, 16), (743, 17), (739, 273), (733, 544), (727, 0), (719, 0), (709, 514), (701, 514), (691, 256), (683, 272), (677, 546), (673, 1093), (661, 546), (659, 272), (653, 514), (647, 1), (643, 257), (641, 1639), (631, 17), (619, 256), (617, 291), (613, 512), (607, 0), (601, 50), (599, 17), (593, 580), (587, 257), (577, 1126), (571, 272), (569, 546), (563, 256), (557, 530), (547, 273), (541, 530), (523, 257), (521, 563), (509, 546), (503, 0), (499, 273), (491, 272), (487, 16), (479, 0), (467, 257), (463, 16), (461, 545), (457, 531), (449, 1349), (443, 272), (439, 0), (433, 836), (431, 16), (421, 530), (419, 257), (409, 563), (401, 820), (397, 546), (389, 514), (383, 1), (379, 272), (373, 530), (367, 0), (359, 17), (353, 851), (349, 546), (347, 272), (337, 52), (331, 273), (317, 529), (313, 563), (311, 1), (307, 257), (293, 545), (283, 256), (281, 291), (277, 530), (271, 0), (269, 544), (263, 16), (257, 1159), (251, 257), (241, 835), (239, 16), (233, 35), (229, 544), (227, 257), (223, 1), (211, 273), (199, 0), (197, 528), (193, 1334), (191, 17), (181, 546), (179, 272), (173, 546), (167, 0), (163, 272), (157, 546), (151, 17), (149, 529), (139, 257), (137, 546), (131, 256), (127, 16), (113, 531), (109, 513), (107, 272), (103, 0), (101, 546), (97, 1104), (89, 51), (83, 256), (79, 17), (73, 50), (71, 17), (67, 273), (59, 257), (53, 530), (47, 0), (43, 273), (41, 562), (37, 514), (31, 1), (29, 514), (23, 17), (19, 256), (17, 836), (13, 544), (11, 273), (5, 544), (3, 256)]
def nt_C : List Nat := [0, 1, 16, 17, 19, 32, 35, 48, 50, 51, 52, 66, 256, 257, 259, 272, 273, 290, 291, 304, 306, 324, 512, 513, 514, 528, 529, 530, 531, 544, 545, 546, 547, 561, 562, 563, 580, 597, 772, 804, 816, 819, 820, 832, 834, 835, 836, 851, 853, 869, 1093, 1104, 1108, 1109, 1121, 1126, 1159, 1334, 1349, 1399, 1575, 1639, 1928]
def nt_cl (c : Nat) : List Nat := (nt_T.filter (fun x => Nat.beq x.2 c)).map (fun x => x.1)
noncomputable def nt_en (f : Nat) : List Nat → Nat → Bool := Nat.rec (motive := fun _ => List Nat → Nat → Bool) (fun _ _ => false) (fun _ ih l P => List.rec (motive := fun _ => Bool) (nt_ok P) (fun p ps _ => nt_if (Nat.ble 2147483648 (Nat.mul P p)) (ih ps P) (nt_if (ih (p :: ps) (Nat.mul P p)) (ih ps P) false)) l) f
def nt_d (q : Nat) : Nat := Nat.div (Nat.sub q 1) (Nat.gcd (Nat.sub q 1) 2147483648)
noncomputable def nt_q (q a e : Nat) : Bool := nt_if (Nat.beq (Nat.mod (nt_d q) 2) 1) (Nat.rec (motive := fun _ => Bool) (Nat.beq (Nat.mod (Nat.pow a (nt_d q)) q) 1) (fun j _ => Nat.beq (Nat.mod (Nat.pow a (Nat.mul (Nat.pow 2 j) (nt_d q))) q) (Nat.sub q 1)) e) false
noncomputable def nt_row (x : Nat × Nat) : Bool := nt_if (nt_q x.1 2 (Nat.div x.2 256)) (nt_if (nt_q x.1 7 (Nat.mod (Nat.div x.2 16) 16)) (nt_if (nt_q x.1 61 (Nat.mod x.2 16)) (nt_C.any (fun c => Nat.beq x.2 c)) false) false) false
noncomputable def nt_cd (q : Nat) : Bool := nt_al (fun d => nt_if (Nat.ble d 2) true (nt_if (Nat.ble q d) true (nt_if (Nat.beq (Nat.mod q d) 0) false true))) 6 0
noncomputable def nt_cv (i : Nat) : Bool := nt_if (Nat.beq i 0) true (nt_if (Nat.beq i 3) true (nt_if (Nat.beq i 30) true (nt_if (Nat.ble 1000 i) true (nt_if (nt_cd (Nat.succ (Nat.mul 2 i))) (nt_T.any (fun x => Nat.beq x.1 (Nat.succ (Nat.mul 2 i)))) true))))
theorem nt_rows : nt_T.all nt_row = true := by decide +kernel
theorem nt_cvs : nt_al nt_cv 10 0 = true := by decide +kernel
theorem nt_fc {a : Nat} {l : List Nat} (h : nt_en 300 (nt_cl a) 1 = true) (t : ∀ c, c ∈ l → nt_en 300 (nt_cl c) 1 = true) : ∀ c, c ∈ a :: l → nt_en 300 (nt_cl c) 1 = true := by
  intro c hc
  rcases List.mem_cons.mp hc with z | z
  · rw [z]; exact h
  · exact t c z
theorem nt_fn : ∀ c, c ∈ ([] : List Nat) → nt_en 300 (nt_cl c) 1 = true := fun _ h => absurd h List.not_mem_nil
theorem nt_ens : ∀ c, c ∈ nt_C → nt_en 300 (nt_cl c) 1 = true := nt_fc (by decide +kernel) (nt_fc (by decide +kernel) (nt_fc (by decide +kernel) (nt_fc (by decide +kernel) (nt_fc (by decide +kernel) (nt_fc (by decide +kernel) (nt_fc (by decide +kernel) (nt_fc (by decide +kernel) (nt_fc (by decide +kernel) (nt_fc (by decide +kernel) (nt_fc (by decide +kernel) (nt_fc (by decide +kernel) (nt_fc (by decide +kernel) (nt_fc (by decide +kernel) (nt_fc (by decide +kernel) (nt_fc (by decide +kernel) (nt_fc (by decide +kernel) (nt_fc (by decide +kernel) (nt_fc (by decide +kernel) (nt_fc (by decide +kernel) (nt_fc (by decide +kernel) (nt_fc (by decide +kernel) (nt_fc (by decide +kernel) (nt_fc (by decide +kernel) (nt_fc (by decide +kernel) (nt_fc (by decide +kernel) (nt_fc (by decide +kernel) (nt_fc (by decide +kernel) (nt_fc (by decide +kernel) (nt_fc (by decide +kernel) (nt_fc (by decide +kernel) (nt_fc (by decide +kernel) (nt_fc (by decide +kernel) (nt_fc (by decide +kernel) (nt_fc (by decide +kernel) (nt_fc (by decide +kernel) (nt_fc (by decide +kernel) (nt_fc (by decide +kernel) (nt_fc (by decide +kernel) (nt_fc (by decide +kernel) (nt_fc (by decide +kernel) (nt_fc (by decide +kernel) (nt_fc (by decide +kernel) (nt_fc (by decide +kernel) (nt_fc (by decide +kernel) (nt_fc (by decide +kernel) (nt_fc (by decide +kernel) (nt_fc (by decide +kernel) (nt_fc (by decide +kernel) (nt_fc (by decide +kernel) (nt_fc (by decide +kernel) (nt_fc (by decide +kernel) (nt_fc (by decide +kernel) (nt_fc (by decide +kernel) (nt_fc (by decide +kernel) (nt_fc (by decide +kernel) (nt_fc (by decide +kernel) (nt_fc (by decide +kernel) (nt_fc (by decide +kernel) (nt_fc (by decide +kernel) (nt_fc (by decide +kernel) (nt_fc (by decide +kernel) (nt_fc (by decide +kernel) nt_fn))))))))))))))))))))))))))))))))))))))))))))))))))))))))))))))
theorem nt_if_f {c t e : Bool} (h : ¬ c = true) : nt_if c t e = e := by rw [nt_if_eq, if_neg h]
theorem nt_en_no : ∀ (f : Nat) (l : List Nat) (P m : Nat), nt_en f l P = true → 0 < m → (∀ q, Pr_ q → q ∣ m → q ∈ l) → 1073741825 ≤ P * m → P * m < 2147483648 → P * m % 2 = 1 → ¬ PP_ (P * m) := by
  intro f
  induction f with
  | zero => intro l P m h; exact (Bool.false_ne_true h).elim
  | succ f ih =>
    intro l P m h hm hq h1 h2 h3
    cases l with
    | nil =>
      have h4 : nt_ok P = true := h
      have h5 : m = 1 := by
        refine Classical.byContradiction (fun z => ?_)
        obtain ⟨p, hp, hd⟩ := Pr_ex m (by omega)
        exact absurd (hq p hp hd) (List.not_mem_nil)
      subst h5
      rw [Nat.mul_one] at h1 h2 h3 ⊢
      exact nt_ok_no h4 h1 h2 h3
    | cons p ps =>
      have h4 : nt_if (Nat.ble 2147483648 (P * p)) (nt_en f ps P) (nt_if (nt_en f (p :: ps) (P * p)) (nt_en f ps P) false) = true := h
      simp only [nt_if_eq, Nat.ble_eq] at h4
      by_cases hd : p ∣ m
      · obtain ⟨c, rfl⟩ := hd
        have hc : 0 < c := Nat.pos_of_ne_zero (fun z => by subst z; simp at hm)
        rw [← Nat.mul_assoc] at h1 h2 h3 ⊢
        have h5 : P * p ≤ P * p * c := Nat.le_mul_of_pos_right _ hc
        rw [if_neg (by omega)] at h4
        split at h4
        · rename_i z
          exact ih (p :: ps) (P * p) c z hc (fun q x y => hq q x (Nat.dvd_mul_left_of_dvd y p)) h1 h2 h3
        · exact (Bool.false_ne_true h4).elim
      · have h5 : nt_en f ps P = true := by
          split at h4
          · exact h4
          · split at h4
            · exact h4
            · exact (Bool.false_ne_true h4).elim
        refine ih ps P m h5 hm (fun q x y => ?_) h1 h2 h3
        rcases List.mem_cons.mp (hq q x y) with z | z
        · exact absurd (z ▸ y) hd
        · exact z
theorem nt_q_Q {q a e : Nat} (h : nt_q q a e = true) : Q_ q a e := by
  unfold nt_q at h
  generalize nt_d q = d at h
  simp only [nt_if_eq, nt_beq] at h
  split at h
  · rename_i hd
    cases e with
    | zero => exact ⟨d, hd, Or.inl ⟨rfl, Nat.eq_of_beq_eq_true h⟩⟩
    | succ j => exact ⟨d, hd, Or.inr ⟨j, rfl, Nat.eq_of_beq_eq_true h⟩⟩
  · exact (Bool.false_ne_true h).elim
theorem nt_al_mk {f : Nat → Bool} (h : ∀ i, f i = true) : ∀ d a, nt_al f d a = true := by
  intro d
  induction d with
  | zero => intro a; exact h a
  | succ d ih =>
    intro a
    show Bool.rec (motive := fun _ => Bool) false (nt_al f d (a + 2 ^ d)) (nt_al f d a) = true
    rw [ih a]; exact ih _
theorem nt_cd_ok {q : Nat} (hp : Pr_ q) : nt_cd q = true := by
  refine nt_al_mk (fun d => ?_) _ _
  simp only [nt_if_eq, Nat.ble_eq, nt_beq]
  split
  · rfl
  · split
    · rfl
    · split
      · rename_i z1 z2 z3
        have := hp.2 d (Nat.dvd_of_mod_eq_zero z3)
        omega
      · rfl
theorem nt_cover {q : Nat} (hp : Pr_ q) (ho : q % 2 = 1) (hl : q ≤ 2000) : (∃ x, x ∈ nt_T ∧ x.1 = q) ∨ q = 7 ∨ q = 61 := by
  have h0 := hp.1
  obtain ⟨i, rfl⟩ : ∃ i, q = 2 * i + 1 := ⟨q / 2, by omega⟩
  have h := nt_al_ok nt_cvs i (by omega) (by omega)
  unfold nt_cv at h
  by_cases q3 : i = 3
  · right; left; omega
  by_cases q30 : i = 30
  · right; right; omega
  rw [nt_if_f (fun z => by have := Nat.eq_of_beq_eq_true z; omega), nt_if_f (fun z => q3 (Nat.eq_of_beq_eq_true z)), nt_if_f (fun z => q30 (Nat.eq_of_beq_eq_true z)), nt_if_f (fun z => by rw [Nat.ble_eq] at z; omega), nt_if_eq, if_pos (show nt_cd (Nat.succ (Nat.mul 2 i)) = true from nt_cd_ok hp)] at h
  obtain ⟨x, hx, hy⟩ := List.any_eq_true.mp h
  exact Or.inl ⟨x, hx, Nat.eq_of_beq_eq_true hy⟩
theorem nt_small {n q e2 e7 e61 : Nat} (hn : 0 < n) (ho : n % 2 = 1) (h2 : Q_ n 2 e2) (h7 : Q_ n 7 e7) (h61 : Q_ n 61 e61) (hp : Pr_ q) (hq : q ∣ n) (hl : q ≤ 2000) : q ∈ nt_cl (e2 * 256 + e7 * 16 + e61) ∧ (e2 * 256 + e7 * 16 + e61) ∈ nt_C := by
  have h0 := hp.1
  have hqo : q % 2 = 1 := by
    obtain ⟨c, rfl⟩ := hq
    rcases Nat.mod_two_eq_zero_or_one q with z | z
    · rw [Nat.mul_mod, z, Nat.zero_mul] at ho; simp at ho
    · exact z
  have b2 := Q_dvd hn hq (by omega) h2
  have b7 := Q_dvd hn hq (by omega) h7
  have b61 := Q_dvd hn hq (by omega) h61
  rcases nt_cover hp hqo hl with ⟨x, hx, rfl⟩ | rfl | rfl
  · have hr := List.all_eq_true.mp nt_rows x hx
    unfold nt_row at hr
    simp only [nt_if_eq] at hr
    split at hr
    · rename_i z2
      split at hr
      · rename_i z7
        split at hr
        · rename_i z61
          have c2 := Q_uniq (by omega) b2 (nt_q_Q z2)
          have c7 := Q_uniq (by omega) b7 (nt_q_Q z7)
          have c61 := Q_uniq (by omega) b61 (nt_q_Q z61)
          have c2' : e2 = x.2 / 256 := c2
          have c7' : e7 = x.2 / 16 % 16 := c7
          have c61' : e61 = x.2 % 16 := c61
          have hc : e2 * 256 + e7 * 16 + e61 = x.2 := by omega
          rw [hc]
          obtain ⟨c, hc1, hc2⟩ := List.any_eq_true.mp hr
          refine ⟨List.mem_map.mpr ⟨x, List.mem_filter.mpr ⟨hx, Nat.beq_refl _⟩, rfl⟩, ?_⟩
          rw [Nat.eq_of_beq_eq_true hc2]; exact hc1
        · exact (Bool.false_ne_true hr).elim
      · exact (Bool.false_ne_true hr).elim
    · exact (Bool.false_ne_true hr).elim
  · exact (Q_self (by decide) b7).elim
  · exact (Q_self (by decide) b61).elim
