/-! the checks -/
theorem nt_A0 : nt_al nt_A 12 0 = true := by decide +kernel
theorem nt_A1 : nt_al nt_A 12 4096 = true := by decide +kernel
theorem nt_A2 : nt_al nt_A 12 8192 = true := by decide +kernel
theorem nt_A3 : nt_al nt_A 12 12288 = true := by decide +kernel
theorem nt_A4 : nt_al nt_A 12 16384 = true := by decide +kernel
theorem nt_A5 : nt_al nt_A 12 20480 = true := by decide +kernel
theorem nt_B0 : nt_al nt_B 9 500 = true := by decide +kernel
theorem nt_B1 : nt_al nt_B 10 1012 = true := by decide +kernel
theorem nt_B2 : nt_al nt_B 11 2036 = true := by decide +kernel
theorem nt_B3 : nt_al nt_B 12 4084 = true := by decide +kernel
theorem nt_B4 : nt_al nt_B 12 8180 = true := by decide +kernel
theorem nt_B5 : nt_al nt_B 12 12276 = true := by decide +kernel
theorem nt_B6 : nt_al nt_B 12 16372 = true := by decide +kernel
theorem nt_B7 : nt_al nt_B 12 20468 = true := by decide +kernel
theorem nt_allA {i : Nat} (h : i < 23170) : nt_A i = true := by
  by_cases h0 : i < 4096
  · exact nt_al_ok nt_A0 i (by omega) (by omega)
  by_cases h1 : i < 8192
  · exact nt_al_ok nt_A1 i (by omega) (by omega)
  by_cases h2 : i < 12288
  · exact nt_al_ok nt_A2 i (by omega) (by omega)
  by_cases h3 : i < 16384
  · exact nt_al_ok nt_A3 i (by omega) (by omega)
  by_cases h4 : i < 20480
  · exact nt_al_ok nt_A4 i (by omega) (by omega)
  · exact nt_al_ok nt_A5 i (by omega) (by omega)
theorem nt_allB {i : Nat} (h : 500 ≤ i) (h9 : i < 23170) : nt_B i = true := by
  by_cases h0 : i < 1012
  · exact nt_al_ok nt_B0 i (by omega) (by omega)
  by_cases h1 : i < 2036
  · exact nt_al_ok nt_B1 i (by omega) (by omega)
  by_cases h2 : i < 4084
  · exact nt_al_ok nt_B2 i (by omega) (by omega)
  by_cases h3 : i < 8180
  · exact nt_al_ok nt_B3 i (by omega) (by omega)
  by_cases h4 : i < 12276
  · exact nt_al_ok nt_B4 i (by omega) (by omega)
  by_cases h5 : i < 16372
  · exact nt_al_ok nt_B5 i (by omega) (by omega)
  by_cases h6 : i < 20468
  · exact nt_al_ok nt_B6 i (by omega) (by omega)
  · exact nt_al_ok nt_B7 i (by omega) (by omega)
theorem nt_odd_l {a b : Nat} (h : a * b % 2 = 1) : a % 2 = 1 := by
  rcases Nat.mod_two_eq_zero_or_one a with z | z
  · rw [Nat.mul_mod, z, Nat.zero_mul] at h; simp at h
  · exact z
theorem PP_TD {n : Nat} (h1 : 1073741825 ≤ n) (h2 : n < 2147483648) (ho : n % 2 = 1) (h : PP_ n) : TD_ n := by
  intro d hd h3 hdd hm
  by_cases hA : ∃ s, Pr_ s ∧ s ∣ n ∧ 46340 < s
  · obtain ⟨s, hp, ⟨k, rfl⟩, hs⟩ := hA
    have hk : k % 2 = 1 := nt_odd_l (by rw [Nat.mul_comm]; exact ho)
    obtain ⟨i, rfl⟩ : ∃ i, k = 2 * i + 1 := ⟨k / 2, by omega⟩
    have hi : 0 < i := by
      refine Nat.pos_of_ne_zero (fun z => ?_)
      subst z
      rw [Nat.mul_zero, Nat.zero_add, Nat.mul_one] at hm hdd
      rcases hp.2 d (Nat.dvd_of_mod_eq_zero hm) with z | z
      · omega
      · rw [z] at hdd
        have : s * 2 ≤ s * s := Nat.mul_le_mul_left s hp.1
        omega
    have hi2 : i < 23170 := by
      refine Nat.lt_of_not_le (fun z => ?_)
      have : 46341 * 46341 ≤ s * (2 * i + 1) := Nat.mul_le_mul (by omega) (by omega)
      omega
    exact nt_caseA (nt_allA hi2) hp hs hi hi2 h1 h2 ho h
  by_cases hB : ∃ s, Pr_ s ∧ s ∣ n ∧ 1000 < s
  · obtain ⟨s, hp, hd, hs⟩ := hB
    have hs2 : s ≤ 46340 := Nat.le_of_not_lt (fun z => hA ⟨s, hp, hd, z⟩)
    obtain ⟨k, rfl⟩ := hd
    have hso : s % 2 = 1 := nt_odd_l ho
    obtain ⟨i, rfl⟩ : ∃ i, s = 2 * i + 1 := ⟨s / 2, by omega⟩
    exact nt_caseB (nt_allB (by omega) (by omega)) hp hs hs2 h1 h2 ho h
  · have hC : ∀ q, Pr_ q → q ∣ n → q ≤ 1000 := fun q x y => Nat.le_of_not_lt (fun z => hB ⟨q, x, y, z⟩)
    obtain ⟨e2, q2⟩ := SP_Q h.1
    obtain ⟨e7, q7⟩ := SP_Q h.2.1
    obtain ⟨e61, q61⟩ := SP_Q h.2.2
    obtain ⟨p, hp, hpd⟩ := Pr_ex n (by omega)
    have hc := (nt_small (by omega) ho q2 q7 q61 hp hpd (hC p hp hpd)).2
    have he := List.all_eq_true.mp nt_ens _ hc
    have hz := nt_en_no _ _ 1 n he (by omega) (fun q x y => (nt_small (by omega) ho q2 q7 q61 x y (hC q x y)).1)
    rw [Nat.one_mul] at hz
    exact hz h1 h2 ho h
theorem PP_iff_TD {n : Nat} (h1 : 1073741825 ≤ n) (h2 : n < 2147483648) (ho : n % 2 = 1) : PP_ n ↔ TD_ n :=
  ⟨PP_TD h1 h2 ho, TD_PP h1 ho⟩
theorem pf_eq (s : Int64) : ∀ k c, pf_ s k c = pfT_ s k c := by
  intro k
  induction k with
  | zero => intro c; rfl
  | succ k ih =>
    intro c
    have hx := xn_in (hash_ s (nI c))
    by_cases h : TD_ (xn_ (hash_ s (nI c)))
    · rw [pf_y ((PP_iff_TD hx.1 hx.2.1 hx.2.2).mpr h), pfT_y h]
    · rw [pf_n (fun q => h ((PP_iff_TD hx.1 hx.2.1 hx.2.2).mp q)), pfT_n h, ih]
theorem prime_eq (s : Int64) : prime_ s = primeT_ s := by
  by_cases h : s < 0 ∨ (1099511627776 : Int64) ≤ s
  · rw [prime_b h, primeT_b h]
  · rw [prime_g h, primeT_g h, pf_eq]
