/-! the checks -/
theorem nt_As : nt_al nt_A 10 0 = true ∧ nt_al nt_A 10 1024 = true ∧ nt_al nt_A 10 2048 = true ∧ nt_al nt_A 10 3072 = true ∧ nt_al nt_A 10 4096 = true ∧ nt_al nt_A 10 5120 = true ∧ nt_al nt_A 10 6144 = true ∧ nt_al nt_A 10 7168 = true ∧ nt_al nt_A 10 8192 = true ∧ nt_al nt_A 10 9216 = true ∧ nt_al nt_A 10 10240 = true ∧ nt_al nt_A 10 11264 = true ∧ nt_al nt_A 10 12288 = true ∧ nt_al nt_A 10 13312 = true ∧ nt_al nt_A 10 14336 = true ∧ nt_al nt_A 10 15360 = true ∧ nt_al nt_A 10 16384 = true ∧ nt_al nt_A 10 17408 = true ∧ nt_al nt_A 10 18432 = true ∧ nt_al nt_A 10 19456 = true ∧ nt_al nt_A 10 20480 = true ∧ nt_al nt_A 10 21504 = true ∧ nt_al nt_A 10 22528 = true := ⟨by decide +kernel, by decide +kernel, by decide +kernel, by decide +kernel, by decide +kernel, by decide +kernel, by decide +kernel, by decide +kernel, by decide +kernel, by decide +kernel, by decide +kernel, by decide +kernel, by decide +kernel, by decide +kernel, by decide +kernel, by decide +kernel, by decide +kernel, by decide +kernel, by decide +kernel, by decide +kernel, by decide +kernel, by decide +kernel, by decide +kernel⟩
theorem nt_Bs : nt_al nt_B 8 1000 = true ∧ nt_al nt_B 8 1256 = true ∧ nt_al nt_B 8 1512 = true ∧ nt_al nt_B 8 1768 = true ∧ nt_al nt_B 8 2024 = true ∧ nt_al nt_B 8 2280 = true ∧ nt_al nt_B 8 2536 = true ∧ nt_al nt_B 8 2792 = true ∧ nt_al nt_B 8 3048 = true ∧ nt_al nt_B 8 3304 = true ∧ nt_al nt_B 8 3560 = true ∧ nt_al nt_B 8 3816 = true ∧ nt_al nt_B 9 4072 = true ∧ nt_al nt_B 9 4584 = true ∧ nt_al nt_B 9 5096 = true ∧ nt_al nt_B 9 5608 = true ∧ nt_al nt_B 9 6120 = true ∧ nt_al nt_B 9 6632 = true ∧ nt_al nt_B 9 7144 = true ∧ nt_al nt_B 9 7656 = true ∧ nt_al nt_B 10 8168 = true ∧ nt_al nt_B 10 9192 = true ∧ nt_al nt_B 10 10216 = true ∧ nt_al nt_B 10 11240 = true ∧ nt_al nt_B 10 12264 = true ∧ nt_al nt_B 10 13288 = true ∧ nt_al nt_B 10 14312 = true ∧ nt_al nt_B 10 15336 = true ∧ nt_al nt_B 11 16360 = true ∧ nt_al nt_B 11 18408 = true ∧ nt_al nt_B 11 20456 = true ∧ nt_al nt_B 11 22504 = true := ⟨by decide +kernel, by decide +kernel, by decide +kernel, by decide +kernel, by decide +kernel, by decide +kernel, by decide +kernel, by decide +kernel, by decide +kernel, by decide +kernel, by decide +kernel, by decide +kernel, by decide +kernel, by decide +kernel, by decide +kernel, by decide +kernel, by decide +kernel, by decide +kernel, by decide +kernel, by decide +kernel, by decide +kernel, by decide +kernel, by decide +kernel, by decide +kernel, by decide +kernel, by decide +kernel, by decide +kernel, by decide +kernel, by decide +kernel, by decide +kernel, by decide +kernel, by decide +kernel⟩
theorem nt_allA {i : Nat} (h9 : i < 23170) : nt_A i = true := by
  obtain ⟨k0, k1, k2, k3, k4, k5, k6, k7, k8, k9, k10, k11, k12, k13, k14, k15, k16, k17, k18, k19, k20, k21, k22⟩ := nt_As
  by_cases h100 : i < 1024
  · exact nt_al_ok k0 i (by omega) (by omega)
  by_cases h101 : i < 2048
  · exact nt_al_ok k1 i (by omega) (by omega)
  by_cases h102 : i < 3072
  · exact nt_al_ok k2 i (by omega) (by omega)
  by_cases h103 : i < 4096
  · exact nt_al_ok k3 i (by omega) (by omega)
  by_cases h104 : i < 5120
  · exact nt_al_ok k4 i (by omega) (by omega)
  by_cases h105 : i < 6144
  · exact nt_al_ok k5 i (by omega) (by omega)
  by_cases h106 : i < 7168
  · exact nt_al_ok k6 i (by omega) (by omega)
  by_cases h107 : i < 8192
  · exact nt_al_ok k7 i (by omega) (by omega)
  by_cases h108 : i < 9216
  · exact nt_al_ok k8 i (by omega) (by omega)
  by_cases h109 : i < 10240
  · exact nt_al_ok k9 i (by omega) (by omega)
  by_cases h110 : i < 11264
  · exact nt_al_ok k10 i (by omega) (by omega)
  by_cases h111 : i < 12288
  · exact nt_al_ok k11 i (by omega) (by omega)
  by_cases h112 : i < 13312
  · exact nt_al_ok k12 i (by omega) (by omega)
  by_cases h113 : i < 14336
  · exact nt_al_ok k13 i (by omega) (by omega)
  by_cases h114 : i < 15360
  · exact nt_al_ok k14 i (by omega) (by omega)
  by_cases h115 : i < 16384
  · exact nt_al_ok k15 i (by omega) (by omega)
  by_cases h116 : i < 17408
  · exact nt_al_ok k16 i (by omega) (by omega)
  by_cases h117 : i < 18432
  · exact nt_al_ok k17 i (by omega) (by omega)
  by_cases h118 : i < 19456
  · exact nt_al_ok k18 i (by omega) (by omega)
  by_cases h119 : i < 20480
  · exact nt_al_ok k19 i (by omega) (by omega)
  by_cases h120 : i < 21504
  · exact nt_al_ok k20 i (by omega) (by omega)
  by_cases h121 : i < 22528
  · exact nt_al_ok k21 i (by omega) (by omega)
  · exact nt_al_ok k22 i (by omega) (by omega)
theorem nt_allB {i : Nat} (h : 1000 ≤ i) (h9 : i < 23170) : nt_B i = true := by
  obtain ⟨k0, k1, k2, k3, k4, k5, k6, k7, k8, k9, k10, k11, k12, k13, k14, k15, k16, k17, k18, k19, k20, k21, k22, k23, k24, k25, k26, k27, k28, k29, k30, k31⟩ := nt_Bs
  by_cases h100 : i < 1256
  · exact nt_al_ok k0 i (by omega) (by omega)
  by_cases h101 : i < 1512
  · exact nt_al_ok k1 i (by omega) (by omega)
  by_cases h102 : i < 1768
  · exact nt_al_ok k2 i (by omega) (by omega)
  by_cases h103 : i < 2024
  · exact nt_al_ok k3 i (by omega) (by omega)
  by_cases h104 : i < 2280
  · exact nt_al_ok k4 i (by omega) (by omega)
  by_cases h105 : i < 2536
  · exact nt_al_ok k5 i (by omega) (by omega)
  by_cases h106 : i < 2792
  · exact nt_al_ok k6 i (by omega) (by omega)
  by_cases h107 : i < 3048
  · exact nt_al_ok k7 i (by omega) (by omega)
  by_cases h108 : i < 3304
  · exact nt_al_ok k8 i (by omega) (by omega)
  by_cases h109 : i < 3560
  · exact nt_al_ok k9 i (by omega) (by omega)
  by_cases h110 : i < 3816
  · exact nt_al_ok k10 i (by omega) (by omega)
  by_cases h111 : i < 4072
  · exact nt_al_ok k11 i (by omega) (by omega)
  by_cases h112 : i < 4584
  · exact nt_al_ok k12 i (by omega) (by omega)
  by_cases h113 : i < 5096
  · exact nt_al_ok k13 i (by omega) (by omega)
  by_cases h114 : i < 5608
  · exact nt_al_ok k14 i (by omega) (by omega)
  by_cases h115 : i < 6120
  · exact nt_al_ok k15 i (by omega) (by omega)
  by_cases h116 : i < 6632
  · exact nt_al_ok k16 i (by omega) (by omega)
  by_cases h117 : i < 7144
  · exact nt_al_ok k17 i (by omega) (by omega)
  by_cases h118 : i < 7656
  · exact nt_al_ok k18 i (by omega) (by omega)
  by_cases h119 : i < 8168
  · exact nt_al_ok k19 i (by omega) (by omega)
  by_cases h120 : i < 9192
  · exact nt_al_ok k20 i (by omega) (by omega)
  by_cases h121 : i < 10216
  · exact nt_al_ok k21 i (by omega) (by omega)
  by_cases h122 : i < 11240
  · exact nt_al_ok k22 i (by omega) (by omega)
  by_cases h123 : i < 12264
  · exact nt_al_ok k23 i (by omega) (by omega)
  by_cases h124 : i < 13288
  · exact nt_al_ok k24 i (by omega) (by omega)
  by_cases h125 : i < 14312
  · exact nt_al_ok k25 i (by omega) (by omega)
  by_cases h126 : i < 15336
  · exact nt_al_ok k26 i (by omega) (by omega)
  by_cases h127 : i < 16360
  · exact nt_al_ok k27 i (by omega) (by omega)
  by_cases h128 : i < 18408
  · exact nt_al_ok k28 i (by omega) (by omega)
  by_cases h129 : i < 20456
  · exact nt_al_ok k29 i (by omega) (by omega)
  by_cases h130 : i < 22504
  · exact nt_al_ok k30 i (by omega) (by omega)
  · exact nt_al_ok k31 i (by omega) (by omega)
theorem nt_odd_l {a b : Nat} (h : a * b % 2 = 1) : a % 2 = 1 := by
  rcases Nat.mod_two_eq_zero_or_one a with z | z
  · rw [Nat.mul_mod, z, Nat.zero_mul] at h; simp at h
  · exact z
theorem PP_TD {n : Nat} (h1 : 1073741825 ≤ n) (h2 : n < 2147483648) (ho : n % 2 = 1) (h : PP_ n) : TD_ n := by
  intro d hd h3 hdd hm
  by_cases hA : ∃ s, Pr_ s ∧ s ∣ n ∧ 46340 < s
  · obtain ⟨s, hp, ⟨k, rfl⟩, hs⟩ := hA
    have hk : k % 2 = 1 := nt_odd_l (by rw [Nat.mul_comm]; exact ho)
    obtain ⟨i, rfl⟩ : ∃ i, k = 2 * i + 1 := ⟨k / 2, by omega⟩
    have hi : 0 < i := by
      refine Nat.pos_of_ne_zero (fun z => ?_)
      subst z
      rw [Nat.mul_zero, Nat.zero_add, Nat.mul_one] at hm hdd
      rcases hp.2 d (Nat.dvd_of_mod_eq_zero hm) with z | z
      · omega
      · rw [z] at hdd
        have : s * 2 ≤ s * s := Nat.mul_le_mul_left s hp.1
        omega
    have hi2 : i < 23170 := by
      refine Nat.lt_of_not_le (fun z => ?_)
      have : 46341 * 46341 ≤ s * (2 * i + 1) := Nat.mul_le_mul (by omega) (by omega)
      omega
    exact nt_caseA (nt_allA hi2) hp hs hi hi2 h1 h2 ho h
  by_cases hB : ∃ s, Pr_ s ∧ s ∣ n ∧ 2000 < s
  · obtain ⟨s, hp, hd, hs⟩ := hB
    have hs2 : s ≤ 46340 := Nat.le_of_not_lt (fun z => hA ⟨s, hp, hd, z⟩)
    obtain ⟨k, rfl⟩ := hd
    have hso : s % 2 = 1 := nt_odd_l ho
    have hko : k % 2 = 1 := nt_odd_l (by rw [Nat.mul_comm]; exact ho)
    obtain ⟨i, rfl⟩ : ∃ i, s = 2 * i + 1 := ⟨s / 2, by omega⟩
    obtain ⟨j, rfl⟩ : ∃ j, k = 2 * j + 1 := ⟨k / 2, by omega⟩
    exact nt_caseB (nt_allB (by omega) (by omega)) hp hs hs2 h1 h2 ho h
  · have hC : ∀ q, Pr_ q → q ∣ n → q ≤ 2000 := fun q x y => Nat.le_of_not_lt (fun z => hB ⟨q, x, y, z⟩)
    obtain ⟨e2, q2⟩ := SP_Q h.1
    obtain ⟨e7, q7⟩ := SP_Q h.2.1
    obtain ⟨e61, q61⟩ := SP_Q h.2.2
    obtain ⟨p, hp, hpd⟩ := Pr_ex n (by omega)
    have hc := (nt_small (by omega) ho q2 q7 q61 hp hpd (hC p hp hpd)).2
    have he := nt_ens _ hc
    have hz := nt_en_no _ _ 1 n he (by omega) (fun q x y => (nt_small (by omega) ho q2 q7 q61 x y (hC q x y)).1)
    rw [Nat.one_mul] at hz
    exact hz h1 h2 ho h
theorem PP_iff_TD {n : Nat} (h1 : 1073741825 ≤ n) (h2 : n < 2147483648) (ho : n % 2 = 1) : PP_ n ↔ TD_ n :=
  ⟨PP_TD h1 h2 ho, TD_PP h1 ho⟩
theorem pf_eq (s : Int64) : ∀ k c, pf_ s k c = pfT_ s k c := by
  intro k
  induction k with
  | zero => intro c; rfl
  | succ k ih =>
    intro c
    have hx := xn_in (hash_ s (nI c))
    by_cases h : TD_ (xn_ (hash_ s (nI c)))
    · rw [pf_y ((PP_iff_TD hx.1 hx.2.1 hx.2.2).mpr h), pfT_y h]
    · rw [pf_n (fun q => h ((PP_iff_TD hx.1 hx.2.1 hx.2.2).mp q)), pfT_n h, ih]
theorem prime_eq (s : Int64) : prime_ s = primeT_ s := by
  by_cases h : s < 0 ∨ (1099511627776 : Int64) ≤ s
  · rw [prime_b h, primeT_b h]
  · rw [prime_g h, primeT_g h, pf_eq]
