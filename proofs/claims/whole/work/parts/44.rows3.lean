/-! rows for new cells; what a constructor stands on -/
theorem mu_c13 {M : mw_} {a b1 b2 b3 b4 b5 b6 b7 b8 b9 b10 b11 b12 : Nat} {e e' f_b1 f_b2 f_b3 f_b4 f_b5 f_b6 f_b7 f_b8 f_b9 f_b10 f_b11 f_b12 : va_E} (h_b1 : a ≠ b1) (h_b2 : a ≠ b2) (h_b3 : a ≠ b3) (h_b4 : a ≠ b4) (h_b5 : a ≠ b5) (h_b6 : a ≠ b6) (h_b7 : a ≠ b7) (h_b8 : a ≠ b8) (h_b9 : a ≠ b9) (h_b10 : a ≠ b10) (h_b11 : a ≠ b11) (h_b12 : a ≠ b12) : mu_ (mu_ (mu_ (mu_ (mu_ (mu_ (mu_ (mu_ (mu_ (mu_ (mu_ (mu_ (mu_ (mu_ M a e) b1 f_b1) b2 f_b2) b3 f_b3) b4 f_b4) b5 f_b5) b6 f_b6) b7 f_b7) b8 f_b8) b9 f_b9) b10 f_b10) b11 f_b11) b12 f_b12) a e' = mu_ (mu_ (mu_ (mu_ (mu_ (mu_ (mu_ (mu_ (mu_ (mu_ (mu_ (mu_ (mu_ M a e') b1 f_b1) b2 f_b2) b3 f_b3) b4 f_b4) b5 f_b5) b6 f_b6) b7 f_b7) b8 f_b8) b9 f_b9) b10 f_b10) b11 f_b11) b12 f_b12 := by
  rw [← mu_sw h_b12, mu_c12 h_b1 h_b2 h_b3 h_b4 h_b5 h_b6 h_b7 h_b8 h_b9 h_b10 h_b11]
theorem mu_c14 {M : mw_} {a b1 b2 b3 b4 b5 b6 b7 b8 b9 b10 b11 b12 b13 : Nat} {e e' f_b1 f_b2 f_b3 f_b4 f_b5 f_b6 f_b7 f_b8 f_b9 f_b10 f_b11 f_b12 f_b13 : va_E} (h_b1 : a ≠ b1) (h_b2 : a ≠ b2) (h_b3 : a ≠ b3) (h_b4 : a ≠ b4) (h_b5 : a ≠ b5) (h_b6 : a ≠ b6) (h_b7 : a ≠ b7) (h_b8 : a ≠ b8) (h_b9 : a ≠ b9) (h_b10 : a ≠ b10) (h_b11 : a ≠ b11) (h_b12 : a ≠ b12) (h_b13 : a ≠ b13) : mu_ (mu_ (mu_ (mu_ (mu_ (mu_ (mu_ (mu_ (mu_ (mu_ (mu_ (mu_ (mu_ (mu_ (mu_ M a e) b1 f_b1) b2 f_b2) b3 f_b3) b4 f_b4) b5 f_b5) b6 f_b6) b7 f_b7) b8 f_b8) b9 f_b9) b10 f_b10) b11 f_b11) b12 f_b12) b13 f_b13) a e' = mu_ (mu_ (mu_ (mu_ (mu_ (mu_ (mu_ (mu_ (mu_ (mu_ (mu_ (mu_ (mu_ (mu_ M a e') b1 f_b1) b2 f_b2) b3 f_b3) b4 f_b4) b5 f_b5) b6 f_b6) b7 f_b7) b8 f_b8) b9 f_b9) b10 f_b10) b11 f_b11) b12 f_b12) b13 f_b13 := by
  rw [← mu_sw h_b13, mu_c13 h_b1 h_b2 h_b3 h_b4 h_b5 h_b6 h_b7 h_b8 h_b9 h_b10 h_b11 h_b12]
theorem mu_c15 {M : mw_} {a b1 b2 b3 b4 b5 b6 b7 b8 b9 b10 b11 b12 b13 b14 : Nat} {e e' f_b1 f_b2 f_b3 f_b4 f_b5 f_b6 f_b7 f_b8 f_b9 f_b10 f_b11 f_b12 f_b13 f_b14 : va_E} (h_b1 : a ≠ b1) (h_b2 : a ≠ b2) (h_b3 : a ≠ b3) (h_b4 : a ≠ b4) (h_b5 : a ≠ b5) (h_b6 : a ≠ b6) (h_b7 : a ≠ b7) (h_b8 : a ≠ b8) (h_b9 : a ≠ b9) (h_b10 : a ≠ b10) (h_b11 : a ≠ b11) (h_b12 : a ≠ b12) (h_b13 : a ≠ b13) (h_b14 : a ≠ b14) : mu_ (mu_ (mu_ (mu_ (mu_ (mu_ (mu_ (mu_ (mu_ (mu_ (mu_ (mu_ (mu_ (mu_ (mu_ (mu_ M a e) b1 f_b1) b2 f_b2) b3 f_b3) b4 f_b4) b5 f_b5) b6 f_b6) b7 f_b7) b8 f_b8) b9 f_b9) b10 f_b10) b11 f_b11) b12 f_b12) b13 f_b13) b14 f_b14) a e' = mu_ (mu_ (mu_ (mu_ (mu_ (mu_ (mu_ (mu_ (mu_ (mu_ (mu_ (mu_ (mu_ (mu_ (mu_ M a e') b1 f_b1) b2 f_b2) b3 f_b3) b4 f_b4) b5 f_b5) b6 f_b6) b7 f_b7) b8 f_b8) b9 f_b9) b10 f_b10) b11 f_b11) b12 f_b12) b13 f_b13) b14 f_b14 := by
  rw [← mu_sw h_b14, mu_c14 h_b1 h_b2 h_b3 h_b4 h_b5 h_b6 h_b7 h_b8 h_b9 h_b10 h_b11 h_b12 h_b13]
theorem mu_c16 {M : mw_} {a b1 b2 b3 b4 b5 b6 b7 b8 b9 b10 b11 b12 b13 b14 b15 : Nat} {e e' f_b1 f_b2 f_b3 f_b4 f_b5 f_b6 f_b7 f_b8 f_b9 f_b10 f_b11 f_b12 f_b13 f_b14 f_b15 : va_E} (h_b1 : a ≠ b1) (h_b2 : a ≠ b2) (h_b3 : a ≠ b3) (h_b4 : a ≠ b4) (h_b5 : a ≠ b5) (h_b6 : a ≠ b6) (h_b7 : a ≠ b7) (h_b8 : a ≠ b8) (h_b9 : a ≠ b9) (h_b10 : a ≠ b10) (h_b11 : a ≠ b11) (h_b12 : a ≠ b12) (h_b13 : a ≠ b13) (h_b14 : a ≠ b14) (h_b15 : a ≠ b15) : mu_ (mu_ (mu_ (mu_ (mu_ (mu_ (mu_ (mu_ (mu_ (mu_ (mu_ (mu_ (mu_ (mu_ (mu_ (mu_ (mu_ M a e) b1 f_b1) b2 f_b2) b3 f_b3) b4 f_b4) b5 f_b5) b6 f_b6) b7 f_b7) b8 f_b8) b9 f_b9) b10 f_b10) b11 f_b11) b12 f_b12) b13 f_b13) b14 f_b14) b15 f_b15) a e' = mu_ (mu_ (mu_ (mu_ (mu_ (mu_ (mu_ (mu_ (mu_ (mu_ (mu_ (mu_ (mu_ (mu_ (mu_ (mu_ M a e') b1 f_b1) b2 f_b2) b3 f_b3) b4 f_b4) b5 f_b5) b6 f_b6) b7 f_b7) b8 f_b8) b9 f_b9) b10 f_b10) b11 f_b11) b12 f_b12) b13 f_b13) b14 f_b14) b15 f_b15 := by
  rw [← mu_sw h_b15, mu_c15 h_b1 h_b2 h_b3 h_b4 h_b5 h_b6 h_b7 h_b8 h_b9 h_b10 h_b11 h_b12 h_b13 h_b14]
theorem mu_c17 {M : mw_} {a b1 b2 b3 b4 b5 b6 b7 b8 b9 b10 b11 b12 b13 b14 b15 b16 : Nat} {e e' f_b1 f_b2 f_b3 f_b4 f_b5 f_b6 f_b7 f_b8 f_b9 f_b10 f_b11 f_b12 f_b13 f_b14 f_b15 f_b16 : va_E} (h_b1 : a ≠ b1) (h_b2 : a ≠ b2) (h_b3 : a ≠ b3) (h_b4 : a ≠ b4) (h_b5 : a ≠ b5) (h_b6 : a ≠ b6) (h_b7 : a ≠ b7) (h_b8 : a ≠ b8) (h_b9 : a ≠ b9) (h_b10 : a ≠ b10) (h_b11 : a ≠ b11) (h_b12 : a ≠ b12) (h_b13 : a ≠ b13) (h_b14 : a ≠ b14) (h_b15 : a ≠ b15) (h_b16 : a ≠ b16) : mu_ (mu_ (mu_ (mu_ (mu_ (mu_ (mu_ (mu_ (mu_ (mu_ (mu_ (mu_ (mu_ (mu_ (mu_ (mu_ (mu_ (mu_ M a e) b1 f_b1) b2 f_b2) b3 f_b3) b4 f_b4) b5 f_b5) b6 f_b6) b7 f_b7) b8 f_b8) b9 f_b9) b10 f_b10) b11 f_b11) b12 f_b12) b13 f_b13) b14 f_b14) b15 f_b15) b16 f_b16) a e' = mu_ (mu_ (mu_ (mu_ (mu_ (mu_ (mu_ (mu_ (mu_ (mu_ (mu_ (mu_ (mu_ (mu_ (mu_ (mu_ (mu_ M a e') b1 f_b1) b2 f_b2) b3 f_b3) b4 f_b4) b5 f_b5) b6 f_b6) b7 f_b7) b8 f_b8) b9 f_b9) b10 f_b10) b11 f_b11) b12 f_b12) b13 f_b13) b14 f_b14) b15 f_b15) b16 f_b16 := by
  rw [← mu_sw h_b16, mu_c16 h_b1 h_b2 h_b3 h_b4 h_b5 h_b6 h_b7 h_b8 h_b9 h_b10 h_b11 h_b12 h_b13 h_b14 h_b15]
theorem mu_c18 {M : mw_} {a b1 b2 b3 b4 b5 b6 b7 b8 b9 b10 b11 b12 b13 b14 b15 b16 b17 : Nat} {e e' f_b1 f_b2 f_b3 f_b4 f_b5 f_b6 f_b7 f_b8 f_b9 f_b10 f_b11 f_b12 f_b13 f_b14 f_b15 f_b16 f_b17 : va_E} (h_b1 : a ≠ b1) (h_b2 : a ≠ b2) (h_b3 : a ≠ b3) (h_b4 : a ≠ b4) (h_b5 : a ≠ b5) (h_b6 : a ≠ b6) (h_b7 : a ≠ b7) (h_b8 : a ≠ b8) (h_b9 : a ≠ b9) (h_b10 : a ≠ b10) (h_b11 : a ≠ b11) (h_b12 : a ≠ b12) (h_b13 : a ≠ b13) (h_b14 : a ≠ b14) (h_b15 : a ≠ b15) (h_b16 : a ≠ b16) (h_b17 : a ≠ b17) : mu_ (mu_ (mu_ (mu_ (mu_ (mu_ (mu_ (mu_ (mu_ (mu_ (mu_ (mu_ (mu_ (mu_ (mu_ (mu_ (mu_ (mu_ (mu_ M a e) b1 f_b1) b2 f_b2) b3 f_b3) b4 f_b4) b5 f_b5) b6 f_b6) b7 f_b7) b8 f_b8) b9 f_b9) b10 f_b10) b11 f_b11) b12 f_b12) b13 f_b13) b14 f_b14) b15 f_b15) b16 f_b16) b17 f_b17) a e' = mu_ (mu_ (mu_ (mu_ (mu_ (mu_ (mu_ (mu_ (mu_ (mu_ (mu_ (mu_ (mu_ (mu_ (mu_ (mu_ (mu_ (mu_ M a e') b1 f_b1) b2 f_b2) b3 f_b3) b4 f_b4) b5 f_b5) b6 f_b6) b7 f_b7) b8 f_b8) b9 f_b9) b10 f_b10) b11 f_b11) b12 f_b12) b13 f_b13) b14 f_b14) b15 f_b15) b16 f_b16) b17 f_b17 := by
  rw [← mu_sw h_b17, mu_c17 h_b1 h_b2 h_b3 h_b4 h_b5 h_b6 h_b7 h_b8 h_b9 h_b10 h_b11 h_b12 h_b13 h_b14 h_b15 h_b16]
theorem mu_c19 {M : mw_} {a b1 b2 b3 b4 b5 b6 b7 b8 b9 b10 b11 b12 b13 b14 b15 b16 b17 b18 : Nat} {e e' f_b1 f_b2 f_b3 f_b4 f_b5 f_b6 f_b7 f_b8 f_b9 f_b10 f_b11 f_b12 f_b13 f_b14 f_b15 f_b16 f_b17 f_b18 : va_E} (h_b1 : a ≠ b1) (h_b2 : a ≠ b2) (h_b3 : a ≠ b3) (h_b4 : a ≠ b4) (h_b5 : a ≠ b5) (h_b6 : a ≠ b6) (h_b7 : a ≠ b7) (h_b8 : a ≠ b8) (h_b9 : a ≠ b9) (h_b10 : a ≠ b10) (h_b11 : a ≠ b11) (h_b12 : a ≠ b12) (h_b13 : a ≠ b13) (h_b14 : a ≠ b14) (h_b15 : a ≠ b15) (h_b16 : a ≠ b16) (h_b17 : a ≠ b17) (h_b18 : a ≠ b18) : mu_ (mu_ (mu_ (mu_ (mu_ (mu_ (mu_ (mu_ (mu_ (mu_ (mu_ (mu_ (mu_ (mu_ (mu_ (mu_ (mu_ (mu_ (mu_ (mu_ M a e) b1 f_b1) b2 f_b2) b3 f_b3) b4 f_b4) b5 f_b5) b6 f_b6) b7 f_b7) b8 f_b8) b9 f_b9) b10 f_b10) b11 f_b11) b12 f_b12) b13 f_b13) b14 f_b14) b15 f_b15) b16 f_b16) b17 f_b17) b18 f_b18) a e' = mu_ (mu_ (mu_ (mu_ (mu_ (mu_ (mu_ (mu_ (mu_ (mu_ (mu_ (mu_ (mu_ (mu_ (mu_ (mu_ (mu_ (mu_ (mu_ M a e') b1 f_b1) b2 f_b2) b3 f_b3) b4 f_b4) b5 f_b5) b6 f_b6) b7 f_b7) b8 f_b8) b9 f_b9) b10 f_b10) b11 f_b11) b12 f_b12) b13 f_b13) b14 f_b14) b15 f_b15) b16 f_b16) b17 f_b17) b18 f_b18 := by
  rw [← mu_sw h_b18, mu_c18 h_b1 h_b2 h_b3 h_b4 h_b5 h_b6 h_b7 h_b8 h_b9 h_b10 h_b11 h_b12 h_b13 h_b14 h_b15 h_b16 h_b17]
theorem mu_c20 {M : mw_} {a b1 b2 b3 b4 b5 b6 b7 b8 b9 b10 b11 b12 b13 b14 b15 b16 b17 b18 b19 : Nat} {e e' f_b1 f_b2 f_b3 f_b4 f_b5 f_b6 f_b7 f_b8 f_b9 f_b10 f_b11 f_b12 f_b13 f_b14 f_b15 f_b16 f_b17 f_b18 f_b19 : va_E} (h_b1 : a ≠ b1) (h_b2 : a ≠ b2) (h_b3 : a ≠ b3) (h_b4 : a ≠ b4) (h_b5 : a ≠ b5) (h_b6 : a ≠ b6) (h_b7 : a ≠ b7) (h_b8 : a ≠ b8) (h_b9 : a ≠ b9) (h_b10 : a ≠ b10) (h_b11 : a ≠ b11) (h_b12 : a ≠ b12) (h_b13 : a ≠ b13) (h_b14 : a ≠ b14) (h_b15 : a ≠ b15) (h_b16 : a ≠ b16) (h_b17 : a ≠ b17) (h_b18 : a ≠ b18) (h_b19 : a ≠ b19) : mu_ (mu_ (mu_ (mu_ (mu_ (mu_ (mu_ (mu_ (mu_ (mu_ (mu_ (mu_ (mu_ (mu_ (mu_ (mu_ (mu_ (mu_ (mu_ (mu_ (mu_ M a e) b1 f_b1) b2 f_b2) b3 f_b3) b4 f_b4) b5 f_b5) b6 f_b6) b7 f_b7) b8 f_b8) b9 f_b9) b10 f_b10) b11 f_b11) b12 f_b12) b13 f_b13) b14 f_b14) b15 f_b15) b16 f_b16) b17 f_b17) b18 f_b18) b19 f_b19) a e' = mu_ (mu_ (mu_ (mu_ (mu_ (mu_ (mu_ (mu_ (mu_ (mu_ (mu_ (mu_ (mu_ (mu_ (mu_ (mu_ (mu_ (mu_ (mu_ (mu_ M a e') b1 f_b1) b2 f_b2) b3 f_b3) b4 f_b4) b5 f_b5) b6 f_b6) b7 f_b7) b8 f_b8) b9 f_b9) b10 f_b10) b11 f_b11) b12 f_b12) b13 f_b13) b14 f_b14) b15 f_b15) b16 f_b16) b17 f_b17) b18 f_b18) b19 f_b19 := by
  rw [← mu_sw h_b19, mu_c19 h_b1 h_b2 h_b3 h_b4 h_b5 h_b6 h_b7 h_b8 h_b9 h_b10 h_b11 h_b12 h_b13 h_b14 h_b15 h_b16 h_b17 h_b18]
theorem mu_c21 {M : mw_} {a b1 b2 b3 b4 b5 b6 b7 b8 b9 b10 b11 b12 b13 b14 b15 b16 b17 b18 b19 b20 : Nat} {e e' f_b1 f_b2 f_b3 f_b4 f_b5 f_b6 f_b7 f_b8 f_b9 f_b10 f_b11 f_b12 f_b13 f_b14 f_b15 f_b16 f_b17 f_b18 f_b19 f_b20 : va_E} (h_b1 : a ≠ b1) (h_b2 : a ≠ b2) (h_b3 : a ≠ b3) (h_b4 : a ≠ b4) (h_b5 : a ≠ b5) (h_b6 : a ≠ b6) (h_b7 : a ≠ b7) (h_b8 : a ≠ b8) (h_b9 : a ≠ b9) (h_b10 : a ≠ b10) (h_b11 : a ≠ b11) (h_b12 : a ≠ b12) (h_b13 : a ≠ b13) (h_b14 : a ≠ b14) (h_b15 : a ≠ b15) (h_b16 : a ≠ b16) (h_b17 : a ≠ b17) (h_b18 : a ≠ b18) (h_b19 : a ≠ b19) (h_b20 : a ≠ b20) : mu_ (mu_ (mu_ (mu_ (mu_ (mu_ (mu_ (mu_ (mu_ (mu_ (mu_ (mu_ (mu_ (mu_ (mu_ (mu_ (mu_ (mu_ (mu_ (mu_ (mu_ (mu_ M a e) b1 f_b1) b2 f_b2) b3 f_b3) b4 f_b4) b5 f_b5) b6 f_b6) b7 f_b7) b8 f_b8) b9 f_b9) b10 f_b10) b11 f_b11) b12 f_b12) b13 f_b13) b14 f_b14) b15 f_b15) b16 f_b16) b17 f_b17) b18 f_b18) b19 f_b19) b20 f_b20) a e' = mu_ (mu_ (mu_ (mu_ (mu_ (mu_ (mu_ (mu_ (mu_ (mu_ (mu_ (mu_ (mu_ (mu_ (mu_ (mu_ (mu_ (mu_ (mu_ (mu_ (mu_ M a e') b1 f_b1) b2 f_b2) b3 f_b3) b4 f_b4) b5 f_b5) b6 f_b6) b7 f_b7) b8 f_b8) b9 f_b9) b10 f_b10) b11 f_b11) b12 f_b12) b13 f_b13) b14 f_b14) b15 f_b15) b16 f_b16) b17 f_b17) b18 f_b18) b19 f_b19) b20 f_b20 := by
  rw [← mu_sw h_b20, mu_c20 h_b1 h_b2 h_b3 h_b4 h_b5 h_b6 h_b7 h_b8 h_b9 h_b10 h_b11 h_b12 h_b13 h_b14 h_b15 h_b16 h_b17 h_b18 h_b19]
theorem mu_c22 {M : mw_} {a b1 b2 b3 b4 b5 b6 b7 b8 b9 b10 b11 b12 b13 b14 b15 b16 b17 b18 b19 b20 b21 : Nat} {e e' f_b1 f_b2 f_b3 f_b4 f_b5 f_b6 f_b7 f_b8 f_b9 f_b10 f_b11 f_b12 f_b13 f_b14 f_b15 f_b16 f_b17 f_b18 f_b19 f_b20 f_b21 : va_E} (h_b1 : a ≠ b1) (h_b2 : a ≠ b2) (h_b3 : a ≠ b3) (h_b4 : a ≠ b4) (h_b5 : a ≠ b5) (h_b6 : a ≠ b6) (h_b7 : a ≠ b7) (h_b8 : a ≠ b8) (h_b9 : a ≠ b9) (h_b10 : a ≠ b10) (h_b11 : a ≠ b11) (h_b12 : a ≠ b12) (h_b13 : a ≠ b13) (h_b14 : a ≠ b14) (h_b15 : a ≠ b15) (h_b16 : a ≠ b16) (h_b17 : a ≠ b17) (h_b18 : a ≠ b18) (h_b19 : a ≠ b19) (h_b20 : a ≠ b20) (h_b21 : a ≠ b21) : mu_ (mu_ (mu_ (mu_ (mu_ (mu_ (mu_ (mu_ (mu_ (mu_ (mu_ (mu_ (mu_ (mu_ (mu_ (mu_ (mu_ (mu_ (mu_ (mu_ (mu_ (mu_ (mu_ M a e) b1 f_b1) b2 f_b2) b3 f_b3) b4 f_b4) b5 f_b5) b6 f_b6) b7 f_b7) b8 f_b8) b9 f_b9) b10 f_b10) b11 f_b11) b12 f_b12) b13 f_b13) b14 f_b14) b15 f_b15) b16 f_b16) b17 f_b17) b18 f_b18) b19 f_b19) b20 f_b20) b21 f_b21) a e' = mu_ (mu_ (mu_ (mu_ (mu_ (mu_ (mu_ (mu_ (mu_ (mu_ (mu_ (mu_ (mu_ (mu_ (mu_ (mu_ (mu_ (mu_ (mu_ (mu_ (mu_ (mu_ M a e') b1 f_b1) b2 f_b2) b3 f_b3) b4 f_b4) b5 f_b5) b6 f_b6) b7 f_b7) b8 f_b8) b9 f_b9) b10 f_b10) b11 f_b11) b12 f_b12) b13 f_b13) b14 f_b14) b15 f_b15) b16 f_b16) b17 f_b17) b18 f_b18) b19 f_b19) b20 f_b20) b21 f_b21 := by
  rw [← mu_sw h_b21, mu_c21 h_b1 h_b2 h_b3 h_b4 h_b5 h_b6 h_b7 h_b8 h_b9 h_b10 h_b11 h_b12 h_b13 h_b14 h_b15 h_b16 h_b17 h_b18 h_b19 h_b20]
theorem mu_c23 {M : mw_} {a b1 b2 b3 b4 b5 b6 b7 b8 b9 b10 b11 b12 b13 b14 b15 b16 b17 b18 b19 b20 b21 b22 : Nat} {e e' f_b1 f_b2 f_b3 f_b4 f_b5 f_b6 f_b7 f_b8 f_b9 f_b10 f_b11 f_b12 f_b13 f_b14 f_b15 f_b16 f_b17 f_b18 f_b19 f_b20 f_b21 f_b22 : va_E} (h_b1 : a ≠ b1) (h_b2 : a ≠ b2) (h_b3 : a ≠ b3) (h_b4 : a ≠ b4) (h_b5 : a ≠ b5) (h_b6 : a ≠ b6) (h_b7 : a ≠ b7) (h_b8 : a ≠ b8) (h_b9 : a ≠ b9) (h_b10 : a ≠ b10) (h_b11 : a ≠ b11) (h_b12 : a ≠ b12) (h_b13 : a ≠ b13) (h_b14 : a ≠ b14) (h_b15 : a ≠ b15) (h_b16 : a ≠ b16) (h_b17 : a ≠ b17) (h_b18 : a ≠ b18) (h_b19 : a ≠ b19) (h_b20 : a ≠ b20) (h_b21 : a ≠ b21) (h_b22 : a ≠ b22) : mu_ (mu_ (mu_ (mu_ (mu_ (mu_ (mu_ (mu_ (mu_ (mu_ (mu_ (mu_ (mu_ (mu_ (mu_ (mu_ (mu_ (mu_ (mu_ (mu_ (mu_ (mu_ (mu_ (mu_ M a e) b1 f_b1) b2 f_b2) b3 f_b3) b4 f_b4) b5 f_b5) b6 f_b6) b7 f_b7) b8 f_b8) b9 f_b9) b10 f_b10) b11 f_b11) b12 f_b12) b13 f_b13) b14 f_b14) b15 f_b15) b16 f_b16) b17 f_b17) b18 f_b18) b19 f_b19) b20 f_b20) b21 f_b21) b22 f_b22) a e' = mu_ (mu_ (mu_ (mu_ (mu_ (mu_ (mu_ (mu_ (mu_ (mu_ (mu_ (mu_ (mu_ (mu_ (mu_ (mu_ (mu_ (mu_ (mu_ (mu_ (mu_ (mu_ (mu_ M a e') b1 f_b1) b2 f_b2) b3 f_b3) b4 f_b4) b5 f_b5) b6 f_b6) b7 f_b7) b8 f_b8) b9 f_b9) b10 f_b10) b11 f_b11) b12 f_b12) b13 f_b13) b14 f_b14) b15 f_b15) b16 f_b16) b17 f_b17) b18 f_b18) b19 f_b19) b20 f_b20) b21 f_b21) b22 f_b22 := by
  rw [← mu_sw h_b22, mu_c22 h_b1 h_b2 h_b3 h_b4 h_b5 h_b6 h_b7 h_b8 h_b9 h_b10 h_b11 h_b12 h_b13 h_b14 h_b15 h_b16 h_b17 h_b18 h_b19 h_b20 h_b21]
theorem mu_c24 {M : mw_} {a b1 b2 b3 b4 b5 b6 b7 b8 b9 b10 b11 b12 b13 b14 b15 b16 b17 b18 b19 b20 b21 b22 b23 : Nat} {e e' f_b1 f_b2 f_b3 f_b4 f_b5 f_b6 f_b7 f_b8 f_b9 f_b10 f_b11 f_b12 f_b13 f_b14 f_b15 f_b16 f_b17 f_b18 f_b19 f_b20 f_b21 f_b22 f_b23 : va_E} (h_b1 : a ≠ b1) (h_b2 : a ≠ b2) (h_b3 : a ≠ b3) (h_b4 : a ≠ b4) (h_b5 : a ≠ b5) (h_b6 : a ≠ b6) (h_b7 : a ≠ b7) (h_b8 : a ≠ b8) (h_b9 : a ≠ b9) (h_b10 : a ≠ b10) (h_b11 : a ≠ b11) (h_b12 : a ≠ b12) (h_b13 : a ≠ b13) (h_b14 : a ≠ b14) (h_b15 : a ≠ b15) (h_b16 : a ≠ b16) (h_b17 : a ≠ b17) (h_b18 : a ≠ b18) (h_b19 : a ≠ b19) (h_b20 : a ≠ b20) (h_b21 : a ≠ b21) (h_b22 : a ≠ b22) (h_b23 : a ≠ b23) : mu_ (mu_ (mu_ (mu_ (mu_ (mu_ (mu_ (mu_ (mu_ (mu_ (mu_ (mu_ (mu_ (mu_ (mu_ (mu_ (mu_ (mu_ (mu_ (mu_ (mu_ (mu_ (mu_ (mu_ (mu_ M a e) b1 f_b1) b2 f_b2) b3 f_b3) b4 f_b4) b5 f_b5) b6 f_b6) b7 f_b7) b8 f_b8) b9 f_b9) b10 f_b10) b11 f_b11) b12 f_b12) b13 f_b13) b14 f_b14) b15 f_b15) b16 f_b16) b17 f_b17) b18 f_b18) b19 f_b19) b20 f_b20) b21 f_b21) b22 f_b22) b23 f_b23) a e' = mu_ (mu_ (mu_ (mu_ (mu_ (mu_ (mu_ (mu_ (mu_ (mu_ (mu_ (mu_ (mu_ (mu_ (mu_ (mu_ (mu_ (mu_ (mu_ (mu_ (mu_ (mu_ (mu_ (mu_ M a e') b1 f_b1) b2 f_b2) b3 f_b3) b4 f_b4) b5 f_b5) b6 f_b6) b7 f_b7) b8 f_b8) b9 f_b9) b10 f_b10) b11 f_b11) b12 f_b12) b13 f_b13) b14 f_b14) b15 f_b15) b16 f_b16) b17 f_b17) b18 f_b18) b19 f_b19) b20 f_b20) b21 f_b21) b22 f_b22) b23 f_b23 := by
  rw [← mu_sw h_b23, mu_c23 h_b1 h_b2 h_b3 h_b4 h_b5 h_b6 h_b7 h_b8 h_b9 h_b10 h_b11 h_b12 h_b13 h_b14 h_b15 h_b16 h_b17 h_b18 h_b19 h_b20 h_b21 h_b22]

theorem mu_fr {M : mw_} {a b : Nat} {e : va_E} (h : mu_ M b e a = none) : a ≠ b ∧ M a = none := by
  by_cases q : a = b
  · subst q; rw [mu_s] at h; cases h
  · exact ⟨q, by rw [mu_n q] at h; exact h⟩
theorem ne_fr {M : mw_} {a b : Nat} {e : va_E} (h : M a = none) (k : M b = some e) : a ≠ b := fun q => by rw [q, k] at h; cases h
section MF
variable {p : Program} {l : Launch} {e : Env} {R : Room} {s : State} {m : MethodId} {args : Array Value} {below : List Frame} {meth : Method} {c : Code} {H : Heap} {locs : List Loc} {cells slots : Nat} {Q : State → Prop}
variable {cc : ByteArray} {pc : Nat} {ls : Array Slot} {rest : List Value} {G : mg_} {M : mw_} {a nL : Nat} {ret : Option FieldType} {y : MethodName}
theorem mr_cs {c' s' : Nat} {g : JFrame} (h1 : cells = c') (h2 : slots = s') (k : W p l e R s m args below meth c H locs c' s' Q g) : W p l e R s m args below meth c H locs cells slots Q g := by
  subst h1; subst h2; exact k
theorem mr_newoF {idx ci N : Nat} {C : String} {T : u_T} {ty0 : Nat → FieldType} {fs : List Value} (C0 : cx_ G p s m args meth c cc nL ret y) (hM : mm_ G M H) (hS : va_S (fz_ G) s.heap H locs) (hc : cl_[ci]? = some (C, T, N)) (hin : ∀ w ∈ u_ws C T N, w ∈ tb_) (hty : ∀ k, k < N → parseFieldDescriptor (T k).2.2.1 = some (ty0 k)) (hcl : Cond.classLink y.cls idx C ∈ tb_) (hinst : Cond.instantiable C N ∈ tb_) (hini : Cond.initialized C ∈ tb_) (hfs : ∀ j, j < N → defaultValue (ty0 j) = vp_V fs j) (hcells : cells + 1 ≤ R.cells) (hslots : slots + N ≤ R.slots) (hdg : decode cc pc = .ok (.new idx, 3))
    (kk : ∀ (a : Nat) (H1 : Heap), M a = none → mm_ G (mu_ M a (ob_ ci fs)) H1 → va_S (fz_ G) s.heap H1 locs → W p l e R s m args below meth c H1 locs (cells + 1) (slots + N) Q (F0 m (pc + 3) ls (.ref a :: rest))) : W p l e R s m args below meth c H locs cells slots Q (F0 m pc ls rest) :=
  mr_newo C0 hM hS hc hin hty hcl hinst hini hfs hcells hslots hdg (fun H1 h1 h2 => kk _ H1 hM.fresh h1 h2)
theorem mr_newlF (C0 : cx_ G p s m args meth c cc nL ret y) (hM : mm_ G M H) (hS : va_S (fz_ G) s.heap H locs) {x : Int32} (N : Nat) (hx : x = nI N) (hN : N < 1000) (hcells : cells + 1 ≤ R.cells) (hslots : slots + N ≤ R.slots) (hdg : decode cc pc = .ok (.newarray .long, 2))
    (kk : ∀ (a : Nat) (H1 : Heap), M a = none → mm_ G (mu_ M a (la_ G N (fun _ => 0))) H1 → va_S (fz_ G) s.heap H1 locs → W p l e R s m args below meth c H1 locs (cells + 1) (slots + N) Q (F0 m (pc + 2) ls (.ref a :: rest))) : W p l e R s m args below meth c H locs cells slots Q (F0 m pc ls (.int x :: rest)) :=
  mr_newl C0 hM hS N hx hN hcells hslots hdg (fun H1 h1 h2 => kk _ H1 hM.fresh h1 h2)
theorem mr_newiF (C0 : cx_ G p s m args meth c cc nL ret y) (hM : mm_ G M H) (hS : va_S (fz_ G) s.heap H locs) {x : Int32} (N : Nat) (hx : x = nI N) (hN : N < 1000) (hcells : cells + 1 ≤ R.cells) (hslots : slots + N ≤ R.slots) (hdg : decode cc pc = .ok (.newarray .int, 2))
    (kk : ∀ (a : Nat) (H1 : Heap), M a = none → mm_ G (mu_ M a (ia_ G N (fun _ => 0))) H1 → va_S (fz_ G) s.heap H1 locs → W p l e R s m args below meth c H1 locs (cells + 1) (slots + N) Q (F0 m (pc + 2) ls (.ref a :: rest))) : W p l e R s m args below meth c H locs cells slots Q (F0 m pc ls (.int x :: rest)) :=
  mr_newi C0 hM hS N hx hN hcells hslots hdg (fun H1 h1 h2 => kk _ H1 hM.fresh h1 h2)
theorem mr_newqF (C0 : cx_ G p s m args meth c cc nL ret y) (hM : mm_ G M H) (hS : va_S (fz_ G) s.heap H locs) {idx : Nat} (hcl : Cond.classLink y.cls idx "PartsAccumulator$Epoch" ∈ tb_) {x : Int32} (N : Nat) (hx : x = nI N) (hN : N < 1000) (hcells : cells + 1 ≤ R.cells) (hslots : slots + N ≤ R.slots) (hdg : decode cc pc = .ok (.anewarray idx, 3))
    (kk : ∀ (a : Nat) (H1 : Heap), M a = none → mm_ G (mu_ M a (qa_ G N (fun _ => none))) H1 → va_S (fz_ G) s.heap H1 locs → W p l e R s m args below meth c H1 locs (cells + 1) (slots + N) Q (F0 m (pc + 3) ls (.ref a :: rest))) : W p l e R s m args below meth c H locs cells slots Q (F0 m pc ls (.int x :: rest)) := by
  subst hx
  have hcN : (nI N).toNatClampNeg = N := nI_clamp (by omega)
  have hK := C0.2.2.2.2.2.2.2.1
  refine W.anew (g := F0 m pc ls (.int (nI N) :: rest)) C0.1 C0.2.1 C0.2.2.2.2.2.1 (C0.2.2.2.2.2.2.1 _ hcl) (va_AO.use hK.2.2.2.2.2.2.2) rfl hdg rfl (nI_pos (by omega)) (by rw [hcN]; omega) hcells (by rw [hcN]; exact hslots) fun cA kA comp f1 f2 f3 f4 => ?_
  have hcc : gE G = cA := by
    obtain ⟨kA2, comp2, -, -, -, h4⟩ := (hK.1.2 2 _ rfl).2
    exact Option.some.inj (h4.symm.trans f1)
  subst hcc
  rw [hcN]
  have z1 : (H.push ({ cls := gE G, slots := Array.replicate N .null, vm := .none } : Cell)).size = H.size + 1 := by rw [Array.size_push]
  have o1 : ∀ q : Nat, q < H.size → (H.push ({ cls := gE G, slots := Array.replicate N .null, vm := .none } : Cell))[q]? = H[q]? := fun q hq => by rw [Array.getElem?_push, if_neg (Nat.ne_of_lt hq)]
  refine kk H.size _ hM.fresh (hM.push z1 o1 ?_) ⟨Nat.le_trans hS.1 (by omega), fun x h1 h2 => (o1 x (Nat.lt_of_lt_of_le h1 hS.1)).trans (hS.2.1 x h1 h2), hS.2.2⟩
  show (H.push _)[H.size]? = some (vp_cell _ _)
  rw [vp_cell_q, Array.getElem?_push_size, ← arrV_new]
  rfl
theorem mr_aast (C0 : cx_ G p s m args meth c cc nL ret y) (hM : mm_ G M H) (hS : va_S (fz_ G) s.heap H locs) {n v : Nat} {f : Nat → Option Nat} {vs : List Value} (ha : M a = some (qa_ G n f)) (hv : M v = some (ob_ 0 vs)) {x : Int32} (i : Nat) (hx : x = nI i) (hi : i < n) (hn : n < 2147483648) (hdg : decode cc pc = .ok (.aastore, 1))
    (kk : ∀ (H1 : Heap) (locs1 : List Loc), mm_ G (mu_ M a (qa_ G n (va_up f i (some v)))) H1 → va_S (fz_ G) s.heap H1 locs1 → W p l e R s m args below meth c H1 locs1 cells slots Q (F0 m (pc + 1) ls rest)) : W p l e R s m args below meth c H locs cells slots Q (F0 m pc ls (.ref v :: .int x :: .ref a :: rest)) := by
  have hcl := mr_cl hx hi hn
  have hK := C0.2.2.2.2.2.2.2.1.1
  have h0 : ¬ x < 0 := fun q => (mr_in hx hi hn) (Or.inl q)
  obtain ⟨r', hr', cellV, g1, g2, g3, -⟩ := (hM.2 v _ hv).1
  have hcls := (hK.1 0 _ rfl).2
  obtain ⟨kA, comp, k1, k2, k3, -⟩ := (hK.2 2 _ rfl).2
  have hcomp : comp = (gD G).1 0 := Option.some.inj (k3.symm.trans hcls.1)
  subst hcomp
  have hcls2 := hcls
  obtain ⟨kC, hkC, -⟩ := hcls.2
  refine W.aast C0.1 C0.2.1 (hM.2 a _ ha).1 (fun q h => by cases h) (fun h => by cases h) k1 k2 rfl hkC ⟨h0, by show _ < (arrV _ _ _).slots.size; rw [arrV_size, hcl]; exact hi⟩ g1 (fun q h => by rw [g3] at h; cases h) (by rw [g2]; exact hkC) (by rw [g2]; exact va_assign hcls2) rfl rfl hdg fun H1 e z oq => ?_
  refine kk H1 _ (hM.set ha z oq ?_) (hS.put z oq (hM.2 a _ ha).2)
  show H1[a]? = some (vp_cell _ _)
  rw [e, hcl]
  rw [vp_cell_q, vp_cell_q, arrV_store]
  congr 2
  funext q
  by_cases hq : q = i
  · subst hq
    simp [updV, va_up, va_rf]
  · simp [updV, va_up, hq]
end MF
/-- two contents of an array of references that are the same below its length -/
theorem mm_.qeq {G : mg_} {M : mw_} {H : Heap} {a n : Nat} {f g : Nat → Option Nat} (h : mm_ G M H) (ha : M a = some (qa_ G n f)) (hfg : ∀ j, j < n → f j = g j) : mm_ G (mu_ M a (qa_ G n g)) H := by
  refine h.set ha rfl (fun _ _ => rfl) ?_
  have h1 : H[a]? = some (vp_cell _ _) := (h.2 a _ ha).1
  show H[a]? = some (vp_cell _ _)
  rw [h1, vp_cell_q, vp_cell_q]
  congr 1
  unfold arrV
  congr 1
  apply congrArg Array.ofFn
  funext j
  show va_rf (f j) = va_rf (g j)
  rw [hfg j.1 j.2]
def ku_ (f : Nat → Int64) (n : Nat) : Nat → Int64 := fun j => if j < n then f j else 0
theorem ku_0 (f : Nat → Int64) : (fun _ => 0) = ku_ f 0 := by
  funext j
  simp [ku_]
theorem ku_s {f : Nat → Int64} {n : Nat} {v : Int64} (h : v = f n) : vp_updL (ku_ f n) n v = ku_ f (n + 1) := by
  funext j
  simp only [vp_updL, ku_]
  by_cases h1 : j = n
  · subst h1; rw [if_pos rfl, if_pos (by omega), h]
  · rw [if_neg h1]
    by_cases h2 : j < n
    · rw [if_pos h2, if_pos (by omega)]
    · rw [if_neg h2, if_neg (by omega)]
theorem ku_s0 {f : Nat → Int64} {v : Int64} (h : v = f 0) : vp_updL (fun _ => 0) 0 v = ku_ f 1 := by
  rw [ku_0 f]; exact ku_s h
theorem ku_nl {V n : Nat} (h : V < 4294967296 ^ n) : ku_ (nl_ V) n = nl_ V := by
  funext j
  simp only [ku_]
  by_cases h2 : j < n
  · rw [if_pos h2]
  · rw [if_neg h2]
    show 0 = lN (V / 4294967296 ^ j % 4294967296)
    rw [Nat.div_eq_of_lt (Nat.lt_of_lt_of_le h (Nat.pow_le_pow_right (by decide) (by omega)))]
    rfl
theorem nl_0 : nl_ 0 = fun _ => 0 := by
  rw [← ku_nl (V := 0) (n := 0) (by decide), ← ku_0]
theorem ku_mk : ku_ mk_ 32 = mk_ := by
  funext j
  simp only [ku_]
  by_cases h2 : j < 32
  · rw [if_pos h2]
  · rw [if_neg h2]
    unfold mk_
    rw [List.getD_eq_getElem?_getD, List.getElem?_eq_none (by simp only [List.length_cons, List.length_nil]; omega)]
    rfl
