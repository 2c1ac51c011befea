theorem prime_eq (s : Int64) : prime_ s = primeT_ s := by sorry
