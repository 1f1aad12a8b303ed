/-! TEXTS: t the characters, n how many, p where the reading stands -/
theorem nI_n5 {v : Nat} (h : v < 2 ^ 31) : ¬ nI v = (-5) := by
  intro q
  have q2 : (nI v).toInt = (-5 : Int32).toInt := congrArg Int32.toInt q
  rw [nI_toInt h] at q2
  have : (-5 : Int32).toInt = -5 := by decide
  omega
