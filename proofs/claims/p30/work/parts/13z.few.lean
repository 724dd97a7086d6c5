/-! two rows more on small numbers -/
theorem m1_ne {k : Nat} (h : k < 1000) : (nI k = -1) = False := eq_false (fun q => by
  have := congrArg Int32.toInt q
  rw [nI_toInt (by omega)] at this
  have e2 : (-1 : Int32).toInt = -1 := by decide
  rw [e2] at this
  omega)
theorem pow_inj8 {t u : Nat} (h : (2 : Nat) ^ t = 2 ^ u) : t = u := (Nat.pow_right_inj (a := 2) (by decide)).mp h
