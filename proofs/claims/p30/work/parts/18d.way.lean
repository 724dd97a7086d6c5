/-! the ways, by trying all: the model -/
theorem bI_T {i : Decidable True} : @bI True i = 1 := if_pos trivial
theorem bI_F {i : Decidable False} : @bI False i = 0 := if_neg id
theorem nI_bit' {t k : Nat} (ht : t < 8) (hk : k < 256) : (nI (2 ^ t) &&& nI k = 0) = (k.testBit t = false) := by
  rw [nI_and, Nat.and_comm, ← nI_and]
  exact propext (nI_bit t ht k hk)