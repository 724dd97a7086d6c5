/-! masks: a set of tiles is a number below 256 -/
theorem nI_and (a b : Nat) : nI a &&& nI b = nI (a &&& b) := by
  apply Int32.toBitVec_inj.mp
  simp only [Int32.toBitVec_and, nI, Int32.toBitVec_ofNat']
  apply BitVec.eq_of_toNat_eq
  simp only [BitVec.toNat_and, BitVec.toNat_ofNat]
  apply Nat.eq_of_testBit_eq
  intro i
  simp only [Nat.testBit_and, Nat.testBit_mod_two_pow]
  cases decide (i < 32) <;> simp
theorem nI_or (a b : Nat) : nI a ||| nI b = nI (a ||| b) := by
  apply Int32.toBitVec_inj.mp
  simp only [Int32.toBitVec_or, nI, Int32.toBitVec_ofNat']
  apply BitVec.eq_of_toNat_eq
  simp only [BitVec.toNat_or, BitVec.toNat_ofNat]
  apply Nat.eq_of_testBit_eq
  intro i
  simp only [Nat.testBit_or, Nat.testBit_mod_two_pow]
  cases decide (i < 32) <;> simp
theorem nI_inj {a b : Nat} (ha : a < 2147483648) (hb : b < 2147483648) (h : nI a = nI b) : a = b := (nI_eq (by omega) (by omega)).mp h
theorem nI_shl1 : ∀ t, t < 8 → (1 : Int32) <<< (nI t &&& 31) = nI (2 ^ t) := by decide +kernel
theorem nI_shlA : ∀ t, t < 9 → (1 : Int32) <<< (nI t &&& 31) - 1 = nI (2 ^ t - 1) := by decide +kernel
theorem nI_not1 : ∀ t, t < 8 → ∀ k, k < 256 → nI k &&& ((1 : Int32) <<< (nI t &&& 31) ^^^ (-1)) = nI (k &&& (255 - 2 ^ t)) := by decide +kernel
theorem nI_shr1 : ∀ t, t < 8 → ∀ k, k < 256 → nI k >>> (nI t &&& 31) &&& 1 = if k.testBit t then 1 else 0 := by decide +kernel
theorem nI_bit : ∀ t, t < 8 → ∀ k, k < 256 → (nI k &&& nI (2 ^ t) = 0 ↔ k.testBit t = false) := by decide +kernel
/-- the number with these bits -/
def mk (p : Nat → Bool) : Nat → Nat
  | 0 => 0
  | n + 1 => mk p n ||| (if p n = true then 2 ^ n else 0)
theorem mk_bit (p : Nat → Bool) : ∀ (n t : Nat), (mk p n).testBit t = (decide (t < n) && p t)
  | 0, t => by simp [mk]
  | n + 1, t => by
    unfold mk
    rw [Nat.testBit_or, mk_bit p n t]
    by_cases h : t = n
    · subst h
      cases hp : p t <;> simp [hp, Nat.testBit_two_pow_self]
    · have h2 : (decide (t < n + 1) : Bool) = decide (t < n) := by
        apply decide_eq_decide.mpr
        omega
      rw [h2]
      cases hp : p n
      · simp
      · simp only [if_true, Nat.testBit_two_pow, Bool.or_eq_left_iff_imp]
        intro q
        exact absurd (of_decide_eq_true q).symm h
theorem mk_lt (p : Nat → Bool) (n : Nat) : mk p n < 2 ^ n := by
  apply Nat.lt_pow_two_of_testBit
  intro i hi
  rw [mk_bit]
  have : ¬ i < n := by omega
  simp [this]
theorem bit_lt {k t : Nat} (hk : k < 256) (h : k.testBit t = true) : t < 8 := by
  rcases Nat.lt_or_ge t 8 with q | q
  · exact q
  · rw [Nat.testBit_lt_two_pow (Nat.lt_of_lt_of_le hk (by
      have : (2:Nat) ^ 8 ≤ 2 ^ t := Nat.pow_le_pow_right (by decide) q
      omega))] at h
    cases h
theorem msk_ext {a b : Nat} (ha : a < 256) (hb : b < 256) (h : ∀ t, t < 8 → a.testBit t = b.testBit t) : a = b := by
  apply Nat.eq_of_testBit_eq
  intro i
  rcases Nat.lt_or_ge i 8 with q | q
  · exact h i q
  · have e : (2:Nat) ^ 8 ≤ 2 ^ i := Nat.pow_le_pow_right (by decide) q
    rw [Nat.testBit_lt_two_pow (by omega), Nat.testBit_lt_two_pow (by omega)]
theorem and_lt {a b : Nat} (ha : a < 256) : a &&& b < 256 := Nat.lt_of_le_of_lt Nat.and_le_left ha
theorem or_lt {a b : Nat} (ha : a < 256) (hb : b < 256) : a ||| b < 256 := Nat.or_lt_two_pow (n := 8) ha hb
/-- how many tiles -/
def cnt (k : Nat) : Nat := (k &&& 1) + ((k >>> 1) &&& 1) + ((k >>> 2) &&& 1) + ((k >>> 3) &&& 1) + ((k >>> 4) &&& 1) + ((k >>> 5) &&& 1) + ((k >>> 6) &&& 1) + ((k >>> 7) &&& 1)
theorem cnt_0 : ∀ k, k < 256 → (cnt k = 0 ↔ k = 0) := by decide +kernel
theorem cnt_1 : ∀ k, k < 256 → (cnt k = 1 ↔ ∃ t, t < 8 ∧ k = 2 ^ t) := by decide +kernel
theorem cnt_le : ∀ k, k < 256 → cnt k ≤ 8 := by decide +kernel
theorem cnt_sub8 : ∀ k, k < 256 → ∀ t, t < 8 → k.testBit t = true → cnt (k &&& (255 - 2 ^ t)) + 1 = cnt k := by decide +kernel
theorem clr_bit : ∀ t, t < 8 → ∀ k, k < 256 → ∀ u, u < 8 → (k &&& (255 - 2 ^ t)).testBit u = (k.testBit u && decide (u ≠ t)) := by decide +kernel
/-- the lowest -/
def low (k : Nat) : Nat := if k.testBit 0 then 0 else if k.testBit 1 then 1 else if k.testBit 2 then 2 else if k.testBit 3 then 3 else if k.testBit 4 then 4 else if k.testBit 5 then 5 else if k.testBit 6 then 6 else 7
theorem low_pow : ∀ t, t < 8 → low (2 ^ t) = t := by decide +kernel
theorem low_bit : ∀ k, k < 256 → k ≠ 0 → k.testBit (low k) = true ∧ low k < 8 := by decide +kernel
theorem low_min : ∀ k, k < 256 → ∀ t, t < 8 → k.testBit t = true → low k ≤ t := by decide +kernel
theorem cnt_mono {a b : Nat} (ha : a < 256) (hb : b < 256) (h : a &&& b = a) : cnt a ≤ cnt b ∧ (a ≠ b → cnt a < cnt b) := by
  have key : ∀ b, b < 256 → ∀ a, a < 256 → a &&& b = a → cnt a ≤ cnt b ∧ (a ≠ b → cnt a < cnt b) := by decide +kernel
  exact key b hb a ha h
