/-! rows of numbers: what reading and writing come to -/
theorem qlen_of {M : qM} {o t n : Nat} {z : (Nat → Int32) ⊕ (Nat → Int64) ⊕ (Nat → UInt32) ⊕ (Nat → UInt64) ⊕ (Nat → Option Nat)} (h : M[o]? = some (.inl (t, n, z))) (ht : t ≤ 3) : qlen none M o = some (Int32.ofNat n) := by
  unfold qlen
  rw [h]
  simp [ht]
theorem qald_of {M : qM} {o n : Nat} {f : Nat → Int32} {i : Int32} (h : M[o]? = some (.inl (0, n, .inl f))) (hi : qIn i n = true) : qald none M o 0 i = some (.int (f i.toNatClampNeg)) := by
  unfold qald
  rw [h]
  simp [hi]
theorem qasti_of {M : qM} {o n : Nat} {f : Nat → Int32} {i x : Int32} (h : M[o]? = some (.inl (0, n, .inl f))) (hi : qIn i n = true) : qasti M o 0 i x = some (M.set o (.inl (0, n, .inl (upd f i.toNatClampNeg x)))) := by
  unfold qasti
  rw [h]
  simp [hi]
theorem qIn_nI {k n : Nat} (h : k < n) (hn : n < 2147483648) : qIn (nI k) n = true := by
  have h1 : (nI k).toInt = k := nI_toInt (by omega)
  simp only [qIn, h1, Bool.and_eq_true, decide_eq_true_eq]
  omega
theorem qIn_of {i : Int32} {n : Nat} (hn : n < 2147483648) (h0 : 0 ≤ i) (h1 : i < Int32.ofNat n) : qIn i n = true := by
  have a0 : (0 : Int) ≤ i.toInt := by simpa using Int32.le_iff_toInt_le.mp h0
  have a1 := Int32.lt_iff_toInt_lt.mp h1
  have a2 : (Int32.ofNat n).toInt = n := nI_toInt (by omega)
  rw [a2] at a1
  simp only [qIn, Bool.and_eq_true, decide_eq_true_eq]
  exact ⟨a0, a1⟩
def RowAt (M : qM) (o n : Nat) (f : Nat → Int32) : Prop := M[o]? = some (.inr (5, [.ref (o + 1)])) ∧ M[o + 1]? = some (.inl (0, n, .inl f))
def rget (n : Nat) (f : Nat → Int32) (i : Int32) : Int32 := if 0 ≤ i ∧ i < Int32.ofNat n then f i.toNatClampNeg else 0
theorem rget_nI {n k : Nat} {f : Nat → Int32} (hk : k < n) (hn : n < 2147483648) : rget n f (nI k) = f k := by
  unfold rget
  rw [if_pos ⟨nI_pos' (by omega), nI_lt hk hn⟩, nI_clamp (by omega)]
theorem rget_neg {n : Nat} {f : Nat → Int32} : rget n f (-1) = 0 := by
  unfold rget
  rw [if_neg]
  rintro ⟨h, -⟩
  exact absurd h (by decide)
theorem s_get {M : qM} {o n : Nat} {f : Nat → Int32} {i : Int32} {Q : qR → qM → Prop} (h : RowAt M o n f) (hn : n < 2147483648) : cl 36 [.ref o, .int i] M Q ↔ Q (.inl (some (.int (rget n f i)))) M := by
  obtain ⟨h1, h2⟩ := h
  rw [e_36]
  simp only [g_36_0, g_36_1, g_36_4, g_36_5, g_36_6, g_36_9, g_36_10, g_36_13, g_36_14, g_36_17, g_36_18, g_36_19, g_36_22, g_36_23, qOb_some, kr_v, kr_n, qinv_i, qinv_r, qinv_0, Nat.reduceAdd, List.getElem?_cons_zero, List.getElem?_cons_succ, List.set_cons_zero, List.set_cons_succ, List.length_cons, List.length_nil, qget_of h1, qlen_of h2 (by decide)]
  unfold rget
  by_cases h0 : 0 ≤ i
  · by_cases h9 : i < Int32.ofNat n
    · simp only [h0, h9, not_true_eq_false, not_false_eq_true, false_implies, true_implies, and_true, true_and, and_false, false_and, if_true, if_false, forall_const, or_true, true_or, false_or, or_false, Int32.not_le.mpr h9, Int32.not_lt.mpr h0, qald_of h2 (qIn_of hn h0 h9), qOb_some, g_36_0, g_36_1, g_36_4, g_36_5, g_36_6, g_36_9, g_36_10, g_36_13, g_36_14, g_36_17, g_36_18, g_36_19, g_36_22, g_36_23]
    · simp only [h0, h9, Int32.not_lt.mp h9, Int32.not_lt.mpr h0, not_true_eq_false, false_implies, true_implies, and_true, true_and, and_false, if_false, not_false_eq_true]
  · simp only [h0, Int32.not_le.mp h0, not_true_eq_false, false_implies, true_implies, and_true, true_and, false_and, if_false, not_false_eq_true]
theorem s_set {M : qM} {o n : Nat} {f : Nat → Int32} {i v : Int32} {Q : qR → qM → Prop} (h : RowAt M o n f) (hn0 : n < 2147483648) (hi : qIn i n = true) : cl 37 [.ref o, .int i, .int v] M Q ↔ Q (.inl none) (M.set (o + 1) (.inl (0, n, .inl (upd f i.toNatClampNeg v)))) := by
  obtain ⟨h1, h2⟩ := h
  have hi2 := hi
  simp only [qIn, Bool.and_eq_true, decide_eq_true_eq] at hi2
  have h0 : 0 ≤ i := Int32.le_iff_toInt_le.mpr (by simpa using hi2.1)
  have h9 : i < Int32.ofNat n := by
    apply Int32.lt_iff_toInt_lt.mpr
    rw [show (Int32.ofNat n).toInt = n from nI_toInt (by omega)]
    exact hi2.2
  rw [e_37]
  simp only [g_37_0, g_37_1, g_37_4, g_37_5, g_37_6, g_37_9, g_37_10, g_37_13, g_37_14, g_37_17, g_37_18, g_37_19, g_37_20, qOb_some, kr_v, kr_n, qinv_i, qinv_r, qinv_0, Nat.reduceAdd, List.getElem?_cons_zero, List.getElem?_cons_succ, List.set_cons_zero, List.set_cons_succ, List.length_cons, List.length_nil, qget_of h1, qlen_of h2 (by decide), h0, h9, not_true_eq_false, not_false_eq_true, false_implies, true_implies, and_true, true_and, and_false, false_and, if_true, if_false, forall_const, or_true, true_or, false_or, or_false, Int32.not_le.mpr h9, Int32.not_lt.mpr h0, qasti_of h2 hi]
/-- setAll: every place -/
theorem s_setAll {M : qM} {o n : Nat} {f : Nat → Int32} {v : Int32} {Q : qR → qM → Prop} (h : RowAt M o n f) (hn : n < 1000000) (hq : ∀ f', (∀ k, k < n → f' k = v) → Q (.inl none) (M.set (o + 1) (.inl (0, n, .inl f')))) : cl 38 [.ref o, .int v] M Q := by
  rw [e_38]
  simp only [g_38_0, g_38_1, g_38_3, g_38_4, g_38_7, g_38_8, g_38_11, g_38_12, g_38_15, g_38_16, g_38_17, g_38_18, g_38_21, g_38_24, qOb_some, kr_v, kr_n, qinv_i, qinv_r, qinv_0, Nat.reduceAdd, List.getElem?_cons_zero, List.getElem?_cons_succ, List.set_cons_zero, List.set_cons_succ, List.length_cons, List.length_nil]
  sorry
def GridAt (M : qM) (o w h : Nat) : Prop := M[o]? = some (.inr (2, [.int (nI w), .int (nI h)]))
theorem s_cells {M : qM} {o w h : Nat} {Q : qR → qM → Prop} (hg : GridAt M o w h) : cl 16 [.ref o] M Q ↔ Q (.inl (some (.int (nI (w * h))))) M := by
  unfold GridAt at hg
  rw [e_16]
  simp only [g_16_0, g_16_1, g_16_4, g_16_5, g_16_8, g_16_9, qOb_some, kr_v, kr_n, qinv_i, qinv_r, qinv_0, Nat.reduceAdd, List.getElem?_cons_zero, List.getElem?_cons_succ, List.set_cons_zero, List.set_cons_succ, List.length_cons, List.length_nil, qget_of hg, pk_mul]
theorem s_has {M : qM} {o w h : Nat} {i : Int32} {Q : qR → qM → Prop} (hg : GridAt M o w h) : cl 17 [.ref o, .int i] M Q ↔ Q (.inl (some (.int (if 0 ≤ i ∧ i < nI (w * h) then 1 else 0)))) M := by
  unfold GridAt at hg
  rw [e_17]
  simp only [g_17_0, g_17_1, g_17_4, g_17_5, g_17_6, g_17_9, g_17_10, g_17_13, g_17_14, g_17_17, g_17_18, g_17_21, g_17_22, qOb_some, kr_v, kr_n, qinv_i, qinv_r, qinv_0, Nat.reduceAdd, List.getElem?_cons_zero, List.getElem?_cons_succ, List.set_cons_zero, List.set_cons_succ, List.length_cons, List.length_nil, qget_of hg, pk_mul]
  by_cases h0 : 0 ≤ i
  · by_cases h9 : i < nI (w * h)
    · simp only [h0, h9, not_true_eq_false, not_false_eq_true, false_implies, true_implies, and_true, true_and, and_false, false_and, if_true, if_false, forall_const, or_true, true_or, false_or, or_false, Int32.not_le.mpr h9, Int32.not_lt.mpr h0]
    · simp only [h0, h9, not_true_eq_false, not_false_eq_true, false_implies, true_implies, and_true, true_and, and_false, false_and, if_true, if_false, forall_const, or_true, true_or, false_or, or_false, Int32.not_lt.mp h9, Int32.not_lt.mpr h0]
  · simp only [h0, not_true_eq_false, not_false_eq_true, false_implies, true_implies, and_true, true_and, and_false, false_and, if_true, if_false, forall_const, or_true, true_or, false_or, or_false, Int32.not_le.mp h0]
