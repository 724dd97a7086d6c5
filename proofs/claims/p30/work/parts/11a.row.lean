/-! rows of numbers: what reading and writing come to -/
theorem qlen_of {M : qM} {o t n : Nat} {z : (Nat → Int32) ⊕ (Nat → Int64) ⊕ (Nat → UInt32) ⊕ (Nat → UInt64) ⊕ (Nat → Option Nat)} (h : M[o]? = some (.inl (t, n, z))) (ht : t ≤ 1) : qlen none M o = some (Int32.ofNat n) := by
  unfold qlen
  rw [h]
  simp [ht]
theorem qald_of {M : qM} {o n : Nat} {f : Nat → Int32} {i : Int32} (h : M[o]? = some (.inl (0, n, .inl f))) (hi : qIn i n = true) : qald none M o 0 i = some (.int (f i.toNatClampNeg)) := by
  unfold qald
  rw [h]
  simp [hi]
theorem qasti_of {M : qM} {o n : Nat} {f : Nat → Int32} {i x : Int32} (h : M[o]? = some (.inl (0, n, .inl f))) (hi : qIn i n = true) : qasti M o 0 i x = some (M.set o (.inl (0, n, .inl (upd f i.toNatClampNeg x)))) := by
  unfold qasti
  rw [h]
  simp [hi]
theorem qIn_nI {k n : Nat} (h : k < n) (hn : n < 2147483648) : qIn (nI k) n = true := by
  have h1 : (nI k).toInt = k := nI_toInt (by omega)
  simp only [qIn, h1, Bool.and_eq_true, decide_eq_true_eq]
  omega
theorem qIn_of {i : Int32} {n : Nat} (hn : n < 2147483648) (h0 : 0 ≤ i) (h1 : i < Int32.ofNat n) : qIn i n = true := by
  have a0 : (0 : Int) ≤ i.toInt := by simpa using Int32.le_iff_toInt_le.mp h0
  have a1 := Int32.lt_iff_toInt_lt.mp h1
  have a2 : (Int32.ofNat n).toInt = n := nI_toInt (by omega)
  rw [a2] at a1
  simp only [qIn, Bool.and_eq_true, decide_eq_true_eq]
  exact ⟨a0, a1⟩
def RowAt (M : qM) (o n : Nat) (f : Nat → Int32) : Prop := M[o]? = some (.inr (5, [.ref (o + 1)])) ∧ M[o + 1]? = some (.inl (0, n, .inl f))
def rget (n : Nat) (f : Nat → Int32) (i : Int32) : Int32 := if 0 ≤ i ∧ i < Int32.ofNat n then f i.toNatClampNeg else 0
theorem rget_nI {n k : Nat} {f : Nat → Int32} (hk : k < n) (hn : n < 2147483648) : rget n f (nI k) = f k := by
  unfold rget
  rw [if_pos ⟨nI_pos' (by omega), nI_lt hk hn⟩, nI_clamp (by omega)]
theorem rget_neg {n : Nat} {f : Nat → Int32} : rget n f (-1) = 0 := by
  unfold rget
  rw [if_neg]
  rintro ⟨h, -⟩
  exact absurd h (by decide)
theorem s_get {M : qM} {o n : Nat} {f : Nat → Int32} {i : Int32} {Q : qR → qM → Prop} (h : RowAt M o n f) (hn : n < 2147483648) : cl 36 [.ref o, .int i] M Q ↔ Q (.inl (some (.int (rget n f i)))) M := by
  obtain ⟨h1, h2⟩ := h
  rw [e_36]
  simp only [g_36_0, g_36_1, g_36_4, g_36_5, g_36_6, g_36_9, g_36_10, g_36_13, g_36_14, g_36_17, g_36_18, g_36_19, g_36_22, g_36_23, qOb_some, kr_v, kr_n, qinv_i, qinv_r, qinv_0, Nat.reduceAdd, List.getElem?_cons_zero, List.getElem?_cons_succ, List.set_cons_zero, List.set_cons_succ, List.length_cons, List.length_nil, qget_of h1, qlen_of h2 (by decide)]
  unfold rget
  by_cases h0 : 0 ≤ i
  · by_cases h9 : i < Int32.ofNat n
    · simp only [h0, h9, not_true_eq_false, not_false_eq_true, false_implies, true_implies, and_true, true_and, and_false, false_and, if_true, if_false, forall_const, or_true, true_or, false_or, or_false, Int32.not_le.mpr h9, Int32.not_lt.mpr h0, qald_of h2 (qIn_of hn h0 h9), qOb_some, g_36_0, g_36_1, g_36_4, g_36_5, g_36_6, g_36_9, g_36_10, g_36_13, g_36_14, g_36_17, g_36_18, g_36_19, g_36_22, g_36_23]
    · simp only [h0, h9, Int32.not_lt.mp h9, Int32.not_lt.mpr h0, not_true_eq_false, false_implies, true_implies, and_true, true_and, and_false, if_false, not_false_eq_true]
  · simp only [h0, Int32.not_le.mp h0, not_true_eq_false, false_implies, true_implies, and_true, true_and, false_and, if_false, not_false_eq_true]
theorem s_set {M : qM} {o n : Nat} {f : Nat → Int32} {i v : Int32} {Q : qR → qM → Prop} (h : RowAt M o n f) (hn0 : n < 2147483648) (hi : qIn i n = true) : cl 37 [.ref o, .int i, .int v] M Q ↔ Q (.inl none) (M.set (o + 1) (.inl (0, n, .inl (upd f i.toNatClampNeg v)))) := by
  obtain ⟨h1, h2⟩ := h
  have hi2 := hi
  simp only [qIn, Bool.and_eq_true, decide_eq_true_eq] at hi2
  have h0 : 0 ≤ i := Int32.le_iff_toInt_le.mpr (by simpa using hi2.1)
  have h9 : i < Int32.ofNat n := by
    apply Int32.lt_iff_toInt_lt.mpr
    rw [show (Int32.ofNat n).toInt = n from nI_toInt (by omega)]
    exact hi2.2
  rw [e_37]
  simp only [g_37_0, g_37_1, g_37_4, g_37_5, g_37_6, g_37_9, g_37_10, g_37_13, g_37_14, g_37_17, g_37_18, g_37_19, g_37_20, qOb_some, kr_v, kr_n, qinv_i, qinv_r, qinv_0, Nat.reduceAdd, List.getElem?_cons_zero, List.getElem?_cons_succ, List.set_cons_zero, List.set_cons_succ, List.length_cons, List.length_nil, qget_of h1, qlen_of h2 (by decide), h0, h9, not_true_eq_false, not_false_eq_true, false_implies, true_implies, and_true, true_and, and_false, false_and, if_true, if_false, forall_const, or_true, true_or, false_or, or_false, Int32.not_le.mpr h9, Int32.not_lt.mpr h0, qasti_of h2 hi]
theorem set_self {M : qM} {a : Nat} {x : qE} (h : M[a]? = some x) : M.set a x = M := by
  apply List.ext_getElem?
  intro i
  rw [List.getElem?_set]
  by_cases hi : a = i
  · subst hi
    rw [if_pos rfl, h, if_pos (List.getElem?_eq_some_iff.mp h).1]
  · rw [if_neg hi]
theorem get_set_ne {M : qM} {a b : Nat} {x : qE} (h : a ≠ b) : (M.set a x)[b]? = M[b]? := List.getElem?_set_ne h
theorem get_set_eq {M : qM} {a : Nat} {x y : qE} (h : M[a]? = some y) : (M.set a x)[a]? = some x := by
  rw [List.getElem?_set, if_pos rfl, if_pos (List.getElem?_eq_some_iff.mp h).1]
theorem RowAt.set {M : qM} {o n : Nat} {f f' : Nat → Int32} (h : RowAt M o n f) : RowAt (M.set (o + 1) (.inl (0, n, .inl f'))) o n f' :=
  ⟨by rw [get_set_ne (by omega)]; exact h.1, get_set_eq h.2⟩
theorem RowAt.self {M : qM} {o n : Nat} {f : Nat → Int32} (h : RowAt M o n f) : M.set (o + 1) (.inl (0, n, .inl f)) = M := set_self h.2
/-- setAll: every place -/
theorem s_setAll {M : qM} {o n : Nat} {f : Nat → Int32} {v : Int32} {Q : qR → qM → Prop} (h : RowAt M o n f) (hn : n < 1000000) (hq : ∀ f', (∀ k, k < n → f' k = v) → Q (.inl none) (M.set (o + 1) (.inl (0, n, .inl f')))) : cl 38 [.ref o, .int v] M Q := by
  rw [e_38]
  simp only [g_38_0, g_38_1, g_38_3, g_38_4, g_38_7, g_38_8, g_38_11, g_38_12, g_38_15, g_38_16, g_38_17, g_38_18, g_38_21, g_38_24, qOb_some, kr_v, kr_n, qinv_i, qinv_r, qinv_0, Nat.reduceAdd, List.getElem?_cons_zero, List.getElem?_cons_succ, List.set_cons_zero, List.set_cons_succ, List.length_cons, List.length_nil]
  have key : ∀ d k f, n - k = d → k ≤ n → (∀ i, i < k → f i = v) → g 38 2 [some (.ref o), some (.int v), some (.int (nI k))] [] (M.set (o + 1) (.inl (0, n, .inl f))) 0 0 Q := by
    intro d
    induction d with
    | zero =>
      intro k f hd hk hf
      have hkn : k = n := by omega
      subst hkn
      have h9 := h.set (f' := f)
      simp only [g_38_0, g_38_1, g_38_2, g_38_3, g_38_4, g_38_7, g_38_8, g_38_11, g_38_12, g_38_15, g_38_16, g_38_17, g_38_18, g_38_21, g_38_24, qOb_some, kr_v, kr_n, qinv_i, qinv_r, qinv_0, Nat.reduceAdd, List.getElem?_cons_zero, List.getElem?_cons_succ, List.set_cons_zero, List.set_cons_succ, List.length_cons, List.length_nil, qget_of h9.1, qlen_of h9.2 (by decide), show Int32.ofNat k = nI k from rfl, Int32.le_refl, not_true_eq_false, not_false_eq_true, false_implies, true_implies, and_true, true_and, and_false, false_and, if_true, if_false, forall_const, or_true, true_or, false_or, or_false]
      exact hq f hf
    | succ d ih =>
      intro k f hd hk hf
      have hkn : k < n := by omega
      have h9 := h.set (f' := f)
      have hlt : ¬ Int32.ofNat n ≤ nI k := nI_ge hkn (by omega)
      rw [g_38_2]
      simp only [g_38_0, g_38_1, g_38_3, g_38_4, g_38_7, g_38_8, g_38_11, g_38_12, g_38_15, g_38_16, g_38_17, g_38_18, g_38_21, g_38_24, qOb_some, kr_v, kr_n, qinv_i, qinv_r, qinv_0, Nat.reduceAdd, List.getElem?_cons_zero, List.getElem?_cons_succ, List.set_cons_zero, List.set_cons_succ, List.length_cons, List.length_nil, qget_of h9.1, qlen_of h9.2 (by decide), hlt, not_true_eq_false, not_false_eq_true, false_implies, true_implies, and_true, true_and, and_false, false_and, if_true, if_false, forall_const, or_true, true_or, false_or, or_false, qasti_of h9.2 (qIn_nI hkn (by omega)), List.set_set, nI_clamp (show k < 2 ^ 31 by omega), nI_1]
      exact ih (k + 1) (upd f k v) (by omega) (by omega) (fun i hi => by
        unfold upd
        by_cases hik : i = k
        · rw [if_pos hik]
        · rw [if_neg hik]; exact hf i (by omega))
  have := key n 0 f (by omega) (by omega) (fun i hi => absurd hi (by omega))
  rw [h.self] at this
  exact this
def GridAt (M : qM) (o w h : Nat) : Prop := M[o]? = some (.inr (2, [.int (nI w), .int (nI h)]))
theorem s_cells {M : qM} {o w h : Nat} {Q : qR → qM → Prop} (hg : GridAt M o w h) : cl 16 [.ref o] M Q ↔ Q (.inl (some (.int (nI (w * h))))) M := by
  unfold GridAt at hg
  rw [e_16]
  simp only [g_16_0, g_16_1, g_16_4, g_16_5, g_16_8, g_16_9, qOb_some, kr_v, kr_n, qinv_i, qinv_r, qinv_0, Nat.reduceAdd, List.getElem?_cons_zero, List.getElem?_cons_succ, List.set_cons_zero, List.set_cons_succ, List.length_cons, List.length_nil, qget_of hg, pk_mul]
theorem s_has {M : qM} {o w h : Nat} {i : Int32} {Q : qR → qM → Prop} (hg : GridAt M o w h) : cl 17 [.ref o, .int i] M Q ↔ Q (.inl (some (.int (if 0 ≤ i ∧ i < nI (w * h) then 1 else 0)))) M := by
  unfold GridAt at hg
  rw [e_17]
  simp only [g_17_0, g_17_1, g_17_4, g_17_5, g_17_6, g_17_9, g_17_10, g_17_13, g_17_14, g_17_17, g_17_18, g_17_21, g_17_22, qOb_some, kr_v, kr_n, qinv_i, qinv_r, qinv_0, Nat.reduceAdd, List.getElem?_cons_zero, List.getElem?_cons_succ, List.set_cons_zero, List.set_cons_succ, List.length_cons, List.length_nil, qget_of hg, pk_mul]
  by_cases h0 : 0 ≤ i
  · by_cases h9 : i < nI (w * h)
    · simp only [h0, h9, not_true_eq_false, not_false_eq_true, false_implies, true_implies, and_true, true_and, and_false, false_and, if_true, if_false, forall_const, or_true, true_or, false_or, or_false, Int32.not_le.mpr h9, Int32.not_lt.mpr h0]
    · simp only [h0, h9, not_true_eq_false, not_false_eq_true, false_implies, true_implies, and_true, true_and, and_false, false_and, if_true, if_false, forall_const, or_true, true_or, false_or, or_false, Int32.not_lt.mp h9, Int32.not_lt.mpr h0]
  · simp only [h0, not_true_eq_false, not_false_eq_true, false_implies, true_implies, and_true, true_and, and_false, false_and, if_true, if_false, forall_const, or_true, true_or, false_or, or_false, Int32.not_le.mp h0]
theorem s_rowOf {M : qM} {o w h k : Nat} {Q : qR → qM → Prop} (hg : GridAt M o w h) (hw : 0 < w) (hw6 : w ≤ 6) (hk : k < 1000) : cl 18 [.ref o, .int (nI k)] M Q ↔ Q (.inl (some (.int (nI (k / w))))) M := by
  unfold GridAt at hg
  have h1 : ¬ nI w ≤ 0 := nI_nle hw (by omega)
  have h2 : ¬ nI w = 0 := nI_ne0 hw (by omega)
  rw [e_18]
  simp only [g_18_0, g_18_1, g_18_4, g_18_7, g_18_8, g_18_9, g_18_12, g_18_13, g_18_16, g_18_17, qOb_some, kr_v, kr_n, qinv_i, qinv_r, qinv_0, Nat.reduceAdd, List.getElem?_cons_zero, List.getElem?_cons_succ, List.set_cons_zero, List.set_cons_succ, List.length_cons, List.length_nil, qget_of hg, h1, h2, not_true_eq_false, not_false_eq_true, false_implies, true_implies, and_true, true_and, and_false, false_and, if_true, if_false, forall_const, or_true, true_or, false_or, or_false, pk_div (show k < 2 ^ 31 by omega) hw (show w < 2 ^ 31 by omega)]
theorem s_columnOf {M : qM} {o w h k : Nat} {Q : qR → qM → Prop} (hg : GridAt M o w h) (hw : 0 < w) (hw6 : w ≤ 6) (hk : k < 1000) : cl 19 [.ref o, .int (nI k)] M Q ↔ Q (.inl (some (.int (nI (k % w))))) M := by
  unfold GridAt at hg
  have h1 : ¬ nI w ≤ 0 := nI_nle hw (by omega)
  have h2 : ¬ nI w = 0 := nI_ne0 hw (by omega)
  rw [e_19]
  simp only [g_19_0, g_19_1, g_19_4, g_19_7, g_19_8, g_19_9, g_19_12, g_19_13, g_19_16, g_19_17, qOb_some, kr_v, kr_n, qinv_i, qinv_r, qinv_0, Nat.reduceAdd, List.getElem?_cons_zero, List.getElem?_cons_succ, List.set_cons_zero, List.set_cons_succ, List.length_cons, List.length_nil, qget_of hg, h1, h2, not_true_eq_false, not_false_eq_true, false_implies, true_implies, and_true, true_and, and_false, false_and, if_true, if_false, forall_const, or_true, true_or, false_or, or_false, pk_rem (show k < 2 ^ 31 by omega) hw (show w < 2 ^ 31 by omega)]
/-- the neighbour of a cell -/
def nb (w h k d : Nat) : Option Nat :=
  if d = 0 then (if 0 < k / w then some (k - w) else none)
  else if d = 1 then (if k % w + 1 < w then some (k + 1) else none)
  else if d = 2 then (if k / w + 1 < h then some (k + w) else none)
  else (if 0 < k % w then some (k - 1) else none)
def nbI (x : Option Nat) : Int32 := match x with
  | some k => nI k
  | none => -1
theorem s_beside {M : qM} {o w h k d : Nat} {Q : qR → qM → Prop} (hg : GridAt M o w h) (hw : 0 < w) (hw6 : w ≤ 6) (hh : 0 < h) (hh6 : h ≤ 6) (hk : k < w * h) (hd : d < 4) : cl 20 [.ref o, .int (nI k), .int (nI d)] M Q ↔ Q (.inl (some (.int (nbI (nb w h k d))))) M := by
  have hg0 := hg
  unfold GridAt at hg
  have hk6 : k < 36 := Nat.lt_of_lt_of_le hk (Nat.mul_le_mul hw6 hh6)
  have hwk : w ≤ k ∨ ¬ 0 < k / w := by
    rcases Nat.lt_or_ge k w with q | q
    · right
      rw [Nat.div_eq_of_lt q]
      omega
    · exact Or.inl q
  have hd4 : d = 0 ∨ d = 1 ∨ d = 2 ∨ d = 3 := by omega
  have c2 : qcls M o 2 ↔ True := qcls_of hg
  rw [e_20]
  rcases hd4 with rfl | rfl | rfl | rfl
  · simp only [g_20_0, g_20_1, g_20_4, g_20_5, g_20_6, g_20_9, g_20_12, g_20_13, g_20_14, g_20_17, g_20_18, g_20_21, g_20_22, g_20_23, g_20_24, g_20_25, g_20_28, g_20_29, g_20_30, g_20_33, g_20_34, g_20_37, g_20_38, g_20_39, g_20_42, g_20_43, g_20_44, g_20_45, g_20_48, g_20_49, g_20_50, g_20_51, g_20_52, g_20_55, g_20_56, g_20_57, g_20_60, g_20_61, g_20_64, g_20_65, g_20_66, g_20_69, g_20_70, g_20_71, g_20_74, g_20_75, g_20_78, g_20_79, g_20_80, g_20_81, g_20_82, g_20_85, g_20_88, g_20_89, g_20_90, g_20_91, g_20_94, g_20_95, qOb_some, kr_v, kr_n, qinv_i, qinv_r, qinv_0, Nat.reduceAdd, List.getElem?_cons_zero, List.getElem?_cons_succ, List.set_cons_zero, List.set_cons_succ, List.length_cons, List.length_nil, c2, not_true_eq_false, not_false_eq_true, false_implies, true_implies, and_true, true_and, and_false, false_and, if_true, if_false, forall_const, or_true, true_or, false_or, or_false, s_rowOf hg0 hw hw6 (show k < 1000 by omega), s_columnOf hg0 hw hw6 (show k < 1000 by omega), qget_of hg, show nI 0 = 0 from rfl]
    by_cases h1 : 0 < k / w
    · have h2 : ¬ nI (k / w) ≤ 0 := nI_nle h1 (Nat.lt_of_le_of_lt (Nat.div_le_self k w) (by omega))
      simp only [h2, not_true_eq_false, not_false_eq_true, false_implies, true_implies, and_true, true_and, and_false, false_and, if_true, if_false, forall_const, or_true, true_or, false_or, or_false, nb, h1, nbI, pk_sub (show w ≤ k by omega)]
    · have h2 : k / w = 0 := Nat.eq_zero_of_not_pos h1
      simp only [h2, nb, nbI, show nI 0 ≤ 0 by decide, show ¬ 0 < 0 by decide, not_true_eq_false, not_false_eq_true, false_implies, true_implies, and_true, true_and, and_false, false_and, if_true, if_false, forall_const, or_true, true_or, false_or, or_false]
  · have e1 : nI w - 1 = nI (w - 1) := pk_sub (b := 1) hw
    have hm : k % w < w := Nat.mod_lt k hw
    simp only [g_20_0, g_20_1, g_20_4, g_20_5, g_20_6, g_20_9, g_20_12, g_20_13, g_20_14, g_20_17, g_20_18, g_20_21, g_20_22, g_20_23, g_20_24, g_20_25, g_20_28, g_20_29, g_20_30, g_20_33, g_20_34, g_20_37, g_20_38, g_20_39, g_20_42, g_20_43, g_20_44, g_20_45, g_20_48, g_20_49, g_20_50, g_20_51, g_20_52, g_20_55, g_20_56, g_20_57, g_20_60, g_20_61, g_20_64, g_20_65, g_20_66, g_20_69, g_20_70, g_20_71, g_20_74, g_20_75, g_20_78, g_20_79, g_20_80, g_20_81, g_20_82, g_20_85, g_20_88, g_20_89, g_20_90, g_20_91, g_20_94, g_20_95, qOb_some, kr_v, kr_n, qinv_i, qinv_r, qinv_0, Nat.reduceAdd, List.getElem?_cons_zero, List.getElem?_cons_succ, List.set_cons_zero, List.set_cons_succ, List.length_cons, List.length_nil, c2, not_true_eq_false, not_false_eq_true, false_implies, true_implies, and_true, true_and, and_false, false_and, if_true, if_false, forall_const, or_true, true_or, false_or, or_false, s_rowOf hg0 hw hw6 (show k < 1000 by omega), s_columnOf hg0 hw hw6 (show k < 1000 by omega), qget_of hg, show ¬ nI 1 = 0 by decide, show (nI 1 = 1) = True from eq_true rfl, e1, nI_leI (show w - 1 < 2 ^ 31 by omega) (show k % w < 2 ^ 31 by omega), nI_1]
    by_cases h1 : w - 1 ≤ k % w
    · simp only [h1, not_true_eq_false, not_false_eq_true, false_implies, true_implies, and_true, true_and, and_false, false_and, if_true, if_false, forall_const, or_true, true_or, false_or, or_false, nb, show ¬ (1 : Nat) = 0 by decide, show ¬ k % w + 1 < w by omega, nbI]
    · simp only [h1, not_true_eq_false, not_false_eq_true, false_implies, true_implies, and_true, true_and, and_false, false_and, if_true, if_false, forall_const, or_true, true_or, false_or, or_false, nb, show ¬ (1 : Nat) = 0 by decide, show k % w + 1 < w by omega, nbI]
  · have e1 : nI h - 1 = nI (h - 1) := pk_sub (b := 1) hh
    have hm : k / w ≤ k := Nat.div_le_self k w
    simp only [g_20_0, g_20_1, g_20_4, g_20_5, g_20_6, g_20_9, g_20_12, g_20_13, g_20_14, g_20_17, g_20_18, g_20_21, g_20_22, g_20_23, g_20_24, g_20_25, g_20_28, g_20_29, g_20_30, g_20_33, g_20_34, g_20_37, g_20_38, g_20_39, g_20_42, g_20_43, g_20_44, g_20_45, g_20_48, g_20_49, g_20_50, g_20_51, g_20_52, g_20_55, g_20_56, g_20_57, g_20_60, g_20_61, g_20_64, g_20_65, g_20_66, g_20_69, g_20_70, g_20_71, g_20_74, g_20_75, g_20_78, g_20_79, g_20_80, g_20_81, g_20_82, g_20_85, g_20_88, g_20_89, g_20_90, g_20_91, g_20_94, g_20_95, qOb_some, kr_v, kr_n, qinv_i, qinv_r, qinv_0, Nat.reduceAdd, List.getElem?_cons_zero, List.getElem?_cons_succ, List.set_cons_zero, List.set_cons_succ, List.length_cons, List.length_nil, c2, not_true_eq_false, not_false_eq_true, false_implies, true_implies, and_true, true_and, and_false, false_and, if_true, if_false, forall_const, or_true, true_or, false_or, or_false, s_rowOf hg0 hw hw6 (show k < 1000 by omega), s_columnOf hg0 hw hw6 (show k < 1000 by omega), qget_of hg, show ¬ nI 2 = 0 by decide, show ¬ nI 2 = 1 by decide, show (nI 2 = 2) = True from eq_true rfl, e1, nI_leI (show h - 1 < 2 ^ 31 by omega) (show k / w < 2 ^ 31 by omega), nI_add]
    by_cases h1 : h - 1 ≤ k / w
    · simp only [h1, not_true_eq_false, not_false_eq_true, false_implies, true_implies, and_true, true_and, and_false, false_and, if_true, if_false, forall_const, or_true, true_or, false_or, or_false, nb, show ¬ (2 : Nat) = 0 by decide, show ¬ (2 : Nat) = 1 by decide, show ¬ k / w + 1 < h by omega, nbI]
    · simp only [h1, not_true_eq_false, not_false_eq_true, false_implies, true_implies, and_true, true_and, and_false, false_and, if_true, if_false, forall_const, or_true, true_or, false_or, or_false, nb, show ¬ (2 : Nat) = 0 by decide, show ¬ (2 : Nat) = 1 by decide, show k / w + 1 < h by omega, nbI]
  · have hm : k % w ≤ k := Nat.mod_le k w
    simp only [g_20_0, g_20_1, g_20_4, g_20_5, g_20_6, g_20_9, g_20_12, g_20_13, g_20_14, g_20_17, g_20_18, g_20_21, g_20_22, g_20_23, g_20_24, g_20_25, g_20_28, g_20_29, g_20_30, g_20_33, g_20_34, g_20_37, g_20_38, g_20_39, g_20_42, g_20_43, g_20_44, g_20_45, g_20_48, g_20_49, g_20_50, g_20_51, g_20_52, g_20_55, g_20_56, g_20_57, g_20_60, g_20_61, g_20_64, g_20_65, g_20_66, g_20_69, g_20_70, g_20_71, g_20_74, g_20_75, g_20_78, g_20_79, g_20_80, g_20_81, g_20_82, g_20_85, g_20_88, g_20_89, g_20_90, g_20_91, g_20_94, g_20_95, qOb_some, kr_v, kr_n, qinv_i, qinv_r, qinv_0, Nat.reduceAdd, List.getElem?_cons_zero, List.getElem?_cons_succ, List.set_cons_zero, List.set_cons_succ, List.length_cons, List.length_nil, c2, not_true_eq_false, not_false_eq_true, false_implies, true_implies, and_true, true_and, and_false, false_and, if_true, if_false, forall_const, or_true, true_or, false_or, or_false, s_rowOf hg0 hw hw6 (show k < 1000 by omega), s_columnOf hg0 hw hw6 (show k < 1000 by omega), qget_of hg, show ¬ nI 3 = 0 by decide, show ¬ nI 3 = 1 by decide, show ¬ nI 3 = 2 by decide]
    by_cases h1 : 0 < k % w
    · have h2 : ¬ nI (k % w) ≤ 0 := nI_nle h1 (by omega)
      simp only [h2, not_true_eq_false, not_false_eq_true, false_implies, true_implies, and_true, true_and, and_false, false_and, if_true, if_false, forall_const, or_true, true_or, false_or, or_false, nb, h1, nbI, show ¬ (3 : Nat) = 0 by decide, show ¬ (3 : Nat) = 1 by decide, show ¬ (3 : Nat) = 2 by decide, show nI k - 1 = nI (k - 1) from pk_sub (b := 1) (by omega)]
    · have h2 : k % w = 0 := Nat.eq_zero_of_not_pos h1
      simp only [h2, nb, nbI, show nI 0 ≤ 0 by decide, show ¬ 0 < 0 by decide, not_true_eq_false, not_false_eq_true, false_implies, true_implies, and_true, true_and, and_false, false_and, if_true, if_false, forall_const, or_true, true_or, false_or, or_false, show ¬ (3 : Nat) = 0 by decide, show ¬ (3 : Nat) = 1 by decide, show ¬ (3 : Nat) = 2 by decide]
theorem nb_lt {w h k d k2 : Nat} (hk : k < w * h) (hn : nb w h k d = some k2) : k2 < w * h := by
  unfold nb at hn
  have hw : 0 < w := Nat.pos_of_ne_zero (fun q => by subst q; simp at hk)
  have e := Nat.div_add_mod k w
  have hm := Nat.mod_lt k hw
  have hq : k / w < h := Nat.div_lt_of_lt_mul hk
  split at hn
  · split at hn <;> cases hn
    omega
  · split at hn
    · split at hn <;> cases hn
      rename_i h1
      have : k + 1 ≤ w * (k / w) + w - 0 := by omega
      have h2 : w * (k / w) + w ≤ w * h := by
        rw [← Nat.mul_succ]
        exact Nat.mul_le_mul_left w hq
      omega
    · split at hn
      · split at hn <;> cases hn
        rename_i h1
        have h2 : w * (k / w + 1) + w ≤ w * h := by
          rw [← Nat.mul_succ]
          exact Nat.mul_le_mul_left w h1
        rw [Nat.mul_add] at h2
        omega
      · split at hn <;> cases hn
        omega
