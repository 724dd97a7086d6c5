/-! the model's object: its numbers by their places, its rows at fixed cells -/
def MO (s : Nat → Int32) : List Value := [.int (s 0), .int (s 1), .ref 102, .ref 103, .int (s 4), .int (s 5), .int (s 6), .ref 104, .ref 105, .ref 106, .int (s 10), .int (s 11), .ref 107, .int (s 13), .int (s 14), .int (s 15), .ref 108, .ref 109, .ref 110, .ref 111, .int (s 20), .int (s 21), .int (s 22), .ref 112, .ref 113, .ref 114, .int (s 26), .int (s 27), .int (s 28), .int (s 29), .ref 115, .ref 116, .ref 117, .ref 118]
theorem mo_0 {s : Nat → Int32} : (MO s)[0]? = some (.int (s 0)) := rfl
theorem mo_1 {s : Nat → Int32} : (MO s)[1]? = some (.int (s 1)) := rfl
theorem mo_2 {s : Nat → Int32} : (MO s)[2]? = some (.ref 102) := rfl
theorem mo_3 {s : Nat → Int32} : (MO s)[3]? = some (.ref 103) := rfl
theorem mo_4 {s : Nat → Int32} : (MO s)[4]? = some (.int (s 4)) := rfl
theorem mo_5 {s : Nat → Int32} : (MO s)[5]? = some (.int (s 5)) := rfl
theorem mo_6 {s : Nat → Int32} : (MO s)[6]? = some (.int (s 6)) := rfl
theorem mo_7 {s : Nat → Int32} : (MO s)[7]? = some (.ref 104) := rfl
theorem mo_8 {s : Nat → Int32} : (MO s)[8]? = some (.ref 105) := rfl
theorem mo_9 {s : Nat → Int32} : (MO s)[9]? = some (.ref 106) := rfl
theorem mo_10 {s : Nat → Int32} : (MO s)[10]? = some (.int (s 10)) := rfl
theorem mo_11 {s : Nat → Int32} : (MO s)[11]? = some (.int (s 11)) := rfl
theorem mo_12 {s : Nat → Int32} : (MO s)[12]? = some (.ref 107) := rfl
theorem mo_13 {s : Nat → Int32} : (MO s)[13]? = some (.int (s 13)) := rfl
theorem mo_14 {s : Nat → Int32} : (MO s)[14]? = some (.int (s 14)) := rfl
theorem mo_15 {s : Nat → Int32} : (MO s)[15]? = some (.int (s 15)) := rfl
theorem mo_16 {s : Nat → Int32} : (MO s)[16]? = some (.ref 108) := rfl
theorem mo_17 {s : Nat → Int32} : (MO s)[17]? = some (.ref 109) := rfl
theorem mo_18 {s : Nat → Int32} : (MO s)[18]? = some (.ref 110) := rfl
theorem mo_19 {s : Nat → Int32} : (MO s)[19]? = some (.ref 111) := rfl
theorem mo_20 {s : Nat → Int32} : (MO s)[20]? = some (.int (s 20)) := rfl
theorem mo_21 {s : Nat → Int32} : (MO s)[21]? = some (.int (s 21)) := rfl
theorem mo_22 {s : Nat → Int32} : (MO s)[22]? = some (.int (s 22)) := rfl
theorem mo_23 {s : Nat → Int32} : (MO s)[23]? = some (.ref 112) := rfl
theorem mo_24 {s : Nat → Int32} : (MO s)[24]? = some (.ref 113) := rfl
theorem mo_25 {s : Nat → Int32} : (MO s)[25]? = some (.ref 114) := rfl
theorem mo_26 {s : Nat → Int32} : (MO s)[26]? = some (.int (s 26)) := rfl
theorem mo_27 {s : Nat → Int32} : (MO s)[27]? = some (.int (s 27)) := rfl
theorem mo_28 {s : Nat → Int32} : (MO s)[28]? = some (.int (s 28)) := rfl
theorem mo_29 {s : Nat → Int32} : (MO s)[29]? = some (.int (s 29)) := rfl
theorem mo_30 {s : Nat → Int32} : (MO s)[30]? = some (.ref 115) := rfl
theorem mo_31 {s : Nat → Int32} : (MO s)[31]? = some (.ref 116) := rfl
theorem mo_32 {s : Nat → Int32} : (MO s)[32]? = some (.ref 117) := rfl
theorem mo_33 {s : Nat → Int32} : (MO s)[33]? = some (.ref 118) := rfl
theorem ms_0 {s : Nat → Int32} {x : Int32} : (MO s).set 0 (.int x) = MO (upd s 0 x) := rfl
theorem ms_1 {s : Nat → Int32} {x : Int32} : (MO s).set 1 (.int x) = MO (upd s 1 x) := rfl
theorem ms_4 {s : Nat → Int32} {x : Int32} : (MO s).set 4 (.int x) = MO (upd s 4 x) := rfl
theorem ms_5 {s : Nat → Int32} {x : Int32} : (MO s).set 5 (.int x) = MO (upd s 5 x) := rfl
theorem ms_6 {s : Nat → Int32} {x : Int32} : (MO s).set 6 (.int x) = MO (upd s 6 x) := rfl
theorem ms_10 {s : Nat → Int32} {x : Int32} : (MO s).set 10 (.int x) = MO (upd s 10 x) := rfl
theorem ms_11 {s : Nat → Int32} {x : Int32} : (MO s).set 11 (.int x) = MO (upd s 11 x) := rfl
theorem ms_13 {s : Nat → Int32} {x : Int32} : (MO s).set 13 (.int x) = MO (upd s 13 x) := rfl
theorem ms_14 {s : Nat → Int32} {x : Int32} : (MO s).set 14 (.int x) = MO (upd s 14 x) := rfl
theorem ms_15 {s : Nat → Int32} {x : Int32} : (MO s).set 15 (.int x) = MO (upd s 15 x) := rfl
theorem ms_20 {s : Nat → Int32} {x : Int32} : (MO s).set 20 (.int x) = MO (upd s 20 x) := rfl
theorem ms_21 {s : Nat → Int32} {x : Int32} : (MO s).set 21 (.int x) = MO (upd s 21 x) := rfl
theorem ms_22 {s : Nat → Int32} {x : Int32} : (MO s).set 22 (.int x) = MO (upd s 22 x) := rfl
theorem ms_26 {s : Nat → Int32} {x : Int32} : (MO s).set 26 (.int x) = MO (upd s 26 x) := rfl
theorem ms_27 {s : Nat → Int32} {x : Int32} : (MO s).set 27 (.int x) = MO (upd s 27 x) := rfl
theorem ms_28 {s : Nat → Int32} {x : Int32} : (MO s).set 28 (.int x) = MO (upd s 28 x) := rfl
theorem ms_29 {s : Nat → Int32} {x : Int32} : (MO s).set 29 (.int x) = MO (upd s 29 x) := rfl
theorem mo_len {s : Nat → Int32} : (MO s).length = 34 := rfl
def ModAt (M : qM) (s : Nat → Int32) : Prop := M[101]? = some (.inr (10, MO s))
theorem ModAt.cls {M : qM} {s : Nat → Int32} (h : ModAt M s) : qcls M 101 10 ↔ True := qcls_of h
theorem ModAt.fr {lo hi : Nat} {s : Nat → Int32} {M M' : qM} (h : ModAt M s) (hf : Fr lo hi M M') (ho : 101 < lo ∨ hi ≤ 101) : ModAt M' s := (hf 101 (by omega)).trans h
theorem ModAt.put {M : qM} {s s' : Nat → Int32} (h : ModAt M s) : ModAt (M.set 101 (.inr (10, MO s'))) s' := get_set_eq h
theorem mget {M : qM} {s : Nat → Int32} (h : ModAt M s) (k : Nat) : qget M 101 10 k = (MO s)[k]? := qget_of h
theorem mput {M : qM} {s : Nat → Int32} {k : Nat} {x : Int32} (h : ModAt M s) (hk : k < 34) (hty : q_fit (q_ty 10 k) (.int x) = true) : qput M 101 10 k (.int x) = some (M.set 101 (.inr (10, (MO s).set k (.int x)))) := by
  rw [qput_of h, if_pos ⟨hk, hty⟩]
def ArrV (M : qM) (a n N : Nat) (p : Nat → Nat) : Prop := ∃ f, M[a]? = some (.inl (0, n, .inl f)) ∧ ∀ k, k < N → f k = nI (p k)
theorem ArrV.fr {lo hi a n N : Nat} {p : Nat → Nat} {M M' : qM} (h : ArrV M a n N p) (hf : Fr lo hi M M') (ho : a < lo ∨ hi ≤ a) : ArrV M' a n N p := by
  obtain ⟨f, h1, h2⟩ := h
  exact ⟨f, (hf a ho).trans h1, h2⟩
theorem ald_N {M : qM} {o n k : Nat} {f : Nat → Int32} (h : M[o]? = some (.inl (0, n, .inl f))) (hk : k < n) (hn : n < 2147483648) : qald none M o 0 (nI k) = some (.int (f k)) := by
  rw [qald_of h (qIn_nI hk hn), nI_clamp (by omega)]
theorem ast_N {M : qM} {o n k : Nat} {f : Nat → Int32} {x : Int32} (h : M[o]? = some (.inl (0, n, .inl f))) (hk : k < n) (hn : n < 2147483648) : qasti M o 0 (nI k) x = some (M.set o (.inl (0, n, .inl (upd f k x)))) := by
  rw [qasti_of h (qIn_nI hk hn), nI_clamp (by omega)]
/-- the model's tiles -/
def MTil (M : qM) (s : Nat → Int32) (T : TS) : Prop := s 1 = nI T.n ∧ (∃ f, M[102]? = some (.inl (0, 32, .inl f)) ∧ ∀ t d, t < T.n → d < 4 → f (4 * t + d) = nI (T.c t d)) ∧ (∃ f, M[103]? = some (.inl (0, 8, .inl f)) ∧ ∀ t, t < T.n → f t = nI (T.w t))
theorem MTil.fr {lo hi : Nat} {s s' : Nat → Int32} {T : TS} {M M' : qM} (h : MTil M s T) (hf : Fr lo hi M M') (ho : 103 < lo ∨ hi ≤ 102) (hs : s' 1 = s 1) : MTil M' s' T := by
  obtain ⟨h1, ⟨f, h2, h3⟩, ⟨f', h4, h5⟩⟩ := h
  exact ⟨hs.trans h1, ⟨f, (hf 102 (by omega)).trans h2, h3⟩, ⟨f', (hf 103 (by omega)).trans h4, h5⟩⟩
theorem m_in {M : qM} {a lo hi : Int32} {Q : qR → qM → Prop} : cl 102 [.int a, .int lo, .int hi] M Q ↔ Q (.inl (some (.int (bI (lo ≤ a ∧ a ≤ hi))))) M := by
  rw [e_102]
  by_cases h1 : lo ≤ a
  · by_cases h2 : a ≤ hi
    · simp only [g_102_0, g_102_1, g_102_2, g_102_5, g_102_6, g_102_7, g_102_10, g_102_11, g_102_14, g_102_15, qOb_some, kr_v, kr_n, qinv_i, qinv_r, qinv_0, Nat.reduceAdd, List.getElem?_cons_zero, List.getElem?_cons_succ, List.set_cons_zero, List.set_cons_succ, List.length_cons, List.length_nil, Int32.not_lt.mpr h1, Int32.not_lt.mpr h2, not_true_eq_false, not_false_eq_true, false_implies, true_implies, and_true, true_and, and_false, false_and, if_true, if_false, forall_const, or_true, true_or, false_or, or_false, i10, Bool.false_eq_true, bI_t (And.intro h1 h2)]
    · simp only [g_102_0, g_102_1, g_102_2, g_102_5, g_102_6, g_102_7, g_102_10, g_102_11, g_102_14, g_102_15, qOb_some, kr_v, kr_n, qinv_i, qinv_r, qinv_0, Nat.reduceAdd, List.getElem?_cons_zero, List.getElem?_cons_succ, List.set_cons_zero, List.set_cons_succ, List.length_cons, List.length_nil, Int32.not_lt.mpr h1, Int32.not_le.mp h2, not_true_eq_false, not_false_eq_true, false_implies, true_implies, and_true, true_and, and_false, false_and, if_true, if_false, forall_const, or_true, true_or, false_or, or_false, i10, Bool.false_eq_true, bI_f (fun q : lo ≤ a ∧ a ≤ hi => h2 q.2)]
  · simp only [g_102_0, g_102_1, g_102_2, g_102_5, g_102_6, g_102_7, g_102_10, g_102_11, g_102_14, g_102_15, qOb_some, kr_v, kr_n, qinv_i, qinv_r, qinv_0, Nat.reduceAdd, List.getElem?_cons_zero, List.getElem?_cons_succ, List.set_cons_zero, List.set_cons_succ, List.length_cons, List.length_nil, Int32.not_le.mp h1, not_true_eq_false, not_false_eq_true, false_implies, true_implies, and_true, true_and, and_false, false_and, if_true, if_false, forall_const, or_true, true_or, false_or, or_false, i10, Bool.false_eq_true, bI_f (fun q : lo ≤ a ∧ a ≤ hi => h1 q.1)]
theorem m_opposite {M : qM} {d : Nat} {Q : qR → qM → Prop} (hd : d < 4) : cl 107 [.int (nI d)] M Q ↔ Q (.inl (some (.int (nI (op d))))) M := by
  rw [e_107]
  have e : nI d + 2 - (nI d + 2) / 4 * 4 = nI (op d) := (by decide : ∀ d, d < 4 → nI d + 2 - (nI d + 2) / 4 * 4 = nI (op d)) d hd
  simp only [g_107_0, g_107_1, g_107_2, g_107_3, g_107_4, g_107_5, qOb_some, kr_v, kr_n, qinv_i, qinv_r, qinv_0, Nat.reduceAdd, List.getElem?_cons_zero, List.getElem?_cons_succ, List.set_cons_zero, List.set_cons_succ, List.length_cons, List.length_nil, show ¬ (4 : Int32) = 0 by decide, not_true_eq_false, not_false_eq_true, false_implies, true_implies, and_true, true_and, and_false, false_and, if_true, if_false, forall_const, or_true, true_or, false_or, or_false, i10, Bool.false_eq_true, e]
theorem m_edgeOf {M : qM} {s : Nat → Int32} {T : TS} {t d : Nat} {Q : qR → qM → Prop} (hM : ModAt M s) (hT : MTil M s T) (hk : TOk T) (ht : t < T.n) (hd : d < 4) : cl 108 [.ref 101, .int (nI t), .int (nI d)] M Q ↔ Q (.inl (some (.int (nI (T.c t d))))) M := by
  obtain ⟨h1, ⟨f, h2, h3⟩, -⟩ := hT
  have h8 := hk.1
  rw [e_108]
  simp only [g_108_0, g_108_1, g_108_4, g_108_5, g_108_6, g_108_7, g_108_8, g_108_9, g_108_10, qOb_some, kr_v, kr_n, qinv_i, qinv_r, qinv_0, Nat.reduceAdd, List.getElem?_cons_zero, List.getElem?_cons_succ, List.set_cons_zero, List.set_cons_succ, List.length_cons, List.length_nil, mget hM, mo_2, show (4 : Int32) = nI 4 from rfl, pk_mul, nI_add, ald_N h2 (show 4 * t + d < 32 by omega) (by decide), h3 t d ht hd]
theorem m_fit {M : qM} {s : Nat → Int32} {T : TS} {t u d : Nat} {Q : qR → qM → Prop} (hM : ModAt M s) (hT : MTil M s T) (hk : TOk T) (ht : t < T.n) (hu : u < T.n) (hd : d < 4) : cl 109 [.ref 101, .int (nI t), .int (nI u), .int (nI d)] M Q ↔ Q (.inl (some (.int (bI (T.c t d = T.c u (op d)))))) M := by
  have a1 := hk.2.1 t d ht hd
  have a2 := hk.2.1 u (op d) hu (op_lt d)
  rw [e_109]
  simp only [g_109_0, g_109_1, g_109_2, g_109_3, g_109_6, g_109_7, g_109_8, g_109_9, g_109_12, g_109_15, g_109_18, g_109_19, g_109_22, g_109_23, qOb_some, kr_v, kr_n, qinv_i, qinv_r, qinv_0, Nat.reduceAdd, List.getElem?_cons_zero, List.getElem?_cons_succ, List.set_cons_zero, List.set_cons_succ, List.length_cons, List.length_nil, hM.cls, not_true_eq_false, not_false_eq_true, false_implies, true_implies, and_true, true_and, and_false, false_and, if_true, if_false, forall_const, or_true, true_or, false_or, or_false, i10, Bool.false_eq_true, m_edgeOf hM hT hk ht hd, m_opposite hd, m_edgeOf hM hT hk hu (op_lt d), nI_eq (show T.c t d < 2 ^ 31 by omega) (show T.c u (op d) < 2 ^ 31 by omega)]
  by_cases h : T.c t d = T.c u (op d)
  · simp only [h, not_true_eq_false, not_false_eq_true, false_implies, true_implies, and_true, true_and, and_false, false_and, if_true, if_false, forall_const, or_true, true_or, false_or, or_false, i10, Bool.false_eq_true, bI]
  · simp only [h, not_true_eq_false, not_false_eq_true, false_implies, true_implies, and_true, true_and, and_false, false_and, if_true, if_false, forall_const, or_true, true_or, false_or, or_false, i10, Bool.false_eq_true, bI]
theorem m_cells {M : qM} {s : Nat → Int32} {w h : Nat} {Q : qR → qM → Prop} (hM : ModAt M s) (hw : s 20 = nI w) (hh : s 21 = nI h) : cl 121 [.ref 101] M Q ↔ Q (.inl (some (.int (nI (w * h))))) M := by
  rw [e_121]
  simp only [g_121_0, g_121_1, g_121_4, g_121_5, g_121_8, g_121_9, qOb_some, kr_v, kr_n, qinv_i, qinv_r, qinv_0, Nat.reduceAdd, List.getElem?_cons_zero, List.getElem?_cons_succ, List.set_cons_zero, List.set_cons_succ, List.length_cons, List.length_nil, mget hM, mo_20, mo_21, hw, hh, pk_mul]
theorem many_e : ∀ k, k < 256 → (0 : Int32) + (nI k >>> (nI 0 &&& 31) &&& 1) + (nI k >>> (nI 1 &&& 31) &&& 1) + (nI k >>> (nI 2 &&& 31) &&& 1) + (nI k >>> (nI 3 &&& 31) &&& 1) + (nI k >>> (nI 4 &&& 31) &&& 1) + (nI k >>> (nI 5 &&& 31) &&& 1) + (nI k >>> (nI 6 &&& 31) &&& 1) + (nI k >>> (nI 7 &&& 31) &&& 1) = nI (cnt k) := by decide +kernel
def manyI (x : Int32) : Nat → Int32
  | 0 => 0
  | t + 1 => manyI x t + (x >>> (nI t &&& 31) &&& 1)
theorem m_many {M : qM} {k : Nat} {Q : qR → qM → Prop} (hk : k < 256) : cl 116 [.int (nI k)] M Q ↔ Q (.inl (some (.int (nI (cnt k))))) M := by
  refine cl_iff (fun Q hQ => ?_)
  rw [e_116]
  simp only [g_116_0, g_116_1, g_116_2, g_116_3, g_116_5, g_116_7, g_116_10, g_116_11, g_116_12, g_116_13, g_116_14, g_116_15, g_116_16, g_116_17, g_116_18, g_116_21, g_116_24, g_116_25, qOb_some, kr_v, kr_n, qinv_i, qinv_r, qinv_0, Nat.reduceAdd, List.getElem?_cons_zero, List.getElem?_cons_succ, List.set_cons_zero, List.set_cons_succ, List.length_cons, List.length_nil]
  refine upto (N := 8) (I := fun _ _ => True) (G := fun t (_ : Unit) => g 116 4 [some (.int (nI k)), some (.int (manyI (nI k) t)), some (.int (nI t))] [] M 0 0 Q) ?_ ?_ 0 () (by decide) trivial
  · intro _ _
    have e : manyI (nI k) 8 = nI (cnt k) := many_e k hk
    rw [g_116_4]
    simp only [g_116_0, g_116_1, g_116_2, g_116_3, g_116_5, g_116_7, g_116_10, g_116_11, g_116_12, g_116_13, g_116_14, g_116_15, g_116_16, g_116_17, g_116_18, g_116_21, g_116_24, g_116_25, qOb_some, kr_v, kr_n, qinv_i, qinv_r, qinv_0, Nat.reduceAdd, List.getElem?_cons_zero, List.getElem?_cons_succ, List.set_cons_zero, List.set_cons_succ, List.length_cons, List.length_nil, show (8 : Int32) = nI 8 from rfl, Int32.le_refl, not_true_eq_false, not_false_eq_true, false_implies, true_implies, and_true, true_and, and_false, false_and, if_true, if_false, forall_const, or_true, true_or, false_or, or_false, i10, Bool.false_eq_true, e]
    exact hQ
  · intro t _ ht _ ih
    rw [g_116_4]
    simp only [g_116_0, g_116_1, g_116_2, g_116_3, g_116_5, g_116_7, g_116_10, g_116_11, g_116_12, g_116_13, g_116_14, g_116_15, g_116_16, g_116_17, g_116_18, g_116_21, g_116_24, g_116_25, qOb_some, kr_v, kr_n, qinv_i, qinv_r, qinv_0, Nat.reduceAdd, List.getElem?_cons_zero, List.getElem?_cons_succ, List.set_cons_zero, List.set_cons_succ, List.length_cons, List.length_nil, show (8 : Int32) = nI 8 from rfl, nI_ge ht (show 8 < 2 ^ 31 by decide), not_true_eq_false, not_false_eq_true, false_implies, true_implies, and_true, true_and, and_false, false_and, if_true, if_false, forall_const, or_true, true_or, false_or, or_false, i10, Bool.false_eq_true, nI_1]
    exact ih () trivial
/-- the only one of a set -/
def onlyI (k : Nat) : Int32 := if cnt k = 1 then nI (low k) else -1
def onlyJ (x : Int32) : Nat → Int32
  | 0 => -1
  | t + 1 => if x = (1 : Int32) <<< (nI t &&& 31) then nI t else onlyJ x t
theorem only_e : ∀ k, k < 256 → onlyJ (nI k) 8 = onlyI k := by decide +kernel
theorem m_only {M : qM} {k : Nat} {Q : qR → qM → Prop} (hk : k < 256) : cl 126 [.int (nI k)] M Q ↔ Q (.inl (some (.int (onlyI k)))) M := by
  refine cl_iff (fun Q hQ => ?_)
  rw [e_126]
  simp only [g_126_0, g_126_1, g_126_2, g_126_3, g_126_5, g_126_7, g_126_10, g_126_11, g_126_12, g_126_13, g_126_14, g_126_17, g_126_18, g_126_21, g_126_22, g_126_23, g_126_26, g_126_29, g_126_30, qOb_some, kr_v, kr_n, qinv_i, qinv_r, qinv_0, Nat.reduceAdd, List.getElem?_cons_zero, List.getElem?_cons_succ, List.set_cons_zero, List.set_cons_succ, List.length_cons, List.length_nil]
  refine upto (N := 8) (I := fun _ _ => True) (G := fun t (_ : Unit) => g 126 4 [some (.int (nI k)), some (.int (onlyJ (nI k) t)), some (.int (nI t))] [] M 0 0 Q) ?_ ?_ 0 () (by decide) trivial
  · intro _ _
    rw [g_126_4]
    simp only [g_126_0, g_126_1, g_126_2, g_126_3, g_126_5, g_126_7, g_126_10, g_126_11, g_126_12, g_126_13, g_126_14, g_126_17, g_126_18, g_126_21, g_126_22, g_126_23, g_126_26, g_126_29, g_126_30, qOb_some, kr_v, kr_n, qinv_i, qinv_r, qinv_0, Nat.reduceAdd, List.getElem?_cons_zero, List.getElem?_cons_succ, List.set_cons_zero, List.set_cons_succ, List.length_cons, List.length_nil, show (8 : Int32) = nI 8 from rfl, Int32.le_refl, not_true_eq_false, not_false_eq_true, false_implies, true_implies, and_true, true_and, and_false, false_and, if_true, if_false, forall_const, or_true, true_or, false_or, or_false, i10, Bool.false_eq_true, only_e k hk]
    exact hQ
  · intro t _ ht _ ih
    rw [g_126_4]
    simp only [g_126_0, g_126_1, g_126_2, g_126_3, g_126_5, g_126_7, g_126_10, g_126_11, g_126_12, g_126_13, g_126_14, g_126_17, g_126_18, g_126_21, g_126_22, g_126_23, g_126_26, g_126_29, g_126_30, qOb_some, kr_v, kr_n, qinv_i, qinv_r, qinv_0, Nat.reduceAdd, List.getElem?_cons_zero, List.getElem?_cons_succ, List.set_cons_zero, List.set_cons_succ, List.length_cons, List.length_nil, show (8 : Int32) = nI 8 from rfl, nI_ge ht (show 8 < 2 ^ 31 by decide), not_true_eq_false, not_false_eq_true, false_implies, true_implies, and_true, true_and, and_false, false_and, if_true, if_false, forall_const, or_true, true_or, false_or, or_false, i10, Bool.false_eq_true, nI_1]
    have := ih () trivial
    simp only [onlyJ] at this
    by_cases q : nI k = (1 : Int32) <<< (nI t &&& 31)
    · rw [if_pos q] at this
      simp only [q, not_true_eq_false, not_false_eq_true, false_implies, true_implies, and_true, true_and, and_false, false_and, if_true, if_false, forall_const, or_true, true_or, false_or, or_false, i10, Bool.false_eq_true] at this ⊢
      exact this
    · rw [if_neg q] at this
      simp only [q, not_true_eq_false, not_false_eq_true, false_implies, true_implies, and_true, true_and, and_false, false_and, if_true, if_false, forall_const, or_true, true_or, false_or, or_false, i10, Bool.false_eq_true]
      exact this
