/-! the tiles -/
/-- how many, the colour of a tile in a direction, its weight -/
def TS : Type := Nat × (Nat → Nat → Nat) × (Nat → Nat)
def TS.n (T : TS) : Nat := T.1
def TS.c (T : TS) : Nat → Nat → Nat := T.2.1
def TS.w (T : TS) : Nat → Nat := T.2.2
def TOk (T : TS) : Prop := T.n ≤ 8 ∧ (∀ t d, t < T.n → d < 4 → T.c t d < 4) ∧ (∀ t, t < T.n → 1 ≤ T.w t ∧ T.w t ≤ 9)
def op (d : Nat) : Nat := (d + 2) % 4
theorem op_lt (d : Nat) : op d < 4 := Nat.mod_lt _ (by decide)
theorem op_op : ∀ d, d < 4 → op (op d) = d := by decide
def byE (T : TS) (d q : Nat) : Nat := mk (fun t => T.c t d == q) T.n
theorem pow_le8 {n : Nat} (h : n ≤ 8) : 2 ^ n ≤ 256 := Nat.pow_le_pow_right (n := 2) (by decide) h
theorem byE_lt {T : TS} (h : TOk T) (d q : Nat) : byE T d q < 256 := Nat.lt_of_lt_of_le (mk_lt _ _) (pow_le8 h.1)
/-- the tiles that fit in a direction beside at least one of some -/
def fitM (T : TS) (s d : Nat) : Nat := mk (fun u => (List.range T.n).any (fun t => s.testBit t && T.c t d == T.c u (op d))) T.n
theorem fitM_lt {T : TS} (h : TOk T) (s d : Nat) : fitM T s d < 256 := Nat.lt_of_lt_of_le (mk_lt _ _) (pow_le8 h.1)
theorem fitM_bit {T : TS} {s d u : Nat} : (fitM T s d).testBit u = true ↔ u < T.n ∧ ∃ t, t < T.n ∧ s.testBit t = true ∧ T.c t d = T.c u (op d) := by
  unfold fitM
  rw [mk_bit]
  simp [List.any_eq_true]
def roadT (T : TS) (t : Nat) : Bool := T.c t 0 == 1 || T.c t 1 == 1 || T.c t 2 == 1 || T.c t 3 == 1
theorem roadT_iff {T : TS} {t : Nat} : roadT T t = true ↔ ∃ d, d < 4 ∧ T.c t d = 1 := by
  unfold roadT
  simp only [Bool.or_eq_true, beq_iff_eq]
  constructor
  · rintro (((q | q) | q) | q)
    · exact ⟨0, by decide, q⟩
    · exact ⟨1, by decide, q⟩
    · exact ⟨2, by decide, q⟩
    · exact ⟨3, by decide, q⟩
  · rintro ⟨d, hd, q⟩
    have : d = 0 ∨ d = 1 ∨ d = 2 ∨ d = 3 := by omega
    rcases this with rfl | rfl | rfl | rfl
    · exact Or.inl (Or.inl (Or.inl q))
    · exact Or.inl (Or.inl (Or.inr q))
    · exact Or.inl (Or.inr q)
    · exact Or.inr q
def lowI (s : Nat) : Int32 := if s = 0 then -1 else nI (low s)
/-- the weights of those of a set below k -/
def wsum (T : TS) (s : Nat) : Nat → Nat
  | 0 => 0
  | k + 1 => wsum T s k + (if s.testBit k = true then T.w k else 0)
def drw (T : TS) (s r : Nat) : Nat := (fst (fun t => decide (r < wsum T s (t + 1))) T.n).getD 0
theorem wsum_mono (T : TS) (s : Nat) {a b : Nat} (h : a ≤ b) : wsum T s a ≤ wsum T s b := by
  induction h with
  | refl => exact Nat.le_refl _
  | step _ ih => exact Nat.le_trans ih (Nat.le_add_right _ _)
theorem wsum_le {T : TS} (h : TOk T) (s : Nat) : ∀ k, k ≤ T.n → wsum T s k ≤ 9 * k
  | 0, _ => Nat.le_refl _
  | k + 1, hk => by
    have h1 := wsum_le h s k (by omega)
    have h2 := (h.2.2 k (by omega)).2
    unfold wsum
    split <;> omega
theorem drw_of {T : TS} {s r t : Nat} (ht : t < T.n) (h1 : wsum T s t ≤ r) (h2 : r < wsum T s (t + 1)) : drw T s r = t := by
  unfold drw
  rw [fst_some (k := t) ?_ ?_ ht]
  · rfl
  · intro i hi
    have := wsum_mono T s (show i + 1 ≤ t by omega)
    simp
    omega
  · simpa using h2
theorem wsum_find {T : TS} {s r : Nat} : ∀ {n : Nat}, r < wsum T s n → ∃ t, t < n ∧ wsum T s t ≤ r ∧ r < wsum T s (t + 1)
  | 0, h => absurd h (Nat.not_lt_zero _)
  | n + 1, h => by
    by_cases h1 : r < wsum T s n
    · obtain ⟨t, a, b, c⟩ := wsum_find h1
      exact ⟨t, by omega, b, c⟩
    · exact ⟨n, by omega, by omega, h⟩
theorem wsum_pos {T : TS} (h : TOk T) {s t : Nat} (ht : t < T.n) (hb : s.testBit t = true) : 0 < wsum T s T.n := by
  have h1 := wsum_mono T s (show t + 1 ≤ T.n from ht)
  have h2 := (h.2.2 t ht).1
  have h3 : wsum T s (t + 1) = wsum T s t + T.w t := by
    rw [wsum, if_pos hb]
  omega
theorem drw_bit {T : TS} {s r : Nat} (h : r < wsum T s T.n) : drw T s r < T.n ∧ s.testBit (drw T s r) = true := by
  obtain ⟨t, h1, h2, h3⟩ := wsum_find h
  rw [drw_of h1 h2 h3]
  refine ⟨h1, ?_⟩
  cases hb : s.testBit t with
  | true => rfl
  | false =>
    rw [wsum, hb] at h3
    simp at h3
    omega
/-! the class's side -/
theorem s_isFromTo {M : qM} {a lo hi : Int32} {Q : qR → qM → Prop} : cl 88 [.int a, .int lo, .int hi] M Q ↔ Q (.inl (some (.int (bI (lo ≤ a ∧ a ≤ hi))))) M := by
  rw [e_88]
  by_cases h1 : lo ≤ a
  · by_cases h2 : a ≤ hi
    · simp only [g_88_0, g_88_1, g_88_2, g_88_5, g_88_6, g_88_7, g_88_10, g_88_11, g_88_14, g_88_15, qOb_some, kr_v, kr_n, qinv_i, qinv_r, qinv_0, Nat.reduceAdd, List.getElem?_cons_zero, List.getElem?_cons_succ, List.set_cons_zero, List.set_cons_succ, List.length_cons, List.length_nil, Int32.not_lt.mpr h1, Int32.not_lt.mpr h2, not_true_eq_false, not_false_eq_true, false_implies, true_implies, and_true, true_and, and_false, false_and, if_true, if_false, forall_const, or_true, true_or, false_or, or_false, bI_t (And.intro h1 h2)]
    · simp only [g_88_0, g_88_1, g_88_2, g_88_5, g_88_6, g_88_7, g_88_10, g_88_11, g_88_14, g_88_15, qOb_some, kr_v, kr_n, qinv_i, qinv_r, qinv_0, Nat.reduceAdd, List.getElem?_cons_zero, List.getElem?_cons_succ, List.set_cons_zero, List.set_cons_succ, List.length_cons, List.length_nil, Int32.not_lt.mpr h1, Int32.not_le.mp h2, not_true_eq_false, not_false_eq_true, false_implies, true_implies, and_true, true_and, and_false, false_and, if_true, if_false, forall_const, or_true, true_or, false_or, or_false, bI_f (fun q : lo ≤ a ∧ a ≤ hi => h2 q.2)]
  · simp only [g_88_0, g_88_1, g_88_2, g_88_5, g_88_6, g_88_7, g_88_10, g_88_11, g_88_14, g_88_15, qOb_some, kr_v, kr_n, qinv_i, qinv_r, qinv_0, Nat.reduceAdd, List.getElem?_cons_zero, List.getElem?_cons_succ, List.set_cons_zero, List.set_cons_succ, List.length_cons, List.length_nil, Int32.not_le.mp h1, not_true_eq_false, not_false_eq_true, false_implies, true_implies, and_true, true_and, and_false, false_and, if_true, if_false, forall_const, or_true, true_or, false_or, or_false, bI_f (fun q : lo ≤ a ∧ a ≤ hi => h1 q.1)]
theorem s_isColour {M : qM} {a : Int32} {Q : qR → qM → Prop} : cl 89 [.int a] M Q ↔ Q (.inl (some (.int (bI (0 ≤ a ∧ a ≤ 3))))) M := by
  rw [e_89]
  simp only [g_89_0, g_89_1, g_89_2, g_89_3, g_89_6, qOb_some, kr_v, kr_n, qinv_i, qinv_r, qinv_0, Nat.reduceAdd, List.getElem?_cons_zero, List.getElem?_cons_succ, List.set_cons_zero, List.set_cons_succ, List.length_cons, List.length_nil, s_isFromTo, bI_01, not_true_eq_false, not_false_eq_true, false_implies, true_implies, and_true, true_and, and_false, false_and, if_true, if_false, forall_const, or_true, true_or, false_or, or_false]
theorem i10 : ((1 : Int32) = 0) = False := eq_false (by decide)
theorem s_isPlace {M : qM} {a b : Int32} {Q : qR → qM → Prop} : cl 90 [.int a, .int b] M Q ↔ Q (.inl (some (.int (bI ((-50 ≤ a ∧ a ≤ 50) ∧ (-50 ≤ b ∧ b ≤ 50)))))) M := by
  rw [e_90]
  by_cases h1 : -50 ≤ a ∧ a ≤ 50
  · by_cases h2 : -50 ≤ b ∧ b ≤ 50
    · simp only [g_90_0, g_90_1, g_90_3, g_90_5, g_90_8, g_90_11, g_90_12, g_90_14, g_90_16, g_90_19, g_90_22, g_90_23, g_90_26, g_90_27, qOb_some, kr_v, kr_n, qinv_i, qinv_r, qinv_0, Nat.reduceAdd, List.getElem?_cons_zero, List.getElem?_cons_succ, List.set_cons_zero, List.set_cons_succ, List.length_cons, List.length_nil, s_isFromTo, bI_0, h1, h2, not_true_eq_false, not_false_eq_true, false_implies, true_implies, and_true, true_and, and_false, false_and, if_true, if_false, forall_const, or_true, true_or, false_or, or_false, i10, Bool.false_eq_true, bI]
    · simp only [g_90_0, g_90_1, g_90_3, g_90_5, g_90_8, g_90_11, g_90_12, g_90_14, g_90_16, g_90_19, g_90_22, g_90_23, g_90_26, g_90_27, qOb_some, kr_v, kr_n, qinv_i, qinv_r, qinv_0, Nat.reduceAdd, List.getElem?_cons_zero, List.getElem?_cons_succ, List.set_cons_zero, List.set_cons_succ, List.length_cons, List.length_nil, s_isFromTo, bI_0, h1, h2, not_true_eq_false, not_false_eq_true, false_implies, true_implies, and_true, true_and, and_false, false_and, if_true, if_false, forall_const, or_true, true_or, false_or, or_false, i10, Bool.false_eq_true, bI]
  · simp only [g_90_0, g_90_1, g_90_3, g_90_5, g_90_8, g_90_11, g_90_12, g_90_14, g_90_16, g_90_19, g_90_22, g_90_23, g_90_26, g_90_27, qOb_some, kr_v, kr_n, qinv_i, qinv_r, qinv_0, Nat.reduceAdd, List.getElem?_cons_zero, List.getElem?_cons_succ, List.set_cons_zero, List.set_cons_succ, List.length_cons, List.length_nil, s_isFromTo, bI_0, h1, not_true_eq_false, not_false_eq_true, false_implies, true_implies, and_true, true_and, and_false, false_and, if_true, if_false, forall_const, or_true, true_or, false_or, or_false, i10, Bool.false_eq_true, bI]
theorem s_opposite {M : qM} {d : Nat} {Q : qR → qM → Prop} (hd : d < 4) : cl 91 [.int (nI d)] M Q ↔ Q (.inl (some (.int (nI (op d))))) M := by
  rw [e_91]
  simp only [g_91_0, g_91_1, g_91_2, g_91_3, qOb_some, kr_v, kr_n, qinv_i, qinv_r, qinv_0, Nat.reduceAdd, List.getElem?_cons_zero, List.getElem?_cons_succ, List.set_cons_zero, List.set_cons_succ, List.length_cons, List.length_nil, (by decide : ∀ d, d < 4 → nI d ^^^ 2 = nI (op d)) d hd]
theorem s_isOneOf {M : qM} {t k : Nat} {Q : qR → qM → Prop} (ht : t < 8) (hk : k < 256) : cl 92 [.int (nI t), .int (nI k)] M Q ↔ Q (.inl (some (.int (bI (k.testBit t = true))))) M := by
  rw [e_92]
  simp only [g_92_0, g_92_1, g_92_2, g_92_3, g_92_4, g_92_5, g_92_8, g_92_9, g_92_12, g_92_13, qOb_some, kr_v, kr_n, qinv_i, qinv_r, qinv_0, Nat.reduceAdd, List.getElem?_cons_zero, List.getElem?_cons_succ, List.set_cons_zero, List.set_cons_succ, List.length_cons, List.length_nil, nI_shl1 t ht, nI_bit t ht k hk]
  cases h : k.testBit t <;> simp [bI]
def TilesAt (M : qM) (T : TS) : Prop := M[1]? = some (.inr (6, [.ref 2, .ref 4, .ref 6, .int (nI T.n)])) ∧ (∃ f, RowAt M 2 32 f ∧ ∀ t d, t < T.n → d < 4 → f (t * 4 + d) = nI (T.c t d)) ∧ (∃ f, RowAt M 4 8 f ∧ ∀ t, t < T.n → f t = nI (T.w t)) ∧ (∃ f, RowAt M 6 16 f ∧ ∀ d q, d < 4 → q < 4 → f (d * 4 + q) = nI (byE T d q))
theorem TilesAt.fr {lo hi : Nat} {T : TS} {M M' : qM} (h : TilesAt M T) (hf : Fr lo hi M M') (ho : 7 < lo) : TilesAt M' T := by
  obtain ⟨h1, ⟨f, h2, h3⟩, ⟨f', h4, h5⟩, ⟨f'', h6, h7⟩⟩ := h
  exact ⟨(hf 1 (by omega)).trans h1, ⟨f, h2.fr hf (by omega), h3⟩, ⟨f', h4.fr hf (by omega), h5⟩, ⟨f'', h6.fr hf (by omega), h7⟩⟩
theorem RowAt.cls {M : qM} {o n : Nat} {f : Nat → Int32} (h : RowAt M o n f) : qcls M o 5 ↔ True := qcls_of h.1
theorem s_hasT {M : qM} {T : TS} {i : Int32} {Q : qR → qM → Prop} (hT : TilesAt M T) : cl 42 [.ref 1, .int i] M Q ↔ Q (.inl (some (.int (bI (0 ≤ i ∧ i < nI T.n))))) M := by
  rw [e_42]
  by_cases h1 : 0 ≤ i
  · by_cases h2 : i < nI T.n
    · simp only [g_42_0, g_42_1, g_42_4, g_42_5, g_42_6, g_42_9, g_42_12, g_42_13, g_42_16, g_42_17, qOb_some, kr_v, kr_n, qinv_i, qinv_r, qinv_0, Nat.reduceAdd, List.getElem?_cons_zero, List.getElem?_cons_succ, List.set_cons_zero, List.set_cons_succ, List.length_cons, List.length_nil, qget_of hT.1, Int32.not_lt.mpr h1, Int32.not_le.mpr h2, not_true_eq_false, not_false_eq_true, false_implies, true_implies, and_true, true_and, and_false, false_and, if_true, if_false, forall_const, or_true, true_or, false_or, or_false, bI_t (And.intro h1 h2)]
    · simp only [g_42_0, g_42_1, g_42_4, g_42_5, g_42_6, g_42_9, g_42_12, g_42_13, g_42_16, g_42_17, qOb_some, kr_v, kr_n, qinv_i, qinv_r, qinv_0, Nat.reduceAdd, List.getElem?_cons_zero, List.getElem?_cons_succ, List.set_cons_zero, List.set_cons_succ, List.length_cons, List.length_nil, qget_of hT.1, Int32.not_lt.mpr h1, Int32.not_lt.mp h2, not_true_eq_false, not_false_eq_true, false_implies, true_implies, and_true, true_and, and_false, false_and, if_true, if_false, forall_const, or_true, true_or, false_or, or_false, bI_f (fun q : 0 ≤ i ∧ i < nI T.n => h2 q.2)]
  · simp only [g_42_0, g_42_1, g_42_4, g_42_5, g_42_6, g_42_9, g_42_12, g_42_13, g_42_16, g_42_17, qOb_some, kr_v, kr_n, qinv_i, qinv_r, qinv_0, Nat.reduceAdd, List.getElem?_cons_zero, List.getElem?_cons_succ, List.set_cons_zero, List.set_cons_succ, List.length_cons, List.length_nil, Int32.not_le.mp h1, not_true_eq_false, not_false_eq_true, false_implies, true_implies, and_true, true_and, and_false, false_and, if_true, if_false, forall_const, or_true, true_or, false_or, or_false, bI_f (fun q : 0 ≤ i ∧ i < nI T.n => h1 q.1)]
theorem s_allT {M : qM} {T : TS} {Q : qR → qM → Prop} (hT : TilesAt M T) (hk : TOk T) : cl 43 [.ref 1] M Q ↔ Q (.inl (some (.int (nI (2 ^ T.n - 1))))) M := by
  rw [e_43]
  simp only [g_43_0, g_43_1, g_43_2, g_43_5, g_43_6, g_43_7, g_43_8, qOb_some, kr_v, kr_n, qinv_i, qinv_r, qinv_0, Nat.reduceAdd, List.getElem?_cons_zero, List.getElem?_cons_succ, List.set_cons_zero, List.set_cons_succ, List.length_cons, List.length_nil, qget_of hT.1, nI_shlA T.n (by have := hk.1; omega)]
theorem s_colour {M : qM} {T : TS} {t d : Nat} {Q : qR → qM → Prop} (hT : TilesAt M T) (hk : TOk T) (ht : t < T.n) (hd : d < 4) : cl 44 [.ref 1, .int (nI t), .int (nI d)] M Q ↔ Q (.inl (some (.int (nI (T.c t d))))) M := by
  obtain ⟨h1, ⟨f, h2, h3⟩, -⟩ := hT
  have h8 := hk.1
  rw [e_44]
  simp only [g_44_0, g_44_1, g_44_4, g_44_5, g_44_6, g_44_7, g_44_8, g_44_9, g_44_12, qOb_some, kr_v, kr_n, qinv_i, qinv_r, qinv_0, Nat.reduceAdd, List.getElem?_cons_zero, List.getElem?_cons_succ, List.set_cons_zero, List.set_cons_succ, List.length_cons, List.length_nil, qget_of h1, h2.cls, not_true_eq_false, not_false_eq_true, false_implies, true_implies, and_true, true_and, and_false, false_and, if_true, if_false, forall_const, or_true, true_or, false_or, or_false, show (4 : Int32) = nI 4 from rfl, pk_mul, nI_add, s_get h2 (by decide), rget_nI (show t * 4 + d < 32 by omega) (by decide), h3 t d ht hd]
theorem s_withEdge {M : qM} {T : TS} {q d : Nat} {Q : qR → qM → Prop} (hT : TilesAt M T) (hq : q < 4) (hd : d < 4) : cl 45 [.ref 1, .int (nI d), .int (nI q)] M Q ↔ Q (.inl (some (.int (nI (byE T d q))))) M := by
  obtain ⟨h1, -, -, ⟨f, h2, h3⟩⟩ := hT
  rw [e_45]
  simp only [g_45_0, g_45_1, g_45_4, g_45_5, g_45_6, g_45_7, g_45_8, g_45_9, g_45_12, qOb_some, kr_v, kr_n, qinv_i, qinv_r, qinv_0, Nat.reduceAdd, List.getElem?_cons_zero, List.getElem?_cons_succ, List.set_cons_zero, List.set_cons_succ, List.length_cons, List.length_nil, qget_of h1, h2.cls, not_true_eq_false, not_false_eq_true, false_implies, true_implies, and_true, true_and, and_false, false_and, if_true, if_false, forall_const, or_true, true_or, false_or, or_false, show (4 : Int32) = nI 4 from rfl, pk_mul, nI_add, s_get h2 (by decide), rget_nI (show d * 4 + q < 16 by omega) (by decide), h3 d q hd hq]
theorem s_fit {M : qM} {T : TS} {t u d : Nat} {Q : qR → qM → Prop} (hT : TilesAt M T) (hk : TOk T) (ht : t < T.n) (hu : u < T.n) (hd : d < 4) : cl 46 [.ref 1, .int (nI t), .int (nI u), .int (nI d)] M Q ↔ Q (.inl (some (.int (bI (T.c t d = T.c u (op d)))))) M := by
  have a1 := hk.2.1 t d ht hd
  have a2 := hk.2.1 u (op d) hu (op_lt d)
  rw [e_46]
  simp only [g_46_0, g_46_1, g_46_2, g_46_3, g_46_6, g_46_7, g_46_8, g_46_9, g_46_12, g_46_15, g_46_18, g_46_19, g_46_22, g_46_23, qOb_some, kr_v, kr_n, qinv_i, qinv_r, qinv_0, Nat.reduceAdd, List.getElem?_cons_zero, List.getElem?_cons_succ, List.set_cons_zero, List.set_cons_succ, List.length_cons, List.length_nil, qcls_of hT.1, not_true_eq_false, not_false_eq_true, false_implies, true_implies, and_true, true_and, and_false, false_and, if_true, if_false, forall_const, or_true, true_or, false_or, or_false, s_colour hT hk ht hd, s_opposite hd, s_colour hT hk hu (op_lt d), nI_eq (show T.c t d < 2 ^ 31 by omega) (show T.c u (op d) < 2 ^ 31 by omega)]
  by_cases h : T.c t d = T.c u (op d)
  · simp only [h, not_true_eq_false, not_false_eq_true, false_implies, true_implies, and_true, true_and, and_false, false_and, if_true, if_false, forall_const, or_true, true_or, false_or, or_false, bI]
  · simp only [h, not_true_eq_false, not_false_eq_true, false_implies, true_implies, and_true, true_and, and_false, false_and, if_true, if_false, forall_const, or_true, true_or, false_or, or_false, bI]
theorem s_hasRoad {M : qM} {T : TS} {t : Nat} {Q : qR → qM → Prop} (hT : TilesAt M T) (hk : TOk T) (ht : t < T.n) : cl 47 [.ref 1, .int (nI t)] M Q ↔ Q (.inl (some (.int (bI (roadT T t = true))))) M := by
  refine cl_iff (fun Q hQ => ?_)
  rw [e_47]
  simp only [g_47_0, g_47_1, g_47_3, g_47_4, g_47_7, g_47_8, g_47_9, g_47_10, g_47_13, g_47_14, g_47_17, g_47_18, g_47_19, g_47_22, g_47_25, g_47_26, qOb_some, kr_v, kr_n, qinv_i, qinv_r, qinv_0, Nat.reduceAdd, List.getElem?_cons_zero, List.getElem?_cons_succ, List.set_cons_zero, List.set_cons_succ, List.length_cons, List.length_nil]
  refine upto (N := 4) (I := fun k _ => ∀ i, i < k → T.c t i ≠ 1) (G := fun k (_ : Unit) => g 47 2 [some (.ref 1), some (.int (nI t)), some (.int (nI k))] [] M 0 0 Q) ?_ ?_ 0 () (by decide) (fun i hi => absurd hi (by omega))
  · intro _ hi
    have hr : ¬ roadT T t = true := by
      rw [roadT_iff]
      rintro ⟨d, hd, q⟩
      exact hi d hd q
    rw [bI_f hr] at hQ
    simp only [g_47_0, g_47_1, g_47_2, g_47_3, g_47_4, g_47_7, g_47_8, g_47_9, g_47_10, g_47_13, g_47_14, g_47_17, g_47_18, g_47_19, g_47_22, g_47_25, g_47_26, qOb_some, kr_v, kr_n, qinv_i, qinv_r, qinv_0, Nat.reduceAdd, List.getElem?_cons_zero, List.getElem?_cons_succ, List.set_cons_zero, List.set_cons_succ, List.length_cons, List.length_nil, show (4 : Int32) = nI 4 from rfl, Int32.le_refl, not_true_eq_false, not_false_eq_true, false_implies, true_implies, and_true, true_and, and_false, false_and, if_true, if_false, forall_const, or_true, true_or, false_or, or_false]
    exact hQ
  · intro k _ hk4 hi ih
    have a1 := hk.2.1 t k ht hk4
    rw [g_47_2]
    simp only [g_47_0, g_47_1, g_47_3, g_47_4, g_47_7, g_47_8, g_47_9, g_47_10, g_47_13, g_47_14, g_47_17, g_47_18, g_47_19, g_47_22, g_47_25, g_47_26, qOb_some, kr_v, kr_n, qinv_i, qinv_r, qinv_0, Nat.reduceAdd, List.getElem?_cons_zero, List.getElem?_cons_succ, List.set_cons_zero, List.set_cons_succ, List.length_cons, List.length_nil, show (4 : Int32) = nI 4 from rfl, nI_ge hk4 (by decide), not_true_eq_false, not_false_eq_true, false_implies, true_implies, and_true, true_and, and_false, false_and, if_true, if_false, forall_const, or_true, true_or, false_or, or_false, qcls_of hT.1, s_colour hT hk ht hk4, show (1 : Int32) = nI 1 from rfl, nI_eq (show T.c t k < 2 ^ 31 by omega) (show 1 < 2 ^ 31 by decide), nI_add]
    by_cases h : T.c t k = 1
    · have hr : roadT T t = true := roadT_iff.mpr ⟨k, hk4, h⟩
      rw [bI_t hr] at hQ
      simp only [h, not_true_eq_false, not_false_eq_true, false_implies, true_implies, and_true, true_and, and_false, false_and, if_true, if_false, forall_const, or_true, true_or, false_or, or_false]
      exact hQ
    · simp only [h, not_true_eq_false, not_false_eq_true, false_implies, true_implies, and_true, true_and, and_false, false_and, if_true, if_false, forall_const, or_true, true_or, false_or, or_false]
      exact ih () (fun i hi' => by
        by_cases q : i = k
        · subst q; exact h
        · exact hi i (by omega))
