/-! chunks that are kept: the class's, and where one lies -/
def fnd (cx cy : Nat → Int32) (x y : Int32) (n : Nat) : Option Nat := fst (fun k => decide (cx k = x ∧ cy k = y)) n
theorem fst_lt {p : Nat → Bool} : ∀ {n k : Nat}, fst p n = some k → k < n ∧ p k = true
  | 0, k, h => by cases h
  | n + 1, k, h => by
    unfold fst at h
    cases hf : fst p n with
    | some j =>
      rw [hf] at h
      cases h
      have := fst_lt hf
      exact ⟨by omega, this.2⟩
    | none =>
      rw [hf] at h
      simp only at h
      split at h
      · cases h
        exact ⟨Nat.lt_succ_self _, by assumption⟩
      · cases h
theorem fnd_some {cx cy : Nat → Int32} {x y : Int32} {n k : Nat} (h : fnd cx cy x y n = some k) : k < n ∧ cx k = x ∧ cy k = y := by
  have := fst_lt h
  exact ⟨this.1, of_decide_eq_true this.2⟩
theorem fnd_s {cx cy : Nat → Int32} {x y : Int32} {n : Nat} : fnd cx cy x y (n + 1) = (match fnd cx cy x y n with
  | some k => some k
  | none => if cx n = x ∧ cy n = y then some n else none) := by
  unfold fnd
  rw [fst]
  cases fst (fun k => decide (cx k = x ∧ cy k = y)) n with
  | some k => rfl
  | none => simp only [decide_eq_true_eq]
def ChAt (M : qM) (n : Nat) (cx cy : Nat → Int32) (ce : Nat → Nat) (ct : Nat → Nat → Nat) : Prop := M[94]? = some (.inr (0, [.ref 95, .ref 97, .ref 99, .int (nI n)])) ∧ (∃ f, RowAt M 95 60 f ∧ ∀ k, k < n → f (2 * k) = cx k ∧ f (2 * k + 1) = cy k) ∧ (∃ f, RowAt M 97 30 f ∧ ∀ k, k < n → f k = nI (ce k)) ∧ (∃ f, RowAt M 99 270 f ∧ ∀ k c, k < n → c < 9 → ce k = 100 → f (k * 9 + c) = nI (ct k c))
theorem ChAt.fr {lo hi n : Nat} {cx cy : Nat → Int32} {ce : Nat → Nat} {ct : Nat → Nat → Nat} {M M' : qM} (h : ChAt M n cx cy ce ct) (hf : Fr lo hi M M') (ho : 100 < lo ∨ hi ≤ 94) : ChAt M' n cx cy ce ct := by
  obtain ⟨h1, ⟨f, h2, h3⟩, ⟨f4, h4, h5⟩, ⟨f6, h6, h7⟩⟩ := h
  exact ⟨(hf _ (by omega)).trans h1, ⟨f, h2.fr hf (by omega), h3⟩, ⟨f4, h4.fr hf (by omega), h5⟩, ⟨f6, h6.fr hf (by omega), h7⟩⟩
theorem s_find {M : qM} {n : Nat} {cx cy : Nat → Int32} {ce : Nat → Nat} {ct : Nat → Nat → Nat} {x y : Int32} {Q : qR → qM → Prop} (hC : ChAt M n cx cy ce ct) (hn : n ≤ 30) : cl 2 [.ref 94, .int x, .int y] M Q ↔ Q (.inl (some (.int (nbI (fnd cx cy x y n))))) M := by
  refine cl_iff (fun Q hQ => ?_)
  obtain ⟨h1, ⟨f, r1, v1⟩, -, -⟩ := hC
  rw [e_2]
  simp only [g_2_0, g_2_1, g_2_3, g_2_4, g_2_7, g_2_10, g_2_11, g_2_14, g_2_15, g_2_16, g_2_17, g_2_20, g_2_21, g_2_24, g_2_25, g_2_28, g_2_29, g_2_30, g_2_31, g_2_32, g_2_33, g_2_36, g_2_37, g_2_40, g_2_41, g_2_42, g_2_45, g_2_48, g_2_49, qOb_some, kr_v, kr_n, qinv_i, qinv_r, qinv_0, Nat.reduceAdd, List.getElem?_cons_zero, List.getElem?_cons_succ, List.set_cons_zero, List.set_cons_succ, List.length_cons, List.length_nil]
  refine upto (N := n) (I := fun k _ => fnd cx cy x y k = none) (G := fun k (_ : Unit) => g 2 2 [some (.ref 94), some (.int x), some (.int y), some (.int (nI k))] [] M 0 0 Q) ?_ ?_ 0 () (Nat.zero_le _) rfl
  · intro _ hi
    rw [hi] at hQ
    rw [g_2_2]
    simp only [g_2_0, g_2_1, g_2_3, g_2_4, g_2_7, g_2_10, g_2_11, g_2_14, g_2_15, g_2_16, g_2_17, g_2_20, g_2_21, g_2_24, g_2_25, g_2_28, g_2_29, g_2_30, g_2_31, g_2_32, g_2_33, g_2_36, g_2_37, g_2_40, g_2_41, g_2_42, g_2_45, g_2_48, g_2_49, qOb_some, kr_v, kr_n, qinv_i, qinv_r, qinv_0, Nat.reduceAdd, List.getElem?_cons_zero, List.getElem?_cons_succ, List.set_cons_zero, List.set_cons_succ, List.length_cons, List.length_nil, not_true_eq_false, not_false_eq_true, false_implies, true_implies, and_true, true_and, and_false, false_and, if_true, if_false, forall_const, or_true, true_or, false_or, or_false, i10, Bool.false_eq_true, qget_of h1, Int32.le_refl]
    exact hQ
  · intro k _ hk hi ih
    have ih := ih ()
    obtain ⟨va, vb⟩ := v1 k hk
    rw [fnd_s, hi] at ih
    simp only at ih
    rw [g_2_2]
    simp only [g_2_0, g_2_1, g_2_3, g_2_4, g_2_7, g_2_10, g_2_11, g_2_14, g_2_15, g_2_16, g_2_17, g_2_20, g_2_21, g_2_24, g_2_25, g_2_28, g_2_29, g_2_30, g_2_31, g_2_32, g_2_33, g_2_36, g_2_37, g_2_40, g_2_41, g_2_42, g_2_45, g_2_48, g_2_49, qOb_some, kr_v, kr_n, qinv_i, qinv_r, qinv_0, Nat.reduceAdd, List.getElem?_cons_zero, List.getElem?_cons_succ, List.set_cons_zero, List.set_cons_succ, List.length_cons, List.length_nil, not_true_eq_false, not_false_eq_true, false_implies, true_implies, and_true, true_and, and_false, false_and, if_true, if_false, forall_const, or_true, true_or, false_or, or_false, i10, Bool.false_eq_true, qget_of h1, nI_ge hk (show n < 2 ^ 31 by omega), show (2 : Int32) = nI 2 from rfl, pk_mul, r1.cls, s_get r1 (show 60 < 2147483648 by decide), rget_nI (show 2 * k < 60 by omega) (show 60 < 2147483648 by decide), va, nI_1, rget_nI (show 2 * k + 1 < 60 by omega) (show 60 < 2147483648 by decide), vb]
    by_cases u1 : cx k = x
    · by_cases u2 : cy k = y
      · have hf : fnd cx cy x y n = some k := by
          refine fst_some (fun i hi2 => ?_) (decide_eq_true ⟨u1, u2⟩) hk
          cases hd : decide (cx i = x ∧ cy i = y) with
          | false => rfl
          | true =>
            have h9 := fst_some (p := fun k => decide (cx k = x ∧ cy k = y)) (k := i)
            exfalso
            have key : ∀ m, i < m → fnd cx cy x y m ≠ none := by
              intro m
              induction m with
              | zero => intro q; exact absurd q (Nat.not_lt_zero _)
              | succ m ihm =>
                intro q h0
                rw [fnd_s] at h0
                cases hm : fnd cx cy x y m with
                | some j => rw [hm] at h0; cases h0
                | none =>
                  rw [hm] at h0
                  simp only at h0
                  by_cases e : i = m
                  · subst e
                    rw [if_pos (of_decide_eq_true hd)] at h0
                    cases h0
                  · exact ihm (by omega) hm
            exact key k hi2 hi
        rw [hf] at hQ
        simp only [eq_true u1, eq_true u2, not_true_eq_false, not_false_eq_true, false_implies, true_implies, and_true, true_and, and_false, false_and, if_true, if_false, forall_const, or_true, true_or, false_or, or_false, i10, Bool.false_eq_true]
        exact hQ
      · simp only [eq_true u1, eq_false u2, not_true_eq_false, not_false_eq_true, false_implies, true_implies, and_true, true_and, and_false, false_and, if_true, if_false, forall_const, or_true, true_or, false_or, or_false, i10, Bool.false_eq_true]
        exact ih (by rw [if_neg (fun q => u2 q.2)])
    · simp only [eq_false u1, not_true_eq_false, not_false_eq_true, false_implies, true_implies, and_true, true_and, and_false, false_and, if_true, if_false, forall_const, or_true, true_or, false_or, or_false, i10, Bool.false_eq_true]
      exact ih (by rw [if_neg (fun q => u1 q.1)])
theorem c16 {e : Nat} (h : e = 100 ∨ e = 108 ∨ e = 110) : ((nI e).toUInt32 % 65536).toInt32 = nI e ∧ 0 ≤ nI e ∧ nI e ≤ 65535 := by
  rcases h with rfl | rfl | rfl <;> decide
theorem s_endOf {M : qM} {n k : Nat} {cx cy : Nat → Int32} {ce : Nat → Nat} {ct : Nat → Nat → Nat} {Q : qR → qM → Prop} (hC : ChAt M n cx cy ce ct) (hn : n ≤ 30) (hk : k < n) (he : ce k = 100 ∨ ce k = 108 ∨ ce k = 110) : cl 4 [.ref 94, .int (nI k)] M Q ↔ Q (.inl (some (.int (nI (ce k))))) M := by
  obtain ⟨h1, -, ⟨f, r1, v1⟩, -⟩ := hC
  obtain ⟨c1, c2, c3⟩ := c16 he
  rw [e_4]
  simp only [g_4_0, g_4_1, g_4_4, g_4_5, g_4_8, g_4_9, qOb_some, kr_v, kr_n, qinv_i, qinv_r, qinv_0, Nat.reduceAdd, List.getElem?_cons_zero, List.getElem?_cons_succ, List.set_cons_zero, List.set_cons_succ, List.length_cons, List.length_nil, not_true_eq_false, not_false_eq_true, false_implies, true_implies, and_true, true_and, and_false, false_and, if_true, if_false, forall_const, or_true, true_or, false_or, or_false, i10, Bool.false_eq_true, qget_of h1, r1.cls, s_get r1 (show 30 < 2147483648 by decide), rget_nI (show k < 30 by omega) (show 30 < 2147483648 by decide), v1 k hk, c1, c2, c3]
theorem s_tileOf {M : qM} {n k c : Nat} {cx cy : Nat → Int32} {ce : Nat → Nat} {ct : Nat → Nat → Nat} {Q : qR → qM → Prop} (hC : ChAt M n cx cy ce ct) (hn : n ≤ 30) (hk : k < n) (hc : c < 9) (he : ce k = 100) : cl 5 [.ref 94, .int (nI k), .int (nI c)] M Q ↔ Q (.inl (some (.int (nI (ct k c))))) M := by
  obtain ⟨h1, -, -, ⟨f, r1, v1⟩⟩ := hC
  rw [e_5]
  simp only [g_5_0, g_5_1, g_5_4, g_5_5, g_5_7, g_5_8, g_5_9, g_5_10, g_5_13, qOb_some, kr_v, kr_n, qinv_i, qinv_r, qinv_0, Nat.reduceAdd, List.getElem?_cons_zero, List.getElem?_cons_succ, List.set_cons_zero, List.set_cons_succ, List.length_cons, List.length_nil, not_true_eq_false, not_false_eq_true, false_implies, true_implies, and_true, true_and, and_false, false_and, if_true, if_false, forall_const, or_true, true_or, false_or, or_false, i10, Bool.false_eq_true, qget_of h1, r1.cls, show (9 : Int32) = nI 9 from rfl, pk_mul, nI_add, s_get r1 (show 270 < 2147483648 by decide), rget_nI (show k * 9 + c < 270 by omega) (show 270 < 2147483648 by decide), v1 k c hk hc he]
theorem s_isSame {M : qM} {n k G N : Nat} {cx cy : Nat → Int32} {ce : Nat → Nat} {ct : Nat → Nat → Nat} {tl : Nat → Nat} {Q : qR → qM → Prop} (hC : ChAt M n cx cy ce ct) (hn : n ≤ 30) (hk : k < n) (he : ce k = 100 ∨ ce k = 108 ∨ ce k = 110) (hP : PlaAt M 85 G N tl) (hN : 9 ≤ N) (hs : ce k = 100 → ∀ c, c < 9 → ct k c = tl c) (hQ : Q (.inl (some (.int 1))) M) : cl 6 [.ref 94, .int (nI k), .int (nI (ce k)), .ref 85] M Q := by
  obtain ⟨h1, ⟨ft, rt, vt⟩, -⟩ := hP
  have e1 : (nI (ce k) = 100) = (ce k = 100) := propext (nI_eq (b := 100) (by omega) (by decide))
  rw [e_6]
  simp only [g_6_0, g_6_1, g_6_2, g_6_5, g_6_6, g_6_9, g_6_10, g_6_11, g_6_12, g_6_16, g_6_18, g_6_21, g_6_22, g_6_24, g_6_27, g_6_28, g_6_29, g_6_31, g_6_34, g_6_35, g_6_38, g_6_40, g_6_43, g_6_46, g_6_47, g_6_48, g_6_51, g_6_54, g_6_55, qOb_some, kr_v, kr_n, qinv_i, qinv_r, qinv_0, Nat.reduceAdd, List.getElem?_cons_zero, List.getElem?_cons_succ, List.set_cons_zero, List.set_cons_succ, List.length_cons, List.length_nil, not_true_eq_false, not_false_eq_true, false_implies, true_implies, and_true, true_and, and_false, false_and, if_true, if_false, forall_const, or_true, true_or, false_or, or_false, i10, Bool.false_eq_true, qcls_of hC.1, s_endOf hC hn hk he]
  refine upto (N := 9) (I := fun _ _ => True) (G := fun c (_ : Unit) => g 6 14 [some (.ref 94), some (.int (nI k)), some (.int (nI (ce k))), some (.ref 85), some (.int (nI c))] [] M 0 0 Q) ?_ ?_ 0 () (Nat.zero_le _) trivial
  · intro _ _
    rw [g_6_14]
    simp only [g_6_0, g_6_1, g_6_2, g_6_5, g_6_6, g_6_9, g_6_10, g_6_11, g_6_12, g_6_16, g_6_18, g_6_21, g_6_22, g_6_24, g_6_27, g_6_28, g_6_29, g_6_31, g_6_34, g_6_35, g_6_38, g_6_40, g_6_43, g_6_46, g_6_47, g_6_48, g_6_51, g_6_54, g_6_55, qOb_some, kr_v, kr_n, qinv_i, qinv_r, qinv_0, Nat.reduceAdd, List.getElem?_cons_zero, List.getElem?_cons_succ, List.set_cons_zero, List.set_cons_succ, List.length_cons, List.length_nil, not_true_eq_false, not_false_eq_true, false_implies, true_implies, and_true, true_and, and_false, false_and, if_true, if_false, forall_const, or_true, true_or, false_or, or_false, i10, Bool.false_eq_true, show (9 : Int32) = nI 9 from rfl, Int32.le_refl]
    exact hQ
  · intro c _ hc _ ih
    have ih := ih () trivial
    rw [g_6_14]
    by_cases u : ce k = 100
    · have v := hs u c hc
      simp only [g_6_0, g_6_1, g_6_2, g_6_5, g_6_6, g_6_9, g_6_10, g_6_11, g_6_12, g_6_16, g_6_18, g_6_21, g_6_22, g_6_24, g_6_27, g_6_28, g_6_29, g_6_31, g_6_34, g_6_35, g_6_38, g_6_40, g_6_43, g_6_46, g_6_47, g_6_48, g_6_51, g_6_54, g_6_55, qOb_some, kr_v, kr_n, qinv_i, qinv_r, qinv_0, Nat.reduceAdd, List.getElem?_cons_zero, List.getElem?_cons_succ, List.set_cons_zero, List.set_cons_succ, List.length_cons, List.length_nil, not_true_eq_false, not_false_eq_true, false_implies, true_implies, and_true, true_and, and_false, false_and, if_true, if_false, forall_const, or_true, true_or, false_or, or_false, i10, Bool.false_eq_true, show (9 : Int32) = nI 9 from rfl, nI_ge hc (show 9 < 2 ^ 31 by decide), e1, eq_true u, qcls_of hC.1, s_tileOf hC hn hk hc u, qget_of h1, rt.cls, s_get rt (show 36 < 2147483648 by decide), rget_nI (show c < 36 by omega) (show 36 < 2147483648 by decide), vt c (show c < N by omega), v, nI_1]
      exact ih
    · simp only [g_6_0, g_6_1, g_6_2, g_6_5, g_6_6, g_6_9, g_6_10, g_6_11, g_6_12, g_6_16, g_6_18, g_6_21, g_6_22, g_6_24, g_6_27, g_6_28, g_6_29, g_6_31, g_6_34, g_6_35, g_6_38, g_6_40, g_6_43, g_6_46, g_6_47, g_6_48, g_6_51, g_6_54, g_6_55, qOb_some, kr_v, kr_n, qinv_i, qinv_r, qinv_0, Nat.reduceAdd, List.getElem?_cons_zero, List.getElem?_cons_succ, List.set_cons_zero, List.set_cons_succ, List.length_cons, List.length_nil, not_true_eq_false, not_false_eq_true, false_implies, true_implies, and_true, true_and, and_false, false_and, if_true, if_false, forall_const, or_true, true_or, false_or, or_false, i10, Bool.false_eq_true, show (9 : Int32) = nI 9 from rfl, nI_ge hc (show 9 < 2 ^ 31 by decide), e1, eq_false u]
      exact hQ
theorem s_clear {M : qM} {n : Nat} {cx cy : Nat → Int32} {ce : Nat → Nat} {ct : Nat → Nat → Nat} {Q : qR → qM → Prop} (hC : ChAt M n cx cy ce ct) (hQ : ∀ M', Fr 94 95 M M' → ChAt M' 0 cx cy ce ct → Q (.inl none) M') : cl 1 [.ref 94] M Q := by
  obtain ⟨h1, ⟨f, h2, h3⟩, ⟨f4, h4, h5⟩, ⟨f6, h6, h7⟩⟩ := hC
  have fr : Fr 94 95 M (M.set 94 (.inr (0, [.ref 95, .ref 97, .ref 99, .int 0]))) := Fr.set (by omega) (by omega)
  have h9 : (M.set 94 (.inr (0, [.ref 95, .ref 97, .ref 99, .int 0])))[94]? = some (.inr (0, [.ref 95, .ref 97, .ref 99, .int (nI 0)])) := get_set_eq h1
  rw [e_1]
  simp only [g_1_0, g_1_1, g_1_2, g_1_5, qOb_some, kr_v, kr_n, qinv_i, qinv_r, qinv_0, Nat.reduceAdd, List.getElem?_cons_zero, List.getElem?_cons_succ, List.set_cons_zero, List.set_cons_succ, List.length_cons, List.length_nil, not_true_eq_false, not_false_eq_true, false_implies, true_implies, and_true, true_and, and_false, false_and, if_true, if_false, forall_const, or_true, true_or, false_or, or_false, i10, Bool.false_eq_true, qput_i h1 (show 3 < 4 by decide) rfl]
  exact hQ _ fr ⟨h9, ⟨f, h2.fr fr (by omega), fun k hk => absurd hk (Nat.not_lt_zero _)⟩, ⟨f4, h4.fr fr (by omega), fun k hk => absurd hk (Nat.not_lt_zero _)⟩, ⟨f6, h6.fr fr (by omega), fun k c hk => absurd hk (Nat.not_lt_zero _)⟩⟩
def fuI (f : Nat → Int32) (k : Nat) (v : Int32) : Nat → Int32 := fun i => if i = k then v else f i
def fut (ct : Nat → Nat → Nat) (k : Nat) (v : Nat → Nat) : Nat → Nat → Nat := fun i => if i = k then v else ct i
theorem s_keep {M : qM} {n e G N : Nat} {cx cy : Nat → Int32} {ce : Nat → Nat} {ct : Nat → Nat → Nat} {tl tl' : Nat → Nat} {x y : Int32} {Q : qR → qM → Prop} (hC : ChAt M n cx cy ce ct) (hn : n < 30) (hP : PlaAt M 85 G N tl) (hN : 9 ≤ N) (hs : e = 100 → ∀ c, c < 9 → tl c = tl' c) (hQ : ∀ M', Fr 94 101 M M' → ChAt M' (n + 1) (upd cx n x) (upd cy n y) (fu ce n e) (fut ct n tl') → Q (.inl none) M') : cl 3 [.ref 94, .int x, .int y, .int (nI e), .ref 85] M Q := by
  obtain ⟨h1, ⟨f, h2, h3⟩, ⟨f4, h4, h5⟩, ⟨f6, h6, h7⟩⟩ := hC
  obtain ⟨p1, ⟨ft, pt, vt⟩, -⟩ := hP
  rw [e_3]
  simp only [g_3_0, g_3_1, g_3_4, g_3_5, g_3_6, g_3_9, g_3_10, g_3_11, g_3_14, g_3_15, g_3_18, g_3_19, g_3_20, g_3_23, g_3_24, g_3_25, g_3_26, g_3_27, g_3_30, g_3_31, g_3_34, g_3_35, g_3_38, g_3_39, g_3_42, g_3_43, g_3_47, g_3_49, g_3_52, g_3_53, g_3_56, g_3_57, g_3_60, g_3_62, g_3_63, g_3_65, g_3_66, g_3_68, g_3_71, g_3_73, g_3_76, g_3_79, g_3_82, g_3_85, g_3_86, g_3_87, g_3_90, g_3_91, g_3_92, g_3_95, qOb_some, kr_v, kr_n, qinv_i, qinv_r, qinv_0, Nat.reduceAdd, List.getElem?_cons_zero, List.getElem?_cons_succ, List.set_cons_zero, List.set_cons_succ, List.length_cons, List.length_nil, not_true_eq_false, not_false_eq_true, false_implies, true_implies, and_true, true_and, and_false, false_and, if_true, if_false, forall_const, or_true, true_or, false_or, or_false, i10, Bool.false_eq_true, qget_of h1, h2.cls, show (2 : Int32) = nI 2 from rfl, pk_mul]
  refine s_setF h2 (by decide) (show 2 * n < 60 by omega) (fun M1 a1 a2 => ?_)
  have h11 := (a1 94 (by omega)).trans h1
  simp only [g_3_0, g_3_1, g_3_4, g_3_5, g_3_6, g_3_9, g_3_10, g_3_11, g_3_14, g_3_15, g_3_18, g_3_19, g_3_20, g_3_23, g_3_24, g_3_25, g_3_26, g_3_27, g_3_30, g_3_31, g_3_34, g_3_35, g_3_38, g_3_39, g_3_42, g_3_43, g_3_47, g_3_49, g_3_52, g_3_53, g_3_56, g_3_57, g_3_60, g_3_62, g_3_63, g_3_65, g_3_66, g_3_68, g_3_71, g_3_73, g_3_76, g_3_79, g_3_82, g_3_85, g_3_86, g_3_87, g_3_90, g_3_91, g_3_92, g_3_95, qOb_some, kr_v, kr_n, qinv_i, qinv_r, qinv_0, Nat.reduceAdd, List.getElem?_cons_zero, List.getElem?_cons_succ, List.set_cons_zero, List.set_cons_succ, List.length_cons, List.length_nil, not_true_eq_false, not_false_eq_true, false_implies, true_implies, and_true, true_and, and_false, false_and, if_true, if_false, forall_const, or_true, true_or, false_or, or_false, i10, Bool.false_eq_true, qget_of h11, a2.cls, show (2 : Int32) = nI 2 from rfl, pk_mul, nI_1]
  refine s_setF a2 (by decide) (show 2 * n + 1 < 60 by omega) (fun M2 b1 b2 => ?_)
  have h12 := (b1 94 (by omega)).trans h11
  have h42 := (h4.fr a1 (by omega)).fr b1 (by omega)
  simp only [g_3_0, g_3_1, g_3_4, g_3_5, g_3_6, g_3_9, g_3_10, g_3_11, g_3_14, g_3_15, g_3_18, g_3_19, g_3_20, g_3_23, g_3_24, g_3_25, g_3_26, g_3_27, g_3_30, g_3_31, g_3_34, g_3_35, g_3_38, g_3_39, g_3_42, g_3_43, g_3_47, g_3_49, g_3_52, g_3_53, g_3_56, g_3_57, g_3_60, g_3_62, g_3_63, g_3_65, g_3_66, g_3_68, g_3_71, g_3_73, g_3_76, g_3_79, g_3_82, g_3_85, g_3_86, g_3_87, g_3_90, g_3_91, g_3_92, g_3_95, qOb_some, kr_v, kr_n, qinv_i, qinv_r, qinv_0, Nat.reduceAdd, List.getElem?_cons_zero, List.getElem?_cons_succ, List.set_cons_zero, List.set_cons_succ, List.length_cons, List.length_nil, not_true_eq_false, not_false_eq_true, false_implies, true_implies, and_true, true_and, and_false, false_and, if_true, if_false, forall_const, or_true, true_or, false_or, or_false, i10, Bool.false_eq_true, qget_of h12, h42.cls]
  refine s_setF h42 (by decide) (show n < 30 by omega) (fun M3 c1 c2 => ?_)
  have h13 := (c1 94 (by omega)).trans h12
  have fr3 : Fr 95 99 M M3 := ((a1.mono (by omega) (by omega)).trans (b1.mono (by omega) (by omega))).trans (c1.mono (by omega) (by omega))
  have h63 := h6.fr fr3 (by omega)
  have p13 := (fr3 85 (by omega)).trans p1
  have pt3 := pt.fr fr3 (by omega)
  simp only [g_3_0, g_3_1, g_3_4, g_3_5, g_3_6, g_3_9, g_3_10, g_3_11, g_3_14, g_3_15, g_3_18, g_3_19, g_3_20, g_3_23, g_3_24, g_3_25, g_3_26, g_3_27, g_3_30, g_3_31, g_3_34, g_3_35, g_3_38, g_3_39, g_3_42, g_3_43, g_3_47, g_3_49, g_3_52, g_3_53, g_3_56, g_3_57, g_3_60, g_3_62, g_3_63, g_3_65, g_3_66, g_3_68, g_3_71, g_3_73, g_3_76, g_3_79, g_3_82, g_3_85, g_3_86, g_3_87, g_3_90, g_3_91, g_3_92, g_3_95, qOb_some, kr_v, kr_n, qinv_i, qinv_r, qinv_0, Nat.reduceAdd, List.getElem?_cons_zero, List.getElem?_cons_succ, List.set_cons_zero, List.set_cons_succ, List.length_cons, List.length_nil, not_true_eq_false, not_false_eq_true, false_implies, true_implies, and_true, true_and, and_false, false_and, if_true, if_false, forall_const, or_true, true_or, false_or, or_false, i10, Bool.false_eq_true]
  refine upto (N := 9) (I := fun c M' => Fr 99 101 M3 M' ∧ ∃ f, RowAt M' 99 270 f ∧ (∀ k c, k < n → c < 9 → ce k = 100 → f (k * 9 + c) = nI (ct k c)) ∧ ∀ c', c' < c → f (n * 9 + c') = nI (tl c')) (G := fun c M' => g 3 45 [some (.ref 94), some (.int x), some (.int y), some (.int (nI e)), some (.ref 85), some (.int (nI c))] [] M' 0 0 Q) ?_ ?_ 0 M3 (Nat.zero_le _) ⟨Fr.refl, f6, h63, h7, fun c' hc => absurd hc (Nat.not_lt_zero _)⟩
  · rintro M4 ⟨d1, f', d2, d3, d4⟩
    have h14 := (d1 94 (by omega)).trans h13
    have fr5 : Fr 94 95 M4 (M4.set 94 (.inr (0, [.ref 95, .ref 97, .ref 99, .int (nI (n + 1))]))) := Fr.set (by omega) (by omega)
    rw [g_3_45]
    simp only [g_3_0, g_3_1, g_3_4, g_3_5, g_3_6, g_3_9, g_3_10, g_3_11, g_3_14, g_3_15, g_3_18, g_3_19, g_3_20, g_3_23, g_3_24, g_3_25, g_3_26, g_3_27, g_3_30, g_3_31, g_3_34, g_3_35, g_3_38, g_3_39, g_3_42, g_3_43, g_3_47, g_3_49, g_3_52, g_3_53, g_3_56, g_3_57, g_3_60, g_3_62, g_3_63, g_3_65, g_3_66, g_3_68, g_3_71, g_3_73, g_3_76, g_3_79, g_3_82, g_3_85, g_3_86, g_3_87, g_3_90, g_3_91, g_3_92, g_3_95, qOb_some, kr_v, kr_n, qinv_i, qinv_r, qinv_0, Nat.reduceAdd, List.getElem?_cons_zero, List.getElem?_cons_succ, List.set_cons_zero, List.set_cons_succ, List.length_cons, List.length_nil, not_true_eq_false, not_false_eq_true, false_implies, true_implies, and_true, true_and, and_false, false_and, if_true, if_false, forall_const, or_true, true_or, false_or, or_false, i10, Bool.false_eq_true, show (9 : Int32) = nI 9 from rfl, Int32.le_refl, qget_of h14, nI_1, qput_i h14 (show 3 < 4 by decide) rfl]
    refine hQ _ (((fr3.mono (by omega) (by omega)).trans (d1.mono (by omega) (by omega))).trans (fr5.mono (by omega) (by omega))) ⟨get_set_eq h14, ⟨_, ((b2.fr c1 (by omega)).fr d1 (by omega)).fr fr5 (by omega), fun k hk => ?_⟩, ⟨_, (c2.fr d1 (by omega)).fr fr5 (by omega), fun k hk => ?_⟩, ⟨f', d2.fr fr5 (by omega), fun k c hk hc he => ?_⟩⟩
    · by_cases q : k = n
      · subst q
        rw [upd_s, upd_s, upd_s, upd_n (by omega), upd_s]
        exact ⟨rfl, rfl⟩
      · obtain ⟨v1, v2⟩ := h3 k (by omega)
        refine ⟨?_, ?_⟩
        · rw [upd_n (j := 2 * k) (by omega), upd_n (j := 2 * k) (by omega), upd_n q]
          exact v1
        · rw [upd_n (j := 2 * k + 1) (by omega), upd_n (j := 2 * k + 1) (by omega), upd_n q]
          exact v2
    · by_cases q : k = n
      · rw [q, upd_s, fu_s]
      · rw [upd_n q, fu_n q]; exact h5 k (by omega)
    · by_cases q : k = n
      · subst q
        rw [fu_s] at he
        simp only [fut, if_true]
        rw [d4 c hc, hs he c hc]
      · rw [fu_n q] at he
        simp only [fut, q, if_false]
        exact d3 k c (by omega) hc he
  · rintro c M4 hc ⟨d1, f', d2, d3, d4⟩ ih
    have h14 := (d1 94 (by omega)).trans h13
    have p14 := (d1 85 (by omega)).trans p13
    have pt4 := pt3.fr d1 (by omega)
    rw [g_3_45]
    simp only [g_3_0, g_3_1, g_3_4, g_3_5, g_3_6, g_3_9, g_3_10, g_3_11, g_3_14, g_3_15, g_3_18, g_3_19, g_3_20, g_3_23, g_3_24, g_3_25, g_3_26, g_3_27, g_3_30, g_3_31, g_3_34, g_3_35, g_3_38, g_3_39, g_3_42, g_3_43, g_3_47, g_3_49, g_3_52, g_3_53, g_3_56, g_3_57, g_3_60, g_3_62, g_3_63, g_3_65, g_3_66, g_3_68, g_3_71, g_3_73, g_3_76, g_3_79, g_3_82, g_3_85, g_3_86, g_3_87, g_3_90, g_3_91, g_3_92, g_3_95, qOb_some, kr_v, kr_n, qinv_i, qinv_r, qinv_0, Nat.reduceAdd, List.getElem?_cons_zero, List.getElem?_cons_succ, List.set_cons_zero, List.set_cons_succ, List.length_cons, List.length_nil, not_true_eq_false, not_false_eq_true, false_implies, true_implies, and_true, true_and, and_false, false_and, if_true, if_false, forall_const, or_true, true_or, false_or, or_false, i10, Bool.false_eq_true, show (9 : Int32) = nI 9 from rfl, nI_ge hc (show 9 < 2 ^ 31 by decide), qget_of h14, pk_mul, nI_add, qget_of p14, pt4.cls, s_get pt4 (show 36 < 2147483648 by decide), rget_nI (show c < 36 by omega) (show 36 < 2147483648 by decide), vt c (show c < N by omega), d2.cls]
    refine s_setF d2 (by decide) (show n * 9 + c < 270 by omega) (fun M5 e1 e2 => ?_)
    simp only [g_3_0, g_3_1, g_3_4, g_3_5, g_3_6, g_3_9, g_3_10, g_3_11, g_3_14, g_3_15, g_3_18, g_3_19, g_3_20, g_3_23, g_3_24, g_3_25, g_3_26, g_3_27, g_3_30, g_3_31, g_3_34, g_3_35, g_3_38, g_3_39, g_3_42, g_3_43, g_3_47, g_3_49, g_3_52, g_3_53, g_3_56, g_3_57, g_3_60, g_3_62, g_3_63, g_3_65, g_3_66, g_3_68, g_3_71, g_3_73, g_3_76, g_3_79, g_3_82, g_3_85, g_3_86, g_3_87, g_3_90, g_3_91, g_3_92, g_3_95, qOb_some, kr_v, kr_n, qinv_i, qinv_r, qinv_0, Nat.reduceAdd, List.getElem?_cons_zero, List.getElem?_cons_succ, List.set_cons_zero, List.set_cons_succ, List.length_cons, List.length_nil, not_true_eq_false, not_false_eq_true, false_implies, true_implies, and_true, true_and, and_false, false_and, if_true, if_false, forall_const, or_true, true_or, false_or, or_false, i10, Bool.false_eq_true, nI_1]
    refine ih M5 ⟨d1.trans (e1.mono (by omega) (by omega)), _, e2, fun k c' hk hc' he => ?_, fun c' hc' => ?_⟩
    · rw [upd_n (by omega)]
      exact d3 k c' hk hc' he
    · by_cases q : c' = c
      · rw [q, upd_s]
      · rw [upd_n (by omega)]
        exact d4 c' (by omega)
