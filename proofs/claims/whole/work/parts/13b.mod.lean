/-! the model's neighbours and the tiles that fit beside some -/
theorem in_nI {a w : Nat} (hw : 0 < w) (hw2 : w < 1000) (ha : a < 1000) : (0 ≤ nI a ∧ nI a ≤ nI w - 1) ↔ a < w := by
  rw [show nI w - 1 = nI (w - 1) from pk_sub (b := 1) hw, nI_leI (by omega) (by omega)]
  constructor
  · intro q; omega
  · intro q
    exact ⟨nI_pos' (by omega), by omega⟩
theorem in_m1 {x : Int32} : (0 ≤ (-1 : Int32) ∧ (-1 : Int32) ≤ x) ↔ False := by
  constructor
  · rintro ⟨q, -⟩
    exact absurd q (by decide)
  · exact False.elim
theorem m_beside {M : qM} {s : Nat → Int32} {w h k d : Nat} {Q : qR → qM → Prop} (hM : ModAt M s) (hw : s 20 = nI w) (hh : s 21 = nI h) (hD : Dim w h) (hk : k < w * h) (hd : d < 4) : cl 122 [.ref 101, .int (nI k), .int (nI d)] M Q ↔ Q (.inl (some (.int (nbI (nb w h k d))))) M := by
  have hN := hD.le
  obtain ⟨hw0, hw6, hh0, hh6⟩ := hD
  have e := Nat.div_add_mod k w
  have hm := Nat.mod_lt k hw0
  have hq : k / w < h := Nat.div_lt_of_lt_mul hk
  have tail : ∀ X Y : Int32, g 122 54 [some (.ref 101), some (.int (nI k)), some (.int (nI d)), some (.int X), some (.int Y)] [] M 0 0 Q ↔ Q (.inl (some (.int (if (0 ≤ X ∧ X ≤ nI w - 1) ∧ (0 ≤ Y ∧ Y ≤ nI h - 1) then nI w * Y + X else -1)))) M := by
    intro X Y
    by_cases q1 : 0 ≤ X ∧ X ≤ nI w - 1
    · by_cases q2 : 0 ≤ Y ∧ Y ≤ nI h - 1
      · simp only [g_122_0, g_122_1, g_122_2, g_122_5, g_122_6, g_122_7, g_122_8, g_122_11, g_122_12, g_122_15, g_122_16, g_122_17, g_122_20, g_122_21, g_122_24, g_122_25, g_122_26, g_122_27, g_122_28, g_122_29, g_122_32, g_122_33, g_122_34, g_122_35, g_122_38, g_122_39, g_122_42, g_122_43, g_122_46, g_122_47, g_122_50, g_122_51, g_122_52, g_122_54, g_122_55, g_122_56, g_122_57, g_122_60, g_122_61, g_122_62, g_122_65, g_122_68, g_122_70, g_122_71, g_122_72, g_122_75, g_122_76, g_122_77, g_122_80, g_122_83, g_122_84, g_122_87, g_122_89, g_122_90, g_122_91, g_122_92, g_122_95, g_122_96, qOb_some, kr_v, kr_n, qinv_i, qinv_r, qinv_0, Nat.reduceAdd, List.getElem?_cons_zero, List.getElem?_cons_succ, List.set_cons_zero, List.set_cons_succ, List.length_cons, List.length_nil, mget hM, mo_20, mo_21, hw, hh, m_in, bI_0, q1, q2, not_true_eq_false, not_false_eq_true, false_implies, true_implies, and_true, true_and, and_false, false_and, if_true, if_false, forall_const, or_true, true_or, false_or, or_false, i10, Bool.false_eq_true]
      · simp only [g_122_0, g_122_1, g_122_2, g_122_5, g_122_6, g_122_7, g_122_8, g_122_11, g_122_12, g_122_15, g_122_16, g_122_17, g_122_20, g_122_21, g_122_24, g_122_25, g_122_26, g_122_27, g_122_28, g_122_29, g_122_32, g_122_33, g_122_34, g_122_35, g_122_38, g_122_39, g_122_42, g_122_43, g_122_46, g_122_47, g_122_50, g_122_51, g_122_52, g_122_54, g_122_55, g_122_56, g_122_57, g_122_60, g_122_61, g_122_62, g_122_65, g_122_68, g_122_70, g_122_71, g_122_72, g_122_75, g_122_76, g_122_77, g_122_80, g_122_83, g_122_84, g_122_87, g_122_89, g_122_90, g_122_91, g_122_92, g_122_95, g_122_96, qOb_some, kr_v, kr_n, qinv_i, qinv_r, qinv_0, Nat.reduceAdd, List.getElem?_cons_zero, List.getElem?_cons_succ, List.set_cons_zero, List.set_cons_succ, List.length_cons, List.length_nil, mget hM, mo_20, mo_21, hw, hh, m_in, bI_0, q1, q2, not_true_eq_false, not_false_eq_true, false_implies, true_implies, and_true, true_and, and_false, false_and, if_true, if_false, forall_const, or_true, true_or, false_or, or_false, i10, Bool.false_eq_true]
    · simp only [g_122_0, g_122_1, g_122_2, g_122_5, g_122_6, g_122_7, g_122_8, g_122_11, g_122_12, g_122_15, g_122_16, g_122_17, g_122_20, g_122_21, g_122_24, g_122_25, g_122_26, g_122_27, g_122_28, g_122_29, g_122_32, g_122_33, g_122_34, g_122_35, g_122_38, g_122_39, g_122_42, g_122_43, g_122_46, g_122_47, g_122_50, g_122_51, g_122_52, g_122_54, g_122_55, g_122_56, g_122_57, g_122_60, g_122_61, g_122_62, g_122_65, g_122_68, g_122_70, g_122_71, g_122_72, g_122_75, g_122_76, g_122_77, g_122_80, g_122_83, g_122_84, g_122_87, g_122_89, g_122_90, g_122_91, g_122_92, g_122_95, g_122_96, qOb_some, kr_v, kr_n, qinv_i, qinv_r, qinv_0, Nat.reduceAdd, List.getElem?_cons_zero, List.getElem?_cons_succ, List.set_cons_zero, List.set_cons_succ, List.length_cons, List.length_nil, mget hM, mo_20, mo_21, hw, hh, m_in, bI_0, q1, not_true_eq_false, not_false_eq_true, false_implies, true_implies, and_true, true_and, and_false, false_and, if_true, if_false, forall_const, or_true, true_or, false_or, or_false, i10, Bool.false_eq_true]
  have hdv : nI k / nI w = nI (k / w) := pk_div (by omega) hw0 (by omega)
  have hrm : nI k - nI (k / w) * nI w = nI (k % w) := by
    rw [← hdv]
    exact pk_rem (by omega) hw0 (by omega)
  have hw00 := nI_ne0 hw0 (show w < 2 ^ 31 by omega)
  rw [e_122]
  have hd4 : d = 0 ∨ d = 1 ∨ d = 2 ∨ d = 3 := by omega
  rcases hd4 with rfl | rfl | rfl | rfl
  · simp only [g_122_0, g_122_1, g_122_2, g_122_5, g_122_6, g_122_7, g_122_8, g_122_11, g_122_12, g_122_15, g_122_16, g_122_17, g_122_20, g_122_21, g_122_24, g_122_25, g_122_26, g_122_27, g_122_28, g_122_29, g_122_32, g_122_33, g_122_34, g_122_35, g_122_38, g_122_39, g_122_42, g_122_43, g_122_46, g_122_47, g_122_50, g_122_51, g_122_52, g_122_55, g_122_56, g_122_57, g_122_60, g_122_61, g_122_62, g_122_65, g_122_68, g_122_70, g_122_71, g_122_72, g_122_75, g_122_76, g_122_77, g_122_80, g_122_83, g_122_84, g_122_87, g_122_89, g_122_90, g_122_91, g_122_92, g_122_95, g_122_96, qOb_some, kr_v, kr_n, qinv_i, qinv_r, qinv_0, Nat.reduceAdd, List.getElem?_cons_zero, List.getElem?_cons_succ, List.set_cons_zero, List.set_cons_succ, List.length_cons, List.length_nil, mget hM, mo_20, hw, hw00, not_true_eq_false, not_false_eq_true, false_implies, true_implies, and_true, true_and, and_false, false_and, if_true, if_false, forall_const, or_true, true_or, false_or, or_false, i10, Bool.false_eq_true, hdv, hrm, show (nI 0 = 1) = False from eq_false (by decide), show (nI 0 = 3) = False from eq_false (by decide), show (nI 0 = 2) = False from eq_false (by decide), show (nI 0 = 0) = True from eq_true rfl, nI_add0, tail]
    by_cases h1 : 0 < k / w
    · obtain ⟨m, hm2⟩ : ∃ m, k / w = m + 1 := ⟨k / w - 1, by omega⟩
      rw [hm2, pk_m1, if_pos ⟨(in_nI hw0 (by omega) (by omega)).mpr hm, (in_nI hh0 (by omega) (by omega)).mpr (by omega)⟩, pk_mul, nI_add]
      have e2 : w * m + k % w = k - w := by
        rw [hm2, Nat.mul_succ] at e
        omega
      simp only [nb, hm2, e2, nbI, if_true, Nat.succ_pos]
    · have h0 : k / w = 0 := Nat.eq_zero_of_not_pos h1
      rw [h0, show nI 0 + (-1) = -1 from rfl, if_neg (fun q => in_m1.mp q.2)]
      simp only [nb, h0, if_true, Nat.lt_irrefl, if_false, nbI]
  · simp only [g_122_0, g_122_1, g_122_2, g_122_5, g_122_6, g_122_7, g_122_8, g_122_11, g_122_12, g_122_15, g_122_16, g_122_17, g_122_20, g_122_21, g_122_24, g_122_25, g_122_26, g_122_27, g_122_28, g_122_29, g_122_32, g_122_33, g_122_34, g_122_35, g_122_38, g_122_39, g_122_42, g_122_43, g_122_46, g_122_47, g_122_50, g_122_51, g_122_52, g_122_55, g_122_56, g_122_57, g_122_60, g_122_61, g_122_62, g_122_65, g_122_68, g_122_70, g_122_71, g_122_72, g_122_75, g_122_76, g_122_77, g_122_80, g_122_83, g_122_84, g_122_87, g_122_89, g_122_90, g_122_91, g_122_92, g_122_95, g_122_96, qOb_some, kr_v, kr_n, qinv_i, qinv_r, qinv_0, Nat.reduceAdd, List.getElem?_cons_zero, List.getElem?_cons_succ, List.set_cons_zero, List.set_cons_succ, List.length_cons, List.length_nil, mget hM, mo_20, hw, hw00, not_true_eq_false, not_false_eq_true, false_implies, true_implies, and_true, true_and, and_false, false_and, if_true, if_false, forall_const, or_true, true_or, false_or, or_false, i10, Bool.false_eq_true, hdv, hrm, show (nI 1 = 1) = True from eq_true rfl, show (nI 1 = 3) = False from eq_false (by decide), show (nI 1 = 2) = False from eq_false (by decide), show (nI 1 = 0) = False from eq_false (by decide), nI_add0, nI_1, tail]
    by_cases h1 : k % w + 1 < w
    · rw [if_pos ⟨(in_nI hw0 (by omega) (by omega)).mpr h1, (in_nI hh0 (by omega) (by omega)).mpr hq⟩, pk_mul, nI_add]
      have e2 : w * (k / w) + (k % w + 1) = k + 1 := by omega
      simp only [nb, show ¬ 1 = 0 by decide, h1, e2, nbI, if_true, if_false]
    · rw [if_neg (fun q => h1 ((in_nI hw0 (by omega) (by omega)).mp q.1))]
      simp only [nb, show ¬ 1 = 0 by decide, h1, nbI, if_true, if_false]
  · simp only [g_122_0, g_122_1, g_122_2, g_122_5, g_122_6, g_122_7, g_122_8, g_122_11, g_122_12, g_122_15, g_122_16, g_122_17, g_122_20, g_122_21, g_122_24, g_122_25, g_122_26, g_122_27, g_122_28, g_122_29, g_122_32, g_122_33, g_122_34, g_122_35, g_122_38, g_122_39, g_122_42, g_122_43, g_122_46, g_122_47, g_122_50, g_122_51, g_122_52, g_122_55, g_122_56, g_122_57, g_122_60, g_122_61, g_122_62, g_122_65, g_122_68, g_122_70, g_122_71, g_122_72, g_122_75, g_122_76, g_122_77, g_122_80, g_122_83, g_122_84, g_122_87, g_122_89, g_122_90, g_122_91, g_122_92, g_122_95, g_122_96, qOb_some, kr_v, kr_n, qinv_i, qinv_r, qinv_0, Nat.reduceAdd, List.getElem?_cons_zero, List.getElem?_cons_succ, List.set_cons_zero, List.set_cons_succ, List.length_cons, List.length_nil, mget hM, mo_20, hw, hw00, not_true_eq_false, not_false_eq_true, false_implies, true_implies, and_true, true_and, and_false, false_and, if_true, if_false, forall_const, or_true, true_or, false_or, or_false, i10, Bool.false_eq_true, hdv, hrm, show (nI 2 = 1) = False from eq_false (by decide), show (nI 2 = 3) = False from eq_false (by decide), show (nI 2 = 2) = True from eq_true rfl, show (nI 2 = 0) = False from eq_false (by decide), nI_add0, nI_1, tail]
    by_cases h1 : k / w + 1 < h
    · rw [if_pos ⟨(in_nI hw0 (by omega) (by omega)).mpr hm, (in_nI hh0 (by omega) (by omega)).mpr h1⟩, pk_mul, nI_add]
      have e2 : w * (k / w + 1) + k % w = k + w := by
        rw [Nat.mul_succ]
        omega
      simp only [nb, show ¬ 2 = 0 by decide, show ¬ 2 = 1 by decide, h1, e2, nbI, if_true, if_false]
    · rw [if_neg (fun q => h1 ((in_nI hh0 (by omega) (by omega)).mp q.2))]
      simp only [nb, show ¬ 2 = 0 by decide, show ¬ 2 = 1 by decide, h1, nbI, if_true, if_false]
  · simp only [g_122_0, g_122_1, g_122_2, g_122_5, g_122_6, g_122_7, g_122_8, g_122_11, g_122_12, g_122_15, g_122_16, g_122_17, g_122_20, g_122_21, g_122_24, g_122_25, g_122_26, g_122_27, g_122_28, g_122_29, g_122_32, g_122_33, g_122_34, g_122_35, g_122_38, g_122_39, g_122_42, g_122_43, g_122_46, g_122_47, g_122_50, g_122_51, g_122_52, g_122_55, g_122_56, g_122_57, g_122_60, g_122_61, g_122_62, g_122_65, g_122_68, g_122_70, g_122_71, g_122_72, g_122_75, g_122_76, g_122_77, g_122_80, g_122_83, g_122_84, g_122_87, g_122_89, g_122_90, g_122_91, g_122_92, g_122_95, g_122_96, qOb_some, kr_v, kr_n, qinv_i, qinv_r, qinv_0, Nat.reduceAdd, List.getElem?_cons_zero, List.getElem?_cons_succ, List.set_cons_zero, List.set_cons_succ, List.length_cons, List.length_nil, mget hM, mo_20, hw, hw00, not_true_eq_false, not_false_eq_true, false_implies, true_implies, and_true, true_and, and_false, false_and, if_true, if_false, forall_const, or_true, true_or, false_or, or_false, i10, Bool.false_eq_true, hdv, hrm, show (nI 3 = 1) = False from eq_false (by decide), show (nI 3 = 3) = True from eq_true rfl, show (nI 3 = 2) = False from eq_false (by decide), show (nI 3 = 0) = False from eq_false (by decide), nI_add0, nI_1, tail]
    by_cases h1 : 0 < k % w
    · obtain ⟨m, hm2⟩ : ∃ m, k % w = m + 1 := ⟨k % w - 1, by omega⟩
      rw [hm2, pk_m1, if_pos ⟨(in_nI hw0 (by omega) (by omega)).mpr (by omega), (in_nI hh0 (by omega) (by omega)).mpr hq⟩, pk_mul, nI_add]
      have e2 : w * (k / w) + m = k - 1 := by omega
      simp only [nb, show ¬ 3 = 0 by decide, show ¬ 3 = 1 by decide, show ¬ 3 = 2 by decide, hm2, e2, nbI, if_true, if_false, Nat.succ_pos]
    · have h0 : k % w = 0 := by omega
      rw [h0, show nI 0 + (-1) = -1 from rfl, if_neg (fun q => in_m1.mp q.1)]
      simp only [nb, show ¬ 3 = 0 by decide, show ¬ 3 = 1 by decide, show ¬ 3 = 2 by decide, h0, Nat.lt_irrefl, if_false, nbI]
theorem m_fitting {M : qM} {s : Nat → Int32} {T : TS} {b d : Nat} {Q : qR → qM → Prop} (hM : ModAt M s) (hT : MTil M s T) (hk : TOk T) (hb : b < 256) (hd : d < 4) : cl 123 [.ref 101, .int (nI b), .int (nI d)] M Q ↔ Q (.inl (some (.int (nI (fitM T b d))))) M := by
  refine cl_iff (fun Q hQ => ?_)
  have h8 := hk.1
  rw [e_123]
  simp only [g_123_0, g_123_1, g_123_2, g_123_3, g_123_7, g_123_8, g_123_11, g_123_14, g_123_15, g_123_19, g_123_20, g_123_23, g_123_26, g_123_27, g_123_28, g_123_30, g_123_31, g_123_32, g_123_33, g_123_34, g_123_37, g_123_38, g_123_40, g_123_42, g_123_43, g_123_46, g_123_49, g_123_50, g_123_52, g_123_53, g_123_56, g_123_57, g_123_58, g_123_59, g_123_62, g_123_65, g_123_68, g_123_71, g_123_72, qOb_some, kr_v, kr_n, qinv_i, qinv_r, qinv_0, Nat.reduceAdd, List.getElem?_cons_zero, List.getElem?_cons_succ, List.set_cons_zero, List.set_cons_succ, List.length_cons, List.length_nil]
  refine upto (N := T.n) (I := fun t (a : Nat × Option Value) => a.1 < 256 ∧ ∀ u, a.1.testBit u = true ↔ u < T.n ∧ ∃ t', t' < t ∧ b.testBit t' = true ∧ T.c t' d = T.c u (op d)) (G := fun t (a : Nat × Option Value) => g 123 5 [some (.ref 101), some (.int (nI b)), some (.int (nI d)), some (.int (nI a.1)), some (.int (nI t)), a.2] [] M 0 0 Q) ?_ ?_ 0 (0, none) (Nat.zero_le _) ⟨by decide, fun u => ?_⟩
  · rintro ⟨F, l5⟩ ⟨hF, hbt⟩
    have e : F = fitM T b d := by
      refine msk_ext hF (fitM_lt hk b d) (fun u _ => ?_)
      rw [Bool.eq_iff_iff, hbt, fitM_bit]
    rw [g_123_5]
    simp only [g_123_0, g_123_1, g_123_2, g_123_3, g_123_7, g_123_8, g_123_11, g_123_14, g_123_15, g_123_19, g_123_20, g_123_23, g_123_26, g_123_27, g_123_28, g_123_30, g_123_31, g_123_32, g_123_33, g_123_34, g_123_37, g_123_38, g_123_40, g_123_42, g_123_43, g_123_46, g_123_49, g_123_50, g_123_52, g_123_53, g_123_56, g_123_57, g_123_58, g_123_59, g_123_62, g_123_65, g_123_68, g_123_71, g_123_72, qOb_some, kr_v, kr_n, qinv_i, qinv_r, qinv_0, Nat.reduceAdd, List.getElem?_cons_zero, List.getElem?_cons_succ, List.set_cons_zero, List.set_cons_succ, List.length_cons, List.length_nil, mget hM, mo_1, hT.1, Int32.le_refl, not_true_eq_false, not_false_eq_true, false_implies, true_implies, and_true, true_and, and_false, false_and, if_true, if_false, forall_const, or_true, true_or, false_or, or_false, i10, Bool.false_eq_true, e]
    exact hQ
  · rintro t ⟨F, l5⟩ ht ⟨hF, hbt⟩ ih
    rw [g_123_5]
    simp only [g_123_0, g_123_1, g_123_2, g_123_3, g_123_7, g_123_8, g_123_11, g_123_14, g_123_15, g_123_19, g_123_20, g_123_23, g_123_26, g_123_27, g_123_28, g_123_30, g_123_31, g_123_32, g_123_33, g_123_34, g_123_37, g_123_38, g_123_40, g_123_42, g_123_43, g_123_46, g_123_49, g_123_50, g_123_52, g_123_53, g_123_56, g_123_57, g_123_58, g_123_59, g_123_62, g_123_65, g_123_68, g_123_71, g_123_72, qOb_some, kr_v, kr_n, qinv_i, qinv_r, qinv_0, Nat.reduceAdd, List.getElem?_cons_zero, List.getElem?_cons_succ, List.set_cons_zero, List.set_cons_succ, List.length_cons, List.length_nil, mget hM, mo_1, hT.1, nI_ge ht (show T.n < 2 ^ 31 by omega), not_true_eq_false, not_false_eq_true, false_implies, true_implies, and_true, true_and, and_false, false_and, if_true, if_false, forall_const, or_true, true_or, false_or, or_false, i10, Bool.false_eq_true]
    refine upto (N := T.n) (I := fun o F2 => F2 < 256 ∧ ∀ u, F2.testBit u = true ↔ u < T.n ∧ ((∃ t', t' < t ∧ b.testBit t' = true ∧ T.c t' d = T.c u (op d)) ∨ (u < o ∧ b.testBit t = true ∧ T.c t d = T.c u (op d)))) (G := fun o F2 => g 123 17 [some (.ref 101), some (.int (nI b)), some (.int (nI d)), some (.int (nI F2)), some (.int (nI t)), some (.int (nI o))] [] M 0 0 Q) ?_ ?_ 0 F (Nat.zero_le _) ⟨hF, fun u => ?_⟩
    · rintro F2 ⟨hF2, hb2⟩
      rw [g_123_17]
      simp only [g_123_0, g_123_1, g_123_2, g_123_3, g_123_7, g_123_8, g_123_11, g_123_14, g_123_15, g_123_19, g_123_20, g_123_23, g_123_26, g_123_27, g_123_28, g_123_30, g_123_31, g_123_32, g_123_33, g_123_34, g_123_37, g_123_38, g_123_40, g_123_42, g_123_43, g_123_46, g_123_49, g_123_50, g_123_52, g_123_53, g_123_56, g_123_57, g_123_58, g_123_59, g_123_62, g_123_65, g_123_68, g_123_71, g_123_72, qOb_some, kr_v, kr_n, qinv_i, qinv_r, qinv_0, Nat.reduceAdd, List.getElem?_cons_zero, List.getElem?_cons_succ, List.set_cons_zero, List.set_cons_succ, List.length_cons, List.length_nil, mget hM, mo_1, hT.1, Int32.le_refl, not_true_eq_false, not_false_eq_true, false_implies, true_implies, and_true, true_and, and_false, false_and, if_true, if_false, forall_const, or_true, true_or, false_or, or_false, i10, Bool.false_eq_true, nI_1]
      refine ih (F2, _) ⟨hF2, fun u => ?_⟩
      rw [hb2]
      refine and_congr_right (fun hu => ⟨?_, ?_⟩)
      · rintro (⟨t', q1, q2⟩ | ⟨q1, q2⟩)
        · exact ⟨t', by omega, q2⟩
        · exact ⟨t, by omega, q2⟩
      · rintro ⟨t', q1, q2⟩
        by_cases q : t' = t
        · subst q; exact Or.inr ⟨hu, q2⟩
        · exact Or.inl ⟨t', by omega, q2⟩
    · rintro o F2 ho ⟨hF2, hb2⟩ ih2
      rw [g_123_17]
      simp only [g_123_0, g_123_1, g_123_2, g_123_3, g_123_7, g_123_8, g_123_11, g_123_14, g_123_15, g_123_19, g_123_20, g_123_23, g_123_26, g_123_27, g_123_28, g_123_30, g_123_31, g_123_32, g_123_33, g_123_34, g_123_37, g_123_38, g_123_40, g_123_42, g_123_43, g_123_46, g_123_49, g_123_50, g_123_52, g_123_53, g_123_56, g_123_57, g_123_58, g_123_59, g_123_62, g_123_65, g_123_68, g_123_71, g_123_72, qOb_some, kr_v, kr_n, qinv_i, qinv_r, qinv_0, Nat.reduceAdd, List.getElem?_cons_zero, List.getElem?_cons_succ, List.set_cons_zero, List.set_cons_succ, List.length_cons, List.length_nil, mget hM, mo_1, hT.1, nI_ge ho (show T.n < 2 ^ 31 by omega), not_true_eq_false, not_false_eq_true, false_implies, true_implies, and_true, true_and, and_false, false_and, if_true, if_false, forall_const, or_true, true_or, false_or, or_false, i10, Bool.false_eq_true, nI_shr1 t (show t < 8 by omega) b hb, hM.cls, m_fit hM hT hk ht ho hd, bI_0, nI_shl1 o (show o < 8 by omega), nI_or, nI_1]
      have hor : F2 ||| 2 ^ o < 256 := or_lt hF2 (by
        have : 2 ^ o ≤ 2 ^ 7 := Nat.pow_le_pow_right (by decide) (by omega)
        omega)
      have non : ¬ (b.testBit t = true ∧ T.c t d = T.c o (op d)) → g 123 17 [some (.ref 101), some (.int (nI b)), some (.int (nI d)), some (.int (nI F2)), some (.int (nI t)), some (.int (nI (o + 1)))] [] M 0 0 Q := by
        intro hno
        refine ih2 F2 ⟨hF2, fun u => ?_⟩
        rw [hb2]
        refine and_congr_right (fun hu => or_congr_right ⟨fun q => ⟨by omega, q.2⟩, fun q => ⟨?_, q.2⟩⟩)
        by_cases e : u = o
        · subst e; exact absurd q.2 hno
        · omega
      have hz : ∀ x : Nat, nI x ||| 0 = nI x := fun x => (nI_or x 0).trans (congrArg nI (Nat.or_zero x))
      by_cases u1 : b.testBit t = true
      · by_cases u2 : T.c t d = T.c o (op d)
        · simp only [u1, u2, not_true_eq_false, not_false_eq_true, false_implies, true_implies, and_true, true_and, and_false, false_and, if_true, if_false, forall_const, or_true, true_or, false_or, or_false, i10, Bool.false_eq_true]
          refine ih2 _ ⟨hor, fun u => ?_⟩
          rw [Nat.testBit_or, Bool.or_eq_true, hb2, Nat.testBit_two_pow, decide_eq_true_eq]
          constructor
          · rintro (⟨q1, q2 | q2⟩ | q)
            · exact ⟨q1, Or.inl q2⟩
            · exact ⟨q1, Or.inr ⟨by omega, q2.2⟩⟩
            · subst q
              exact ⟨ho, Or.inr ⟨by omega, u1, u2⟩⟩
          · rintro ⟨q1, q2 | q2⟩
            · exact Or.inl ⟨q1, Or.inl q2⟩
            · by_cases e : o = u
              · exact Or.inr e
              · exact Or.inl ⟨q1, Or.inr ⟨by omega, q2.2⟩⟩
        · simp only [u1, u2, not_true_eq_false, not_false_eq_true, false_implies, true_implies, and_true, true_and, and_false, false_and, if_true, if_false, forall_const, or_true, true_or, false_or, or_false, i10, Bool.false_eq_true, hz]
          exact non (fun q => u2 q.2)
      · simp only [u1, not_true_eq_false, not_false_eq_true, false_implies, true_implies, and_true, true_and, and_false, false_and, if_true, if_false, forall_const, or_true, true_or, false_or, or_false, i10, Bool.false_eq_true, hz, show ((0 : Int32) = 1) = False from eq_false (by decide)]
        exact non (fun q => u1 q.1)
    · rw [hbt]
      refine and_congr_right (fun hu => ⟨fun q => Or.inl q, ?_⟩)
      rintro (q | q)
      · exact q
      · exact absurd q.1 (Nat.not_lt_zero _)
  · constructor
    · intro q
      simp at q
    · rintro ⟨_, t', q, _⟩
      exact absurd q (Nat.not_lt_zero _)
