/-! the tiles, on: those that fit beside some, the lowest, the drawn; how many; what wishes allow -/
theorem and_ne0 {a b : Nat} : ¬ a &&& b = 0 ↔ ∃ t, a.testBit t = true ∧ b.testBit t = true := by
  constructor
  · intro h
    by_cases q : ∃ t, a.testBit t = true ∧ b.testBit t = true
    · exact q
    · exfalso
      apply h
      apply Nat.eq_of_testBit_eq
      intro i
      rw [Nat.testBit_and]
      cases ha : a.testBit i
      · simp
      · cases hb : b.testBit i
        · simp
        · exact absurd ⟨i, ha, hb⟩ q
  · rintro ⟨t, h1, h2⟩ h
    have : (a &&& b).testBit t = true := by rw [Nat.testBit_and, h1, h2]; rfl
    rw [h] at this
    simp at this
theorem byE_bit {T : TS} {d q t : Nat} : (byE T d q).testBit t = true ↔ t < T.n ∧ T.c t d = q := by
  unfold byE
  rw [mk_bit]
  simp
theorem s_fittingBeside {M : qM} {T : TS} {s d : Nat} {Q : qR → qM → Prop} (hT : TilesAt M T) (hk : TOk T) (hs : s < 256) (hd : d < 4) : cl 48 [.ref 1, .int (nI s), .int (nI d)] M Q ↔ Q (.inl (some (.int (nI (fitM T s d))))) M := by
  refine cl_iff (fun Q hQ => ?_)
  obtain ⟨h1, -, -, ⟨f, h2, h3⟩⟩ := hT
  have ho := op_lt d
  rw [e_48]
  simp only [g_48_0, g_48_1, g_48_4, g_48_5, g_48_6, g_48_8, g_48_9, g_48_13, g_48_14, g_48_17, g_48_18, g_48_19, g_48_22, g_48_23, g_48_24, g_48_25, g_48_27, g_48_28, g_48_31, g_48_32, g_48_35, g_48_37, g_48_38, g_48_41, g_48_42, g_48_43, g_48_44, g_48_46, g_48_47, g_48_50, g_48_51, g_48_53, g_48_56, g_48_59, g_48_61, qOb_some, kr_v, kr_n, qinv_i, qinv_r, qinv_0, Nat.reduceAdd, List.getElem?_cons_zero, List.getElem?_cons_succ, List.set_cons_zero, List.set_cons_succ, List.length_cons, List.length_nil, s_opposite hd]
  refine upto (N := 4) (I := fun k F => F < 256 ∧ ∀ u, F.testBit u = true ↔ u < T.n ∧ ∃ t, t < T.n ∧ s.testBit t = true ∧ T.c t d = T.c u (op d) ∧ T.c t d < k) (G := fun k F => g 48 11 [some (.ref 1), some (.int (nI s)), some (.int (nI d)), some (.int (nI (op d))), some (.int (nI F)), some (.int (nI k))] [] M 0 0 Q) ?_ ?_ 0 0 (by decide) ⟨by decide, fun u => ?_⟩
  · rintro F ⟨hF, hb⟩
    have e : F = fitM T s d := by
      refine msk_ext hF (fitM_lt hk s d) (fun u _ => ?_)
      rw [Bool.eq_iff_iff, hb, fitM_bit]
      constructor
      · rintro ⟨a, t, b1, b2, b3, b4⟩
        exact ⟨a, t, b1, b2, b3⟩
      · rintro ⟨a, t, b1, b2, b3⟩
        exact ⟨a, t, b1, b2, b3, hk.2.1 t d b1 hd⟩
    simp only [g_48_0, g_48_1, g_48_4, g_48_5, g_48_6, g_48_8, g_48_9, g_48_11, g_48_13, g_48_14, g_48_17, g_48_18, g_48_19, g_48_22, g_48_23, g_48_24, g_48_25, g_48_27, g_48_28, g_48_31, g_48_32, g_48_35, g_48_37, g_48_38, g_48_41, g_48_42, g_48_43, g_48_44, g_48_46, g_48_47, g_48_50, g_48_51, g_48_53, g_48_56, g_48_59, g_48_61, qOb_some, kr_v, kr_n, qinv_i, qinv_r, qinv_0, Nat.reduceAdd, List.getElem?_cons_zero, List.getElem?_cons_succ, List.set_cons_zero, List.set_cons_succ, List.length_cons, List.length_nil, show (4 : Int32) = nI 4 from rfl, Int32.le_refl, not_true_eq_false, not_false_eq_true, false_implies, true_implies, and_true, true_and, and_false, false_and, if_true, if_false, forall_const, or_true, true_or, false_or, or_false, e]
    exact hQ
  · rintro k F hk4 ⟨hF, hb⟩ ih
    have b1 := byE_lt hk d k
    have b2 := byE_lt hk (op d) k
    have b3 : s &&& byE T d k < 256 := and_lt hs
    rw [g_48_11]
    simp only [g_48_0, g_48_1, g_48_4, g_48_5, g_48_6, g_48_8, g_48_9, g_48_13, g_48_14, g_48_17, g_48_18, g_48_19, g_48_22, g_48_23, g_48_24, g_48_25, g_48_27, g_48_28, g_48_31, g_48_32, g_48_35, g_48_37, g_48_38, g_48_41, g_48_42, g_48_43, g_48_44, g_48_46, g_48_47, g_48_50, g_48_51, g_48_53, g_48_56, g_48_59, g_48_61, qOb_some, kr_v, kr_n, qinv_i, qinv_r, qinv_0, Nat.reduceAdd, List.getElem?_cons_zero, List.getElem?_cons_succ, List.set_cons_zero, List.set_cons_succ, List.length_cons, List.length_nil, show (4 : Int32) = nI 4 from rfl, nI_ge hk4 (by decide), not_true_eq_false, not_false_eq_true, false_implies, true_implies, and_true, true_and, and_false, false_and, if_true, if_false, forall_const, or_true, true_or, false_or, or_false, qget_of h1, h2.cls, pk_mul, nI_add, s_get h2 (by decide), rget_nI (show d * 4 + k < 16 by omega) (by decide), rget_nI (show op d * 4 + k < 16 by omega) (by decide), h3 d k hd hk4, h3 (op d) k ho hk4, nI_and, nI_or, nI_eq0 (show s &&& byE T d k < 2147483648 by omega), nI_1]
    by_cases h : s &&& byE T d k = 0
    · simp only [h, not_true_eq_false, not_false_eq_true, false_implies, true_implies, and_true, true_and, and_false, false_and, if_true, if_false, forall_const, or_true, true_or, false_or, or_false, i10, Bool.false_eq_true]
      refine ih F ⟨hF, fun u => ?_⟩
      rw [hb]
      refine and_congr_right (fun hu => exists_congr (fun t => and_congr_right (fun ht => and_congr_right (fun hst => and_congr_right (fun hc => ?_)))))
      constructor
      · intro q; omega
      · intro q
        have : T.c t d ≠ k := by
          intro q2
          exact (and_ne0.mpr ⟨t, hst, byE_bit.mpr ⟨ht, q2⟩⟩) h
        omega
    · simp only [h, not_true_eq_false, not_false_eq_true, false_implies, true_implies, and_true, true_and, and_false, false_and, if_true, if_false, forall_const, or_true, true_or, false_or, or_false, i10, Bool.false_eq_true]
      obtain ⟨t, ht1, ht2⟩ := and_ne0.mp h
      obtain ⟨ht2, ht3⟩ := byE_bit.mp ht2
      refine ih (F ||| byE T (op d) k) ⟨or_lt hF b2, fun u => ?_⟩
      rw [Nat.testBit_or, Bool.or_eq_true, hb, byE_bit]
      constructor
      · rintro (⟨a, t', c1, c2, c3, c4⟩ | ⟨a, c⟩)
        · exact ⟨a, t', c1, c2, c3, by omega⟩
        · exact ⟨a, t, ht2, ht1, by rw [ht3, c], by omega⟩
      · rintro ⟨a, t', c1, c2, c3, c4⟩
        by_cases q : T.c t' d < k
        · exact Or.inl ⟨a, t', c1, c2, c3, q⟩
        · exact Or.inr ⟨a, by omega⟩
  · constructor
    · intro q
      simp at q
    · rintro ⟨_, t, _, _, _, q⟩
      exact absurd q (Nat.not_lt_zero _)
theorem s_lowest {M : qM} {s : Nat} {Q : qR → qM → Prop} (hs : s < 256) : cl 49 [.ref 1, .int (nI s)] M Q ↔ Q (.inl (some (.int (lowI s)))) M := by
  refine cl_iff (fun Q hQ => ?_)
  rw [e_49]
  simp only [g_49_0, g_49_1, g_49_3, g_49_5, g_49_8, g_49_9, g_49_10, g_49_13, g_49_16, g_49_17, g_49_18, g_49_21, g_49_24, g_49_25, qOb_some, kr_v, kr_n, qinv_i, qinv_r, qinv_0, Nat.reduceAdd, List.getElem?_cons_zero, List.getElem?_cons_succ, List.set_cons_zero, List.set_cons_succ, List.length_cons, List.length_nil]
  refine upto (N := 8) (I := fun k _ => ∀ i, i < k → s.testBit i = false) (G := fun k (_ : Unit) => g 49 2 [some (.ref 1), some (.int (nI s)), some (.int (nI k))] [] M 0 0 Q) ?_ ?_ 0 () (by decide) (fun i hi => absurd hi (by omega))
  · intro _ hi
    have e : s = 0 := msk_ext hs (by decide) (fun t ht => by rw [hi t ht]; simp)
    unfold lowI at hQ
    rw [if_pos e] at hQ
    simp only [g_49_0, g_49_1, g_49_2, g_49_3, g_49_5, g_49_8, g_49_9, g_49_10, g_49_13, g_49_16, g_49_17, g_49_18, g_49_21, g_49_24, g_49_25, qOb_some, kr_v, kr_n, qinv_i, qinv_r, qinv_0, Nat.reduceAdd, List.getElem?_cons_zero, List.getElem?_cons_succ, List.set_cons_zero, List.set_cons_succ, List.length_cons, List.length_nil, show (8 : Int32) = nI 8 from rfl, Int32.le_refl, not_true_eq_false, not_false_eq_true, false_implies, true_implies, and_true, true_and, and_false, false_and, if_true, if_false, forall_const, or_true, true_or, false_or, or_false]
    exact hQ
  · intro k _ hk hi ih
    rw [g_49_2]
    simp only [g_49_0, g_49_1, g_49_3, g_49_5, g_49_8, g_49_9, g_49_10, g_49_13, g_49_16, g_49_17, g_49_18, g_49_21, g_49_24, g_49_25, qOb_some, kr_v, kr_n, qinv_i, qinv_r, qinv_0, Nat.reduceAdd, List.getElem?_cons_zero, List.getElem?_cons_succ, List.set_cons_zero, List.set_cons_succ, List.length_cons, List.length_nil, show (8 : Int32) = nI 8 from rfl, nI_ge hk (by decide), not_true_eq_false, not_false_eq_true, false_implies, true_implies, and_true, true_and, and_false, false_and, if_true, if_false, forall_const, or_true, true_or, false_or, or_false, s_isOneOf hk hs, bI_0, nI_1]
    by_cases h : s.testBit k = true
    · have h0 : s ≠ 0 := by
        intro q
        rw [q] at h
        simp at h
      have h1 := low_min s hs k hk h
      have h2 := low_bit s hs h0
      have e : low s = k := by
        rcases Nat.lt_or_ge (low s) k with q | q
        · rw [hi _ q] at h2
          exact absurd h2.1 (by simp)
        · omega
      unfold lowI at hQ
      rw [if_neg h0, e] at hQ
      simp only [h, not_true_eq_false, not_false_eq_true, false_implies, true_implies, and_true, true_and, and_false, false_and, if_true, if_false, forall_const, or_true, true_or, false_or, or_false, i10, Bool.false_eq_true]
      exact hQ
    · simp only [h, not_true_eq_false, not_false_eq_true, false_implies, true_implies, and_true, true_and, and_false, false_and, if_true, if_false, forall_const, or_true, true_or, false_or, or_false, i10, Bool.false_eq_true]
      refine ih () (fun i hi' => ?_)
      by_cases q : i = k
      · subst q
        simpa using h
      · exact hi i (by omega)
theorem nI_add0 (k : Nat) : nI k + 0 = nI k := nI_add k 0
theorem s_draw {M : qM} {T : TS} {s r : Nat} {Q : qR → qM → Prop} (hT : TilesAt M T) (hk : TOk T) (hs : s < 256) (h0 : 0 < wsum T s T.n) (hr : r < 2147483648) : cl 50 [.ref 1, .int (nI s), .int (nI r)] M Q ↔ Q (.inl (some (.int (nI (drw T s (r % wsum T s T.n)))))) M := by
  refine cl_iff (fun Q hQ => ?_)
  obtain ⟨h1, -, ⟨f, h2, h3⟩, -⟩ := hT
  have h8 := hk.1
  have hw := wsum_le hk s T.n (Nat.le_refl _)
  have hm : r % wsum T s T.n < wsum T s T.n := Nat.mod_lt _ h0
  rw [e_50]
  simp only [g_50_0, g_50_1, g_50_2, g_50_3, g_50_7, g_50_8, g_50_11, g_50_14, g_50_15, g_50_17, g_50_18, g_50_21, g_50_24, g_50_25, g_50_28, g_50_30, g_50_33, g_50_36, g_50_37, g_50_38, g_50_39, g_50_42, g_50_45, g_50_46, g_50_49, g_50_50, g_50_51, g_50_52, g_50_55, g_50_56, g_50_58, g_50_59, g_50_61, g_50_62, g_50_66, g_50_67, g_50_70, g_50_73, g_50_75, g_50_77, g_50_78, g_50_81, g_50_84, g_50_85, g_50_88, g_50_90, g_50_93, g_50_96, g_50_97, g_50_98, g_50_100, g_50_102, g_50_104, g_50_107, g_50_109, g_50_110, g_50_113, g_50_116, g_50_117, g_50_118, g_50_121, qOb_some, kr_v, kr_n, qinv_i, qinv_r, qinv_0, Nat.reduceAdd, List.getElem?_cons_zero, List.getElem?_cons_succ, List.set_cons_zero, List.set_cons_succ, List.length_cons, List.length_nil]
  refine upto (N := T.n) (I := fun _ _ => True) (G := fun k (_ : Unit) => g 50 5 [some (.ref 1), some (.int (nI s)), some (.int (nI r)), some (.int (nI (wsum T s k))), some (.int (nI k)), none, none] [] M 0 0 Q) ?_ ?_ 0 () (Nat.zero_le _) trivial
  · intro _ _
    rw [g_50_5]
    simp only [g_50_0, g_50_1, g_50_2, g_50_3, g_50_7, g_50_8, g_50_11, g_50_14, g_50_15, g_50_17, g_50_18, g_50_21, g_50_24, g_50_25, g_50_28, g_50_30, g_50_33, g_50_36, g_50_37, g_50_38, g_50_39, g_50_42, g_50_45, g_50_46, g_50_49, g_50_50, g_50_51, g_50_52, g_50_55, g_50_56, g_50_58, g_50_59, g_50_61, g_50_62, g_50_66, g_50_67, g_50_70, g_50_73, g_50_75, g_50_77, g_50_78, g_50_81, g_50_84, g_50_85, g_50_88, g_50_90, g_50_93, g_50_96, g_50_97, g_50_98, g_50_100, g_50_102, g_50_104, g_50_107, g_50_109, g_50_110, g_50_113, g_50_116, g_50_117, g_50_118, g_50_121, qOb_some, kr_v, kr_n, qinv_i, qinv_r, qinv_0, Nat.reduceAdd, List.getElem?_cons_zero, List.getElem?_cons_succ, List.set_cons_zero, List.set_cons_succ, List.length_cons, List.length_nil, qget_of h1, Int32.le_refl, not_true_eq_false, not_false_eq_true, false_implies, true_implies, and_true, true_and, and_false, false_and, if_true, if_false, forall_const, or_true, true_or, false_or, or_false, nI_nle h0 (by omega), nI_ne0 h0 (by omega), pk_rem (show r < 2 ^ 31 by omega) h0 (show wsum T s T.n < 2 ^ 31 by omega)]
    refine upto (N := T.n) (I := fun k _ => wsum T s k ≤ r % wsum T s T.n) (G := fun k (_ : Unit) => g 50 64 [some (.ref 1), some (.int (nI s)), some (.int (nI r)), some (.int (nI (wsum T s T.n))), some (.int (nI (r % wsum T s T.n))), some (.int (nI (wsum T s k))), some (.int (nI k))] [] M 0 0 Q) ?_ ?_ 0 () (Nat.zero_le _) (Nat.zero_le _)
    · intro _ q
      exact absurd hm (by omega)
    · intro k _ hkn hi ih
      have hw2 := wsum_le hk s k (by omega)
      have hw3 := wsum_le hk s (k + 1) (by omega)
      have e : (if s.testBit k = true then nI (wsum T s k) + nI (T.w k) else nI (wsum T s k) + 0) = nI (wsum T s (k + 1)) := by
        rw [wsum]
        split
        · rw [nI_add]
        · rw [nI_add0]; rfl
      have hcmp : nI (wsum T s (k + 1)) ≤ nI (r % wsum T s T.n) ↔ wsum T s (k + 1) ≤ r % wsum T s T.n := nI_leI (by omega) (by omega)
      have main : g 50 98 [some (.ref 1), some (.int (nI s)), some (.int (nI r)), some (.int (nI (wsum T s T.n))), some (.int (nI (r % wsum T s T.n))), some (.int (nI (wsum T s k))), some (.int (nI k))] [.int (nI (wsum T s (k + 1)))] M 0 0 Q := by
        simp only [g_50_0, g_50_1, g_50_2, g_50_3, g_50_7, g_50_8, g_50_11, g_50_14, g_50_15, g_50_17, g_50_18, g_50_21, g_50_24, g_50_25, g_50_28, g_50_30, g_50_33, g_50_36, g_50_37, g_50_38, g_50_39, g_50_42, g_50_45, g_50_46, g_50_49, g_50_50, g_50_51, g_50_52, g_50_55, g_50_56, g_50_58, g_50_59, g_50_61, g_50_62, g_50_66, g_50_67, g_50_70, g_50_73, g_50_75, g_50_77, g_50_78, g_50_81, g_50_84, g_50_85, g_50_88, g_50_90, g_50_93, g_50_96, g_50_97, g_50_98, g_50_100, g_50_102, g_50_104, g_50_107, g_50_109, g_50_110, g_50_113, g_50_116, g_50_117, g_50_118, g_50_121, qOb_some, kr_v, kr_n, qinv_i, qinv_r, qinv_0, Nat.reduceAdd, List.getElem?_cons_zero, List.getElem?_cons_succ, List.set_cons_zero, List.set_cons_succ, List.length_cons, List.length_nil, hcmp, nI_1]
        by_cases hc : wsum T s (k + 1) ≤ r % wsum T s T.n
        · simp only [hc, not_true_eq_false, not_false_eq_true, false_implies, true_implies, and_true, true_and, and_false, false_and, if_true, if_false, forall_const, or_true, true_or, false_or, or_false]
          exact ih () hc
        · simp only [hc, not_true_eq_false, not_false_eq_true, false_implies, true_implies, and_true, true_and, and_false, false_and, if_true, if_false, forall_const, or_true, true_or, false_or, or_false]
          rw [drw_of hkn hi (by omega)] at hQ
          exact hQ
      rw [g_50_64]
      simp only [g_50_0, g_50_1, g_50_2, g_50_3, g_50_7, g_50_8, g_50_11, g_50_14, g_50_15, g_50_17, g_50_18, g_50_21, g_50_24, g_50_25, g_50_28, g_50_30, g_50_33, g_50_36, g_50_37, g_50_38, g_50_39, g_50_42, g_50_45, g_50_46, g_50_49, g_50_50, g_50_51, g_50_52, g_50_55, g_50_56, g_50_58, g_50_59, g_50_61, g_50_62, g_50_66, g_50_67, g_50_70, g_50_73, g_50_75, g_50_77, g_50_78, g_50_81, g_50_84, g_50_85, g_50_88, g_50_90, g_50_93, g_50_96, g_50_97, g_50_100, g_50_102, g_50_104, g_50_107, g_50_109, g_50_110, g_50_113, g_50_116, g_50_117, g_50_118, g_50_121, qOb_some, kr_v, kr_n, qinv_i, qinv_r, qinv_0, Nat.reduceAdd, List.getElem?_cons_zero, List.getElem?_cons_succ, List.set_cons_zero, List.set_cons_succ, List.length_cons, List.length_nil, qget_of h1, nI_ge hkn (by omega), not_true_eq_false, not_false_eq_true, false_implies, true_implies, and_true, true_and, and_false, false_and, if_true, if_false, forall_const, or_true, true_or, false_or, or_false, s_isOneOf (show k < 8 by omega) hs, bI_0, h2.cls, s_get h2 (by decide), rget_nI (show k < 8 by omega) (show 8 < 2147483648 by decide), h3 k hkn]
      by_cases hb : s.testBit k = true
      · rw [if_pos hb] at e
        simp only [hb, not_true_eq_false, not_false_eq_true, false_implies, true_implies, and_true, true_and, and_false, false_and, if_true, if_false, forall_const, or_true, true_or, false_or, or_false, i10, Bool.false_eq_true, e]
        exact main
      · rw [if_neg hb] at e
        simp only [hb, not_true_eq_false, not_false_eq_true, false_implies, true_implies, and_true, true_and, and_false, false_and, if_true, if_false, forall_const, or_true, true_or, false_or, or_false, i10, Bool.false_eq_true, e]
        exact main
  · intro k _ hkn hi ih
    rw [g_50_5]
    simp only [g_50_0, g_50_1, g_50_2, g_50_3, g_50_7, g_50_8, g_50_11, g_50_14, g_50_15, g_50_17, g_50_18, g_50_21, g_50_24, g_50_25, g_50_28, g_50_30, g_50_33, g_50_36, g_50_37, g_50_38, g_50_39, g_50_42, g_50_45, g_50_46, g_50_49, g_50_50, g_50_51, g_50_52, g_50_55, g_50_56, g_50_58, g_50_59, g_50_61, g_50_62, g_50_66, g_50_67, g_50_70, g_50_73, g_50_75, g_50_77, g_50_78, g_50_81, g_50_84, g_50_85, g_50_88, g_50_90, g_50_93, g_50_96, g_50_97, g_50_98, g_50_100, g_50_102, g_50_104, g_50_107, g_50_109, g_50_110, g_50_113, g_50_116, g_50_117, g_50_118, g_50_121, qOb_some, kr_v, kr_n, qinv_i, qinv_r, qinv_0, Nat.reduceAdd, List.getElem?_cons_zero, List.getElem?_cons_succ, List.set_cons_zero, List.set_cons_succ, List.length_cons, List.length_nil, qget_of h1, nI_ge hkn (by omega), not_true_eq_false, not_false_eq_true, false_implies, true_implies, and_true, true_and, and_false, false_and, if_true, if_false, forall_const, or_true, true_or, false_or, or_false, s_isOneOf (show k < 8 by omega) hs, bI_0, h2.cls, s_get h2 (by decide), rget_nI (show k < 8 by omega) (show 8 < 2147483648 by decide), h3 k hkn, nI_1]
    have := ih () trivial
    rw [wsum] at this
    by_cases hb : s.testBit k = true
    · rw [if_pos hb, ← nI_add] at this
      simp only [hb, not_true_eq_false, not_false_eq_true, false_implies, true_implies, and_true, true_and, and_false, false_and, if_true, if_false, forall_const, or_true, true_or, false_or, or_false, i10, Bool.false_eq_true]
      exact this
    · rw [if_neg hb] at this
      simp only [hb, not_true_eq_false, not_false_eq_true, false_implies, true_implies, and_true, true_and, and_false, false_and, if_true, if_false, forall_const, or_true, true_or, false_or, or_false, i10, Bool.false_eq_true, nI_add0]
      exact this
theorem s_bitCount {M : qM} {k : Nat} {Q : qR → qM → Prop} (hk : k < 256) : cl 100 [.int (nI k)] M Q ↔ Q (.inl (some (.int (nI (cnt k))))) M := by
  rw [e_100]
  simp only [g_100_0, g_100_1, g_100_2, g_100_3, g_100_4, g_100_7, g_100_8, g_100_9, g_100_10, g_100_11, g_100_14, g_100_15, g_100_16, g_100_17, g_100_18, g_100_21, g_100_22, g_100_23, g_100_24, g_100_25, g_100_26, g_100_27, g_100_28, g_100_29, g_100_32, g_100_33, g_100_34, g_100_35, g_100_36, g_100_38, g_100_39, g_100_40, g_100_41, g_100_42, g_100_43, g_100_45, g_100_46, g_100_47, g_100_48, g_100_49, g_100_51, g_100_52, qOb_some, kr_v, kr_n, qinv_i, qinv_r, qinv_0, Nat.reduceAdd, List.getElem?_cons_zero, List.getElem?_cons_succ, List.set_cons_zero, List.set_cons_succ, List.length_cons, List.length_nil]
  refine iff_of_eq (congrArg (fun v => Q (.inl (some (.int v))) M) ?_)
  revert k
  decide +kernel
/-- what is wished: how many of each tile at most, and whether one road -/
def WishAt (M : qM) (o : Nat) (W : Nat → Int32) (road : Bool) : Prop := M[o]? = some (.inr (7, [.ref (o + 1), .int (bI (road = true))])) ∧ ∃ f, RowAt M (o + 1) 8 f ∧ ∀ t, t < 8 → f t = W t
theorem WishAt.fr {lo hi o : Nat} {W : Nat → Int32} {road : Bool} {M M' : qM} (h : WishAt M o W road) (hf : Fr lo hi M M') (ho : o + 2 < lo ∨ hi ≤ o) : WishAt M' o W road := by
  obtain ⟨h1, f, h2, h3⟩ := h
  exact ⟨(hf o (by omega)).trans h1, f, h2.fr hf (by omega), h3⟩
theorem s_allow {M : qM} {o t : Nat} {W : Nat → Int32} {road : Bool} {c : Int32} {Q : qR → qM → Prop} (hW : WishAt M o W road) (ht : t < 8) : cl 52 [.ref o, .int (nI t), .int c] M Q ↔ Q (.inl (some (.int (bI (W t = -1 ∨ c ≤ W t))))) M := by
  obtain ⟨h1, f, h2, h3⟩ := hW
  rw [e_52]
  simp only [g_52_0, g_52_1, g_52_4, g_52_5, g_52_8, g_52_9, g_52_10, g_52_11, g_52_14, g_52_15, g_52_16, g_52_19, g_52_20, g_52_23, g_52_24, qOb_some, kr_v, kr_n, qinv_i, qinv_r, qinv_0, Nat.reduceAdd, List.getElem?_cons_zero, List.getElem?_cons_succ, List.set_cons_zero, List.set_cons_succ, List.length_cons, List.length_nil, qget_of h1, h2.cls, not_true_eq_false, not_false_eq_true, false_implies, true_implies, and_true, true_and, and_false, false_and, if_true, if_false, forall_const, or_true, true_or, false_or, or_false, s_get h2 (by decide), rget_nI ht (show 8 < 2147483648 by decide), h3 t ht]
  by_cases q : W t = -1
  · simp only [q, not_true_eq_false, not_false_eq_true, false_implies, true_implies, and_true, true_and, and_false, false_and, if_true, if_false, forall_const, or_true, true_or, false_or, or_false, bI]
  · by_cases q2 : c ≤ W t
    · simp only [q, q2, not_true_eq_false, not_false_eq_true, false_implies, true_implies, and_true, true_and, and_false, false_and, if_true, if_false, forall_const, or_true, true_or, false_or, or_false, bI, Int32.not_lt.mpr q2]
    · simp only [q, q2, not_true_eq_false, not_false_eq_true, false_implies, true_implies, and_true, true_and, and_false, false_and, if_true, if_false, forall_const, or_true, true_or, false_or, or_false, bI, Int32.not_le.mp q2]
