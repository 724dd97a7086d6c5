/-! the model's narrowing -/
theorem m1_ne {k : Nat} (h : k < 1000) : (nI k = -1) = False := eq_false (fun q => by
  have := congrArg Int32.toInt q
  rw [nI_toInt (by omega)] at this
  have e2 : (-1 : Int32).toInt = -1 := by decide
  rw [e2] at this
  omega)
theorem m_narrows {M : qM} {s : Nat → Int32} {T : TS} {w h : Nat} {p : Nat → Nat} {Q : qR → qM → Prop} (hM : ModAt M s) (hT : MTil M s T) (hk : TOk T) (hw : s 20 = nI w) (hh : s 21 = nI h) (hD : Dim w h) (hA : ArrV M 112 36 (w * h) p) (hp : PN T (w * h) p)
    (hQ : ∀ M' p', Fr 112 113 M M' → ArrV M' 112 36 (w * h) p' → IsNar T w h p p' → PN T (w * h) p' → Q (.inl none) M') : cl 124 [.ref 101] M Q := by
  have hN := hD.le
  rw [e_124]
  simp only [g_124_0, g_124_1, g_124_3, g_124_6, g_124_7, g_124_8, g_124_9, g_124_11, g_124_12, g_124_15, g_124_18, g_124_19, g_124_22, g_124_23, g_124_24, g_124_25, g_124_26, g_124_30, g_124_31, g_124_34, g_124_35, g_124_36, g_124_38, g_124_41, g_124_43, g_124_44, g_124_46, g_124_47, g_124_50, g_124_51, g_124_54, g_124_55, g_124_56, g_124_59, g_124_61, g_124_62, g_124_64, g_124_67, g_124_70, g_124_71, g_124_72, g_124_75, g_124_78, g_124_79, g_124_82, g_124_83, g_124_84, g_124_87, g_124_88, g_124_89, g_124_92, g_124_93, g_124_96, g_124_97, g_124_98, g_124_99, g_124_102, g_124_103, g_124_104, g_124_105, g_124_108, g_124_111, g_124_114, qOb_some, kr_v, kr_n, qinv_i, qinv_r, qinv_0, Nat.reduceAdd, List.getElem?_cons_zero, List.getElem?_cons_succ, List.set_cons_zero, List.set_cons_succ, List.length_cons, List.length_nil]
  have key : ∀ n M1 p1 l2 l3 l4 l5, tot p1 (w * h) < n → Fr 112 113 M M1 → ArrV M1 112 36 (w * h) p1 → PN T (w * h) p1 → Keeps T w h p p1 → g 124 2 [some (.ref 101), some (.int 1), l2, l3, l4, l5] [] M1 0 0 Q := by
    intro n
    induction n with
    | zero => intro M1 p1 l2 l3 l4 l5 q; exact absurd q (Nat.not_lt_zero _)
    | succ n ihn =>
      intro M1 p1 l2 l3 l4 l5 hn f1 a1 n1 k1
      rw [g_124_2]
      simp only [g_124_0, g_124_1, g_124_3, g_124_6, g_124_7, g_124_8, g_124_9, g_124_11, g_124_12, g_124_15, g_124_18, g_124_19, g_124_22, g_124_23, g_124_24, g_124_25, g_124_26, g_124_30, g_124_31, g_124_34, g_124_35, g_124_36, g_124_38, g_124_41, g_124_43, g_124_44, g_124_46, g_124_47, g_124_50, g_124_51, g_124_54, g_124_55, g_124_56, g_124_59, g_124_61, g_124_62, g_124_64, g_124_67, g_124_70, g_124_71, g_124_72, g_124_75, g_124_78, g_124_79, g_124_82, g_124_83, g_124_84, g_124_87, g_124_88, g_124_89, g_124_92, g_124_93, g_124_96, g_124_97, g_124_98, g_124_99, g_124_102, g_124_103, g_124_104, g_124_105, g_124_108, g_124_111, g_124_114, qOb_some, kr_v, kr_n, qinv_i, qinv_r, qinv_0, Nat.reduceAdd, List.getElem?_cons_zero, List.getElem?_cons_succ, List.set_cons_zero, List.set_cons_succ, List.length_cons, List.length_nil, not_true_eq_false, not_false_eq_true, false_implies, true_implies, and_true, true_and, and_false, false_and, if_true, if_false, forall_const, or_true, true_or, false_or, or_false, i10, Bool.false_eq_true]
      refine upto (N := w * h) (I := fun c (a : qM × Bool × Option Value × Option Value × Option Value) => ∃ p', Fr 112 113 M a.1 ∧ ArrV a.1 112 36 (w * h) p' ∧ PN T (w * h) p' ∧ Keeps T w h p p' ∧ (a.2.1 = false → p' = p1 ∧ ∀ i, i < c → swp T w h p1 i = p1 i) ∧ tot p' (w * h) ≤ tot p1 (w * h) ∧ (a.2.1 = true → tot p' (w * h) < tot p1 (w * h))) (G := fun c (a : qM × Bool × Option Value × Option Value × Option Value) => g 124 10 [some (.ref 101), some (.int (bI (a.2.1 = true))), some (.int (nI c)), a.2.2.1, a.2.2.2.1, a.2.2.2.2] [] a.1 0 0 Q) ?_ ?_ 0 (M1, false, l3, l4, l5) (Nat.zero_le _) ⟨p1, f1, a1, n1, k1, fun _ => ⟨rfl, fun i q => absurd q (by omega)⟩, Nat.le_refl _, fun q => by cases q⟩
      · rintro ⟨M2, b2, l3, l4, l5⟩ ⟨p2, c1, c2, c3, c4, c5, c6, c7⟩
        have hM2 := hM.fr c1 (by omega)
        rw [g_124_10]
        simp only [g_124_0, g_124_1, g_124_3, g_124_6, g_124_7, g_124_8, g_124_9, g_124_11, g_124_12, g_124_15, g_124_18, g_124_19, g_124_22, g_124_23, g_124_24, g_124_25, g_124_26, g_124_30, g_124_31, g_124_34, g_124_35, g_124_36, g_124_38, g_124_41, g_124_43, g_124_44, g_124_46, g_124_47, g_124_50, g_124_51, g_124_54, g_124_55, g_124_56, g_124_59, g_124_61, g_124_62, g_124_64, g_124_67, g_124_70, g_124_71, g_124_72, g_124_75, g_124_78, g_124_79, g_124_82, g_124_83, g_124_84, g_124_87, g_124_88, g_124_89, g_124_92, g_124_93, g_124_96, g_124_97, g_124_98, g_124_99, g_124_102, g_124_103, g_124_104, g_124_105, g_124_108, g_124_111, g_124_114, qOb_some, kr_v, kr_n, qinv_i, qinv_r, qinv_0, Nat.reduceAdd, List.getElem?_cons_zero, List.getElem?_cons_succ, List.set_cons_zero, List.set_cons_succ, List.length_cons, List.length_nil, not_true_eq_false, not_false_eq_true, false_implies, true_implies, and_true, true_and, and_false, false_and, if_true, if_false, forall_const, or_true, true_or, false_or, or_false, i10, Bool.false_eq_true, hM2.cls, m_cells hM2 hw hh, Int32.le_refl]
        cases b2 with
        | true => exact ihn M2 p2 _ _ _ _ (Nat.lt_of_lt_of_le (c7 rfl) (Nat.le_of_lt_succ hn)) c1 c2 c3 c4
        | false =>
          rw [g_124_2]
          simp only [g_124_0, g_124_1, g_124_3, g_124_6, g_124_7, g_124_8, g_124_9, g_124_11, g_124_12, g_124_15, g_124_18, g_124_19, g_124_22, g_124_23, g_124_24, g_124_25, g_124_26, g_124_30, g_124_31, g_124_34, g_124_35, g_124_36, g_124_38, g_124_41, g_124_43, g_124_44, g_124_46, g_124_47, g_124_50, g_124_51, g_124_54, g_124_55, g_124_56, g_124_59, g_124_61, g_124_62, g_124_64, g_124_67, g_124_70, g_124_71, g_124_72, g_124_75, g_124_78, g_124_79, g_124_82, g_124_83, g_124_84, g_124_87, g_124_88, g_124_89, g_124_92, g_124_93, g_124_96, g_124_97, g_124_98, g_124_99, g_124_102, g_124_103, g_124_104, g_124_105, g_124_108, g_124_111, g_124_114, qOb_some, kr_v, kr_n, qinv_i, qinv_r, qinv_0, Nat.reduceAdd, List.getElem?_cons_zero, List.getElem?_cons_succ, List.set_cons_zero, List.set_cons_succ, List.length_cons, List.length_nil, not_true_eq_false, not_false_eq_true, false_implies, true_implies, and_true, true_and, and_false, false_and, if_true, if_false, forall_const, or_true, true_or, false_or, or_false, i10, Bool.false_eq_true, bI]
          obtain ⟨e1, e2⟩ := c5 rfl
          refine hQ M2 p2 c1 c2 ⟨c4, ?_⟩ c3
          rw [e1]
          exact swp_stab (n1.msk hk) e2
      · rintro c ⟨M2, b2, l3, l4, l5⟩ hc ⟨p2, c1, c2, c3, c4, c5, c6, c7⟩ ih
        have hM2 := hM.fr c1 (by omega)
        have hT2 := hT.fr (s' := s) c1 (by omega) rfl
        have hm2 := c3.msk hk
        have hpc := hm2 c hc
        have c2' := c2
        obtain ⟨f, r1, v1⟩ := c2
        rw [g_124_10]
        simp only [g_124_0, g_124_1, g_124_3, g_124_6, g_124_7, g_124_8, g_124_9, g_124_11, g_124_12, g_124_15, g_124_18, g_124_19, g_124_22, g_124_23, g_124_24, g_124_25, g_124_26, g_124_30, g_124_31, g_124_34, g_124_35, g_124_36, g_124_38, g_124_41, g_124_43, g_124_44, g_124_46, g_124_47, g_124_50, g_124_51, g_124_54, g_124_55, g_124_56, g_124_59, g_124_61, g_124_62, g_124_64, g_124_67, g_124_70, g_124_71, g_124_72, g_124_75, g_124_78, g_124_79, g_124_82, g_124_83, g_124_84, g_124_87, g_124_88, g_124_89, g_124_92, g_124_93, g_124_96, g_124_97, g_124_98, g_124_99, g_124_102, g_124_103, g_124_104, g_124_105, g_124_108, g_124_111, g_124_114, qOb_some, kr_v, kr_n, qinv_i, qinv_r, qinv_0, Nat.reduceAdd, List.getElem?_cons_zero, List.getElem?_cons_succ, List.set_cons_zero, List.set_cons_succ, List.length_cons, List.length_nil, not_true_eq_false, not_false_eq_true, false_implies, true_implies, and_true, true_and, and_false, false_and, if_true, if_false, forall_const, or_true, true_or, false_or, or_false, i10, Bool.false_eq_true, hM2.cls, m_cells hM2 hw hh, nI_ge hc (show w * h < 2 ^ 31 by omega), mget hM2, mo_23, ald_N r1 (show c < 36 by omega) (by decide), v1 c hc]
        refine upto (N := 4) (I := fun d (a : Nat × Option Value) => a.1 < 256 ∧ ∀ u, a.1.testBit u = true ↔ ((p2 c).testBit u = true ∧ ∀ d', d' < d → ∀ k2, nb w h c d' = some k2 → (fitM T (p2 k2) (op d')).testBit u = true)) (G := fun d (a : Nat × Option Value) => g 124 28 [some (.ref 101), some (.int (bI (b2 = true))), some (.int (nI c)), some (.int (nI a.1)), some (.int (nI d)), a.2] [] M2 0 0 Q) ?_ ?_ 0 (p2 c, l5) (Nat.zero_le _) ⟨hpc, fun u => ⟨fun q => ⟨q, fun d' q2 => absurd q2 (by omega)⟩, fun q => q.1⟩⟩
        · rintro ⟨A, l5⟩ ⟨hA1, hA2⟩
          have e : A = swp T w h p2 c := by
            apply Nat.eq_of_testBit_eq
            intro u
            rw [Bool.eq_iff_iff, hA2, swp_bit hpc, fitsAll_iff]
          subst e
          have e1 := tot_fu (p := p2) (k := c) (v := swp T w h p2 c) hc
          have e2 := Sb.cnt swp_lt hpc (swp_sb (T := T) (w := w) (h := h) hpc)
          have k1 := swp_keeps hc hpc c4
          have k2 : PN T (w * h) (fu p2 c (swp T w h p2 c)) := fun i hi => by
            by_cases q : i = c
            · rw [q, fu_s]
              exact sb_ltn (c3 c hc) (swp_sb hpc)
            · rw [fu_n q]; exact c3 i hi
          have frS : Fr 112 113 M2 (M2.set 112 (.inl (0, 36, .inl (upd f c (nI (swp T w h p2 c)))))) := Fr.set (by omega) (by omega)
          have aS : ArrV (M2.set 112 (.inl (0, 36, .inl (upd f c (nI (swp T w h p2 c)))))) 112 36 (w * h) (fu p2 c (swp T w h p2 c)) := ⟨_, get_set_eq r1, fun i hi => by
            by_cases q : i = c
            · rw [q, upd_s, fu_s]
            · rw [upd_n q, fu_n q]; exact v1 i hi⟩
          have nxt : ∀ b3 : Bool, (b3 = false → (fu p2 c (swp T w h p2 c)) = p1 ∧ ∀ i, i < c + 1 → swp T w h p1 i = p1 i) → (b3 = true → tot (fu p2 c (swp T w h p2 c)) (w * h) < tot p1 (w * h)) → g 124 10 [some (.ref 101), some (.int (bI (b3 = true))), some (.int (nI (c + 1))), some (.int (nI (swp T w h p2 c))), some (.int (nI 4)), l5] [] (M2.set 112 (.inl (0, 36, .inl (upd f c (nI (swp T w h p2 c)))))) 0 0 Q := fun b3 q1 q2 => ih (_, b3, _, _, l5) ⟨_, c1.trans frS, aS, k2, k1, q1, by omega, q2⟩
          rw [g_124_28]
          simp only [g_124_0, g_124_1, g_124_3, g_124_6, g_124_7, g_124_8, g_124_9, g_124_11, g_124_12, g_124_15, g_124_18, g_124_19, g_124_22, g_124_23, g_124_24, g_124_25, g_124_26, g_124_30, g_124_31, g_124_34, g_124_35, g_124_36, g_124_38, g_124_41, g_124_43, g_124_44, g_124_46, g_124_47, g_124_50, g_124_51, g_124_54, g_124_55, g_124_56, g_124_59, g_124_61, g_124_62, g_124_64, g_124_67, g_124_70, g_124_71, g_124_72, g_124_75, g_124_78, g_124_79, g_124_82, g_124_83, g_124_84, g_124_87, g_124_88, g_124_89, g_124_92, g_124_93, g_124_96, g_124_97, g_124_98, g_124_99, g_124_102, g_124_103, g_124_104, g_124_105, g_124_108, g_124_111, g_124_114, qOb_some, kr_v, kr_n, qinv_i, qinv_r, qinv_0, Nat.reduceAdd, List.getElem?_cons_zero, List.getElem?_cons_succ, List.set_cons_zero, List.set_cons_succ, List.length_cons, List.length_nil, show (4 : Int32) = nI 4 from rfl, Int32.le_refl, not_true_eq_false, not_false_eq_true, false_implies, true_implies, and_true, true_and, and_false, false_and, if_true, if_false, forall_const, or_true, true_or, false_or, or_false, i10, Bool.false_eq_true, bI_0, mget hM2, mo_23, ald_N r1 (show c < 36 by omega) (show 36 < 2147483648 by decide), v1 c hc, nI_eq (show swp T w h p2 c < 2 ^ 31 by have := swp_lt (T := T) (w := w) (h := h) (k := c) (p := p2); omega) (show p2 c < 2 ^ 31 by omega), ast_N r1 (show c < 36 by omega) (show 36 < 2147483648 by decide), nI_1]
          cases b2 with
          | true =>
            have e3 := c7 rfl
            simp only [not_true_eq_false, not_false_eq_true, false_implies, true_implies, and_true, true_and, and_false, false_and, if_true, if_false, forall_const, or_true, true_or, false_or, or_false, i10, Bool.false_eq_true]
            exact nxt true (fun q => by cases q) (fun _ => by omega)
          | false =>
            by_cases he : swp T w h p2 c = p2 c
            · have n9 := nxt false (fun _ => by
                obtain ⟨g1, g2⟩ := c5 rfl
                refine ⟨by rw [he, fu_id]; exact g1, fun i hi => ?_⟩
                by_cases q2 : i = c
                · rw [q2, ← g1]; exact he
                · exact g2 i (by omega)) (fun q => by cases q)
              rw [he] at n9
              simp only [he, not_true_eq_false, not_false_eq_true, false_implies, true_implies, and_true, true_and, and_false, false_and, if_true, if_false, forall_const, or_true, true_or, false_or, or_false, i10, Bool.false_eq_true]
              exact n9
            · have e3 := e2.2 he
              simp only [he, not_true_eq_false, not_false_eq_true, false_implies, true_implies, and_true, true_and, and_false, false_and, if_true, if_false, forall_const, or_true, true_or, false_or, or_false, i10, Bool.false_eq_true]
              exact nxt true (fun q => by cases q) (fun _ => by omega)
        · rintro d ⟨A, l5⟩ hd ⟨hA1, hA2⟩ ihd
          have hd' := op_lt d
          rw [g_124_28]
          simp only [g_124_0, g_124_1, g_124_3, g_124_6, g_124_7, g_124_8, g_124_9, g_124_11, g_124_12, g_124_15, g_124_18, g_124_19, g_124_22, g_124_23, g_124_24, g_124_25, g_124_26, g_124_30, g_124_31, g_124_34, g_124_35, g_124_36, g_124_38, g_124_41, g_124_43, g_124_44, g_124_46, g_124_47, g_124_50, g_124_51, g_124_54, g_124_55, g_124_56, g_124_59, g_124_61, g_124_62, g_124_64, g_124_67, g_124_70, g_124_71, g_124_72, g_124_75, g_124_78, g_124_79, g_124_82, g_124_83, g_124_84, g_124_87, g_124_88, g_124_89, g_124_92, g_124_93, g_124_96, g_124_97, g_124_98, g_124_99, g_124_102, g_124_103, g_124_104, g_124_105, g_124_108, g_124_111, g_124_114, qOb_some, kr_v, kr_n, qinv_i, qinv_r, qinv_0, Nat.reduceAdd, List.getElem?_cons_zero, List.getElem?_cons_succ, List.set_cons_zero, List.set_cons_succ, List.length_cons, List.length_nil, show (4 : Int32) = nI 4 from rfl, nI_ge hd (show 4 < 2 ^ 31 by decide), not_true_eq_false, not_false_eq_true, false_implies, true_implies, and_true, true_and, and_false, false_and, if_true, if_false, forall_const, or_true, true_or, false_or, or_false, i10, Bool.false_eq_true, hM2.cls, m_beside hM2 hw hh hD hc hd]
          cases hn : nb w h c d with
          | none =>
            simp only [g_124_0, g_124_1, g_124_3, g_124_6, g_124_7, g_124_8, g_124_9, g_124_11, g_124_12, g_124_15, g_124_18, g_124_19, g_124_22, g_124_23, g_124_24, g_124_25, g_124_26, g_124_30, g_124_31, g_124_34, g_124_35, g_124_36, g_124_38, g_124_41, g_124_43, g_124_44, g_124_46, g_124_47, g_124_50, g_124_51, g_124_54, g_124_55, g_124_56, g_124_59, g_124_61, g_124_62, g_124_64, g_124_67, g_124_70, g_124_71, g_124_72, g_124_75, g_124_78, g_124_79, g_124_82, g_124_83, g_124_84, g_124_87, g_124_88, g_124_89, g_124_92, g_124_93, g_124_96, g_124_97, g_124_98, g_124_99, g_124_102, g_124_103, g_124_104, g_124_105, g_124_108, g_124_111, g_124_114, qOb_some, kr_v, kr_n, qinv_i, qinv_r, qinv_0, Nat.reduceAdd, List.getElem?_cons_zero, List.getElem?_cons_succ, List.set_cons_zero, List.set_cons_succ, List.length_cons, List.length_nil, nbI, not_true_eq_false, not_false_eq_true, false_implies, true_implies, and_true, true_and, and_false, false_and, if_true, if_false, forall_const, or_true, true_or, false_or, or_false, i10, Bool.false_eq_true, nI_and, Nat.and_self, nI_1]
            refine ihd (A, _) ⟨hA1, fun u => ?_⟩
            rw [hA2]
            refine and_congr_right (fun _ => ⟨fun q d' q1 k2 q2 => ?_, fun q d' q1 => q d' (by omega)⟩)
            by_cases e : d' = d
            · subst e; rw [hn] at q2; cases q2
            · exact q d' (by omega) k2 q2
          | some k2 =>
            have hk2 := nb_lt hc hn
            simp only [g_124_0, g_124_1, g_124_3, g_124_6, g_124_7, g_124_8, g_124_9, g_124_11, g_124_12, g_124_15, g_124_18, g_124_19, g_124_22, g_124_23, g_124_24, g_124_25, g_124_26, g_124_30, g_124_31, g_124_34, g_124_35, g_124_36, g_124_38, g_124_41, g_124_43, g_124_44, g_124_46, g_124_47, g_124_50, g_124_51, g_124_54, g_124_55, g_124_56, g_124_59, g_124_61, g_124_62, g_124_64, g_124_67, g_124_70, g_124_71, g_124_72, g_124_75, g_124_78, g_124_79, g_124_82, g_124_83, g_124_84, g_124_87, g_124_88, g_124_89, g_124_92, g_124_93, g_124_96, g_124_97, g_124_98, g_124_99, g_124_102, g_124_103, g_124_104, g_124_105, g_124_108, g_124_111, g_124_114, qOb_some, kr_v, kr_n, qinv_i, qinv_r, qinv_0, Nat.reduceAdd, List.getElem?_cons_zero, List.getElem?_cons_succ, List.set_cons_zero, List.set_cons_succ, List.length_cons, List.length_nil, nbI, m1_ne (show k2 < 1000 by omega), not_true_eq_false, not_false_eq_true, false_implies, true_implies, and_true, true_and, and_false, false_and, if_true, if_false, forall_const, or_true, true_or, false_or, or_false, i10, Bool.false_eq_true, mget hM2, mo_23, ald_N r1 (show k2 < 36 by omega) (show 36 < 2147483648 by decide), v1 k2 hk2, m_opposite hd, m_fitting hM2 hT2 hk (hm2 k2 hk2) hd', nI_and, hM2.cls, nI_1]
            refine ihd (A &&& fitM T (p2 k2) (op d), _) ⟨and_lt hA1, fun u => ?_⟩
            rw [Nat.testBit_and, Bool.and_eq_true, hA2]
            constructor
            · rintro ⟨⟨q1, q2⟩, q3⟩
              refine ⟨q1, fun d' q4 k3 q5 => ?_⟩
              by_cases e : d' = d
              · subst e; rw [hn] at q5; cases q5; exact q3
              · exact q2 d' (by omega) k3 q5
            · rintro ⟨q1, q2⟩
              exact ⟨⟨q1, fun d' q4 => q2 d' (by omega)⟩, q2 d (by omega) k2 hn⟩
  exact key (tot p (w * h) + 1) M p _ _ _ _ (Nat.lt_succ_self _) Fr.refl hA hp Keeps.refl
