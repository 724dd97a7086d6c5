/-! the class's filling: a guess is taken back -/
theorem FRow.le {M : qM} {a N n n' : Nat} {sn : Nat → Nat → Nat} {gc gt : Nat → Nat} (h : FRow M a N n' sn gc gt) (hle : n ≤ n') : FRow M a N n sn gc gt := by
  obtain ⟨h1, ⟨f', h2, h3⟩, ⟨f4, h4, h5⟩, ⟨f6, h6, h7⟩⟩ := h
  exact ⟨h1, ⟨f', h2, fun i k hi hk => h3 i k (by omega) hk⟩, ⟨f4, h4, fun i hi => h5 i (by omega)⟩, ⟨f6, h6, fun i hi => h7 i (by omega)⟩⟩
theorem s_back {M : qM} {T : TS} {o a G Wo w h n gs tk : Nat} {s : Int32} {p : Nat → Nat} {sn : Nat → Nat → Nat} {gc gt : Nat → Nat} {Q : qR → qM → Prop} (hT : TilesAt M T) (hk : TOk T) (hG : GridAt M G w h) (hD : Dim w h) (hO : FObj M o a G Wo (nI (n + 1)) s (nI gs) (nI tk)) (hA : NarS M (a + 8) G (w * h) p) (hR : FRow M a (w * h) (n + 1) sn gc gt) (hp : PN T (w * h) (sn n)) (hs : Stab T w h (sn n)) (hc : gc n < w * h) (ht : gt n < T.n) (hn : n < 36) (ho : 7 < o) (hoa : o < a) (hGo : G < o ∨ a + 24 ≤ G)
    (hQ : ∀ M', (∀ b, b ≠ o → (b < a ∨ a + 15 ≤ b) → M'[b]? = M[b]?) → FObj M' o a G Wo (nI n) s (nI gs) (nI (tk + 1)) → NarS M' (a + 8) G (w * h) (narF T w h (fu (sn n) (gc n) (sn n (gc n) &&& (255 - 2 ^ gt n)))) → FRow M' a (w * h) n sn gc gt → Q (.inl none) M') : cl 13 [.ref o] M Q := by
  have hN := hD.le
  have h8 := hk.1
  obtain ⟨st, hA0⟩ := hA
  have hO1 : FObj (M.set o (.inr (1, FO a G Wo (nI n) s (nI gs) (nI tk)))) o a G Wo (nI n) s (nI gs) (nI tk) := hO.s
  have f1 : Fr o (o + 1) M (M.set o (.inr (1, FO a G Wo (nI n) s (nI gs) (nI tk)))) := Fr.set (by omega) (by omega)
  rw [e_13]
  simp only [g_13_0, g_13_1, g_13_2, g_13_5, g_13_6, g_13_7, g_13_10, g_13_11, g_13_12, g_13_15, g_13_16, g_13_17, g_13_20, g_13_21, g_13_23, g_13_24, g_13_27, g_13_30, g_13_33, g_13_34, g_13_37, g_13_40, g_13_41, g_13_42, g_13_45, g_13_46, g_13_49, g_13_51, g_13_52, g_13_53, g_13_54, g_13_57, g_13_60, g_13_63, g_13_66, g_13_67, g_13_70, g_13_71, g_13_74, g_13_77, g_13_78, g_13_79, g_13_82, g_13_85, g_13_86, g_13_89, g_13_90, g_13_91, g_13_94, g_13_95, g_13_98, g_13_101, g_13_102, g_13_103, g_13_104, g_13_105, g_13_106, g_13_107, g_13_110, g_13_111, g_13_112, g_13_115, g_13_116, g_13_119, g_13_122, qOb_some, kr_v, kr_n, qinv_i, qinv_r, qinv_0, Nat.reduceAdd, List.getElem?_cons_zero, List.getElem?_cons_succ, List.set_cons_zero, List.set_cons_succ, List.length_cons, List.length_nil, not_true_eq_false, not_false_eq_true, false_implies, true_implies, and_true, true_and, and_false, false_and, if_true, if_false, forall_const, or_true, true_or, false_or, or_false, i10, Bool.false_eq_true, hO.get, fo_9, nI_pred, hO.put (k := 9) (by decide) rfl, fp_9]
  revert hO1 f1
  generalize M.set o (.inr (1, FO a G Wo (nI n) s (nI gs) (nI tk))) = M1
  intro hO1 f1
  have hO2 : FObj (M1.set o (.inr (1, FO a G Wo (nI n) s (nI gs) (nI (tk + 1))))) o a G Wo (nI n) s (nI gs) (nI (tk + 1)) := hO1.s
  have f2 : Fr o (o + 1) M1 (M1.set o (.inr (1, FO a G Wo (nI n) s (nI gs) (nI (tk + 1))))) := Fr.set (by omega) (by omega)
  simp only [g_13_0, g_13_1, g_13_2, g_13_5, g_13_6, g_13_7, g_13_10, g_13_11, g_13_12, g_13_15, g_13_16, g_13_17, g_13_20, g_13_21, g_13_23, g_13_24, g_13_27, g_13_30, g_13_33, g_13_34, g_13_37, g_13_40, g_13_41, g_13_42, g_13_45, g_13_46, g_13_49, g_13_51, g_13_52, g_13_53, g_13_54, g_13_57, g_13_60, g_13_63, g_13_66, g_13_67, g_13_70, g_13_71, g_13_74, g_13_77, g_13_78, g_13_79, g_13_82, g_13_85, g_13_86, g_13_89, g_13_90, g_13_91, g_13_94, g_13_95, g_13_98, g_13_101, g_13_102, g_13_103, g_13_104, g_13_105, g_13_106, g_13_107, g_13_110, g_13_111, g_13_112, g_13_115, g_13_116, g_13_119, g_13_122, qOb_some, kr_v, kr_n, qinv_i, qinv_r, qinv_0, Nat.reduceAdd, List.getElem?_cons_zero, List.getElem?_cons_succ, List.set_cons_zero, List.set_cons_succ, List.length_cons, List.length_nil, not_true_eq_false, not_false_eq_true, false_implies, true_implies, and_true, true_and, and_false, false_and, if_true, if_false, forall_const, or_true, true_or, false_or, or_false, i10, Bool.false_eq_true, hO1.get, fo_12, nI_1, hO1.put (k := 12) (by decide) rfl, fp_12]
  revert hO2 f2
  generalize M1.set o (.inr (1, FO a G Wo (nI n) s (nI gs) (nI (tk + 1)))) = M2
  intro hO2 f2
  have f12 := f1.trans f2
  have hR2 := hR.fr f12 (by omega)
  have hT2 := hT.fr f12 (by omega)
  have hG2 := hG.fr f12 (by omega)
  have hA2 := hA0.fr f12 (by omega)
  have hR2' := hR2
  obtain ⟨-, ⟨fB, rB, vB⟩, ⟨fC, rC, vC⟩, ⟨fD, rD, vD⟩⟩ := hR2
  obtain ⟨h1, ⟨fp, r1, v1⟩, ⟨fq, r2, v2⟩, h5⟩ := hA2
  refine upto (N := w * h) (I := fun k M' => Fr (a + 10) (a + 11) M2 M' ∧ ∃ f, RowAt M' (a + 8 + 1) 36 f ∧ ∀ j, j < k → f j = nI (sn n j)) (G := fun k M' => g 13 22 [some (.ref o), some (.int (nI k)), none] [] M' 0 0 Q) ?_ ?_ 0 M2 (Nat.zero_le _) ⟨Fr.refl, fp, r1, fun k hk => absurd hk (Nat.not_lt_zero _)⟩
  · rintro M3 ⟨a1, f, a2, a3⟩
    have hG3 := hG2.fr a1 (by omega)
    have hT3 := hT2.fr a1 (by omega)
    have hO3 := hO2.fr a1 (by omega)
    have rC3 := rC.fr a1 (by omega)
    have rD3 := rD.fr a1 (by omega)
    have h13 := (a1 (a + 8) (by omega)).trans h1
    have hA3 : NarS M3 (a + 8) G (w * h) (sn n) := ⟨st, h13, ⟨f, a2, a3⟩, ⟨fq, r2.fr a1 (by omega), v2⟩, h5.fr a1 (by omega)⟩
    have hx := (hp.msk hk) (gc n) hc
    rw [g_13_22]
    simp only [g_13_0, g_13_1, g_13_2, g_13_5, g_13_6, g_13_7, g_13_10, g_13_11, g_13_12, g_13_15, g_13_16, g_13_17, g_13_20, g_13_21, g_13_23, g_13_24, g_13_27, g_13_30, g_13_33, g_13_34, g_13_37, g_13_40, g_13_41, g_13_42, g_13_45, g_13_46, g_13_49, g_13_51, g_13_52, g_13_53, g_13_54, g_13_57, g_13_60, g_13_63, g_13_66, g_13_67, g_13_70, g_13_71, g_13_74, g_13_77, g_13_78, g_13_79, g_13_82, g_13_85, g_13_86, g_13_89, g_13_90, g_13_91, g_13_94, g_13_95, g_13_98, g_13_101, g_13_102, g_13_103, g_13_104, g_13_105, g_13_106, g_13_107, g_13_110, g_13_111, g_13_112, g_13_115, g_13_116, g_13_119, g_13_122, qOb_some, kr_v, kr_n, qinv_i, qinv_r, qinv_0, Nat.reduceAdd, List.getElem?_cons_zero, List.getElem?_cons_succ, List.set_cons_zero, List.set_cons_succ, List.length_cons, List.length_nil, not_true_eq_false, not_false_eq_true, false_implies, true_implies, and_true, true_and, and_false, false_and, if_true, if_false, forall_const, or_true, true_or, false_or, or_false, i10, Bool.false_eq_true, hO3.get, fo_1, fo_3, fo_7, fo_8, fo_9, qcls_of hG3, s_cells hG3, Int32.le_refl, rC3.cls, rD3.cls, s_get rC3 (show 36 < 2147483648 by decide), s_get rD3 (show 36 < 2147483648 by decide), rget_nI (show n < 36 by omega) (show 36 < 2147483648 by decide), vC n (Nat.lt_succ_self _), vD n (Nat.lt_succ_self _), qget_of h13, a2.cls, s_get a2 (show 36 < 2147483648 by decide), rget_nI (show gc n < 36 by omega) (show 36 < 2147483648 by decide), a3 (gc n) hc, nI_not1 (gt n) (show gt n < 8 by omega) (sn n (gc n)) hx, qcls_of h13]
    refine s_change1 hT3 hk hG3 hD (by omega) (by omega) hA3 hp hs hc (Sb.and_l _ _) (fun M7 e1 e2 e3 => ?_) (fun M8 e1 e2 => ?_) (Q2 := kr 13 119 [some (.ref o), some (.int (nI (gc n))), some (.int (nI (sn n (gc n) &&& (255 - 2 ^ gt n))))] [] 0 0 Q)
    · obtain ⟨st7, wt7, fl7, e4⟩ := e2
      simp only [g_13_0, g_13_1, g_13_2, g_13_5, g_13_6, g_13_7, g_13_10, g_13_11, g_13_12, g_13_15, g_13_16, g_13_17, g_13_20, g_13_21, g_13_23, g_13_24, g_13_27, g_13_30, g_13_33, g_13_34, g_13_37, g_13_40, g_13_41, g_13_42, g_13_45, g_13_46, g_13_49, g_13_51, g_13_52, g_13_53, g_13_54, g_13_57, g_13_60, g_13_63, g_13_66, g_13_67, g_13_70, g_13_71, g_13_74, g_13_77, g_13_78, g_13_79, g_13_82, g_13_85, g_13_86, g_13_89, g_13_90, g_13_91, g_13_94, g_13_95, g_13_98, g_13_101, g_13_102, g_13_103, g_13_104, g_13_105, g_13_106, g_13_107, g_13_110, g_13_111, g_13_112, g_13_115, g_13_116, g_13_119, g_13_122, qOb_some, kr_v, kr_n, qinv_i, qinv_r, qinv_0, Nat.reduceAdd, List.getElem?_cons_zero, List.getElem?_cons_succ, List.set_cons_zero, List.set_cons_succ, List.length_cons, List.length_nil, not_true_eq_false, not_false_eq_true, false_implies, true_implies, and_true, true_and, and_false, false_and, if_true, if_false, forall_const, or_true, true_or, false_or, or_false, i10, Bool.false_eq_true, (hO3.fr e1 (by omega)).get, fo_3, qcls_of e4.1]
      exact e3
    · simp only [g_13_0, g_13_1, g_13_2, g_13_5, g_13_6, g_13_7, g_13_10, g_13_11, g_13_12, g_13_15, g_13_16, g_13_17, g_13_20, g_13_21, g_13_23, g_13_24, g_13_27, g_13_30, g_13_33, g_13_34, g_13_37, g_13_40, g_13_41, g_13_42, g_13_45, g_13_46, g_13_49, g_13_51, g_13_52, g_13_53, g_13_54, g_13_57, g_13_60, g_13_63, g_13_66, g_13_67, g_13_70, g_13_71, g_13_74, g_13_77, g_13_78, g_13_79, g_13_82, g_13_85, g_13_86, g_13_89, g_13_90, g_13_91, g_13_94, g_13_95, g_13_98, g_13_101, g_13_102, g_13_103, g_13_104, g_13_105, g_13_106, g_13_107, g_13_110, g_13_111, g_13_112, g_13_115, g_13_116, g_13_119, g_13_122, qOb_some, kr_v, kr_n, qinv_i, qinv_r, qinv_0, Nat.reduceAdd, List.getElem?_cons_zero, List.getElem?_cons_succ, List.set_cons_zero, List.set_cons_succ, List.length_cons, List.length_nil, not_true_eq_false, not_false_eq_true, false_implies, true_implies, and_true, true_and, and_false, false_and, if_true, if_false, forall_const, or_true, true_or, false_or, or_false, i10, Bool.false_eq_true]
      exact hQ M8 (fun b q1 q2 => (e1 b (by omega)).trans ((a1 b (by omega)).trans (f12 b (by omega)))) (hO3.fr e1 (by omega)) e2 (((hR2'.fr a1 (by omega)).fr e1 (by omega)).le (Nat.le_succ n))
  · rintro k M3 hk2 ⟨a1, f, a2, a3⟩ ih
    have hG3 := hG2.fr a1 (by omega)
    have hO3 := hO2.fr a1 (by omega)
    have rB3 := rB.fr a1 (by omega)
    have h13 := (a1 (a + 8) (by omega)).trans h1
    rw [g_13_22]
    simp only [g_13_0, g_13_1, g_13_2, g_13_5, g_13_6, g_13_7, g_13_10, g_13_11, g_13_12, g_13_15, g_13_16, g_13_17, g_13_20, g_13_21, g_13_23, g_13_24, g_13_27, g_13_30, g_13_33, g_13_34, g_13_37, g_13_40, g_13_41, g_13_42, g_13_45, g_13_46, g_13_49, g_13_51, g_13_52, g_13_53, g_13_54, g_13_57, g_13_60, g_13_63, g_13_66, g_13_67, g_13_70, g_13_71, g_13_74, g_13_77, g_13_78, g_13_79, g_13_82, g_13_85, g_13_86, g_13_89, g_13_90, g_13_91, g_13_94, g_13_95, g_13_98, g_13_101, g_13_102, g_13_103, g_13_104, g_13_105, g_13_106, g_13_107, g_13_110, g_13_111, g_13_112, g_13_115, g_13_116, g_13_119, g_13_122, qOb_some, kr_v, kr_n, qinv_i, qinv_r, qinv_0, Nat.reduceAdd, List.getElem?_cons_zero, List.getElem?_cons_succ, List.set_cons_zero, List.set_cons_succ, List.length_cons, List.length_nil, not_true_eq_false, not_false_eq_true, false_implies, true_implies, and_true, true_and, and_false, false_and, if_true, if_false, forall_const, or_true, true_or, false_or, or_false, i10, Bool.false_eq_true, hO3.get, fo_1, fo_3, fo_6, fo_9, qcls_of hG3, s_cells hG3, nI_ge hk2 (show w * h < 2 ^ 31 by omega), qget_of h13, show (36 : Int32) = nI 36 from rfl, pk_mul, nI_add, rB3.cls, s_get rB3 (show 1296 < 2147483648 by decide), rget_nI (show n * 36 + k < 1296 by omega) (show 1296 < 2147483648 by decide), vB n k (Nat.lt_succ_self _) hk2, a2.cls]
    refine s_setF a2 (by decide) (show k < 36 by omega) (fun M4 b1 b2 => ?_)
    simp only [g_13_0, g_13_1, g_13_2, g_13_5, g_13_6, g_13_7, g_13_10, g_13_11, g_13_12, g_13_15, g_13_16, g_13_17, g_13_20, g_13_21, g_13_23, g_13_24, g_13_27, g_13_30, g_13_33, g_13_34, g_13_37, g_13_40, g_13_41, g_13_42, g_13_45, g_13_46, g_13_49, g_13_51, g_13_52, g_13_53, g_13_54, g_13_57, g_13_60, g_13_63, g_13_66, g_13_67, g_13_70, g_13_71, g_13_74, g_13_77, g_13_78, g_13_79, g_13_82, g_13_85, g_13_86, g_13_89, g_13_90, g_13_91, g_13_94, g_13_95, g_13_98, g_13_101, g_13_102, g_13_103, g_13_104, g_13_105, g_13_106, g_13_107, g_13_110, g_13_111, g_13_112, g_13_115, g_13_116, g_13_119, g_13_122, qOb_some, kr_v, kr_n, qinv_i, qinv_r, qinv_0, Nat.reduceAdd, List.getElem?_cons_zero, List.getElem?_cons_succ, List.set_cons_zero, List.set_cons_succ, List.length_cons, List.length_nil, not_true_eq_false, not_false_eq_true, false_implies, true_implies, and_true, true_and, and_false, false_and, if_true, if_false, forall_const, or_true, true_or, false_or, or_false, i10, Bool.false_eq_true, nI_1]
    refine ih M4 ⟨a1.trans (b1.mono (by omega) (by omega)), _, b2, fun j hj => ?_⟩
    by_cases e : j = k
    · rw [e, upd_s]
    · rw [upd_n e]; exact a3 j (by omega)
