/-! the class's count of pieces -/
theorem s_pieces {M : qM} {T : TS} {o G w h : Nat} {tl : Nat → Nat} {Q : qR → qM → Prop} (hT : TilesAt M T) (hk : TOk T) (hG : GridAt M G w h) (hD : Dim w h) (ho : 7 < o) (hGo : G < o ∨ o + 9 ≤ G) (hP : PlaAt M o G (w * h) tl) (htl : ∀ k, k < w * h → tl k < T.n)
    (hQ : ∀ M', Fr (o + 5) (o + 9) M M' → PlaAt M' o G (w * h) tl → Q (.inl (some (.int (nI (npc T w h tl))))) M') : cl 33 [.ref o] M Q := by
  have hN := hD.le
  have hP0 := hP
  obtain ⟨h1, ⟨ft, rt, vt⟩, ⟨fc, rc⟩, ⟨fs, rs⟩, ⟨fr0, rr⟩⟩ := hP
  rw [e_33]
  simp only [g_33_0, g_33_1, g_33_4, g_33_5, g_33_8, g_33_9, g_33_10, g_33_11, g_33_13, g_33_14, g_33_17, g_33_20, g_33_23, g_33_24, g_33_27, g_33_28, g_33_31, g_33_34, g_33_35, g_33_38, g_33_39, g_33_42, g_33_43, g_33_46, g_33_49, g_33_52, g_33_53, g_33_54, g_33_57, g_33_60, g_33_63, g_33_66, g_33_67, qOb_some, kr_v, kr_n, qinv_i, qinv_r, qinv_0, Nat.reduceAdd, List.getElem?_cons_zero, List.getElem?_cons_succ, List.set_cons_zero, List.set_cons_succ, List.length_cons, List.length_nil, not_true_eq_false, not_false_eq_true, false_implies, true_implies, and_true, true_and, and_false, false_and, if_true, if_false, forall_const, or_true, true_or, false_or, or_false, i10, Bool.false_eq_true, qget_of h1, rs.cls]
  refine s_setAll rs (by decide) (fun fs1 hfs1 => ?_)
  have frA : Fr (o + 5 + 1) (o + 5 + 2) M (M.set (o + 5 + 1) (.inl (0, 36, .inl fs1))) := Fr.set (by omega) (by omega)
  have rsA : RowAt (M.set (o + 5 + 1) (.inl (0, 36, .inl fs1))) (o + 5) 36 fs1 := rs.set
  revert frA rsA
  generalize M.set (o + 5 + 1) (.inl (0, 36, .inl fs1)) = MA
  intro frA rsA
  simp only [g_33_0, g_33_1, g_33_4, g_33_5, g_33_8, g_33_9, g_33_10, g_33_11, g_33_13, g_33_14, g_33_17, g_33_20, g_33_23, g_33_24, g_33_27, g_33_28, g_33_31, g_33_34, g_33_35, g_33_38, g_33_39, g_33_42, g_33_43, g_33_46, g_33_49, g_33_52, g_33_53, g_33_54, g_33_57, g_33_60, g_33_63, g_33_66, g_33_67, qOb_some, kr_v, kr_n, qinv_i, qinv_r, qinv_0, Nat.reduceAdd, List.getElem?_cons_zero, List.getElem?_cons_succ, List.set_cons_zero, List.set_cons_succ, List.length_cons, List.length_nil, not_true_eq_false, not_false_eq_true, false_implies, true_implies, and_true, true_and, and_false, false_and, if_true, if_false, forall_const, or_true, true_or, false_or, or_false, i10, Bool.false_eq_true]
  refine upto (N := w * h) (I := fun c M' => Fr (o + 5) (o + 9) M M' ∧ (∃ f, RowAt M' (o + 7) 36 f) ∧ ∃ fl, SeeAt M' o fl ∧ ∀ k, k < w * h → (fl k = true ↔ ∃ i, i < c ∧ roadT T (tl i) = true ∧ Conn T w h tl i k)) (G := fun c M' => g 33 12 [some (.ref o), some (.int (nI (cntB (fun k => cB (Lead T w h tl k)) c))), some (.int (nI c))] [] M' 0 0 Q) ?_ ?_ 0 MA (Nat.zero_le _) ⟨frA.mono (by omega) (by omega), ⟨fr0, rr.fr frA (by omega)⟩, fun _ => false, ⟨fs1, rsA, fun k hk => hfs1 k hk⟩, fun k hk => ⟨fun q => (by cases q), fun ⟨i, q, _⟩ => absurd q (Nat.not_lt_zero _)⟩⟩
  · rintro M1 ⟨a1, a2, fl, a3, a4⟩
    have h1a := (a1 o (by omega)).trans h1
    have hG1 := hG.fr a1 (by omega)
    rw [g_33_12]
    simp only [g_33_0, g_33_1, g_33_4, g_33_5, g_33_8, g_33_9, g_33_10, g_33_11, g_33_13, g_33_14, g_33_17, g_33_20, g_33_23, g_33_24, g_33_27, g_33_28, g_33_31, g_33_34, g_33_35, g_33_38, g_33_39, g_33_42, g_33_43, g_33_46, g_33_49, g_33_52, g_33_53, g_33_54, g_33_57, g_33_60, g_33_63, g_33_66, g_33_67, qOb_some, kr_v, kr_n, qinv_i, qinv_r, qinv_0, Nat.reduceAdd, List.getElem?_cons_zero, List.getElem?_cons_succ, List.set_cons_zero, List.set_cons_succ, List.length_cons, List.length_nil, not_true_eq_false, not_false_eq_true, false_implies, true_implies, and_true, true_and, and_false, false_and, if_true, if_false, forall_const, or_true, true_or, false_or, or_false, i10, Bool.false_eq_true, qget_of h1a, qcls_of hG1, s_cells hG1, Int32.le_refl]
    obtain ⟨f, a5, a6⟩ := a3
    exact hQ M1 a1 ⟨h1a, ⟨ft, rt.fr a1 (by omega), vt⟩, ⟨fc, rc.fr a1 (by omega)⟩, ⟨f, a5⟩, a2⟩
  · rintro c M1 hc ⟨a1, a2, fl, a3, a4⟩ ih
    have h1a := (a1 o (by omega)).trans h1
    have hG1 := hG.fr a1 (by omega)
    have hT1 := hT.fr a1 (by omega)
    have rt1 := rt.fr a1 (by omega)
    have a3' := a3
    obtain ⟨f, a5, a6⟩ := a3
    have hP1 : PlaAt M1 o G (w * h) tl := ⟨h1a, ⟨ft, rt1, vt⟩, ⟨fc, rc.fr a1 (by omega)⟩, ⟨f, a5⟩, a2⟩
    have cle := cntB_le (f := fun k => cB (Lead T w h tl k)) (n := c)
    have nolead : ¬ Lead T w h tl c → (∀ k, k < w * h → (fl k = true ↔ ∃ i, i < c + 1 ∧ roadT T (tl i) = true ∧ Conn T w h tl i k)) → g 33 12 [some (.ref o), some (.int (nI (cntB (fun k => cB (Lead T w h tl k)) c))), some (.int (nI (c + 1)))] [] M1 0 0 Q := by
      intro q1 q2
      have := ih M1 ⟨a1, a2, fl, a3', q2⟩
      rw [cntB, if_neg (by rw [cB_iff]; exact q1), Nat.add_zero] at this
      exact this
    rw [g_33_12]
    simp only [g_33_0, g_33_1, g_33_4, g_33_5, g_33_8, g_33_9, g_33_10, g_33_11, g_33_13, g_33_14, g_33_17, g_33_20, g_33_23, g_33_24, g_33_27, g_33_28, g_33_31, g_33_34, g_33_35, g_33_38, g_33_39, g_33_42, g_33_43, g_33_46, g_33_49, g_33_52, g_33_53, g_33_54, g_33_57, g_33_60, g_33_63, g_33_66, g_33_67, qOb_some, kr_v, kr_n, qinv_i, qinv_r, qinv_0, Nat.reduceAdd, List.getElem?_cons_zero, List.getElem?_cons_succ, List.set_cons_zero, List.set_cons_succ, List.length_cons, List.length_nil, not_true_eq_false, not_false_eq_true, false_implies, true_implies, and_true, true_and, and_false, false_and, if_true, if_false, forall_const, or_true, true_or, false_or, or_false, i10, Bool.false_eq_true, qget_of h1a, qcls_of hG1, s_cells hG1, nI_ge hc (show w * h < 2 ^ 31 by omega), a5.cls, s_get a5 (show 36 < 2147483648 by decide), rget_nI (show c < 36 by omega) (show 36 < 2147483648 by decide), a6 c (show c < 36 by omega), bI_0, rt1.cls, qcls_of hT1.1, s_get rt1 (show 36 < 2147483648 by decide), vt c hc, s_hasRoad hT1 hk (htl c hc), qcls_of h1a]
    by_cases u1 : fl c = true
    · simp only [u1, not_true_eq_false, not_false_eq_true, false_implies, true_implies, and_true, true_and, and_false, false_and, if_true, if_false, forall_const, or_true, true_or, false_or, or_false, i10, Bool.false_eq_true, nI_1]
      obtain ⟨i, i1, i2, i3⟩ := (a4 c hc).mp u1
      have hi : i < w * h := by omega
      refine nolead (fun q => ?_) (fun k hk => ?_)
      · have := q.2 i (i3.symm hi)
        omega
      · rw [a4 k hk]
        constructor
        · rintro ⟨j, q1, q2⟩
          exact ⟨j, by omega, q2⟩
        · rintro ⟨j, q1, q2, q3⟩
          by_cases e : j = c
          · subst e
            exact ⟨i, i1, i2, i3.trans q3⟩
          · exact ⟨j, by omega, q2, q3⟩
    · have u1f : fl c = false := by simpa using u1
      by_cases u2 : roadT T (tl c) = true
      · simp only [u1f, u2, not_true_eq_false, not_false_eq_true, false_implies, true_implies, and_true, true_and, and_false, false_and, if_true, if_false, forall_const, or_true, true_or, false_or, or_false, i10, Bool.false_eq_true]
        have hlead : Lead T w h tl c := by
          refine ⟨u2, fun j hj => ?_⟩
          rcases Nat.lt_or_ge j c with q | q
          · exact absurd ((a4 c hc).mpr ⟨j, q, hj.road u2, hj.symm hc⟩) u1
          · exact q
        refine s_seePiece hT1 hk hG1 hD ho hGo hP1 htl a3' (fun i j hi q hij => ?_) hc u1f (fun M2 fl2 b1 b2 b3 b4 => ?_)
        · obtain ⟨e, e1, e2, e3⟩ := (a4 i hi).mp q
          exact (a4 j (hij.lt hi)).mpr ⟨e, e1, e2, e3.step hi hij⟩
        · have := ih M2 ⟨a1.trans b1, b3, fl2, b2, fun k hk => by
            rw [b4 k hk, a4 k hk]
            constructor
            · rintro (⟨j, q1, q2⟩ | q)
              · exact ⟨j, by omega, q2⟩
              · exact ⟨c, by omega, u2, q⟩
            · rintro ⟨j, q1, q2, q3⟩
              by_cases e : j = c
              · subst e; exact Or.inr q3
              · exact Or.inl ⟨j, by omega, q2, q3⟩⟩
          rw [cntB, if_pos (by rw [cB_iff]; exact hlead)] at this
          simp only [g_33_0, g_33_1, g_33_4, g_33_5, g_33_8, g_33_9, g_33_10, g_33_11, g_33_13, g_33_14, g_33_17, g_33_20, g_33_23, g_33_24, g_33_27, g_33_28, g_33_31, g_33_34, g_33_35, g_33_38, g_33_39, g_33_42, g_33_43, g_33_46, g_33_49, g_33_52, g_33_53, g_33_54, g_33_57, g_33_60, g_33_63, g_33_66, g_33_67, qOb_some, kr_v, kr_n, qinv_i, qinv_r, qinv_0, Nat.reduceAdd, List.getElem?_cons_zero, List.getElem?_cons_succ, List.set_cons_zero, List.set_cons_succ, List.length_cons, List.length_nil, nI_1]
          exact this
      · simp only [u1f, u2, not_true_eq_false, not_false_eq_true, false_implies, true_implies, and_true, true_and, and_false, false_and, if_true, if_false, forall_const, or_true, true_or, false_or, or_false, i10, Bool.false_eq_true, nI_1]
        refine nolead (fun q => u2 q.1) (fun k hk => ?_)
        rw [a4 k hk]
        constructor
        · rintro ⟨j, q1, q2⟩
          exact ⟨j, by omega, q2⟩
        · rintro ⟨j, q1, q2, q3⟩
          by_cases e : j = c
          · subst e; exact absurd q2 u2
          · exact ⟨j, by omega, q2, q3⟩
/-- is the road as wished -/
def rdOk (T : TS) (w h : Nat) (road : Bool) (tl : Nat → Nat) : Prop := road = true → npc T w h tl ≤ 1
theorem npc_le {T : TS} {w h : Nat} {tl : Nat → Nat} : npc T w h tl ≤ w * h := cntB_le
theorem s_isRoadAs {M : qM} {T : TS} {o G w h Wo : Nat} {W : Nat → Int32} {road : Bool} {tl : Nat → Nat} {Q : qR → qM → Prop} (hT : TilesAt M T) (hk : TOk T) (hG : GridAt M G w h) (hD : Dim w h) (ho : 7 < o) (hGo : G < o ∨ o + 9 ≤ G) (hP : PlaAt M o G (w * h) tl) (hW : WishAt M Wo W road) (htl : road = true → ∀ k, k < w * h → tl k < T.n)
    (hQ : ∀ M' b, Fr (o + 5) (o + 9) M M' → PlaAt M' o G (w * h) tl → (b = true ↔ rdOk T w h road tl) → Q (.inl (some (.int (bI (b = true))))) M') : cl 31 [.ref o, .ref Wo] M Q := by
  have hN := hD.le
  rw [e_31]
  simp only [g_31_0, g_31_1, g_31_4, g_31_7, g_31_8, g_31_11, g_31_12, g_31_15, g_31_16, g_31_19, g_31_20, qOb_some, kr_v, kr_n, qinv_i, qinv_r, qinv_0, Nat.reduceAdd, List.getElem?_cons_zero, List.getElem?_cons_succ, List.set_cons_zero, List.set_cons_succ, List.length_cons, List.length_nil, not_true_eq_false, not_false_eq_true, false_implies, true_implies, and_true, true_and, and_false, false_and, if_true, if_false, forall_const, or_true, true_or, false_or, or_false, i10, Bool.false_eq_true, qget_of hW.1, bI_0, qcls_of hP.1]
  cases hr : road with
  | false =>
    have := hQ M true Fr.refl hP ⟨fun _ q => (by rw [hr] at q; cases q), fun _ => rfl⟩
    simp only [bI, not_true_eq_false, not_false_eq_true, false_implies, true_implies, and_true, true_and, and_false, false_and, if_true, if_false, forall_const, or_true, true_or, false_or, or_false, i10, Bool.false_eq_true] at this ⊢
    exact this
  | true =>
    simp only [not_true_eq_false, not_false_eq_true, false_implies, true_implies, and_true, true_and, and_false, false_and, if_true, if_false, forall_const, or_true, true_or, false_or, or_false, i10, Bool.false_eq_true]
    refine s_pieces hT hk hG hD ho hGo hP (htl hr) (fun M1 a1 a2 => ?_)
    have hle := npc_le (T := T) (w := w) (h := h) (tl := tl)
    have e1 : (nI (npc T w h tl) ≤ 1) = (npc T w h tl ≤ 1) := propext (nI_leI (b := 1) (by omega) (by decide))
    have e2 : (1 < nI (npc T w h tl)) = (1 < npc T w h tl) := propext (nI_ltI (a := 1) (by decide) (by omega))
    by_cases q : npc T w h tl ≤ 1
    · have := hQ M1 true a1 a2 ⟨fun _ _ => q, fun _ => rfl⟩
      simp only [g_31_0, g_31_1, g_31_4, g_31_7, g_31_8, g_31_11, g_31_12, g_31_15, g_31_16, g_31_19, g_31_20, qOb_some, kr_v, kr_n, qinv_i, qinv_r, qinv_0, Nat.reduceAdd, List.getElem?_cons_zero, List.getElem?_cons_succ, List.set_cons_zero, List.set_cons_succ, List.length_cons, List.length_nil, not_true_eq_false, not_false_eq_true, false_implies, true_implies, and_true, true_and, and_false, false_and, if_true, if_false, forall_const, or_true, true_or, false_or, or_false, i10, Bool.false_eq_true, e1, e2, q, Nat.not_lt.mpr q, bI] at this ⊢
      exact this
    · have := hQ M1 false a1 a2 ⟨fun q2 => (by cases q2), fun q2 => absurd (q2 hr) q⟩
      simp only [g_31_0, g_31_1, g_31_4, g_31_7, g_31_8, g_31_11, g_31_12, g_31_15, g_31_16, g_31_19, g_31_20, qOb_some, kr_v, kr_n, qinv_i, qinv_r, qinv_0, Nat.reduceAdd, List.getElem?_cons_zero, List.getElem?_cons_succ, List.set_cons_zero, List.set_cons_succ, List.length_cons, List.length_nil, not_true_eq_false, not_false_eq_true, false_implies, true_implies, and_true, true_and, and_false, false_and, if_true, if_false, forall_const, or_true, true_or, false_or, or_false, i10, Bool.false_eq_true, e1, e2, q, Nat.not_le.mp q, bI] at this ⊢
      exact this
