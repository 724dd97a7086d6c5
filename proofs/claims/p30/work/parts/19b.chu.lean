/-! chunks: what may lie, in the model; a chunk is put into the filling -/
theorem s_putChunk {M : qM} {sd fd x y : Int32} {T : TS} {n0 s0 gs0 tk0 : Int32} {Q : qR → qM → Prop} (hH : HObj M sd fd) (hT : TilesAt M T) (hk : TOk T) (hG : GridAt M 65 3 3) (hO : FObj M 66 70 65 67 n0 s0 gs0 tk0) (hI : NarIdle M 78 65)
    (hQ : ∀ M' p' fl' st' wt', Fr 78 85 M M' → NarAt M' 78 65 (3 * 3) p' fl' st' wt' → StkOk (3 * 3) fl' st' wt' → (∀ k, k < 3 * 3 → p' k = chM T sd x y k ∧ fl' k = true) → Q (.inl none) M') : cl 96 [.ref 0, .int x, .int y] M Q := by
  obtain ⟨p0, st0, hA0⟩ := hI.at (3 * 3)
  rw [e_96]
  simp only [g_96_0, g_96_1, g_96_3, g_96_5, g_96_8, g_96_9, g_96_12, g_96_15, g_96_16, g_96_17, g_96_18, g_96_19, g_96_20, g_96_23, g_96_26, g_96_29, g_96_32, qOb_some, kr_v, kr_n, qinv_i, qinv_r, qinv_0, Nat.reduceAdd, List.getElem?_cons_zero, List.getElem?_cons_succ, List.set_cons_zero, List.set_cons_succ, List.length_cons, List.length_nil]
  refine upto (N := 9) (I := fun c M' => ∃ p' fl' st' wt', Fr 78 85 M M' ∧ NarAt M' 78 65 (3 * 3) p' fl' st' wt' ∧ StkOk (3 * 3) fl' st' wt' ∧ (∀ k, k < c → p' k = chM T sd x y k ∧ fl' k = true)) (G := fun c M' => g 96 2 [some (.ref 0), some (.int x), some (.int y), some (.int (nI c))] [] M' 0 0 Q) ?_ ?_ 0 M (Nat.zero_le _) ⟨p0, _, st0, 0, Fr.refl, hA0, StkOk_0, fun k hk => absurd hk (by omega)⟩
  · rintro M1 ⟨p1, fl1, st1, wt1, a1, a2, a3, a4⟩
    rw [g_96_2]
    simp only [g_96_0, g_96_1, g_96_3, g_96_5, g_96_8, g_96_9, g_96_12, g_96_15, g_96_16, g_96_17, g_96_18, g_96_19, g_96_20, g_96_23, g_96_26, g_96_29, g_96_32, qOb_some, kr_v, kr_n, qinv_i, qinv_r, qinv_0, Nat.reduceAdd, List.getElem?_cons_zero, List.getElem?_cons_succ, List.set_cons_zero, List.set_cons_succ, List.length_cons, List.length_nil, not_true_eq_false, not_false_eq_true, false_implies, true_implies, and_true, true_and, and_false, false_and, if_true, if_false, forall_const, or_true, true_or, false_or, or_false, i10, Bool.false_eq_true, show (9 : Int32) = nI 9 from rfl, Int32.le_refl]
    exact hQ M1 p1 fl1 st1 wt1 a1 a2 a3 a4
  · rintro c M1 hc ⟨p1, fl1, st1, wt1, a1, a2, a3, a4⟩ ih
    have hH1 := hH.fr a1 (by omega)
    have hO1 := hO.fr a1 (by omega)
    rw [g_96_2]
    simp only [g_96_0, g_96_1, g_96_3, g_96_5, g_96_8, g_96_9, g_96_12, g_96_15, g_96_16, g_96_17, g_96_18, g_96_19, g_96_20, g_96_23, g_96_26, g_96_29, g_96_32, qOb_some, kr_v, kr_n, qinv_i, qinv_r, qinv_0, Nat.reduceAdd, List.getElem?_cons_zero, List.getElem?_cons_succ, List.set_cons_zero, List.set_cons_succ, List.length_cons, List.length_nil, not_true_eq_false, not_false_eq_true, false_implies, true_implies, and_true, true_and, and_false, false_and, if_true, if_false, forall_const, or_true, true_or, false_or, or_false, i10, Bool.false_eq_true, show (9 : Int32) = nI 9 from rfl, nI_ge hc (show 9 < 2 ^ 31 by decide), hget hH1, ho_8, hO1.get, fo_3, hH1.cls, s_possChunk hH1 (hT.fr a1 (by omega)) hk (hG.fr a1 (by omega)) hc, qcls_of a2.1]
    refine s_change a2 a3 (by decide) (show c < 3 * 3 by omega) (fun M2 st2 wt2 b1 b2 b3 _ => ?_)
    simp only [g_96_0, g_96_1, g_96_3, g_96_5, g_96_8, g_96_9, g_96_12, g_96_15, g_96_16, g_96_17, g_96_18, g_96_19, g_96_20, g_96_23, g_96_26, g_96_29, g_96_32, qOb_some, kr_v, kr_n, qinv_i, qinv_r, qinv_0, Nat.reduceAdd, List.getElem?_cons_zero, List.getElem?_cons_succ, List.set_cons_zero, List.set_cons_succ, List.length_cons, List.length_nil, nI_1]
    refine ih M2 ⟨_, _, st2, wt2, a1.trans b1, b2, b3, fun k hk => ?_⟩
    by_cases q : k = c
    · rw [q, fu_s, fb_s]
      exact ⟨rfl, rfl⟩
    · rw [fu_n q, fb_n q]
      exact a4 k (by omega)
