/-! what fits, what holds: the class's placing and the model's tiles at hand -/
def fitP (T : TS) (w h : Nat) (tl : Nat → Nat) : Prop := ∀ k d j, k < w * h → d < 4 → nb w h k d = some j → T.c (tl k) d = T.c (tl j) (op d)
theorem fitP_c {T : TS} {w h : Nat} {tl tl' : Nat → Nat} (he : ∀ k, k < w * h → tl k = tl' k) : fitP T w h tl ↔ fitP T w h tl' := by
  have : ∀ t t' : Nat → Nat, (∀ k, k < w * h → t k = t' k) → fitP T w h t → fitP T w h t' := fun t t' e q k d j hk hd hn => by
    rw [← e k hk, ← e j (nb_lt hk hn)]
    exact q k d j hk hd hn
  exact ⟨this _ _ he, this _ _ (fun k hk => (he k hk).symm)⟩
theorem fitP_half {T : TS} {w h : Nat} {tl : Nat → Nat} (hq : ∀ k d j, k < w * h → 1 ≤ d → d < 3 → nb w h k d = some j → T.c (tl k) d = T.c (tl j) (op d)) : fitP T w h tl := by
  intro k d j hk hd hn
  by_cases e : 1 ≤ d ∧ d < 3
  · exact hq k d j hk e.1 e.2 hn
  · have h2 := nb_sym hk hd hn
    have hj := nb_lt hk hn
    have h3 := hq j (op d) k hj (by unfold op; omega) (by unfold op; omega) h2
    rw [op_op d hd] at h3
    exact h3.symm
theorem s_isFitting {M : qM} {T : TS} {o G w h : Nat} {tl : Nat → Nat} {Q : qR → qM → Prop} (hT : TilesAt M T) (hk : TOk T) (hG : GridAt M G w h) (hD : Dim w h) (hP : PlaAt M o G (w * h) tl) (htl : ∀ k, k < w * h → tl k < T.n) : cl 29 [.ref o] M Q ↔ Q (.inl (some (.int (bI (cB (fitP T w h tl) = true))))) M := by
  refine cl_iff (fun Q hQ => ?_)
  have hN := hD.le
  obtain ⟨h1, ⟨ft, rt, vt⟩, -⟩ := hP
  rw [e_29]
  simp only [g_29_0, g_29_1, g_29_3, g_29_4, g_29_7, g_29_10, g_29_13, g_29_14, g_29_16, g_29_17, g_29_20, g_29_21, g_29_24, g_29_25, g_29_26, g_29_29, g_29_30, g_29_31, g_29_32, g_29_35, g_29_36, g_29_39, g_29_40, g_29_43, g_29_44, g_29_47, g_29_48, g_29_51, g_29_52, g_29_55, g_29_56, g_29_59, g_29_62, g_29_63, g_29_64, g_29_67, g_29_70, g_29_73, g_29_76, g_29_77, qOb_some, kr_v, kr_n, qinv_i, qinv_r, qinv_0, Nat.reduceAdd, List.getElem?_cons_zero, List.getElem?_cons_succ, List.set_cons_zero, List.set_cons_succ, List.length_cons, List.length_nil]
  refine upto (N := w * h) (I := fun c _ => ∀ k d j, k < c → d < 4 → nb w h k d = some j → T.c (tl k) d = T.c (tl j) (op d)) (G := fun c (z : Option Value × Option Value) => g 29 2 [some (.ref o), some (.int (nI c)), z.1, z.2] [] M 0 0 Q) ?_ ?_ 0 (none, none) (Nat.zero_le _) (fun k d j hk => absurd hk (Nat.not_lt_zero _))
  · rintro ⟨l2, l3⟩ hi
    rw [bI_t (cB_iff.mpr (show fitP T w h tl from hi))] at hQ
    rw [g_29_2]
    simp only [g_29_0, g_29_1, g_29_3, g_29_4, g_29_7, g_29_10, g_29_13, g_29_14, g_29_16, g_29_17, g_29_20, g_29_21, g_29_24, g_29_25, g_29_26, g_29_29, g_29_30, g_29_31, g_29_32, g_29_35, g_29_36, g_29_39, g_29_40, g_29_43, g_29_44, g_29_47, g_29_48, g_29_51, g_29_52, g_29_55, g_29_56, g_29_59, g_29_62, g_29_63, g_29_64, g_29_67, g_29_70, g_29_73, g_29_76, g_29_77, qOb_some, kr_v, kr_n, qinv_i, qinv_r, qinv_0, Nat.reduceAdd, List.getElem?_cons_zero, List.getElem?_cons_succ, List.set_cons_zero, List.set_cons_succ, List.length_cons, List.length_nil, not_true_eq_false, not_false_eq_true, false_implies, true_implies, and_true, true_and, and_false, false_and, if_true, if_false, forall_const, or_true, true_or, false_or, or_false, i10, Bool.false_eq_true, qget_of h1, qcls_of hG, s_cells hG, Int32.le_refl]
    exact hQ
  · rintro c ⟨l2, l3⟩ hc hi ih
    rw [g_29_2]
    simp only [g_29_0, g_29_1, g_29_3, g_29_4, g_29_7, g_29_10, g_29_13, g_29_14, g_29_16, g_29_17, g_29_20, g_29_21, g_29_24, g_29_25, g_29_26, g_29_29, g_29_30, g_29_31, g_29_32, g_29_35, g_29_36, g_29_39, g_29_40, g_29_43, g_29_44, g_29_47, g_29_48, g_29_51, g_29_52, g_29_55, g_29_56, g_29_59, g_29_62, g_29_63, g_29_64, g_29_67, g_29_70, g_29_73, g_29_76, g_29_77, qOb_some, kr_v, kr_n, qinv_i, qinv_r, qinv_0, Nat.reduceAdd, List.getElem?_cons_zero, List.getElem?_cons_succ, List.set_cons_zero, List.set_cons_succ, List.length_cons, List.length_nil, not_true_eq_false, not_false_eq_true, false_implies, true_implies, and_true, true_and, and_false, false_and, if_true, if_false, forall_const, or_true, true_or, false_or, or_false, i10, Bool.false_eq_true, qget_of h1, qcls_of hG, s_cells hG, nI_ge hc (show w * h < 2 ^ 31 by omega)]
    refine upto (N := 4) (I := fun d _ => ∀ d' j, d' < d → nb w h c d' = some j → T.c (tl c) d' = T.c (tl j) (op d')) (G := fun d (l3 : Option Value) => g 29 15 [some (.ref o), some (.int (nI c)), some (.int (nI d)), l3] [] M 0 0 Q) ?_ ?_ 0 l3 (Nat.zero_le _) (fun d' j hd => absurd hd (Nat.not_lt_zero _))
    · intro l3 hi2
      rw [g_29_15]
      simp only [g_29_0, g_29_1, g_29_3, g_29_4, g_29_7, g_29_10, g_29_13, g_29_14, g_29_16, g_29_17, g_29_20, g_29_21, g_29_24, g_29_25, g_29_26, g_29_29, g_29_30, g_29_31, g_29_32, g_29_35, g_29_36, g_29_39, g_29_40, g_29_43, g_29_44, g_29_47, g_29_48, g_29_51, g_29_52, g_29_55, g_29_56, g_29_59, g_29_62, g_29_63, g_29_64, g_29_67, g_29_70, g_29_73, g_29_76, g_29_77, qOb_some, kr_v, kr_n, qinv_i, qinv_r, qinv_0, Nat.reduceAdd, List.getElem?_cons_zero, List.getElem?_cons_succ, List.set_cons_zero, List.set_cons_succ, List.length_cons, List.length_nil, not_true_eq_false, not_false_eq_true, false_implies, true_implies, and_true, true_and, and_false, false_and, if_true, if_false, forall_const, or_true, true_or, false_or, or_false, i10, Bool.false_eq_true, show (4 : Int32) = nI 4 from rfl, Int32.le_refl, nI_1]
      refine ih (_, _) (fun k d j hk2 hd hn => ?_)
      by_cases e : k = c
      · subst e; exact hi2 d j hd hn
      · exact hi k d j (by omega) hd hn
    · intro d l3 hd hi2 ih2
      rw [g_29_15]
      simp only [g_29_0, g_29_1, g_29_3, g_29_4, g_29_7, g_29_10, g_29_13, g_29_14, g_29_16, g_29_17, g_29_20, g_29_21, g_29_24, g_29_25, g_29_26, g_29_29, g_29_30, g_29_31, g_29_32, g_29_35, g_29_36, g_29_39, g_29_40, g_29_43, g_29_44, g_29_47, g_29_48, g_29_51, g_29_52, g_29_55, g_29_56, g_29_59, g_29_62, g_29_63, g_29_64, g_29_67, g_29_70, g_29_73, g_29_76, g_29_77, qOb_some, kr_v, kr_n, qinv_i, qinv_r, qinv_0, Nat.reduceAdd, List.getElem?_cons_zero, List.getElem?_cons_succ, List.set_cons_zero, List.set_cons_succ, List.length_cons, List.length_nil, not_true_eq_false, not_false_eq_true, false_implies, true_implies, and_true, true_and, and_false, false_and, if_true, if_false, forall_const, or_true, true_or, false_or, or_false, i10, Bool.false_eq_true, show (4 : Int32) = nI 4 from rfl, nI_ge hd (show 4 < 2 ^ 31 by decide), qget_of h1, qcls_of hG, s_beside hG hD.1 hD.2.1 hD.2.2.1 hD.2.2.2 hc hd]
      cases hn : nb w h c d with
      | none =>
        simp only [nbI, not_true_eq_false, not_false_eq_true, false_implies, true_implies, and_true, true_and, and_false, false_and, if_true, if_false, forall_const, or_true, true_or, false_or, or_false, i10, Bool.false_eq_true, nI_1]
        refine ih2 _ (fun d' j hd' hn' => ?_)
        by_cases e : d' = d
        · subst e; rw [hn] at hn'; cases hn'
        · exact hi2 d' j (by omega) hn'
      | some j =>
        have hj := nb_lt hc hn
        simp only [nbI, m1_ne (show j < 1000 by omega), not_true_eq_false, not_false_eq_true, false_implies, true_implies, and_true, true_and, and_false, false_and, if_true, if_false, forall_const, or_true, true_or, false_or, or_false, i10, Bool.false_eq_true, qget_of h1, rt.cls, s_get rt (show 36 < 2147483648 by decide), rget_nI (show c < 36 by omega) (show 36 < 2147483648 by decide), rget_nI (show j < 36 by omega) (show 36 < 2147483648 by decide), vt c hc, vt j hj, qcls_of hT.1, s_fit hT hk (htl c hc) (htl j hj) hd, bI_0, nI_1, g_29_0, g_29_1, g_29_3, g_29_4, g_29_7, g_29_10, g_29_13, g_29_14, g_29_16, g_29_17, g_29_20, g_29_21, g_29_24, g_29_25, g_29_26, g_29_29, g_29_30, g_29_31, g_29_32, g_29_35, g_29_36, g_29_39, g_29_40, g_29_43, g_29_44, g_29_47, g_29_48, g_29_51, g_29_52, g_29_55, g_29_56, g_29_59, g_29_62, g_29_63, g_29_64, g_29_67, g_29_70, g_29_73, g_29_76, g_29_77, qOb_some, kr_v, kr_n, qinv_i, qinv_r, qinv_0, Nat.reduceAdd, List.getElem?_cons_zero, List.getElem?_cons_succ, List.set_cons_zero, List.set_cons_succ, List.length_cons, List.length_nil]
        by_cases u : T.c (tl c) d = T.c (tl j) (op d)
        · simp only [u, not_true_eq_false, not_false_eq_true, false_implies, true_implies, and_true, true_and, and_false, false_and, if_true, if_false, forall_const, or_true, true_or, false_or, or_false, i10, Bool.false_eq_true]
          refine ih2 _ (fun d' j' hd' hn' => ?_)
          by_cases e : d' = d
          · subst e; rw [hn] at hn'; cases hn'; exact u
          · exact hi2 d' j' (by omega) hn'
        · rw [bI_f (fun q => u ((cB_iff.mp q : fitP T w h tl) c d j hc hd hn))] at hQ
          simp only [u, not_true_eq_false, not_false_eq_true, false_implies, true_implies, and_true, true_and, and_false, false_and, if_true, if_false, forall_const, or_true, true_or, false_or, or_false, i10, Bool.false_eq_true]
          exact hQ
def pw (tl : Nat → Nat) : Nat → Nat := fun k => 2 ^ tl k
theorem al_pw {tl : Nat → Nat} {t n : Nat} : al (pw tl) t (n + 1) = al (pw tl) t n + (if tl n = t then 1 else 0) := by
  rw [al_s]
  by_cases e : tl n = t
  · rw [if_pos e, if_pos (by unfold pw; rw [e])]
  · rw [if_neg e, if_neg (show ¬ pw tl n = 2 ^ t from fun q => e (pow_inj8 q))]
theorem wrong_pw {T : TS} {N : Nat} {wo : Nat → Option Nat} {tl : Nat → Nat} : wrongP T N wo (pw tl) ↔ ∃ t m, t < T.n ∧ wo t = some m ∧ m < al (pw tl) t N := ⟨fun q => q.elim (fun ⟨k, _, q⟩ => absurd q (pow_ne0 _)) id, Or.inr⟩
theorem s_holds {M : qM} {T : TS} {o G w h Wo : Nat} {wo : Nat → Option Nat} {road : Bool} {tl : Nat → Nat} {Q : qR → qM → Prop} (hT : TilesAt M T) (hk : TOk T) (hG : GridAt M G w h) (hD : Dim w h) (ho : 7 < o) (hGo : G < o ∨ o + 9 ≤ G) (hP : PlaAt M o G (w * h) tl) (htl : ∀ k, k < w * h → tl k < T.n) (hW : WishAt M Wo (fun t => nbI (wo t)) road) (hwo : ∀ t m, wo t = some m → m < 1000) (hWo : Wo + 2 < o ∨ o + 9 ≤ Wo)
    (hQ : ∀ M' b, Fr (o + 3) (o + 9) M M' → PlaAt M' o G (w * h) tl → (b = true ↔ ¬ wrongP T (w * h) wo (pw tl) ∧ rdOk T w h road tl) → Q (.inl (some (.int (bI (b = true))))) M') : cl 30 [.ref o, .ref Wo] M Q := by
  have hN := hD.le
  have h8 := hk.1
  have hP0 := hP
  obtain ⟨h1, ⟨ft, rt, vt⟩, ⟨fc, rc⟩, ⟨fs, rs⟩, ⟨fq, rq⟩⟩ := hP
  have pla : ∀ {M'}, Fr (o + 3) (o + 5) M M' → (∃ f, RowAt M' (o + 3) 8 f) → PlaAt M' o G (w * h) tl := fun fr hr => ⟨(fr o (by omega)).trans h1, ⟨ft, rt.fr fr (by omega), vt⟩, hr, ⟨fs, rs.fr fr (by omega)⟩, ⟨fq, rq.fr fr (by omega)⟩⟩
  rw [e_30]
  simp only [g_30_0, g_30_1, g_30_4, g_30_5, g_30_8, g_30_9, g_30_11, g_30_12, g_30_15, g_30_18, g_30_21, g_30_22, g_30_25, g_30_26, g_30_29, g_30_30, g_30_31, g_30_34, g_30_35, g_30_36, g_30_39, g_30_40, g_30_43, g_30_44, g_30_45, g_30_48, g_30_49, g_30_50, g_30_51, g_30_54, g_30_55, g_30_58, g_30_61, g_30_64, g_30_65, g_30_66, g_30_69, g_30_72, g_30_73, g_30_74, g_30_77, qOb_some, kr_v, kr_n, qinv_i, qinv_r, qinv_0, Nat.reduceAdd, List.getElem?_cons_zero, List.getElem?_cons_succ, List.set_cons_zero, List.set_cons_succ, List.length_cons, List.length_nil, not_true_eq_false, not_false_eq_true, false_implies, true_implies, and_true, true_and, and_false, false_and, if_true, if_false, forall_const, or_true, true_or, false_or, or_false, i10, Bool.false_eq_true, qget_of h1, rc.cls]
  refine s_setAll rc (by decide) (fun f1 hf1 => ?_)
  have frA : Fr (o + 3) (o + 5) M (M.set (o + 3 + 1) (.inl (0, 8, .inl f1))) := Fr.set (by omega) (by omega)
  have rA : RowAt (M.set (o + 3 + 1) (.inl (0, 8, .inl f1))) (o + 3) 8 f1 := rc.set
  revert frA rA
  generalize M.set (o + 3 + 1) (.inl (0, 8, .inl f1)) = MA
  intro frA rA
  simp only [g_30_0, g_30_1, g_30_4, g_30_5, g_30_8, g_30_9, g_30_11, g_30_12, g_30_15, g_30_18, g_30_21, g_30_22, g_30_25, g_30_26, g_30_29, g_30_30, g_30_31, g_30_34, g_30_35, g_30_36, g_30_39, g_30_40, g_30_43, g_30_44, g_30_45, g_30_48, g_30_49, g_30_50, g_30_51, g_30_54, g_30_55, g_30_58, g_30_61, g_30_64, g_30_65, g_30_66, g_30_69, g_30_72, g_30_73, g_30_74, g_30_77, qOb_some, kr_v, kr_n, qinv_i, qinv_r, qinv_0, Nat.reduceAdd, List.getElem?_cons_zero, List.getElem?_cons_succ, List.set_cons_zero, List.set_cons_succ, List.length_cons, List.length_nil, not_true_eq_false, not_false_eq_true, false_implies, true_implies, and_true, true_and, and_false, false_and, if_true, if_false, forall_const, or_true, true_or, false_or, or_false, i10, Bool.false_eq_true]
  refine upto (N := w * h) (I := fun c (z : qM × Option Value) => Fr (o + 3) (o + 5) M z.1 ∧ (∃ f, RowAt z.1 (o + 3) 8 f ∧ ∀ t, t < 8 → f t = nI (al (pw tl) t c)) ∧ (∀ t m, t < T.n → wo t = some m → al (pw tl) t c ≤ m)) (G := fun c (z : qM × Option Value) => g 30 10 [some (.ref o), some (.ref Wo), some (.int (nI c)), z.2] [] z.1 0 0 Q) ?_ ?_ 0 (MA, none) (Nat.zero_le _) ⟨frA, ⟨f1, rA, fun t ht => hf1 t ht⟩, fun t m _ _ => Nat.zero_le _⟩
  · rintro ⟨M1, l3⟩ ⟨a1, ⟨f, a2, a3⟩, a5⟩
    have hG1 := hG.fr a1 (by omega)
    have hP1 := pla a1 ⟨f, a2⟩
    rw [g_30_10]
    simp only [g_30_0, g_30_1, g_30_4, g_30_5, g_30_8, g_30_9, g_30_11, g_30_12, g_30_15, g_30_18, g_30_21, g_30_22, g_30_25, g_30_26, g_30_29, g_30_30, g_30_31, g_30_34, g_30_35, g_30_36, g_30_39, g_30_40, g_30_43, g_30_44, g_30_45, g_30_48, g_30_49, g_30_50, g_30_51, g_30_54, g_30_55, g_30_58, g_30_61, g_30_64, g_30_65, g_30_66, g_30_69, g_30_72, g_30_73, g_30_74, g_30_77, qOb_some, kr_v, kr_n, qinv_i, qinv_r, qinv_0, Nat.reduceAdd, List.getElem?_cons_zero, List.getElem?_cons_succ, List.set_cons_zero, List.set_cons_succ, List.length_cons, List.length_nil, not_true_eq_false, not_false_eq_true, false_implies, true_implies, and_true, true_and, and_false, false_and, if_true, if_false, forall_const, or_true, true_or, false_or, or_false, i10, Bool.false_eq_true, qget_of hP1.1, qcls_of hG1, s_cells hG1, Int32.le_refl, qcls_of hP1.1]
    refine s_isRoadAs (hT.fr a1 (by omega)) hk hG1 hD ho hGo hP1 (hW.fr a1 (by omega)) (fun _ => htl) (fun M2 b b1 b2 b3 => ?_)
    have hb : (b = true ↔ ¬ wrongP T (w * h) wo (pw tl) ∧ rdOk T w h road tl) := by
      rw [b3]
      refine ⟨fun q => ⟨fun q2 => ?_, q⟩, fun q => q.2⟩
      obtain ⟨t, m, q3, q4, q5⟩ := wrong_pw.mp q2
      have := a5 t m q3 q4
      omega
    simp only [g_30_0, g_30_1, g_30_4, g_30_5, g_30_8, g_30_9, g_30_11, g_30_12, g_30_15, g_30_18, g_30_21, g_30_22, g_30_25, g_30_26, g_30_29, g_30_30, g_30_31, g_30_34, g_30_35, g_30_36, g_30_39, g_30_40, g_30_43, g_30_44, g_30_45, g_30_48, g_30_49, g_30_50, g_30_51, g_30_54, g_30_55, g_30_58, g_30_61, g_30_64, g_30_65, g_30_66, g_30_69, g_30_72, g_30_73, g_30_74, g_30_77, qOb_some, kr_v, kr_n, qinv_i, qinv_r, qinv_0, Nat.reduceAdd, List.getElem?_cons_zero, List.getElem?_cons_succ, List.set_cons_zero, List.set_cons_succ, List.length_cons, List.length_nil, bI_01, not_true_eq_false, not_false_eq_true, false_implies, true_implies, and_true, true_and, and_false, false_and, if_true, if_false, forall_const, or_true, true_or, false_or, or_false, i10, Bool.false_eq_true]
    exact hQ M2 b ((a1.mono (by omega) (by omega)).trans (b1.mono (by omega) (by omega))) b2 hb
  · rintro c ⟨M1, l3⟩ hc ⟨a1, ⟨f, a2, a3⟩, a5⟩ ih
    have hG1 := hG.fr a1 (by omega)
    have hW1 := hW.fr a1 (by omega)
    have h11 := (a1 o (by omega)).trans h1
    have rt1 := rt.fr a1 (by omega)
    have ht8 : tl c < 8 := by have := htl c hc; omega
    have hale := al_le (p := pw tl) (t := tl c) (n := c)
    have hal : al (pw tl) (tl c) (c + 1) = al (pw tl) (tl c) c + 1 := by rw [al_pw, if_pos rfl]
    rw [g_30_10]
    simp only [g_30_0, g_30_1, g_30_4, g_30_5, g_30_8, g_30_9, g_30_11, g_30_12, g_30_15, g_30_18, g_30_21, g_30_22, g_30_25, g_30_26, g_30_29, g_30_30, g_30_31, g_30_34, g_30_35, g_30_36, g_30_39, g_30_40, g_30_43, g_30_44, g_30_45, g_30_48, g_30_49, g_30_50, g_30_51, g_30_54, g_30_55, g_30_58, g_30_61, g_30_64, g_30_65, g_30_66, g_30_69, g_30_72, g_30_73, g_30_74, g_30_77, qOb_some, kr_v, kr_n, qinv_i, qinv_r, qinv_0, Nat.reduceAdd, List.getElem?_cons_zero, List.getElem?_cons_succ, List.set_cons_zero, List.set_cons_succ, List.length_cons, List.length_nil, not_true_eq_false, not_false_eq_true, false_implies, true_implies, and_true, true_and, and_false, false_and, if_true, if_false, forall_const, or_true, true_or, false_or, or_false, i10, Bool.false_eq_true, qget_of h11, qcls_of hG1, s_cells hG1, nI_ge hc (show w * h < 2 ^ 31 by omega), rt1.cls, s_get rt1 (show 36 < 2147483648 by decide), rget_nI (show c < 36 by omega) (show 36 < 2147483648 by decide), vt c hc, a2.cls, s_get a2 (show 8 < 2147483648 by decide), rget_nI ht8 (show 8 < 2147483648 by decide), a3 (tl c) ht8, nI_1]
    refine s_setF a2 (by decide) ht8 (fun M2 b1 b2 => ?_)
    have h12 := (b1 o (by omega)).trans h11
    have hW2 := hW1.fr b1 (by omega)
    have fr2 : Fr (o + 3) (o + 5) M M2 := a1.trans (b1.mono (by omega) (by omega))
    simp only [g_30_0, g_30_1, g_30_4, g_30_5, g_30_8, g_30_9, g_30_11, g_30_12, g_30_15, g_30_18, g_30_21, g_30_22, g_30_25, g_30_26, g_30_29, g_30_30, g_30_31, g_30_34, g_30_35, g_30_36, g_30_39, g_30_40, g_30_43, g_30_44, g_30_45, g_30_48, g_30_49, g_30_50, g_30_51, g_30_54, g_30_55, g_30_58, g_30_61, g_30_64, g_30_65, g_30_66, g_30_69, g_30_72, g_30_73, g_30_74, g_30_77, qOb_some, kr_v, kr_n, qinv_i, qinv_r, qinv_0, Nat.reduceAdd, List.getElem?_cons_zero, List.getElem?_cons_succ, List.set_cons_zero, List.set_cons_succ, List.length_cons, List.length_nil, not_true_eq_false, not_false_eq_true, false_implies, true_implies, and_true, true_and, and_false, false_and, if_true, if_false, forall_const, or_true, true_or, false_or, or_false, i10, Bool.false_eq_true, qget_of h12, b2.cls, s_get b2 (show 8 < 2147483648 by decide), rget_nI ht8 (show 8 < 2147483648 by decide), upd_s, qcls_of hW2.1, s_allow hW2 ht8, bI_0, nI_1]
    have rest : (∀ m, wo (tl c) = some m → al (pw tl) (tl c) (c + 1) ≤ m) → g 30 10 [some (.ref o), some (.ref Wo), some (.int (nI (c + 1))), some (.int (nI (tl c)))] [] M2 0 0 Q := by
      intro q
      refine ih (M2, _) ⟨fr2, ⟨_, b2, fun u hu => ?_⟩, fun u m q1 q2 => ?_⟩
      · by_cases e : u = tl c
        · rw [e, upd_s, hal]
        · rw [upd_n e, a3 u hu, al_pw, if_neg (fun q => e q.symm)]
          rfl
      · by_cases e : u = tl c
        · subst e; exact q m q2
        · rw [al_pw, if_neg (fun q => e q.symm)]
          exact a5 u m q1 q2
    cases hw : wo (tl c) with
    | none =>
      simp only [nbI, not_true_eq_false, not_false_eq_true, false_implies, true_implies, and_true, true_and, and_false, false_and, if_true, if_false, forall_const, or_true, true_or, false_or, or_false, i10, Bool.false_eq_true]
      exact rest (fun m q => by rw [hw] at q; cases q)
    | some m =>
      have hm := hwo _ m hw
      have e2 : (nI (al (pw tl) (tl c) c + 1) ≤ nI m) = (al (pw tl) (tl c) c + 1 ≤ m) := propext (nI_leI (by omega) (by omega))
      simp only [nbI, m1_ne (show m < 1000 by omega), e2, not_true_eq_false, not_false_eq_true, false_implies, true_implies, and_true, true_and, and_false, false_and, if_true, if_false, forall_const, or_true, true_or, false_or, or_false, i10, Bool.false_eq_true]
      by_cases u2 : al (pw tl) (tl c) c + 1 ≤ m
      · simp only [u2, not_true_eq_false, not_false_eq_true, false_implies, true_implies, and_true, true_and, and_false, false_and, if_true, if_false, forall_const, or_true, true_or, false_or, or_false, i10, Bool.false_eq_true]
        exact rest (fun m' q => by rw [hw] at q; cases q; omega)
      · have := hQ M2 false (fr2.mono (by omega) (by omega)) (pla fr2 ⟨_, b2⟩) ⟨fun q => (by cases q), fun q => absurd (wrong_pw.mpr ⟨tl c, m, htl c hc, hw, by
          have : al (pw tl) (tl c) (c + 1) ≤ al (pw tl) (tl c) (w * h) := cntB_up (by omega)
          omega⟩) q.1⟩
        simp only [u2, bI, not_true_eq_false, not_false_eq_true, false_implies, true_implies, and_true, true_and, and_false, false_and, if_true, if_false, forall_const, or_true, true_or, false_or, or_false, i10, Bool.false_eq_true] at this ⊢
        exact this
theorem s_roadCells {M : qM} {T : TS} {o G w h : Nat} {tl : Nat → Nat} {Q : qR → qM → Prop} (hT : TilesAt M T) (hk : TOk T) (hG : GridAt M G w h) (hD : Dim w h) (hP : PlaAt M o G (w * h) tl) (htl : ∀ k, k < w * h → tl k < T.n) : cl 32 [.ref o] M Q ↔ Q (.inl (some (.int (nI (cntB (fun k => roadT T (tl k)) (w * h)))))) M := by
  refine cl_iff (fun Q hQ => ?_)
  have hN := hD.le
  obtain ⟨h1, ⟨ft, rt, vt⟩, -⟩ := hP
  rw [e_32]
  simp only [g_32_0, g_32_1, g_32_2, g_32_3, g_32_5, g_32_6, g_32_9, g_32_12, g_32_15, g_32_16, g_32_17, g_32_20, g_32_21, g_32_24, g_32_25, g_32_28, g_32_31, g_32_34, g_32_35, g_32_38, g_32_39, g_32_40, g_32_41, g_32_44, g_32_47, g_32_48, qOb_some, kr_v, kr_n, qinv_i, qinv_r, qinv_0, Nat.reduceAdd, List.getElem?_cons_zero, List.getElem?_cons_succ, List.set_cons_zero, List.set_cons_succ, List.length_cons, List.length_nil]
  refine upto (N := w * h) (I := fun _ _ => True) (G := fun c (_ : Unit) => g 32 4 [some (.ref o), some (.int (nI (cntB (fun k => roadT T (tl k)) c))), some (.int (nI c))] [] M 0 0 Q) ?_ ?_ 0 () (Nat.zero_le _) trivial
  · intro _ _
    rw [g_32_4]
    simp only [g_32_0, g_32_1, g_32_2, g_32_3, g_32_5, g_32_6, g_32_9, g_32_12, g_32_15, g_32_16, g_32_17, g_32_20, g_32_21, g_32_24, g_32_25, g_32_28, g_32_31, g_32_34, g_32_35, g_32_38, g_32_39, g_32_40, g_32_41, g_32_44, g_32_47, g_32_48, qOb_some, kr_v, kr_n, qinv_i, qinv_r, qinv_0, Nat.reduceAdd, List.getElem?_cons_zero, List.getElem?_cons_succ, List.set_cons_zero, List.set_cons_succ, List.length_cons, List.length_nil, not_true_eq_false, not_false_eq_true, false_implies, true_implies, and_true, true_and, and_false, false_and, if_true, if_false, forall_const, or_true, true_or, false_or, or_false, i10, Bool.false_eq_true, qget_of h1, qcls_of hG, s_cells hG, Int32.le_refl]
    exact hQ
  · intro c _ hc _ ih
    have ih := ih () trivial
    rw [cntB] at ih
    rw [g_32_4]
    simp only [g_32_0, g_32_1, g_32_2, g_32_3, g_32_5, g_32_6, g_32_9, g_32_12, g_32_15, g_32_16, g_32_17, g_32_20, g_32_21, g_32_24, g_32_25, g_32_28, g_32_31, g_32_34, g_32_35, g_32_38, g_32_39, g_32_40, g_32_41, g_32_44, g_32_47, g_32_48, qOb_some, kr_v, kr_n, qinv_i, qinv_r, qinv_0, Nat.reduceAdd, List.getElem?_cons_zero, List.getElem?_cons_succ, List.set_cons_zero, List.set_cons_succ, List.length_cons, List.length_nil, not_true_eq_false, not_false_eq_true, false_implies, true_implies, and_true, true_and, and_false, false_and, if_true, if_false, forall_const, or_true, true_or, false_or, or_false, i10, Bool.false_eq_true, qget_of h1, qcls_of hG, s_cells hG, nI_ge hc (show w * h < 2 ^ 31 by omega), rt.cls, s_get rt (show 36 < 2147483648 by decide), rget_nI (show c < 36 by omega) (show 36 < 2147483648 by decide), vt c hc, qcls_of hT.1, s_hasRoad hT hk (htl c hc), bI_0, nI_1]
    by_cases u : roadT T (tl c) = true
    · simp only [u, if_true] at ih
      simp only [u, not_true_eq_false, not_false_eq_true, false_implies, true_implies, and_true, true_and, and_false, false_and, if_true, if_false, forall_const, or_true, true_or, false_or, or_false, i10, Bool.false_eq_true, nI_1]
      exact ih
    · simp only [u, if_false, Nat.add_zero] at ih
      simp only [u, not_true_eq_false, not_false_eq_true, false_implies, true_implies, and_true, true_and, and_false, false_and, if_true, if_false, forall_const, or_true, true_or, false_or, or_false, i10, Bool.false_eq_true, nI_add0]
      exact ih