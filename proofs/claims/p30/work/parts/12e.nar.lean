/-! a sweep's cell, and all the sweeps -/
theorem s_takeUnfitting {M : qM} {T : TS} {o G w h c wt : Nat} {p st : Nat → Nat} {fl : Nat → Bool} {Q : qR → qM → Prop} (hT : TilesAt M T) (hk : TOk T) (hG : GridAt M G w h) (hD : Dim w h) (hA : NarAt M o G (w * h) p fl st wt) (hp : PN T (w * h) p) (hc : c < w * h)
    (hQ : ∀ M', Fr o (o + 7) M M' → NarAt M' o G (w * h) (fu p c (swp T w h p c)) fl st wt → Q (.inl (some (.int (bI (¬ swp T w h p c = p c))))) M') : cl 26 [.ref o, .int (nI c)] M Q := by
  have hA0 := hA
  have hN := hD.le
  have h8 := hk.1
  have hm := hp.msk hk
  have hpc := hm c hc
  obtain ⟨h1, ⟨f1, r1, v1⟩, ⟨f2, r2, v2⟩, ⟨f3, r3, v3⟩⟩ := hA
  rw [e_26]
  simp only [g_26_0, g_26_1, g_26_4, g_26_5, g_26_8, g_26_9, g_26_10, g_26_11, g_26_12, g_26_16, g_26_17, g_26_20, g_26_23, g_26_26, g_26_28, g_26_29, g_26_32, g_26_35, g_26_36, g_26_37, g_26_39, g_26_42, g_26_45, g_26_46, g_26_47, g_26_49, g_26_50, g_26_51, g_26_52, g_26_53, g_26_54, g_26_57, g_26_60, g_26_61, g_26_64, g_26_65, g_26_66, g_26_69, g_26_70, g_26_71, g_26_74, g_26_75, g_26_78, g_26_79, qOb_some, kr_v, kr_n, qinv_i, qinv_r, qinv_0, Nat.reduceAdd, List.getElem?_cons_zero, List.getElem?_cons_succ, List.set_cons_zero, List.set_cons_succ, List.length_cons, List.length_nil, qget_of h1, r1.cls, not_true_eq_false, not_false_eq_true, false_implies, true_implies, and_true, true_and, and_false, false_and, if_true, if_false, forall_const, or_true, true_or, false_or, or_false, i10, Bool.false_eq_true, s_get r1 (show 36 < 2147483648 by decide), rget_nI (show c < 36 by omega) (show 36 < 2147483648 by decide), v1 c hc]
  refine upto (N := T.n) (I := fun j A => A < 256 ∧ ∀ u, A.testBit u = true ↔ ((p c).testBit u = true ∧ (u < j → fitsAll T w h p c u = true))) (G := fun j A => g 26 14 [some (.ref o), some (.int (nI c)), some (.int (nI (p c))), some (.int (nI A)), some (.int (nI j))] [] M 0 0 Q) ?_ ?_ 0 (p c) (Nat.zero_le _) ⟨hpc, fun u => ⟨fun q => ⟨q, fun q2 => absurd q2 (by omega)⟩, fun q => q.1⟩⟩
  · rintro A ⟨hA1, hA2⟩
    have e : A = swp T w h p c := by
      apply Nat.eq_of_testBit_eq
      intro u
      rw [Bool.eq_iff_iff, hA2, swp_bit hpc]
      exact ⟨fun q => ⟨q.1, q.2 (bit_ltn (hp c hc) q.1)⟩, fun q => ⟨q.1, fun _ => q.2⟩⟩
    subst e
    rw [g_26_14]
    simp only [g_26_0, g_26_1, g_26_4, g_26_5, g_26_8, g_26_9, g_26_10, g_26_11, g_26_12, g_26_16, g_26_17, g_26_20, g_26_23, g_26_26, g_26_28, g_26_29, g_26_32, g_26_35, g_26_36, g_26_37, g_26_39, g_26_42, g_26_45, g_26_46, g_26_47, g_26_49, g_26_50, g_26_51, g_26_52, g_26_53, g_26_54, g_26_57, g_26_60, g_26_61, g_26_64, g_26_65, g_26_66, g_26_69, g_26_70, g_26_71, g_26_74, g_26_75, g_26_78, g_26_79, qOb_some, kr_v, kr_n, qinv_i, qinv_r, qinv_0, Nat.reduceAdd, List.getElem?_cons_zero, List.getElem?_cons_succ, List.set_cons_zero, List.set_cons_succ, List.length_cons, List.length_nil, qget_of h1, qget_of hT.1, Int32.le_refl, r1.cls, not_true_eq_false, not_false_eq_true, false_implies, true_implies, and_true, true_and, and_false, false_and, if_true, if_false, forall_const, or_true, true_or, false_or, or_false, i10, Bool.false_eq_true]
    refine s_setF r1 (by decide) (show c < 36 by omega) (fun M1 fr1 r1a => ?_)
    simp only [g_26_0, g_26_1, g_26_4, g_26_5, g_26_8, g_26_9, g_26_10, g_26_11, g_26_12, g_26_16, g_26_17, g_26_20, g_26_23, g_26_26, g_26_28, g_26_29, g_26_32, g_26_35, g_26_36, g_26_37, g_26_39, g_26_42, g_26_45, g_26_46, g_26_47, g_26_49, g_26_50, g_26_51, g_26_52, g_26_53, g_26_54, g_26_57, g_26_60, g_26_61, g_26_64, g_26_65, g_26_66, g_26_69, g_26_70, g_26_71, g_26_74, g_26_75, g_26_78, g_26_79, qOb_some, kr_v, kr_n, qinv_i, qinv_r, qinv_0, Nat.reduceAdd, List.getElem?_cons_zero, List.getElem?_cons_succ, List.set_cons_zero, List.set_cons_succ, List.length_cons, List.length_nil, nI_eq (show swp T w h p c < 2 ^ 31 by have := swp_lt (T := T) (w := w) (h := h) (k := c) (p := p); omega) (show p c < 2 ^ 31 by omega)]
    have hQ1 := hQ M1 (fr1.mono (by omega) (by omega)) ⟨(fr1 o (by omega)).trans h1, ⟨_, r1a, fun i hi => by
      by_cases q : i = c
      · rw [q, upd_s, fu_s]
      · rw [upd_n q, fu_n q]; exact v1 i hi⟩, ⟨f2, r2.fr fr1 (by omega), v2⟩, ⟨f3, r3.fr fr1 (by omega), v3⟩⟩
    by_cases he : swp T w h p c = p c
    · rw [bI_f (fun q : ¬ swp T w h p c = p c => q he)] at hQ1
      simp only [he, not_true_eq_false, not_false_eq_true, false_implies, true_implies, and_true, true_and, and_false, false_and, if_true, if_false, forall_const, or_true, true_or, false_or, or_false, i10, Bool.false_eq_true]
      exact hQ1
    · rw [bI_t he] at hQ1
      simp only [he, not_true_eq_false, not_false_eq_true, false_implies, true_implies, and_true, true_and, and_false, false_and, if_true, if_false, forall_const, or_true, true_or, false_or, or_false, i10, Bool.false_eq_true]
      exact hQ1
  · rintro j A hj ⟨hA1, hA2⟩ ih
    rw [g_26_14]
    simp only [g_26_0, g_26_1, g_26_4, g_26_5, g_26_8, g_26_9, g_26_10, g_26_11, g_26_12, g_26_16, g_26_17, g_26_20, g_26_23, g_26_26, g_26_28, g_26_29, g_26_32, g_26_35, g_26_36, g_26_37, g_26_39, g_26_42, g_26_45, g_26_46, g_26_47, g_26_49, g_26_50, g_26_51, g_26_52, g_26_53, g_26_54, g_26_57, g_26_60, g_26_61, g_26_64, g_26_65, g_26_66, g_26_69, g_26_70, g_26_71, g_26_74, g_26_75, g_26_78, g_26_79, qOb_some, kr_v, kr_n, qinv_i, qinv_r, qinv_0, Nat.reduceAdd, List.getElem?_cons_zero, List.getElem?_cons_succ, List.set_cons_zero, List.set_cons_succ, List.length_cons, List.length_nil, qget_of h1, qget_of hT.1, nI_ge hj (show T.n < 2 ^ 31 by omega), s_isOneOf (show j < 8 by omega) hpc, bI_0, not_true_eq_false, not_false_eq_true, false_implies, true_implies, and_true, true_and, and_false, false_and, if_true, if_false, forall_const, or_true, true_or, false_or, or_false, i10, Bool.false_eq_true, qcls_of h1, s_hasFitting hT hk hG hD hA0 hm hc hj, nI_not1 j (show j < 8 by omega) A hA1, nI_1]
    have h255 : A &&& (255 - 2 ^ j) < 256 := and_lt hA1
    by_cases u1 : (p c).testBit j = true
    · by_cases u2 : fitsAll T w h p c j = true
      · simp only [u1, u2, not_true_eq_false, not_false_eq_true, false_implies, true_implies, and_true, true_and, and_false, false_and, if_true, if_false, forall_const, or_true, true_or, false_or, or_false, i10, Bool.false_eq_true]
        refine ih A ⟨hA1, fun u => ?_⟩
        rw [hA2]
        refine and_congr_right (fun _ => ⟨fun q hu => ?_, fun q hu => q (by omega)⟩)
        by_cases e : u = j
        · subst e; exact u2
        · exact q (by omega)
      · simp only [u1, u2, not_true_eq_false, not_false_eq_true, false_implies, true_implies, and_true, true_and, and_false, false_and, if_true, if_false, forall_const, or_true, true_or, false_or, or_false, i10, Bool.false_eq_true]
        refine ih _ ⟨h255, fun u => ?_⟩
        by_cases hu8 : u < 8
        · rw [clr_bit j (by omega) A hA1 u hu8, Bool.and_eq_true, decide_eq_true_eq, hA2]
          constructor
          · rintro ⟨⟨q1, q2⟩, q3⟩
            exact ⟨q1, fun hu => q2 (by omega)⟩
          · rintro ⟨q1, q2⟩
            refine ⟨⟨q1, fun hu => q2 (by omega)⟩, fun q3 => ?_⟩
            subst q3
            exact u2 (q2 (by omega))
        · constructor
          · intro q
            exact absurd (bit_lt h255 q) hu8
          · intro q
            exact absurd (bit_lt hpc q.1) hu8
    · simp only [u1, not_true_eq_false, not_false_eq_true, false_implies, true_implies, and_true, true_and, and_false, false_and, if_true, if_false, forall_const, or_true, true_or, false_or, or_false, i10, Bool.false_eq_true]
      refine ih A ⟨hA1, fun u => ?_⟩
      rw [hA2]
      refine and_congr_right (fun hb => ⟨fun q hu => ?_, fun q hu => q (by omega)⟩)
      by_cases e : u = j
      · subst e; exact absurd hb u1
      · exact q (by omega)
theorem s_sweeps {M : qM} {T : TS} {o G w h wt : Nat} {p st : Nat → Nat} {fl : Nat → Bool} {Q : qR → qM → Prop} (hT : TilesAt M T) (hk : TOk T) (hG : GridAt M G w h) (hD : Dim w h) (ho : 7 < o) (hGo : G < o ∨ o + 7 ≤ G) (hA : NarAt M o G (w * h) p fl st wt) (hp : PN T (w * h) p)
    (hQ : ∀ M' p' st', Fr o (o + 7) M M' → NarAt M' o G (w * h) p' (fun _ => false) st' 0 → IsNar T w h p p' → PN T (w * h) p' → Q (.inl none) M') : cl 25 [.ref o] M Q := by
  have hN := hD.le
  have hm := hp.msk hk
  obtain ⟨h1, ⟨f1, r1, v1⟩, ⟨f2, r2, v2⟩, ⟨f3, r3, v3⟩⟩ := hA
  rw [e_25]
  simp only [g_25_0, g_25_1, g_25_4, g_25_5, g_25_8, g_25_9, g_25_10, g_25_13, g_25_14, g_25_15, g_25_16, g_25_18, g_25_21, g_25_24, g_25_25, g_25_28, g_25_29, g_25_30, g_25_31, g_25_33, g_25_34, g_25_37, g_25_40, g_25_43, g_25_44, g_25_45, g_25_48, g_25_51, g_25_52, g_25_53, g_25_56, g_25_59, g_25_62, g_25_65, qOb_some, kr_v, kr_n, qinv_i, qinv_r, qinv_0, Nat.reduceAdd, List.getElem?_cons_zero, List.getElem?_cons_succ, List.set_cons_zero, List.set_cons_succ, List.length_cons, List.length_nil, qget_of h1, r2.cls, not_true_eq_false, not_false_eq_true, false_implies, true_implies, and_true, true_and, and_false, false_and, if_true, if_false, forall_const, or_true, true_or, false_or, or_false, i10, Bool.false_eq_true]
  refine s_setAll r2 (by decide) (fun f2' hf2 => ?_)
  have frA : Fr (o + 3 + 1) (o + 3 + 2) M (M.set (o + 3 + 1) (.inl (0, 36, .inl f2'))) := Fr.set (by omega) (by omega)
  have h1A := (frA o (by omega)).trans h1
  have r2A : RowAt (M.set (o + 3 + 1) (.inl (0, 36, .inl f2'))) (o + 3) 36 f2' := r2.set
  revert frA h1A r2A
  generalize M.set (o + 3 + 1) (.inl (0, 36, .inl f2')) = MA
  intro frA h1A r2A
  have frB : Fr o (o + 1) MA (MA.set o (.inr (3, [.ref 1, .ref G, .ref (o + 1), .ref (o + 3), .ref (o + 5), .int 0]))) := Fr.set (by omega) (by omega)
  simp only [g_25_0, g_25_1, g_25_4, g_25_5, g_25_8, g_25_9, g_25_10, g_25_13, g_25_14, g_25_15, g_25_16, g_25_18, g_25_21, g_25_24, g_25_25, g_25_28, g_25_29, g_25_30, g_25_31, g_25_33, g_25_34, g_25_37, g_25_40, g_25_43, g_25_44, g_25_45, g_25_48, g_25_51, g_25_52, g_25_53, g_25_56, g_25_59, g_25_62, g_25_65, qOb_some, kr_v, kr_n, qinv_i, qinv_r, qinv_0, Nat.reduceAdd, List.getElem?_cons_zero, List.getElem?_cons_succ, List.set_cons_zero, List.set_cons_succ, List.length_cons, List.length_nil, not_true_eq_false, not_false_eq_true, false_implies, true_implies, and_true, true_and, and_false, false_and, if_true, if_false, forall_const, or_true, true_or, false_or, or_false, i10, Bool.false_eq_true, qput_i h1A (show 5 < 6 by decide) rfl]
  have h1B : (MA.set o (.inr (3, [.ref 1, .ref G, .ref (o + 1), .ref (o + 3), .ref (o + 5), .int 0])))[o]? = some (.inr (3, [.ref 1, .ref G, .ref (o + 1), .ref (o + 3), .ref (o + 5), .int (nI 0)])) := get_set_eq h1A
  have hAB : NarAt (MA.set o (.inr (3, [.ref 1, .ref G, .ref (o + 1), .ref (o + 3), .ref (o + 5), .int 0]))) o G (w * h) p (fun _ => false) st 0 := ⟨h1B, ⟨f1, (r1.fr frA (by omega)).fr frB (by omega), v1⟩, ⟨f2', r2A.fr frB (by omega), fun k hk => by rw [hf2 k hk]; rfl⟩, ⟨f3, (r3.fr frA (by omega)).fr frB (by omega), fun k hk => absurd hk (by omega)⟩⟩
  have frAB : Fr o (o + 7) M (MA.set o (.inr (3, [.ref 1, .ref G, .ref (o + 1), .ref (o + 3), .ref (o + 5), .int 0]))) := (frA.mono (by omega) (by omega)).trans (frB.mono (by omega) (by omega))
  revert h1B hAB frAB
  generalize MA.set o (.inr (3, [.ref 1, .ref G, .ref (o + 1), .ref (o + 3), .ref (o + 5), .int 0])) = MB
  intro h1B hAB frAB
  refine upto (N := 289) (I := fun s (a : qM × Bool × Option Value) => ∃ p', Fr o (o + 7) M a.1 ∧ NarAt a.1 o G (w * h) p' (fun _ => false) st 0 ∧ PN T (w * h) p' ∧ Keeps T w h p p' ∧ (a.2.1 = false → Stab T w h p') ∧ (a.2.1 = true → s + tot p' (w * h) ≤ 288)) (G := fun s (a : qM × Bool × Option Value) => g 25 17 [some (.ref o), some (.int (bI (a.2.1 = true))), some (.int (nI s)), a.2.2] [] a.1 0 0 Q) ?_ ?_ 0 (MB, true, none) (Nat.zero_le _) ?_
  · rintro ⟨M1, b, l3⟩ ⟨p1, a1, a2, a3, a4, a5, a6⟩
    rw [g_25_17]
    simp only [g_25_0, g_25_1, g_25_4, g_25_5, g_25_8, g_25_9, g_25_10, g_25_13, g_25_14, g_25_15, g_25_16, g_25_18, g_25_21, g_25_24, g_25_25, g_25_28, g_25_29, g_25_30, g_25_31, g_25_33, g_25_34, g_25_37, g_25_40, g_25_43, g_25_44, g_25_45, g_25_48, g_25_51, g_25_52, g_25_53, g_25_56, g_25_59, g_25_62, g_25_65, qOb_some, kr_v, kr_n, qinv_i, qinv_r, qinv_0, Nat.reduceAdd, List.getElem?_cons_zero, List.getElem?_cons_succ, List.set_cons_zero, List.set_cons_succ, List.length_cons, List.length_nil, show (289 : Int32) = nI 289 from rfl, Int32.le_refl, not_true_eq_false, not_false_eq_true, false_implies, true_implies, and_true, true_and, and_false, false_and, if_true, if_false, forall_const, or_true, true_or, false_or, or_false, i10, Bool.false_eq_true]
    cases b with
    | false => exact hQ M1 p1 st a1 a2 ⟨a4, a5 rfl⟩ a3
    | true =>
      have := a6 rfl
      omega
  · rintro s ⟨M1, b, l3⟩ hs ⟨p1, a1, a2, a3, a4, a5, a6⟩ ih
    rw [g_25_17]
    simp only [g_25_0, g_25_1, g_25_4, g_25_5, g_25_8, g_25_9, g_25_10, g_25_13, g_25_14, g_25_15, g_25_16, g_25_18, g_25_21, g_25_24, g_25_25, g_25_28, g_25_29, g_25_30, g_25_31, g_25_33, g_25_34, g_25_37, g_25_40, g_25_43, g_25_44, g_25_45, g_25_48, g_25_51, g_25_52, g_25_53, g_25_56, g_25_59, g_25_62, g_25_65, qOb_some, kr_v, kr_n, qinv_i, qinv_r, qinv_0, Nat.reduceAdd, List.getElem?_cons_zero, List.getElem?_cons_succ, List.set_cons_zero, List.set_cons_succ, List.length_cons, List.length_nil, show (289 : Int32) = nI 289 from rfl, nI_ge hs (show 289 < 2 ^ 31 by decide), bI_0, not_true_eq_false, not_false_eq_true, false_implies, true_implies, and_true, true_and, and_false, false_and, if_true, if_false, forall_const, or_true, true_or, false_or, or_false, i10, Bool.false_eq_true]
    cases b with
    | false =>
      simp only [not_true_eq_false, not_false_eq_true, false_implies, true_implies, and_true, true_and, and_false, false_and, if_true, if_false, forall_const, or_true, true_or, false_or, or_false, i10, Bool.false_eq_true]
      exact hQ M1 p1 st a1 a2 ⟨a4, a5 rfl⟩ a3
    | true =>
      simp only [not_true_eq_false, not_false_eq_true, false_implies, true_implies, and_true, true_and, and_false, false_and, if_true, if_false, forall_const, or_true, true_or, false_or, or_false, i10, Bool.false_eq_true]
      refine upto (N := w * h) (I := fun c (a : qM × Bool) => ∃ p', Fr o (o + 7) M a.1 ∧ NarAt a.1 o G (w * h) p' (fun _ => false) st 0 ∧ PN T (w * h) p' ∧ Keeps T w h p p' ∧ (a.2 = false → p' = p1 ∧ ∀ i, i < c → swp T w h p1 i = p1 i) ∧ tot p' (w * h) ≤ tot p1 (w * h) ∧ (a.2 = true → tot p' (w * h) < tot p1 (w * h))) (G := fun c (a : qM × Bool) => g 25 32 [some (.ref o), some (.int (bI (a.2 = true))), some (.int (nI s)), some (.int (nI c))] [] a.1 0 0 Q) ?_ ?_ 0 (M1, false) (Nat.zero_le _) ⟨p1, a1, a2, a3, a4, fun _ => ⟨rfl, fun i q => absurd q (by omega)⟩, Nat.le_refl _, fun q => by cases q⟩
      · rintro ⟨M2, b2⟩ ⟨p2, c1, c2, c3, c4, c5, c6, c7⟩
        rw [g_25_32]
        simp only [g_25_0, g_25_1, g_25_4, g_25_5, g_25_8, g_25_9, g_25_10, g_25_13, g_25_14, g_25_15, g_25_16, g_25_18, g_25_21, g_25_24, g_25_25, g_25_28, g_25_29, g_25_30, g_25_31, g_25_33, g_25_34, g_25_37, g_25_40, g_25_43, g_25_44, g_25_45, g_25_48, g_25_51, g_25_52, g_25_53, g_25_56, g_25_59, g_25_62, g_25_65, qOb_some, kr_v, kr_n, qinv_i, qinv_r, qinv_0, Nat.reduceAdd, List.getElem?_cons_zero, List.getElem?_cons_succ, List.set_cons_zero, List.set_cons_succ, List.length_cons, List.length_nil, not_true_eq_false, not_false_eq_true, false_implies, true_implies, and_true, true_and, and_false, false_and, if_true, if_false, forall_const, or_true, true_or, false_or, or_false, i10, Bool.false_eq_true, qget_of c2.1, qcls_of (hG.fr c1 hGo), s_cells (hG.fr c1 hGo), Int32.le_refl, nI_1]
        refine ih (M2, b2, _) ⟨p2, c1, c2, c3, c4, fun q => ?_, fun q => ?_⟩
        · obtain ⟨e1, e2⟩ := c5 q
          rw [e1]
          exact swp_stab (a3.msk hk) e2
        · have := c7 q
          have := a6 rfl
          show s + 1 + tot p2 (w * h) ≤ 288
          omega
      · rintro c ⟨M2, b2⟩ hc ⟨p2, c1, c2, c3, c4, c5, c6, c7⟩ ih2
        have hG2 := hG.fr c1 hGo
        rw [g_25_32]
        simp only [g_25_0, g_25_1, g_25_4, g_25_5, g_25_8, g_25_9, g_25_10, g_25_13, g_25_14, g_25_15, g_25_16, g_25_18, g_25_21, g_25_24, g_25_25, g_25_28, g_25_29, g_25_30, g_25_31, g_25_33, g_25_34, g_25_37, g_25_40, g_25_43, g_25_44, g_25_45, g_25_48, g_25_51, g_25_52, g_25_53, g_25_56, g_25_59, g_25_62, g_25_65, qOb_some, kr_v, kr_n, qinv_i, qinv_r, qinv_0, Nat.reduceAdd, List.getElem?_cons_zero, List.getElem?_cons_succ, List.set_cons_zero, List.set_cons_succ, List.length_cons, List.length_nil, not_true_eq_false, not_false_eq_true, false_implies, true_implies, and_true, true_and, and_false, false_and, if_true, if_false, forall_const, or_true, true_or, false_or, or_false, i10, Bool.false_eq_true, qget_of c2.1, qcls_of hG2, qcls_of c2.1, s_cells hG2, nI_ge hc (show w * h < 2 ^ 31 by omega)]
        refine s_takeUnfitting (hT.fr c1 ho) hk hG2 hD c2 c3 hc (fun M3 d1 d2 => ?_)
        have hm2 := c3.msk hk
        have e1 := tot_fu (p := p2) (k := c) (v := swp T w h p2 c) hc
        have e2 := Sb.cnt swp_lt (hm2 c hc) (swp_sb (T := T) (w := w) (h := h) (hm2 c hc))
        have k1 := swp_keeps hc (hm2 c hc) c4
        have k2 : PN T (w * h) (fu p2 c (swp T w h p2 c)) := fun i hi => by
          by_cases q : i = c
          · rw [q, fu_s]
            exact sb_ltn (c3 c hc) (swp_sb (hm2 c hc))
          · rw [fu_n q]; exact c3 i hi
        simp only [g_25_0, g_25_1, g_25_4, g_25_5, g_25_8, g_25_9, g_25_10, g_25_13, g_25_14, g_25_15, g_25_16, g_25_18, g_25_21, g_25_24, g_25_25, g_25_28, g_25_29, g_25_30, g_25_31, g_25_33, g_25_34, g_25_37, g_25_40, g_25_43, g_25_44, g_25_45, g_25_48, g_25_51, g_25_52, g_25_53, g_25_56, g_25_59, g_25_62, g_25_65, qOb_some, kr_v, kr_n, qinv_i, qinv_r, qinv_0, Nat.reduceAdd, List.getElem?_cons_zero, List.getElem?_cons_succ, List.set_cons_zero, List.set_cons_succ, List.length_cons, List.length_nil, not_true_eq_false, not_false_eq_true, false_implies, true_implies, and_true, true_and, and_false, false_and, if_true, if_false, forall_const, or_true, true_or, false_or, or_false, i10, Bool.false_eq_true, bI_0, nI_1]
        by_cases he : swp T w h p2 c = p2 c
        · simp only [he, not_true_eq_false, not_false_eq_true, false_implies, true_implies, and_true, true_and, and_false, false_and, if_true, if_false, forall_const, or_true, true_or, false_or, or_false, i10, Bool.false_eq_true]
          rw [he, fu_id] at k1 k2 d2
          refine ih2 (M3, b2) ⟨p2, c1.trans d1, d2, k2, k1, fun q => ⟨(c5 q).1, fun i hi => ?_⟩, c6, c7⟩
          by_cases q2 : i = c
          · rw [q2, ← (c5 q).1]; exact he
          · exact (c5 q).2 i (by omega)
        · simp only [he, not_true_eq_false, not_false_eq_true, false_implies, true_implies, and_true, true_and, and_false, false_and, if_true, if_false, forall_const, or_true, true_or, false_or, or_false, i10, Bool.false_eq_true]
          have e3 := e2.2 he
          exact ih2 (M3, true) ⟨_, c1.trans d1, d2, k2, k1, fun q => (by cases q), by omega, fun _ => by omega⟩
  · refine ⟨p, frAB, hAB, hp, Keeps.refl, fun q => (by cases q), fun _ => ?_⟩
    have := tot_le hm
    show 0 + tot p (w * h) ≤ 288
    omega
