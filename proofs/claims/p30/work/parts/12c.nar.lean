/-! the class's narrowing with cells that wait comes to the greatest that is stable -/
def Arcs (T : TS) (w h c d : Nat) (p : Nat → Nat) (fl : Nat → Bool) : Prop := ∀ i, i < w * h → fl i = false → ∀ d' k2, d' < 4 → nb w h i d' = some k2 → (i = c → d' < d) → Sb (p k2) (fitM T (p i) d')
theorem arc_step {T : TS} {w h c d : Nat} {p p' : Nat → Nat} {fl fl' : Nat → Bool} (hB : BS T w h c d p fl p' fl') (hA : Arcs T w h c d p fl) : Arcs T w h c (d + 1) p' fl' := by
  intro i hi hf d' k3 hd' hn hc
  rcases hB with ⟨rfl, rfl, hs⟩ | ⟨k2, hn2, rfl, rfl⟩
  · by_cases q : i = c ∧ d' = d
    · obtain ⟨rfl, rfl⟩ := q
      exact hs k3 hn
    · exact hA i hi hf d' k3 hd' hn (fun e => by
        have := hc e
        by_cases q2 : d' = d
        · exact absurd ⟨e, q2⟩ q
        · omega)
  · have hik : i ≠ k2 := by
      intro q
      rw [q, fb_s] at hf
      cases hf
    rw [fb_n hik] at hf
    rw [fu_n (i := i) hik]
    by_cases q : i = c ∧ d' = d
    · obtain ⟨rfl, rfl⟩ := q
      rw [hn2] at hn
      cases hn
      rw [fu_s]
      exact Sb.and_r _ _
    · have ho := hA i hi hf d' k3 hd' hn (fun e => by
        have := hc e
        by_cases q2 : d' = d
        · exact absurd ⟨e, q2⟩ q
        · omega)
      by_cases q3 : k3 = k2
      · subst q3
        rw [fu_s]
        exact (Sb.and_l _ _).trans ho
      · rw [fu_n q3]
        exact ho
theorem keeps_step {T : TS} {w h c d : Nat} {p0 p p' : Nat → Nat} {fl fl' : Nat → Bool} (hB : BS T w h c d p fl p' fl') (hc : c < w * h) (hd : d < 4) (hK : Keeps T w h p0 p) : Keeps T w h p0 p' := by
  rcases hB with ⟨rfl, rfl, hs⟩ | ⟨k2, hn2, rfl, rfl⟩
  · exact hK
  · exact keeps_arc hK hc hd hn2 (Sb.and_l _ _) (fun u h1 h2 => by rw [Nat.testBit_and, h1, h2]; rfl)
def NInv (T : TS) (M : qM) (o G w h : Nat) (p : Nat → Nat) (c d s : Nat) (M' : qM) : Prop := ∃ (p' : Nat → Nat) (fl' : Nat → Bool) (st' : Nat → Nat) (wt' : Nat), Fr o (o + 7) M M' ∧ NarAt M' o G (w * h) p' fl' st' wt' ∧ StkOk (w * h) fl' st' wt' ∧ Msk (w * h) p' ∧ Keeps T w h p p' ∧ Arcs T w h c d p' fl' ∧ s + (wt' + tot p' (w * h)) ≤ 324
theorem s_narrow {M : qM} {T : TS} {o G w h wt : Nat} {p st : Nat → Nat} {fl : Nat → Bool} {Q : qR → qM → Prop} (hT : TilesAt M T) (hk : TOk T) (hG : GridAt M G w h) (hD : Dim w h) (ho : 7 < o) (hGo : G < o ∨ o + 7 ≤ G) (hA : NarAt M o G (w * h) p fl st wt) (hS : StkOk (w * h) fl st wt) (hm : Msk (w * h) p) (hArc : Arcs T w h 0 4 p fl)
    (hQ : ∀ M' p' st', Fr o (o + 7) M M' → NarAt M' o G (w * h) p' (fun _ => false) st' 0 → IsNar T w h p p' → Msk (w * h) p' → Q (.inl none) M') : cl 23 [.ref o] M Q := by
  have hN := hD.le
  have fin : ∀ M' p' fl' st', Fr o (o + 7) M M' → NarAt M' o G (w * h) p' fl' st' 0 → StkOk (w * h) fl' st' 0 → Msk (w * h) p' → Keeps T w h p p' → Arcs T w h 0 4 p' fl' → Q (.inl none) M' := by
    intro M' p' fl' st' a1 a2 a3 a4 a5 a6
    have hz := cntB_0 a3.1
    obtain ⟨b1, b2, ⟨f, b3, b4⟩, b5⟩ := a2
    refine hQ M' p' st' a1 ⟨b1, b2, ⟨f, b3, fun k hk => ?_⟩, b5⟩ ⟨a5, fun k d k2 h1 h2 h3 => a6 k h1 (hz k (by omega)) d k2 h2 h3 (fun _ => h2)⟩ a4
    rw [b4 k hk, hz k hk]
  rw [e_23]
  simp only [g_23_0, g_23_1, g_23_3, g_23_6, g_23_9, g_23_10, g_23_13, g_23_16, g_23_17, g_23_18, g_23_21, g_23_22, g_23_23, g_23_26, g_23_27, g_23_30, g_23_31, g_23_34, g_23_37, g_23_38, g_23_39, g_23_42, g_23_43, g_23_44, g_23_47, g_23_48, g_23_50, g_23_51, g_23_54, g_23_55, g_23_56, g_23_57, g_23_60, g_23_63, g_23_66, g_23_69, g_23_72, qOb_some, kr_v, kr_n, qinv_i, qinv_r, qinv_0, Nat.reduceAdd, List.getElem?_cons_zero, List.getElem?_cons_succ, List.set_cons_zero, List.set_cons_succ, List.length_cons, List.length_nil]
  refine upto (N := 324) (I := fun s a => NInv T M o G w h p 0 4 s a.1) (G := fun s (a : qM × Option Value × Option Value) => g 23 2 [some (.ref o), some (.int (nI s)), a.2.1, a.2.2] [] a.1 0 0 Q) ?_ ?_ 0 (M, none, none) (Nat.zero_le _) ?_
  · rintro ⟨M1, l2, l3⟩ ⟨p1, fl1, st1, wt1, a1, a2, a3, a4, a5, a6, a7⟩
    have : wt1 = 0 := by omega
    subst this
    rw [g_23_2]
    simp only [g_23_0, g_23_1, g_23_3, g_23_6, g_23_9, g_23_10, g_23_13, g_23_16, g_23_17, g_23_18, g_23_21, g_23_22, g_23_23, g_23_26, g_23_27, g_23_30, g_23_31, g_23_34, g_23_37, g_23_38, g_23_39, g_23_42, g_23_43, g_23_44, g_23_47, g_23_48, g_23_50, g_23_51, g_23_54, g_23_55, g_23_56, g_23_57, g_23_60, g_23_63, g_23_66, g_23_69, g_23_72, qOb_some, kr_v, kr_n, qinv_i, qinv_r, qinv_0, Nat.reduceAdd, List.getElem?_cons_zero, List.getElem?_cons_succ, List.set_cons_zero, List.set_cons_succ, List.length_cons, List.length_nil, show (324 : Int32) = nI 324 from rfl, Int32.le_refl, not_true_eq_false, not_false_eq_true, false_implies, true_implies, and_true, true_and, and_false, false_and, if_true, if_false, forall_const, or_true, true_or, false_or, or_false]
    exact fin M1 p1 fl1 st1 a1 a2 a3 a4 a5 a6
  · rintro s ⟨M1, l2, l3⟩ hs ⟨p1, fl1, st1, wt1, a1, a2, a3, a4, a5, a6, a7⟩ ih
    rw [g_23_2]
    have h1 := a2.1
    simp only [g_23_0, g_23_1, g_23_3, g_23_6, g_23_9, g_23_10, g_23_13, g_23_16, g_23_17, g_23_18, g_23_21, g_23_22, g_23_23, g_23_26, g_23_27, g_23_30, g_23_31, g_23_34, g_23_37, g_23_38, g_23_39, g_23_42, g_23_43, g_23_44, g_23_47, g_23_48, g_23_50, g_23_51, g_23_54, g_23_55, g_23_56, g_23_57, g_23_60, g_23_63, g_23_66, g_23_69, g_23_72, qOb_some, kr_v, kr_n, qinv_i, qinv_r, qinv_0, Nat.reduceAdd, List.getElem?_cons_zero, List.getElem?_cons_succ, List.set_cons_zero, List.set_cons_succ, List.length_cons, List.length_nil, show (324 : Int32) = nI 324 from rfl, nI_ge hs (show 324 < 2 ^ 31 by decide), not_true_eq_false, not_false_eq_true, false_implies, true_implies, and_true, true_and, and_false, false_and, if_true, if_false, forall_const, or_true, true_or, false_or, or_false, qget_of h1]
    cases wt1 with
    | zero =>
      simp only [show nI 0 ≤ 0 by decide, not_true_eq_false, not_false_eq_true, false_implies, true_implies, and_true, true_and, and_false, false_and, if_true, if_false, forall_const, or_true, true_or, false_or, or_false]
      exact fin M1 p1 fl1 st1 a1 a2 a3 a4 a5 a6
    | succ wt1 =>
      obtain ⟨c1, c2, c3⟩ := a3.pop hN
      obtain ⟨-, r1, ⟨f2, r2, v2⟩, ⟨f3, r3, v3⟩⟩ := a2
      have hw36 : wt1 + 1 ≤ 36 := by
        have := a3.1
        have := cntB_le (f := fl1) (n := 36)
        omega
      have frA : Fr o (o + 1) M1 (M1.set o (.inr (3, [.ref 1, .ref G, .ref (o + 1), .ref (o + 3), .ref (o + 5), .int (nI wt1)]))) := Fr.set (by omega) (by omega)
      have h1A : (M1.set o (.inr (3, [.ref 1, .ref G, .ref (o + 1), .ref (o + 3), .ref (o + 5), .int (nI wt1)])))[o]? = some (.inr (3, [.ref 1, .ref G, .ref (o + 1), .ref (o + 3), .ref (o + 5), .int (nI wt1)])) := get_set_eq h1
      have r1A := r1.fr frA (by omega)
      have r2A := r2.fr frA (by omega)
      have r3A := r3.fr frA (by omega)
      have e1 : nI (wt1 + 1) - 1 = nI wt1 := nI_pred wt1
      simp only [nI_nle (Nat.succ_pos wt1) (show wt1 + 1 < 2 ^ 31 by omega), g_23_0, g_23_1, g_23_3, g_23_6, g_23_9, g_23_10, g_23_13, g_23_16, g_23_17, g_23_18, g_23_21, g_23_22, g_23_23, g_23_26, g_23_27, g_23_30, g_23_31, g_23_34, g_23_37, g_23_38, g_23_39, g_23_42, g_23_43, g_23_44, g_23_47, g_23_48, g_23_50, g_23_51, g_23_54, g_23_55, g_23_56, g_23_57, g_23_60, g_23_63, g_23_66, g_23_69, g_23_72, qOb_some, kr_v, kr_n, qinv_i, qinv_r, qinv_0, Nat.reduceAdd, List.getElem?_cons_zero, List.getElem?_cons_succ, List.set_cons_zero, List.set_cons_succ, List.length_cons, List.length_nil, not_true_eq_false, not_false_eq_true, false_implies, true_implies, and_true, true_and, and_false, false_and, if_true, if_false, forall_const, or_true, true_or, false_or, or_false, qget_of h1, qput_i h1 (show 5 < 6 by decide) rfl, e1, qget_of h1A, r3A.cls, r2A.cls, s_get r3A (show 36 < 2147483648 by decide), rget_nI (show wt1 < 36 by omega) (show 36 < 2147483648 by decide), v3 wt1 (Nat.lt_succ_self _)]
      refine s_setF r2A (by decide) (show st1 wt1 < 36 by omega) (fun M2 fr2 r2B => ?_)
      simp only [g_23_0, g_23_1, g_23_3, g_23_6, g_23_9, g_23_10, g_23_13, g_23_16, g_23_17, g_23_18, g_23_21, g_23_22, g_23_23, g_23_26, g_23_27, g_23_30, g_23_31, g_23_34, g_23_37, g_23_38, g_23_39, g_23_42, g_23_43, g_23_44, g_23_47, g_23_48, g_23_50, g_23_51, g_23_54, g_23_55, g_23_56, g_23_57, g_23_60, g_23_63, g_23_66, g_23_69, g_23_72, qOb_some, kr_v, kr_n, qinv_i, qinv_r, qinv_0, Nat.reduceAdd, List.getElem?_cons_zero, List.getElem?_cons_succ, List.set_cons_zero, List.set_cons_succ, List.length_cons, List.length_nil]
      have h1B := (fr2 o (by omega)).trans h1A
      have frM : Fr o (o + 7) M M2 := (a1.trans (frA.mono (by omega) (by omega))).trans (fr2.mono (by omega) (by omega))
      have hA2 : NarAt M2 o G (w * h) p1 (fb fl1 (st1 wt1) false) st1 wt1 := ⟨h1B, r1A.fr fr2 (by omega), ⟨_, r2B, fun i hi => by
        by_cases q : i = st1 wt1
        · rw [q, upd_s, fb_s]; rfl
        · rw [upd_n q, fb_n q]; exact v2 i hi⟩, ⟨f3, r3A.fr fr2 (by omega), fun i hi => v3 i (by omega)⟩⟩
      have arc0 : Arcs T w h (st1 wt1) 0 p1 (fb fl1 (st1 wt1) false) := by
        intro i hi hf d' k2 hd' hn hc
        by_cases q : i = st1 wt1
        · exact absurd (hc q) (Nat.not_lt_zero _)
        · rw [fb_n q] at hf
          exact a6 i hi hf d' k2 hd' hn (fun _ => hd')
      refine upto (N := 4) (I := fun d M3 => NInv T M o G w h p (st1 wt1) d (s + 1) M3) (G := fun d M3 => g 23 49 [some (.ref o), some (.int (nI s)), some (.int (nI (st1 wt1))), some (.int (nI d))] [] M3 0 0 Q) ?_ ?_ 0 M2 (Nat.zero_le _) ⟨p1, _, st1, wt1, frM, hA2, c3, a4, a5, arc0, by omega⟩
      · rintro M3 ⟨p3, fl3, st3, wt3, b1, b2, b3, b4, b5, b6, b7⟩
        rw [g_23_49]
        simp only [g_23_0, g_23_1, g_23_3, g_23_6, g_23_9, g_23_10, g_23_13, g_23_16, g_23_17, g_23_18, g_23_21, g_23_22, g_23_23, g_23_26, g_23_27, g_23_30, g_23_31, g_23_34, g_23_37, g_23_38, g_23_39, g_23_42, g_23_43, g_23_44, g_23_47, g_23_48, g_23_50, g_23_51, g_23_54, g_23_55, g_23_56, g_23_57, g_23_60, g_23_63, g_23_66, g_23_69, g_23_72, qOb_some, kr_v, kr_n, qinv_i, qinv_r, qinv_0, Nat.reduceAdd, List.getElem?_cons_zero, List.getElem?_cons_succ, List.set_cons_zero, List.set_cons_succ, List.length_cons, List.length_nil, show (4 : Int32) = nI 4 from rfl, Int32.le_refl, not_true_eq_false, not_false_eq_true, false_implies, true_implies, and_true, true_and, and_false, false_and, if_true, if_false, forall_const, or_true, true_or, false_or, or_false, nI_1]
        exact ih (M3, _, _) ⟨p3, fl3, st3, wt3, b1, b2, b3, b4, b5, fun i hi hf d' k2 hd' hn hc => b6 i hi hf d' k2 hd' hn (fun _ => hd'), b7⟩
      · rintro d M3 hd ⟨p3, fl3, st3, wt3, b1, b2, b3, b4, b5, b6, b7⟩ ihd
        rw [g_23_49]
        simp only [g_23_0, g_23_1, g_23_3, g_23_6, g_23_9, g_23_10, g_23_13, g_23_16, g_23_17, g_23_18, g_23_21, g_23_22, g_23_23, g_23_26, g_23_27, g_23_30, g_23_31, g_23_34, g_23_37, g_23_38, g_23_39, g_23_42, g_23_43, g_23_44, g_23_47, g_23_48, g_23_50, g_23_51, g_23_54, g_23_55, g_23_56, g_23_57, g_23_60, g_23_63, g_23_66, g_23_69, g_23_72, qOb_some, kr_v, kr_n, qinv_i, qinv_r, qinv_0, Nat.reduceAdd, List.getElem?_cons_zero, List.getElem?_cons_succ, List.set_cons_zero, List.set_cons_succ, List.length_cons, List.length_nil, show (4 : Int32) = nI 4 from rfl, nI_ge hd (show 4 < 2 ^ 31 by decide), not_true_eq_false, not_false_eq_true, false_implies, true_implies, and_true, true_and, and_false, false_and, if_true, if_false, forall_const, or_true, true_or, false_or, or_false, qcls_of b2.1]
        refine s_narrowBeside (hT.fr b1 ho) hk (hG.fr b1 hGo) hD b2 b3 b4 c1 hd (fun M4 p4 fl4 st4 wt4 d1 d2 d3 d4 d5 d6 => ?_)
        simp only [g_23_0, g_23_1, g_23_3, g_23_6, g_23_9, g_23_10, g_23_13, g_23_16, g_23_17, g_23_18, g_23_21, g_23_22, g_23_23, g_23_26, g_23_27, g_23_30, g_23_31, g_23_34, g_23_37, g_23_38, g_23_39, g_23_42, g_23_43, g_23_44, g_23_47, g_23_48, g_23_50, g_23_51, g_23_54, g_23_55, g_23_56, g_23_57, g_23_60, g_23_63, g_23_66, g_23_69, g_23_72, qOb_some, kr_v, kr_n, qinv_i, qinv_r, qinv_0, Nat.reduceAdd, List.getElem?_cons_zero, List.getElem?_cons_succ, List.set_cons_zero, List.set_cons_succ, List.length_cons, List.length_nil, nI_1]
        exact ihd M4 ⟨p4, fl4, st4, wt4, b1.trans d1, d2, d3, d5, keeps_step d4 c1 hd b5, arc_step d4 b6, by omega⟩
  · have t1 := tot_le hm
    have t2 := cntB_le (f := fl) (n := 36)
    have t3 := hS.1
    exact ⟨p, fl, st, wt, Fr.refl, hA, hS, hm, Keeps.refl, hArc, by omega⟩
