/-! the class's filling: all of it -/
def FW (M : qM) (o a G Wo w h : Nat) (wo : Nat → Option Nat) (road : Bool) (n : Nat) (p : Nat → Nat) (sn : Nat → Nat → Nat) (gc gt : Nat → Nat) (s : Int32) (gs tk : Nat) : Prop :=
  FObj M o a G Wo (nI n) s (nI gs) (nI tk) ∧ NarS M (a + 8) G (w * h) p ∧ FRow M a (w * h) n sn gc gt ∧ (∃ tl, PlaAt M (a + 15) G (w * h) tl) ∧ WishAt M Wo (fun t => nbI (wo t)) road
/-- what a filling leaves -/
def FEnd (M : qM) (o a G Wo w h : Nat) (wo : Nat → Option Nat) (road : Bool) (r : Nat × (Nat → Nat) × Nat × Nat) : Prop := ∃ n sn gc gt s, FW M o a G Wo w h wo road n r.2.1 sn gc gt s r.2.2.1 r.2.2.2 ∧ (r.1 = 100 → PlaAt M (a + 15) G (w * h) (tof r.2.1))
def Fo (o a : Nat) (M M' : qM) : Prop := ∀ b, b ≠ o → (b < a ∨ a + 24 ≤ b) → M'[b]? = M[b]?
theorem Fo.trans {o a : Nat} {M M1 M2 : qM} (h : Fo o a M M1) (h' : Fo o a M1 M2) : Fo o a M M2 := fun b h1 h2 => (h' b h1 h2).trans (h b h1 h2)
theorem Fr.fo {lo hi o a : Nat} {M M' : qM} (h : Fr lo hi M M') (h1 : a ≤ lo) (h2 : hi ≤ a + 24) : Fo o a M M' := fun b _ q => h b (by omega)
theorem Fo.tiles {o a : Nat} {T : TS} {M M' : qM} (h : TilesAt M T) (hf : Fo o a M M') (ho : 7 < o) (ha : o < a) : TilesAt M' T := by
  refine h.fr (lo := o) (hi := a + 24) (M' := M') (fun b q => ?_) ho
  exact hf b (by omega) (by omega)
theorem Fo.grid {o a G w h : Nat} {M M' : qM} (hg : GridAt M G w h) (hf : Fo o a M M') (ha : o < a) (hGo : G < o ∨ a + 24 ≤ G) : GridAt M' G w h := (hf G (by omega) (by omega)).trans hg
theorem Fo.wish {o a Wo : Nat} {W : Nat → Int32} {road : Bool} {M M' : qM} (hw : WishAt M Wo W road) (hf : Fo o a M M') (h1 : Wo + 3 ≤ o ∨ (o < Wo ∧ Wo + 3 ≤ a)) (ha : o < a) : WishAt M' Wo W road := by
  obtain ⟨q1, f, ⟨q2, q3⟩, q4⟩ := hw
  exact ⟨(hf _ (by omega) (by omega)).trans q1, f, ⟨(hf _ (by omega) (by omega)).trans q2, (hf _ (by omega) (by omega)).trans q3⟩, q4⟩
theorem tof_ok {T : TS} {N : Nat} {wo : Nat → Option Nat} {p : Nat → Nat} (hk : TOk T) (hp : PN T N p) (hw : ¬ wrongP T N wo p) (hf : few p N = none) : ∀ k, k < N → tof p k < T.n ∧ p k = 2 ^ tof p k := by
  intro k hk2
  have hm := (hp.msk hk) k hk2
  have h0 : p k ≠ 0 := fun q => hw (Or.inl ⟨k, hk2, q⟩)
  have h1 := few_none hf k hk2
  have h2 : cnt (p k) ≠ 0 := fun q => h0 ((cnt_0 (p k) hm).mp q)
  obtain ⟨t, ht, e⟩ := (cnt_1 (p k) hm).mp (by omega)
  have e2 : tof p k = t := by unfold tof; rw [e]; exact low_pow t ht
  rw [e2]
  exact ⟨bit_ltn (hp k hk2) (by rw [e]; exact Nat.testBit_two_pow_self), e⟩
theorem PlaAt.fr2 {o a G N : Nat} {tl : Nat → Nat} {M M' : qM} (h : PlaAt M (a + 15) G N tl) (hf : ∀ b, b ≠ o → (b < a ∨ a + 15 ≤ b) → M'[b]? = M[b]?) (hoa : o < a) : PlaAt M' (a + 15) G N tl := h.fr (lo := 0) (hi := a + 15) (fun b q => hf b (by omega) (by omega)) (by omega)
theorem PlaAt.c {M : qM} {o G N : Nat} {tl tl' : Nat → Nat} (h : PlaAt M o G N tl) (he : ∀ k, k < N → tl k = tl' k) : PlaAt M o G N tl' := by
  obtain ⟨h1, ⟨f, h2, h3⟩, h4⟩ := h
  exact ⟨h1, ⟨f, h2, fun k hk => by rw [h3 k hk, he k hk]⟩, h4⟩
theorem rdOk_c {T : TS} {w h : Nat} {road : Bool} {tl tl' : Nat → Nat} (he : ∀ k, k < w * h → tl k = tl' k) : rdOk T w h road tl ↔ rdOk T w h road tl' := by
  unfold rdOk
  rw [npc_c he]
theorem s_loop {M0 : qM} {T : TS} {o a G Wo w h lim : Nat} {wo : Nat → Option Nat} {road : Bool} {Q : qR → qM → Prop} {x1 : Int32} (hT : TilesAt M0 T) (hk : TOk T) (hG : GridAt M0 G w h) (hD : Dim w h) (hwo : ∀ t m, wo t = some m → m < 1000) (hlim : lim ≤ 200) (ho : 7 < o) (hoa : o < a) (hGo : G < o ∨ a + 24 ≤ G) (hWo : Wo + 3 ≤ o ∨ (o < Wo ∧ Wo + 3 ≤ a)) : ∀ (f n : Nat) (p : Nat → Nat) (sn : Nat → Nat → Nat) (gc gt : Nat → Nat) (s : Int32) (gs tk st : Nat) (l4 l5 : Option Value) (M : qM), FInv T w h lim f n p sn gc gt tk → Fo o a M0 M → FW M o a G Wo w h wo road n p sn gc gt s gs tk → st + f ≤ 500 →
    (∀ M', Fo o a M0 M' → FEnd M' o a G Wo w h wo road (frun T w h wo road lim f n p sn gc gt s gs tk) → Q (.inl (some (.int (nI (frun T w h wo road lim f n p sn gc gt s gs tk).1)))) M') → g 8 29 [some (.ref o), some (.int x1), some (.int (nI lim)), some (.int (nI st)), l4, l5] [] M 0 0 Q := by
  have hN := hD.le
  intro f
  induction f with
  | zero =>
    intro n p sn gc gt s gs tk st l4 l5 M hI
    have h1 := hI.n_le
    have h2 := hI.2.2.1
    omega
  | succ f ih =>
    intro n p sn gc gt s gs tk st l4 l5 M hI hFo hW hst hQ
    obtain ⟨w1, ⟨st0, w2⟩, w3, ⟨tl0, w4⟩, w5⟩ := hW
    have hT1 := Fo.tiles hT hFo ho hoa
    have hG1 := Fo.grid hG hFo hoa hGo
    have hp := hI.2.2.2.1
    have hs := hI.2.2.2.2.1
    rw [g_8_29]
    simp only [g_8_0, g_8_1, g_8_2, g_8_5, g_8_6, g_8_7, g_8_10, g_8_11, g_8_12, g_8_15, g_8_16, g_8_17, g_8_20, g_8_21, g_8_24, g_8_27, g_8_28, g_8_30, g_8_33, g_8_36, g_8_37, g_8_40, g_8_42, g_8_43, g_8_46, g_8_48, g_8_50, g_8_51, g_8_54, g_8_55, g_8_58, g_8_60, g_8_63, g_8_65, g_8_66, g_8_69, g_8_70, g_8_72, g_8_75, g_8_78, g_8_80, g_8_83, g_8_84, g_8_87, g_8_88, g_8_91, g_8_94, g_8_97, g_8_99, g_8_100, g_8_101, g_8_104, g_8_107, g_8_109, g_8_110, g_8_111, g_8_114, g_8_115, g_8_118, g_8_120, g_8_121, g_8_122, g_8_125, g_8_128, g_8_131, g_8_133, qOb_some, kr_v, kr_n, qinv_i, qinv_r, qinv_0, Nat.reduceAdd, List.getElem?_cons_zero, List.getElem?_cons_succ, List.set_cons_zero, List.set_cons_succ, List.length_cons, List.length_nil, not_true_eq_false, not_false_eq_true, false_implies, true_implies, and_true, true_and, and_false, false_and, if_true, if_false, forall_const, or_true, true_or, false_or, or_false, i10, Bool.false_eq_true, show (1000 : Int32) = nI 1000 from rfl, nI_ge (show st < 1000 by omega) (show 1000 < 2 ^ 31 by decide), w1.cls]
    refine s_gone hT1 hk hG1 hD w1 w2 hp w5 hwo w3.1 ho hoa (by omega) (by omega) (fun M1 a1 a2 => ?_)
    have hFo1 := hFo.trans (a1.fo (o := o) (Nat.le_refl _) (by omega))
    have hO1 := w1.fr a1 (by omega)
    have hA1 := w2.fr a1 (by omega)
    have hT2 := Fo.tiles hT hFo1 ho hoa
    have hG2 := Fo.grid hG hFo1 hoa hGo
    have hP1 := w4.fr a1 (by omega)
    have hW1 := w5.fr a1 (by omega)
    have hR1 : FRow M1 a (w * h) n sn gc gt := by
      obtain ⟨-, ⟨f2, q2, q3⟩, q4, q5⟩ := w3
      exact ⟨a2, ⟨f2, q2.fr a1 (by omega), q3⟩, q4.fr a1 (by omega), q5.fr a1 (by omega)⟩
    simp only [g_8_0, g_8_1, g_8_2, g_8_5, g_8_6, g_8_7, g_8_10, g_8_11, g_8_12, g_8_15, g_8_16, g_8_17, g_8_20, g_8_21, g_8_24, g_8_27, g_8_28, g_8_30, g_8_33, g_8_36, g_8_37, g_8_40, g_8_42, g_8_43, g_8_46, g_8_50, g_8_51, g_8_54, g_8_55, g_8_58, g_8_60, g_8_63, g_8_65, g_8_66, g_8_69, g_8_70, g_8_72, g_8_75, g_8_78, g_8_80, g_8_83, g_8_84, g_8_87, g_8_88, g_8_91, g_8_94, g_8_97, g_8_99, g_8_100, g_8_101, g_8_104, g_8_107, g_8_109, g_8_110, g_8_111, g_8_114, g_8_115, g_8_118, g_8_120, g_8_121, g_8_122, g_8_125, g_8_128, g_8_131, g_8_133, qOb_some, kr_v, kr_n, qinv_i, qinv_r, qinv_0, Nat.reduceAdd, List.getElem?_cons_zero, List.getElem?_cons_succ, List.set_cons_zero, List.set_cons_succ, List.length_cons, List.length_nil, not_true_eq_false, not_false_eq_true, false_implies, true_implies, and_true, true_and, and_false, false_and, if_true, if_false, forall_const, or_true, true_or, false_or, or_false, i10, Bool.false_eq_true, hO1.cls, s_fewest hk hG2 hD hO1 hA1 hp]
    -- the two ends of a turn that has gone wrong
    have wrong : goneP T w h wo road p → ∀ (M2 : qM) (l4 l5 : Option Value), Fo o a M0 M2 → FW M2 o a G Wo w h wo road n p sn gc gt s gs tk → g 8 100 [some (.ref o), some (.int x1), some (.int (nI lim)), some (.int (nI st)), l4, l5] [] M2 0 0 Q := by
      intro hg M2 l4 l5 b1 b2
      have b2' := b2
      obtain ⟨y1, y2, y3, y4, y5⟩ := b2
      rw [frun, if_pos (cB_iff.mpr hg)] at hQ
      simp only [g_8_0, g_8_1, g_8_2, g_8_5, g_8_6, g_8_7, g_8_10, g_8_11, g_8_12, g_8_15, g_8_16, g_8_17, g_8_20, g_8_21, g_8_24, g_8_27, g_8_28, g_8_30, g_8_33, g_8_36, g_8_37, g_8_40, g_8_42, g_8_43, g_8_46, g_8_48, g_8_50, g_8_51, g_8_54, g_8_55, g_8_58, g_8_60, g_8_63, g_8_65, g_8_66, g_8_69, g_8_70, g_8_72, g_8_75, g_8_78, g_8_80, g_8_83, g_8_84, g_8_87, g_8_88, g_8_91, g_8_94, g_8_97, g_8_99, g_8_100, g_8_101, g_8_104, g_8_107, g_8_109, g_8_110, g_8_111, g_8_114, g_8_115, g_8_118, g_8_120, g_8_121, g_8_122, g_8_128, g_8_131, g_8_133, qOb_some, kr_v, kr_n, qinv_i, qinv_r, qinv_0, Nat.reduceAdd, List.getElem?_cons_zero, List.getElem?_cons_succ, List.set_cons_zero, List.set_cons_succ, List.length_cons, List.length_nil, not_true_eq_false, not_false_eq_true, false_implies, true_implies, and_true, true_and, and_false, false_and, if_true, if_false, forall_const, or_true, true_or, false_or, or_false, i10, Bool.false_eq_true, y1.get, fo_9, nI_eq0 (show n < 2147483648 by have := hI.n_le; omega)]
      cases n with
      | zero =>
        rw [if_pos rfl] at hQ
        simp only [not_true_eq_false, not_false_eq_true, false_implies, true_implies, and_true, true_and, and_false, false_and, if_true, if_false, forall_const, or_true, true_or, false_or, or_false, i10, Bool.false_eq_true]
        exact ⟨by decide, hQ M2 b1 ⟨0, sn, gc, gt, s, b2', fun q => absurd q (show ¬ (110 : Nat) = 100 by decide)⟩⟩
      | succ n =>
        rw [if_neg (Nat.succ_ne_zero n)] at hQ
        have htl := hI.2.1
        have e1 : (nI lim ≤ nI tk) = (lim ≤ tk) := propext (nI_leI (by omega) (by omega))
        have e2 : (nI tk < nI lim) = (tk < lim) := propext (nI_ltI (by omega) (by omega))
        simp only [Nat.succ_ne_zero, g_8_0, g_8_1, g_8_2, g_8_5, g_8_6, g_8_7, g_8_10, g_8_11, g_8_12, g_8_15, g_8_16, g_8_17, g_8_20, g_8_21, g_8_24, g_8_27, g_8_28, g_8_30, g_8_33, g_8_36, g_8_37, g_8_40, g_8_42, g_8_43, g_8_46, g_8_48, g_8_50, g_8_51, g_8_54, g_8_55, g_8_58, g_8_60, g_8_63, g_8_65, g_8_66, g_8_69, g_8_70, g_8_72, g_8_75, g_8_78, g_8_80, g_8_83, g_8_84, g_8_87, g_8_88, g_8_91, g_8_94, g_8_97, g_8_99, g_8_100, g_8_101, g_8_104, g_8_107, g_8_109, g_8_110, g_8_111, g_8_114, g_8_115, g_8_118, g_8_120, g_8_121, g_8_122, g_8_128, g_8_131, g_8_133, qOb_some, kr_v, kr_n, qinv_i, qinv_r, qinv_0, Nat.reduceAdd, List.getElem?_cons_zero, List.getElem?_cons_succ, List.set_cons_zero, List.set_cons_succ, List.length_cons, List.length_nil, not_true_eq_false, not_false_eq_true, false_implies, true_implies, and_true, true_and, and_false, false_and, if_true, if_false, forall_const, or_true, true_or, false_or, or_false, i10, Bool.false_eq_true, y1.get, fo_12, e1, e2]
        by_cases u : lim ≤ tk
        · rw [if_pos u] at hQ
          simp only [Nat.not_lt.mpr u, not_true_eq_false, not_false_eq_true, false_implies, true_implies, and_true, true_and, and_false, false_and, if_true, if_false, forall_const, or_true, true_or, false_or, or_false, i10, Bool.false_eq_true]
          exact ⟨by decide, hQ M2 b1 ⟨n + 1, sn, gc, gt, s, b2', fun q => absurd q (show ¬ (108 : Nat) = 100 by decide)⟩⟩
        · rw [if_neg u] at hQ
          have u2 : tk < lim := by omega
          obtain ⟨z1, z2, z3, z4, z5, z6⟩ := hI.2.2.2.2.2 n (Nat.lt_succ_self _)
          have hnle := hI.n_le
          simp only [u2, not_true_eq_false, not_false_eq_true, false_implies, true_implies, and_true, true_and, and_false, false_and, if_true, if_false, forall_const, or_true, true_or, false_or, or_false, i10, Bool.false_eq_true, y1.cls]
          refine s_back (Fo.tiles hT b1 ho hoa) hk (Fo.grid hG b1 hoa hGo) hD y1 y2 y3 z2 z3 z4 z5 (by omega) ho hoa hGo (fun M3 c1 c2 c3 c4 => ?_)
          have c1' : Fo o a M2 M3 := fun b q1 q2 => c1 b q1 (by omega)
          simp only [g_8_0, g_8_1, g_8_2, g_8_5, g_8_6, g_8_7, g_8_10, g_8_11, g_8_12, g_8_15, g_8_16, g_8_17, g_8_20, g_8_21, g_8_24, g_8_27, g_8_28, g_8_30, g_8_33, g_8_36, g_8_37, g_8_40, g_8_42, g_8_43, g_8_46, g_8_48, g_8_50, g_8_51, g_8_54, g_8_55, g_8_58, g_8_60, g_8_63, g_8_65, g_8_66, g_8_69, g_8_70, g_8_72, g_8_75, g_8_78, g_8_80, g_8_83, g_8_84, g_8_87, g_8_88, g_8_91, g_8_94, g_8_97, g_8_99, g_8_100, g_8_101, g_8_104, g_8_107, g_8_109, g_8_110, g_8_111, g_8_114, g_8_115, g_8_118, g_8_120, g_8_121, g_8_122, g_8_125, g_8_128, g_8_131, g_8_133, qOb_some, kr_v, kr_n, qinv_i, qinv_r, qinv_0, Nat.reduceAdd, List.getElem?_cons_zero, List.getElem?_cons_succ, List.set_cons_zero, List.set_cons_succ, List.length_cons, List.length_nil, not_true_eq_false, not_false_eq_true, false_implies, true_implies, and_true, true_and, and_false, false_and, if_true, if_false, forall_const, or_true, true_or, false_or, or_false, i10, Bool.false_eq_true, nI_1]
          refine ih n _ sn gc gt s gs (tk + 1) (st + 1) _ _ M3 (hI.back hk u2) (b1.trans c1') ⟨c2, c3, c4, ?_, Fo.wish y5 c1' hWo hoa⟩ (by omega) hQ
          obtain ⟨tl, y4⟩ := y4
          exact ⟨tl, y4.fr2 c1 hoa⟩
    by_cases hw : wrongP T (w * h) wo p
    · have e1 : (cB (wrongP T (w * h) wo p) = true) := cB_iff.mpr hw
      cases hf : few p (w * h) with
      | none =>
        simp only [g_8_0, g_8_1, g_8_2, g_8_5, g_8_6, g_8_7, g_8_10, g_8_11, g_8_12, g_8_15, g_8_16, g_8_17, g_8_20, g_8_21, g_8_24, g_8_27, g_8_28, g_8_30, g_8_33, g_8_36, g_8_37, g_8_40, g_8_42, g_8_43, g_8_46, g_8_48, g_8_50, g_8_51, g_8_54, g_8_55, g_8_58, g_8_60, g_8_63, g_8_65, g_8_66, g_8_69, g_8_70, g_8_72, g_8_75, g_8_78, g_8_80, g_8_83, g_8_84, g_8_87, g_8_88, g_8_91, g_8_94, g_8_97, g_8_99, g_8_101, g_8_104, g_8_107, g_8_109, g_8_110, g_8_111, g_8_114, g_8_115, g_8_118, g_8_120, g_8_121, g_8_122, g_8_128, g_8_131, g_8_133, qOb_some, kr_v, kr_n, qinv_i, qinv_r, qinv_0, Nat.reduceAdd, List.getElem?_cons_zero, List.getElem?_cons_succ, List.set_cons_zero, List.set_cons_succ, List.length_cons, List.length_nil, nbI, bI_t e1, not_true_eq_false, not_false_eq_true, false_implies, true_implies, and_true, true_and, and_false, false_and, if_true, if_false, forall_const, or_true, true_or, false_or, or_false, i10, Bool.false_eq_true, hO1.cls]
        refine s_place hT2 hk hG2 hD hO1 hA1 hp hP1 ho hoa (by omega) (fun M2 b1 b2 => ?_)
        simp only [g_8_0, g_8_1, g_8_2, g_8_5, g_8_6, g_8_7, g_8_10, g_8_11, g_8_12, g_8_15, g_8_16, g_8_17, g_8_20, g_8_21, g_8_24, g_8_27, g_8_28, g_8_30, g_8_33, g_8_36, g_8_37, g_8_40, g_8_42, g_8_43, g_8_46, g_8_48, g_8_50, g_8_51, g_8_54, g_8_55, g_8_58, g_8_60, g_8_63, g_8_65, g_8_66, g_8_69, g_8_70, g_8_72, g_8_75, g_8_78, g_8_80, g_8_83, g_8_84, g_8_87, g_8_88, g_8_91, g_8_94, g_8_97, g_8_99, g_8_101, g_8_104, g_8_107, g_8_109, g_8_110, g_8_111, g_8_114, g_8_115, g_8_118, g_8_120, g_8_121, g_8_122, g_8_128, g_8_131, g_8_133, qOb_some, kr_v, kr_n, qinv_i, qinv_r, qinv_0, Nat.reduceAdd, List.getElem?_cons_zero, List.getElem?_cons_succ, List.set_cons_zero, List.set_cons_succ, List.length_cons, List.length_nil, nbI, bI_t e1, not_true_eq_false, not_false_eq_true, false_implies, true_implies, and_true, true_and, and_false, false_and, if_true, if_false, forall_const, or_true, true_or, false_or, or_false, i10, Bool.false_eq_true]
        exact wrong (Or.inl hw) M2 _ _ (hFo1.trans (b1.fo (by omega) (by omega))) ⟨hO1.fr b1 (by omega), ⟨st0, hA1.fr b1 (by omega)⟩, hR1.fr b1 (by omega), ⟨_, b2⟩, hW1.fr b1 (by omega)⟩
      | some c =>
        have hc := (few_some hf).1
        simp only [g_8_0, g_8_1, g_8_2, g_8_5, g_8_6, g_8_7, g_8_10, g_8_11, g_8_12, g_8_15, g_8_16, g_8_17, g_8_20, g_8_21, g_8_24, g_8_27, g_8_28, g_8_30, g_8_33, g_8_36, g_8_37, g_8_40, g_8_42, g_8_43, g_8_46, g_8_48, g_8_50, g_8_51, g_8_54, g_8_55, g_8_58, g_8_60, g_8_63, g_8_65, g_8_66, g_8_69, g_8_70, g_8_72, g_8_75, g_8_78, g_8_80, g_8_83, g_8_84, g_8_87, g_8_88, g_8_91, g_8_94, g_8_97, g_8_99, g_8_101, g_8_104, g_8_107, g_8_109, g_8_110, g_8_111, g_8_114, g_8_115, g_8_118, g_8_120, g_8_121, g_8_122, g_8_128, g_8_131, g_8_133, qOb_some, kr_v, kr_n, qinv_i, qinv_r, qinv_0, Nat.reduceAdd, List.getElem?_cons_zero, List.getElem?_cons_succ, List.set_cons_zero, List.set_cons_succ, List.length_cons, List.length_nil, nbI, bI_t e1, not_true_eq_false, not_false_eq_true, false_implies, true_implies, and_true, true_and, and_false, false_and, if_true, if_false, forall_const, or_true, true_or, false_or, or_false, i10, Bool.false_eq_true, m1_ne (show c < 1000 by omega)]
        exact wrong (Or.inl hw) M1 _ _ hFo1 ⟨hO1, ⟨st0, hA1⟩, hR1, ⟨tl0, hP1⟩, hW1⟩
    · have e1 : ¬ (cB (wrongP T (w * h) wo p) = true) := fun q => hw (cB_iff.mp q)
      cases hf : few p (w * h) with
      | none =>
        have hto := tof_ok hk hp hw hf
        simp only [g_8_0, g_8_1, g_8_2, g_8_5, g_8_6, g_8_7, g_8_10, g_8_11, g_8_12, g_8_15, g_8_16, g_8_17, g_8_20, g_8_21, g_8_24, g_8_27, g_8_28, g_8_30, g_8_33, g_8_36, g_8_37, g_8_40, g_8_42, g_8_43, g_8_46, g_8_48, g_8_50, g_8_51, g_8_54, g_8_55, g_8_58, g_8_60, g_8_63, g_8_65, g_8_66, g_8_69, g_8_70, g_8_72, g_8_75, g_8_78, g_8_80, g_8_83, g_8_84, g_8_87, g_8_88, g_8_91, g_8_94, g_8_97, g_8_99, g_8_101, g_8_104, g_8_107, g_8_109, g_8_110, g_8_111, g_8_114, g_8_115, g_8_118, g_8_120, g_8_121, g_8_122, g_8_128, g_8_131, g_8_133, qOb_some, kr_v, kr_n, qinv_i, qinv_r, qinv_0, Nat.reduceAdd, List.getElem?_cons_zero, List.getElem?_cons_succ, List.set_cons_zero, List.set_cons_succ, List.length_cons, List.length_nil, nbI, bI_f e1, not_true_eq_false, not_false_eq_true, false_implies, true_implies, and_true, true_and, and_false, false_and, if_true, if_false, forall_const, or_true, true_or, false_or, or_false, i10, Bool.false_eq_true, hO1.cls]
        refine s_place hT2 hk hG2 hD hO1 hA1 hp hP1 ho hoa (by omega) (fun M2 b1 b2 => ?_)
        have b2 : PlaAt M2 (a + 15) G (w * h) (tof p) := b2.c (fun k hk2 => by
          have := (hto k hk2).2
          unfold lowN
          rw [if_neg (by rw [this]; exact pow_ne0 _)]
          rfl)
        have hO2 := hO1.fr b1 (by omega)
        have hFo2 := hFo1.trans (b1.fo (o := o) (by omega) (by omega))
        simp only [g_8_0, g_8_1, g_8_2, g_8_5, g_8_6, g_8_7, g_8_10, g_8_11, g_8_12, g_8_15, g_8_16, g_8_17, g_8_20, g_8_21, g_8_24, g_8_27, g_8_28, g_8_30, g_8_33, g_8_36, g_8_37, g_8_40, g_8_42, g_8_43, g_8_46, g_8_48, g_8_50, g_8_51, g_8_54, g_8_55, g_8_58, g_8_60, g_8_63, g_8_65, g_8_66, g_8_69, g_8_70, g_8_72, g_8_75, g_8_78, g_8_80, g_8_83, g_8_84, g_8_87, g_8_88, g_8_91, g_8_94, g_8_97, g_8_99, g_8_101, g_8_104, g_8_107, g_8_109, g_8_110, g_8_111, g_8_114, g_8_115, g_8_118, g_8_120, g_8_121, g_8_122, g_8_128, g_8_131, g_8_133, qOb_some, kr_v, kr_n, qinv_i, qinv_r, qinv_0, Nat.reduceAdd, List.getElem?_cons_zero, List.getElem?_cons_succ, List.set_cons_zero, List.set_cons_succ, List.length_cons, List.length_nil, nbI, bI_f e1, not_true_eq_false, not_false_eq_true, false_implies, true_implies, and_true, true_and, and_false, false_and, if_true, if_false, forall_const, or_true, true_or, false_or, or_false, i10, Bool.false_eq_true, hO2.get, fo_4, fo_2, qcls_of b2.1]
        refine s_isRoadAs (Fo.tiles hT hFo2 ho hoa) hk (Fo.grid hG hFo2 hoa hGo) hD (by omega) (by omega) b2 (hW1.fr b1 (by omega)) (fun _ k hk2 => (hto k hk2).1) (fun M3 b d1 d2 d3 => ?_)
        have hFo3 := hFo2.trans (d1.fo (o := o) (by omega) (by omega))
        have hend : FW M3 o a G Wo w h wo road n p sn gc gt s gs tk := ⟨hO2.fr d1 (by omega), ⟨st0, (hA1.fr b1 (by omega)).fr d1 (by omega)⟩, (hR1.fr b1 (by omega)).fr d1 (by omega), ⟨_, d2⟩, (hW1.fr b1 (by omega)).fr d1 (by omega)⟩
        simp only [g_8_0, g_8_1, g_8_2, g_8_5, g_8_6, g_8_7, g_8_10, g_8_11, g_8_12, g_8_15, g_8_16, g_8_17, g_8_20, g_8_21, g_8_24, g_8_27, g_8_28, g_8_30, g_8_33, g_8_36, g_8_37, g_8_40, g_8_42, g_8_43, g_8_46, g_8_48, g_8_50, g_8_51, g_8_54, g_8_55, g_8_58, g_8_60, g_8_63, g_8_65, g_8_66, g_8_69, g_8_70, g_8_72, g_8_75, g_8_78, g_8_80, g_8_83, g_8_84, g_8_87, g_8_88, g_8_91, g_8_94, g_8_97, g_8_99, g_8_101, g_8_104, g_8_107, g_8_109, g_8_110, g_8_111, g_8_114, g_8_115, g_8_118, g_8_120, g_8_121, g_8_122, g_8_128, g_8_131, g_8_133, qOb_some, kr_v, kr_n, qinv_i, qinv_r, qinv_0, Nat.reduceAdd, List.getElem?_cons_zero, List.getElem?_cons_succ, List.set_cons_zero, List.set_cons_succ, List.length_cons, List.length_nil, bI_0, not_true_eq_false, not_false_eq_true, false_implies, true_implies, and_true, true_and, and_false, false_and, if_true, if_false, forall_const, or_true, true_or, false_or, or_false, i10, Bool.false_eq_true]
        cases b with
        | true =>
          have hg : ¬ goneP T w h wo road p := by
            rintro (q | ⟨_, q⟩)
            · exact hw q
            · exact q (d3.mp rfl)
          rw [frun, if_neg (fun q => hg (cB_iff.mp q)), hf] at hQ
          simp only [not_true_eq_false, not_false_eq_true, false_implies, true_implies, and_true, true_and, and_false, false_and, if_true, if_false, forall_const, or_true, true_or, false_or, or_false, i10, Bool.false_eq_true]
          exact ⟨by decide, hQ M3 hFo3 ⟨n, sn, gc, gt, s, hend, fun _ => d2⟩⟩
        | false =>
          simp only [not_true_eq_false, not_false_eq_true, false_implies, true_implies, and_true, true_and, and_false, false_and, if_true, if_false, forall_const, or_true, true_or, false_or, or_false, i10, Bool.false_eq_true]
          exact wrong (Or.inr ⟨hf, fun q => by have := d3.mpr q; cases this⟩) M3 _ _ hFo3 hend
      | some c =>
        have hc := (few_some hf).1
        have hg : ¬ goneP T w h wo road p := by
          rintro (q | ⟨q, _⟩)
          · exact hw q
          · rw [hf] at q; cases q
        have hnl : n < 36 := by
          have := nOne_lt hc (few_some hf).2
          have := hI.1
          omega
        obtain ⟨d1, d2, d3⟩ := dtl_ok (s := s) hk (hp c hc) (few_some hf).2
        rw [frun, if_neg (fun q => hg (cB_iff.mp q)), hf] at hQ
        simp only [g_8_0, g_8_1, g_8_2, g_8_5, g_8_6, g_8_7, g_8_10, g_8_11, g_8_12, g_8_15, g_8_16, g_8_17, g_8_20, g_8_21, g_8_24, g_8_27, g_8_28, g_8_30, g_8_33, g_8_36, g_8_37, g_8_40, g_8_42, g_8_43, g_8_46, g_8_48, g_8_50, g_8_51, g_8_54, g_8_55, g_8_58, g_8_60, g_8_63, g_8_65, g_8_66, g_8_69, g_8_70, g_8_72, g_8_75, g_8_78, g_8_80, g_8_83, g_8_84, g_8_87, g_8_88, g_8_91, g_8_94, g_8_97, g_8_99, g_8_101, g_8_104, g_8_107, g_8_109, g_8_110, g_8_111, g_8_114, g_8_115, g_8_118, g_8_120, g_8_121, g_8_122, g_8_128, g_8_131, g_8_133, qOb_some, kr_v, kr_n, qinv_i, qinv_r, qinv_0, Nat.reduceAdd, List.getElem?_cons_zero, List.getElem?_cons_succ, List.set_cons_zero, List.set_cons_succ, List.length_cons, List.length_nil, nbI, bI_f e1, not_true_eq_false, not_false_eq_true, false_implies, true_implies, and_true, true_and, and_false, false_and, if_true, if_false, forall_const, or_true, true_or, false_or, or_false, i10, Bool.false_eq_true, m1_ne (show c < 1000 by omega), hO1.cls]
        refine s_guess hT2 hk hG2 hD hO1 ⟨st0, hA1⟩ hR1 hp hs hnl hf ho hoa hGo (fun M3 c1 c2 c3 c4 => ?_)
        have c1' : Fo o a M1 M3 := fun b q1 q2 => c1 b q1 (by omega)
        simp only [g_8_0, g_8_1, g_8_2, g_8_5, g_8_6, g_8_7, g_8_10, g_8_11, g_8_12, g_8_15, g_8_16, g_8_17, g_8_20, g_8_21, g_8_24, g_8_27, g_8_28, g_8_30, g_8_33, g_8_36, g_8_37, g_8_40, g_8_42, g_8_43, g_8_46, g_8_48, g_8_50, g_8_51, g_8_54, g_8_55, g_8_58, g_8_60, g_8_63, g_8_65, g_8_66, g_8_69, g_8_70, g_8_72, g_8_75, g_8_78, g_8_80, g_8_83, g_8_84, g_8_87, g_8_88, g_8_91, g_8_94, g_8_97, g_8_99, g_8_100, g_8_101, g_8_104, g_8_107, g_8_109, g_8_110, g_8_111, g_8_114, g_8_115, g_8_118, g_8_120, g_8_121, g_8_122, g_8_125, g_8_128, g_8_131, g_8_133, qOb_some, kr_v, kr_n, qinv_i, qinv_r, qinv_0, Nat.reduceAdd, List.getElem?_cons_zero, List.getElem?_cons_succ, List.set_cons_zero, List.set_cons_succ, List.length_cons, List.length_nil, not_true_eq_false, not_false_eq_true, false_implies, true_implies, and_true, true_and, and_false, false_and, if_true, if_false, forall_const, or_true, true_or, false_or, or_false, i10, Bool.false_eq_true, nI_1]
        exact ih (n + 1) _ _ _ _ _ (gs + 1) tk (st + 1) _ _ M3 (hI.guess hk hf d2 d3) (hFo1.trans c1') ⟨c2, c3, c4, ⟨tl0, hP1.fr2 c1 hoa⟩, Fo.wish hW1 c1' hWo hoa⟩ (by omega) hQ
theorem FRow.z {M : qM} {a N N' n : Nat} {sn sn' : Nat → Nat → Nat} {gc gt gc' gt' : Nat → Nat} (h : FRow M a N n sn gc gt) : FRow M a N' 0 sn' gc' gt' := by
  obtain ⟨h1, ⟨f', h2, h3⟩, ⟨f4, h4, h5⟩, ⟨f6, h6, h7⟩⟩ := h
  exact ⟨h1, ⟨f', h2, fun i k hi => absurd hi (Nat.not_lt_zero _)⟩, ⟨f4, h4, fun i hi => absurd hi (Nat.not_lt_zero _)⟩, ⟨f6, h6, fun i hi => absurd hi (Nat.not_lt_zero _)⟩⟩
theorem PlaAt.any {M : qM} {o G N : Nat} {tl : Nat → Nat} (h : PlaAt M o G N tl) (N' : Nat) : ∃ tl', PlaAt M o G N' tl' := by
  obtain ⟨h1, ⟨f, h2, h3⟩, h4⟩ := h
  refine ⟨fun k => (f k).toBitVec.toNat, h1, ⟨f, h2, fun k _ => ?_⟩, h4⟩
  apply Int32.toBitVec_inj.mp
  simp only [nI, Int32.toBitVec_ofNat']
  apply BitVec.eq_of_toNat_eq
  simp only [BitVec.toNat_ofNat]
  exact (Nat.mod_eq_of_lt (f k).toBitVec.isLt).symm
/-- the filling of what is possible -/
noncomputable def fres (T : TS) (w h : Nat) (wo : Nat → Option Nat) (road : Bool) (lim : Nat) (p : Nat → Nat) (s : Int32) : Nat × (Nat → Nat) × Nat × Nat := frun T w h wo road lim (2 * lim + 38) 0 (narF T w h p) (fun _ _ => 0) (fun _ => 0) (fun _ => 0) s 0 0
theorem s_run {M : qM} {T : TS} {o a G Wo w h lim wt : Nat} {wo : Nat → Option Nat} {road : Bool} {p st : Nat → Nat} {fl : Nat → Bool} {n0 s0 gs0 tk0 s : Int32} {N' n' : Nat} {sn' : Nat → Nat → Nat} {gc' gt' tl' : Nat → Nat} {Q : qR → qM → Prop} (hT : TilesAt M T) (hk : TOk T) (hG : GridAt M G w h) (hD : Dim w h) (hwo : ∀ t m, wo t = some m → m < 1000) (hlim : lim ≤ 200) (ho : 7 < o) (hoa : o < a) (hGo : G < o ∨ a + 24 ≤ G) (hWo : Wo + 3 ≤ o ∨ (o < Wo ∧ Wo + 3 ≤ a)) (hO : FObj M o a G Wo n0 s0 gs0 tk0) (hA : NarAt M (a + 8) G (w * h) p fl st wt) (hS : StkOk (w * h) fl st wt) (hp : PN T (w * h) p) (hall : ∀ k, k < w * h → fl k = true) (hR : FRow M a N' n' sn' gc' gt') (hP : PlaAt M (a + 15) G N' tl') (hW : WishAt M Wo (fun t => nbI (wo t)) road)
    (hQ : ∀ M', Fo o a M M' → FEnd M' o a G Wo w h wo road (fres T w h wo road lim p s) → Q (.inl (some (.int (nI (fres T w h wo road lim p s).1)))) M') : cl 8 [.ref o, .int s, .int (nI lim)] M Q := by
  have hN := hD.le
  have hO1 : FObj (M.set o (.inr (1, FO a G Wo n0 s gs0 tk0))) o a G Wo n0 s gs0 tk0 := hO.s
  have f1 : Fr o (o + 1) M (M.set o (.inr (1, FO a G Wo n0 s gs0 tk0))) := Fr.set (by omega) (by omega)
  rw [e_8]
  simp only [g_8_0, g_8_1, g_8_2, g_8_5, g_8_6, g_8_7, g_8_10, g_8_11, g_8_12, g_8_15, g_8_16, g_8_17, g_8_20, g_8_21, g_8_24, g_8_27, g_8_28, g_8_30, g_8_33, g_8_36, g_8_37, g_8_40, g_8_42, g_8_43, g_8_46, g_8_48, g_8_50, g_8_51, g_8_54, g_8_55, g_8_58, g_8_60, g_8_63, g_8_65, g_8_66, g_8_69, g_8_70, g_8_72, g_8_75, g_8_78, g_8_80, g_8_83, g_8_84, g_8_87, g_8_88, g_8_91, g_8_94, g_8_97, g_8_99, g_8_100, g_8_101, g_8_104, g_8_107, g_8_109, g_8_110, g_8_111, g_8_114, g_8_115, g_8_118, g_8_120, g_8_121, g_8_122, g_8_125, g_8_128, g_8_131, g_8_133, qOb_some, kr_v, kr_n, qinv_i, qinv_r, qinv_0, Nat.reduceAdd, List.getElem?_cons_zero, List.getElem?_cons_succ, List.set_cons_zero, List.set_cons_succ, List.length_cons, List.length_nil, not_true_eq_false, not_false_eq_true, false_implies, true_implies, and_true, true_and, and_false, false_and, if_true, if_false, forall_const, or_true, true_or, false_or, or_false, i10, Bool.false_eq_true, hO.put (k := 10) (by decide) rfl, fp_10]
  revert hO1 f1
  generalize M.set o (.inr (1, FO a G Wo n0 s gs0 tk0)) = M1
  intro hO1 f1
  have hO2 : FObj (M1.set o (.inr (1, FO a G Wo 0 s gs0 tk0))) o a G Wo 0 s gs0 tk0 := hO1.s
  have f2 : Fr o (o + 1) M1 (M1.set o (.inr (1, FO a G Wo 0 s gs0 tk0))) := Fr.set (by omega) (by omega)
  simp only [g_8_0, g_8_1, g_8_2, g_8_5, g_8_6, g_8_7, g_8_10, g_8_11, g_8_12, g_8_15, g_8_16, g_8_17, g_8_20, g_8_21, g_8_24, g_8_27, g_8_28, g_8_30, g_8_33, g_8_36, g_8_37, g_8_40, g_8_42, g_8_43, g_8_46, g_8_48, g_8_50, g_8_51, g_8_54, g_8_55, g_8_58, g_8_60, g_8_63, g_8_65, g_8_66, g_8_69, g_8_70, g_8_72, g_8_75, g_8_78, g_8_80, g_8_83, g_8_84, g_8_87, g_8_88, g_8_91, g_8_94, g_8_97, g_8_99, g_8_100, g_8_101, g_8_104, g_8_107, g_8_109, g_8_110, g_8_111, g_8_114, g_8_115, g_8_118, g_8_120, g_8_121, g_8_122, g_8_125, g_8_128, g_8_131, g_8_133, qOb_some, kr_v, kr_n, qinv_i, qinv_r, qinv_0, Nat.reduceAdd, List.getElem?_cons_zero, List.getElem?_cons_succ, List.set_cons_zero, List.set_cons_succ, List.length_cons, List.length_nil, not_true_eq_false, not_false_eq_true, false_implies, true_implies, and_true, true_and, and_false, false_and, if_true, if_false, forall_const, or_true, true_or, false_or, or_false, i10, Bool.false_eq_true, hO1.put (k := 9) (by decide) rfl, fp_9]
  revert hO2 f2
  generalize M1.set o (.inr (1, FO a G Wo 0 s gs0 tk0)) = M2
  intro hO2 f2
  have hO3 : FObj (M2.set o (.inr (1, FO a G Wo 0 s 0 tk0))) o a G Wo 0 s 0 tk0 := hO2.s
  have f3 : Fr o (o + 1) M2 (M2.set o (.inr (1, FO a G Wo 0 s 0 tk0))) := Fr.set (by omega) (by omega)
  simp only [g_8_0, g_8_1, g_8_2, g_8_5, g_8_6, g_8_7, g_8_10, g_8_11, g_8_12, g_8_15, g_8_16, g_8_17, g_8_20, g_8_21, g_8_24, g_8_27, g_8_28, g_8_30, g_8_33, g_8_36, g_8_37, g_8_40, g_8_42, g_8_43, g_8_46, g_8_48, g_8_50, g_8_51, g_8_54, g_8_55, g_8_58, g_8_60, g_8_63, g_8_65, g_8_66, g_8_69, g_8_70, g_8_72, g_8_75, g_8_78, g_8_80, g_8_83, g_8_84, g_8_87, g_8_88, g_8_91, g_8_94, g_8_97, g_8_99, g_8_100, g_8_101, g_8_104, g_8_107, g_8_109, g_8_110, g_8_111, g_8_114, g_8_115, g_8_118, g_8_120, g_8_121, g_8_122, g_8_125, g_8_128, g_8_131, g_8_133, qOb_some, kr_v, kr_n, qinv_i, qinv_r, qinv_0, Nat.reduceAdd, List.getElem?_cons_zero, List.getElem?_cons_succ, List.set_cons_zero, List.set_cons_succ, List.length_cons, List.length_nil, not_true_eq_false, not_false_eq_true, false_implies, true_implies, and_true, true_and, and_false, false_and, if_true, if_false, forall_const, or_true, true_or, false_or, or_false, i10, Bool.false_eq_true, hO2.put (k := 11) (by decide) rfl, fp_11]
  revert hO3 f3
  generalize M2.set o (.inr (1, FO a G Wo 0 s 0 tk0)) = M3
  intro hO3 f3
  have hO4 : FObj (M3.set o (.inr (1, FO a G Wo 0 s 0 0))) o a G Wo (nI 0) s (nI 0) (nI 0) := hO3.s
  have f4 : Fr o (o + 1) M3 (M3.set o (.inr (1, FO a G Wo 0 s 0 0))) := Fr.set (by omega) (by omega)
  simp only [g_8_0, g_8_1, g_8_2, g_8_5, g_8_6, g_8_7, g_8_10, g_8_11, g_8_12, g_8_15, g_8_16, g_8_17, g_8_20, g_8_21, g_8_24, g_8_27, g_8_28, g_8_30, g_8_33, g_8_36, g_8_37, g_8_40, g_8_42, g_8_43, g_8_46, g_8_48, g_8_50, g_8_51, g_8_54, g_8_55, g_8_58, g_8_60, g_8_63, g_8_65, g_8_66, g_8_69, g_8_70, g_8_72, g_8_75, g_8_78, g_8_80, g_8_83, g_8_84, g_8_87, g_8_88, g_8_91, g_8_94, g_8_97, g_8_99, g_8_100, g_8_101, g_8_104, g_8_107, g_8_109, g_8_110, g_8_111, g_8_114, g_8_115, g_8_118, g_8_120, g_8_121, g_8_122, g_8_125, g_8_128, g_8_131, g_8_133, qOb_some, kr_v, kr_n, qinv_i, qinv_r, qinv_0, Nat.reduceAdd, List.getElem?_cons_zero, List.getElem?_cons_succ, List.set_cons_zero, List.set_cons_succ, List.length_cons, List.length_nil, not_true_eq_false, not_false_eq_true, false_implies, true_implies, and_true, true_and, and_false, false_and, if_true, if_false, forall_const, or_true, true_or, false_or, or_false, i10, Bool.false_eq_true, hO3.put (k := 12) (by decide) rfl, fp_12]
  revert hO4 f4
  generalize M3.set o (.inr (1, FO a G Wo 0 s 0 0)) = M4
  intro hO4 f4
  have fA : Fr o (o + 1) M M4 := ((f1.trans f2).trans f3).trans f4
  have hA4 := hA.fr fA (by omega)
  have hFA : Fo o a M M4 := fun b q1 q2 => fA b (by omega)
  simp only [g_8_0, g_8_1, g_8_2, g_8_5, g_8_6, g_8_7, g_8_10, g_8_11, g_8_12, g_8_15, g_8_16, g_8_17, g_8_20, g_8_21, g_8_24, g_8_27, g_8_28, g_8_30, g_8_33, g_8_36, g_8_37, g_8_40, g_8_42, g_8_43, g_8_46, g_8_48, g_8_50, g_8_51, g_8_54, g_8_55, g_8_58, g_8_60, g_8_63, g_8_65, g_8_66, g_8_69, g_8_70, g_8_72, g_8_75, g_8_78, g_8_80, g_8_83, g_8_84, g_8_87, g_8_88, g_8_91, g_8_94, g_8_97, g_8_99, g_8_100, g_8_101, g_8_104, g_8_107, g_8_109, g_8_110, g_8_111, g_8_114, g_8_115, g_8_118, g_8_120, g_8_121, g_8_122, g_8_125, g_8_128, g_8_131, g_8_133, qOb_some, kr_v, kr_n, qinv_i, qinv_r, qinv_0, Nat.reduceAdd, List.getElem?_cons_zero, List.getElem?_cons_succ, List.set_cons_zero, List.set_cons_succ, List.length_cons, List.length_nil, not_true_eq_false, not_false_eq_true, false_implies, true_implies, and_true, true_and, and_false, false_and, if_true, if_false, forall_const, or_true, true_or, false_or, or_false, i10, Bool.false_eq_true, hO4.get, fo_3, qcls_of hA4.1]
  refine s_narrow (hT.fr fA (by omega)) hk (hG.fr fA (by omega)) hD (by omega) (by omega) hA4 hS (hp.msk hk) (fun i hi hf => by rw [hall i hi] at hf; cases hf) (fun M5 p5 st5 b1 b2 b3 b4 => ?_)
  simp only [g_8_0, g_8_1, g_8_2, g_8_5, g_8_6, g_8_7, g_8_10, g_8_11, g_8_12, g_8_15, g_8_16, g_8_17, g_8_20, g_8_21, g_8_24, g_8_27, g_8_28, g_8_30, g_8_33, g_8_36, g_8_37, g_8_40, g_8_42, g_8_43, g_8_46, g_8_48, g_8_50, g_8_51, g_8_54, g_8_55, g_8_58, g_8_60, g_8_63, g_8_65, g_8_66, g_8_69, g_8_70, g_8_72, g_8_75, g_8_78, g_8_80, g_8_83, g_8_84, g_8_87, g_8_88, g_8_91, g_8_94, g_8_97, g_8_99, g_8_100, g_8_101, g_8_104, g_8_107, g_8_109, g_8_110, g_8_111, g_8_114, g_8_115, g_8_118, g_8_120, g_8_121, g_8_122, g_8_125, g_8_128, g_8_131, g_8_133, qOb_some, kr_v, kr_n, qinv_i, qinv_r, qinv_0, Nat.reduceAdd, List.getElem?_cons_zero, List.getElem?_cons_succ, List.set_cons_zero, List.set_cons_succ, List.length_cons, List.length_nil, not_true_eq_false, not_false_eq_true, false_implies, true_implies, and_true, true_and, and_false, false_and, if_true, if_false, forall_const, or_true, true_or, false_or, or_false, i10, Bool.false_eq_true, show (0 : Int32) = nI 0 from rfl]
  have hn := narF_is (T := T) (hp.msk hk)
  have hFB : Fo o a M4 M5 := b1.fo (by omega) (by omega)
  obtain ⟨tl5, hP5⟩ := ((hP.fr fA (by omega)).fr b1 (by omega)).any (w * h)
  exact s_loop hT hk hG hD hwo hlim ho hoa hGo hWo (2 * lim + 38) 0 (narF T w h p) (fun _ _ => 0) (fun _ => 0) (fun _ => 0) s 0 0 0 _ _ M5 (FInv.start (narF_pn hk hp) hn.2) (hFA.trans hFB) ⟨hO4.fr b1 (by omega), ⟨st5, b2.c (fun k hk2 => b3.eq (hp.msk hk) k hk2)⟩, ((hR.fr fA (by omega)).fr b1 (by omega)).z, ⟨tl5, hP5⟩, Fo.wish hW (hFA.trans hFB) hWo hoa⟩ (by omega) hQ
