/-! the model's filling: a guess is taken back; all of it -/
theorem m_back {M : qM} {s : Nat → Int32} {T : TS} {w h n gs tk : Nat} {x : Int32} {p : Nat → Nat} {sn : Nat → Nat → Nat} {gc gt : Nat → Nat} {Q : qR → qM → Prop} (hM : ModAt M s) (hT : MTil M s T) (hk : TOk T) (hw : s 20 = nI w) (hh : s 21 = nI h) (hD : Dim w h) (hF : MFil M s (w * h) (n + 1) p sn gc gt x gs tk) (hp : PN T (w * h) (sn n)) (hc : gc n < w * h) (ht : gt n < T.n) (hn : n < 36)
    (hQ : ∀ M' s', MFr M M' → SFr 26 s s' → ModAt M' s' → MFil M' s' (w * h) n (narF T w h (fu (sn n) (gc n) (sn n (gc n) &&& (255 - 2 ^ gt n)))) sn gc gt x gs (tk + 1) → Q (.inl none) M') : cl 133 [.ref 101] M Q := by
  have hN := hD.le
  have h8 := hk.1
  obtain ⟨⟨x26, x27, x28, x29⟩, ⟨fp, rp, vp⟩, hR⟩ := hF
  obtain ⟨M1, e1, f1, hM1⟩ := put_G 29 (nI n) hM (by decide) rfl ms_29
  have hR1 := hR.fr f1 (by omega)
  have hR1' := hR1
  obtain ⟨⟨fa, ra⟩, ⟨fb0, rb⟩, ⟨fB, rB, vB⟩, ⟨fC, rC, vC⟩, ⟨fD, rD, vD⟩⟩ := hR1
  have w1 : upd s 29 (nI n) 20 = nI w := by rw [upd_n (by decide)]; exact hw
  have h1 : upd s 29 (nI n) 21 = nI h := by rw [upd_n (by decide)]; exact hh
  have u28 : upd s 29 (nI n) 28 = nI tk := by rw [upd_n (by decide)]; exact x28
  rw [e_133]
  simp only [g_133_0, g_133_1, g_133_2, g_133_5, g_133_6, g_133_7, g_133_10, g_133_11, g_133_13, g_133_14, g_133_17, g_133_20, g_133_21, g_133_24, g_133_25, g_133_26, g_133_29, g_133_31, g_133_32, g_133_35, g_133_36, g_133_37, g_133_38, g_133_39, g_133_40, g_133_43, g_133_46, g_133_47, g_133_50, g_133_51, g_133_54, g_133_55, g_133_58, g_133_59, g_133_60, g_133_61, g_133_62, g_133_63, g_133_66, g_133_67, g_133_70, g_133_71, g_133_72, g_133_73, g_133_74, g_133_75, g_133_76, g_133_77, g_133_78, g_133_81, g_133_82, g_133_83, g_133_86, g_133_87, g_133_90, qOb_some, kr_v, kr_n, qinv_i, qinv_r, qinv_0, Nat.reduceAdd, List.getElem?_cons_zero, List.getElem?_cons_succ, List.set_cons_zero, List.set_cons_succ, List.length_cons, List.length_nil, not_true_eq_false, not_false_eq_true, false_implies, true_implies, and_true, true_and, and_false, false_and, if_true, if_false, forall_const, or_true, true_or, false_or, or_false, i10, Bool.false_eq_true, mget hM, mo_29, x29, nI_pred, e1]
  refine upto (N := w * h) (I := fun k M' => Fr 112 113 M1 M' ∧ ∃ f, M'[112]? = some (.inl (0, 36, .inl f)) ∧ ∀ j, j < k → f j = nI (sn n j)) (G := fun k M' => g 133 12 [some (.ref 101), some (.int (nI k))] [] M' 0 0 Q) ?_ ?_ 0 M1 (Nat.zero_le _) ⟨Fr.refl, fp, (f1 112 (by omega)).trans rp, fun k hk => absurd hk (Nat.not_lt_zero _)⟩
  · rintro M2 ⟨a1, f, a2, a3⟩
    have hM2 := hM1.fr a1 (by omega)
    have rC2 := (a1 116 (by omega)).trans rC
    have rD2 := (a1 117 (by omega)).trans rD
    have hx := (hp.msk hk) (gc n) hc
    obtain ⟨M3, e3, f3, r3⟩ := ast_G (nI (sn n (gc n) &&& (255 - 2 ^ gt n))) a2 (show gc n < 36 by omega) (by decide)
    have hM3 := hM2.fr f3 (by omega)
    obtain ⟨M4, e4, f4, hM4⟩ := put_G 28 (nI (tk + 1)) hM3 (by decide) rfl ms_28
    rw [g_133_12]
    simp only [g_133_0, g_133_1, g_133_2, g_133_5, g_133_6, g_133_7, g_133_10, g_133_11, g_133_13, g_133_14, g_133_17, g_133_20, g_133_21, g_133_24, g_133_25, g_133_26, g_133_29, g_133_31, g_133_32, g_133_35, g_133_36, g_133_37, g_133_38, g_133_39, g_133_40, g_133_43, g_133_46, g_133_47, g_133_50, g_133_51, g_133_54, g_133_55, g_133_58, g_133_59, g_133_60, g_133_61, g_133_62, g_133_63, g_133_66, g_133_67, g_133_70, g_133_71, g_133_72, g_133_73, g_133_74, g_133_75, g_133_76, g_133_77, g_133_78, g_133_81, g_133_82, g_133_83, g_133_86, g_133_87, g_133_90, qOb_some, kr_v, kr_n, qinv_i, qinv_r, qinv_0, Nat.reduceAdd, List.getElem?_cons_zero, List.getElem?_cons_succ, List.set_cons_zero, List.set_cons_succ, List.length_cons, List.length_nil, not_true_eq_false, not_false_eq_true, false_implies, true_implies, and_true, true_and, and_false, false_and, if_true, if_false, forall_const, or_true, true_or, false_or, or_false, i10, Bool.false_eq_true, hM2.cls, m_cells hM2 w1 h1, Int32.le_refl, mget hM2, mo_23, mo_31, mo_32, mo_29, upd_s, ald_N rC2 (show n < 40 by omega) (show 40 < 2147483648 by decide), ald_N rD2 (show n < 40 by omega) (show 40 < 2147483648 by decide), vC n (Nat.lt_succ_self _), vD n (Nat.lt_succ_self _), ald_N a2 (show gc n < 36 by omega) (show 36 < 2147483648 by decide), a3 (gc n) hc, nI_not1 (gt n) (show gt n < 8 by omega) (sn n (gc n)) hx, e3, mget hM3, mo_28, u28, nI_1, e4, hM4.cls]
    have sf : SFr 26 s (upd (upd s 29 (nI n)) 28 (nI (tk + 1))) := (SFr.upd (by decide)).trans (SFr.upd (by decide))
    have mf : MFr M M4 := (((f1.m (by omega) (by omega)).trans (a1.m (by omega) (by omega))).trans (f3.m (by omega) (by omega))).trans (f4.m (by omega) (by omega))
    have hp2 : PN T (w * h) (fu (sn n) (gc n) (sn n (gc n) &&& (255 - 2 ^ gt n))) := PN_fu hp (clr_lt (hp _ hc))
    refine m_narrows hM4 (mf.til hT (sf.le (by decide))) hk ((sf 20 (by decide)).trans hw) ((sf 21 (by decide)).trans hh) hD (p := fu (sn n) (gc n) (sn n (gc n) &&& (255 - 2 ^ gt n))) ⟨_, (f4 112 (by omega)).trans r3, fun k hk2 => ?_⟩ hp2 (fun M8 p8 g1 g2 g3 g4 => ?_)
    · by_cases e : k = gc n
      · rw [e, upd_s, fu_s]
      · rw [upd_n e, fu_n e]; exact a3 k hk2
    · simp only [g_133_0, g_133_1, g_133_2, g_133_5, g_133_6, g_133_7, g_133_10, g_133_11, g_133_13, g_133_14, g_133_17, g_133_20, g_133_21, g_133_24, g_133_25, g_133_26, g_133_29, g_133_31, g_133_32, g_133_35, g_133_36, g_133_37, g_133_38, g_133_39, g_133_40, g_133_43, g_133_46, g_133_47, g_133_50, g_133_51, g_133_54, g_133_55, g_133_58, g_133_59, g_133_60, g_133_61, g_133_62, g_133_63, g_133_66, g_133_67, g_133_70, g_133_71, g_133_72, g_133_73, g_133_74, g_133_75, g_133_76, g_133_77, g_133_78, g_133_81, g_133_82, g_133_83, g_133_86, g_133_87, g_133_90, qOb_some, kr_v, kr_n, qinv_i, qinv_r, qinv_0, Nat.reduceAdd, List.getElem?_cons_zero, List.getElem?_cons_succ, List.set_cons_zero, List.set_cons_succ, List.length_cons, List.length_nil, not_true_eq_false, not_false_eq_true, false_implies, true_implies, and_true, true_and, and_false, false_and, if_true, if_false, forall_const, or_true, true_or, false_or, or_false, i10, Bool.false_eq_true]
      obtain ⟨f8, g5, g6⟩ := g2
      refine hQ M8 _ (mf.trans (g1.m (by omega) (by omega))) sf (hM4.fr g1 (by omega)) ⟨⟨?_, ?_, ?_, ?_⟩, ⟨f8, g5, fun k hk2 => by rw [g6 k hk2, g3.eq (hp2.msk hk) k hk2]⟩, ((((hR1'.fr a1 (by omega)).fr f3 (by omega)).fr f4 (by omega)).fr g1 (by omega)).le (Nat.le_succ n)⟩
      · rw [upd_n (by decide), upd_n (by decide)]; exact x26
      · rw [upd_n (by decide), upd_n (by decide)]; exact x27
      · rw [upd_s]
      · rw [upd_n (by decide), upd_s]
  · rintro k M2 hk2 ⟨a1, f, a2, a3⟩ ih
    have hM2 := hM1.fr a1 (by omega)
    have rB2 := (a1 115 (by omega)).trans rB
    obtain ⟨M3, e3, f3, r3⟩ := ast_G (nI (sn n k)) a2 (show k < 36 by omega) (by decide)
    rw [g_133_12]
    simp only [g_133_0, g_133_1, g_133_2, g_133_5, g_133_6, g_133_7, g_133_10, g_133_11, g_133_13, g_133_14, g_133_17, g_133_20, g_133_21, g_133_24, g_133_25, g_133_26, g_133_29, g_133_31, g_133_32, g_133_35, g_133_36, g_133_37, g_133_38, g_133_39, g_133_40, g_133_43, g_133_46, g_133_47, g_133_50, g_133_51, g_133_54, g_133_55, g_133_58, g_133_59, g_133_60, g_133_61, g_133_62, g_133_63, g_133_66, g_133_67, g_133_70, g_133_71, g_133_72, g_133_73, g_133_74, g_133_75, g_133_76, g_133_77, g_133_78, g_133_81, g_133_82, g_133_83, g_133_86, g_133_87, g_133_90, qOb_some, kr_v, kr_n, qinv_i, qinv_r, qinv_0, Nat.reduceAdd, List.getElem?_cons_zero, List.getElem?_cons_succ, List.set_cons_zero, List.set_cons_succ, List.length_cons, List.length_nil, not_true_eq_false, not_false_eq_true, false_implies, true_implies, and_true, true_and, and_false, false_and, if_true, if_false, forall_const, or_true, true_or, false_or, or_false, i10, Bool.false_eq_true, hM2.cls, m_cells hM2 w1 h1, nI_ge hk2 (show w * h < 2 ^ 31 by omega), mget hM2, mo_23, mo_30, mo_29, upd_s, show (36 : Int32) = nI 36 from rfl, pk_mul, nI_add, ald_N rB2 (show 36 * n + k < 1440 by omega) (show 1440 < 2147483648 by decide), vB n k (Nat.lt_succ_self _) hk2, e3, nI_1]
    refine ih M3 ⟨a1.trans f3, _, r3, fun j hj => ?_⟩
    by_cases e : j = k
    · rw [e, upd_s]
    · rw [upd_n e]; exact a3 j (by omega)
/-- what the model's filling leaves -/
def MEnd (M : qM) (s : Nat → Int32) (w h : Nat) (r : Nat × (Nat → Nat) × Nat × Nat) : Prop := ∃ n sn gc gt x, MFil M s (w * h) n r.2.1 sn gc gt x r.2.2.1 r.2.2.2
theorem m_loop {M0 : qM} {s0 : Nat → Int32} {T : TS} {w h lim : Nat} {wo : Nat → Option Nat} {road : Bool} {x1 : Int32} {Q : qR → qM → Prop} (hT : MTil M0 s0 T) (hk : TOk T) (hw : s0 20 = nI w) (hh : s0 21 = nI h) (hD : Dim w h) (hW : MWish M0 s0 wo road) (hwo : ∀ t m, wo t = some m → m < 1000) (hlim : lim ≤ 200) : ∀ (f n : Nat) (p : Nat → Nat) (sn : Nat → Nat → Nat) (gc gt : Nat → Nat) (x : Int32) (gs tk : Nat) (l3 l4 : Option Value) (M : qM) (s : Nat → Int32), FInv T w h lim f n p sn gc gt tk → MFr M0 M → SFr 26 s0 s → ModAt M s → MFil M s (w * h) n p sn gc gt x gs tk →
    (∀ M' s', MFr M0 M' → SFr 26 s0 s' → ModAt M' s' → MEnd M' s' w h (frun T w h wo road lim f n p sn gc gt x gs tk) → Q (.inl (some (.int (nI (frun T w h wo road lim f n p sn gc gt x gs tk).1)))) M') → g 134 24 [some (.ref 101), some (.int x1), some (.int (nI lim)), l3, l4] [] M 0 0 Q := by
  have hN := hD.le
  intro f
  induction f with
  | zero =>
    intro n p sn gc gt x gs tk l3 l4 M s hI
    have h1 := hI.n_le
    have h2 := hI.2.2.1
    omega
  | succ f ih =>
    intro n p sn gc gt x gs tk l3 l4 M s hI mf sf hM hF hQ
    have hT1 := mf.til hT (sf.le (by decide))
    have hw1 := (sf 20 (by decide)).trans hw
    have hh1 := (sf 21 (by decide)).trans hh
    have hW1 := hW.fr mf sf
    have hF0 := hF
    obtain ⟨⟨x26, x27, x28, x29⟩, hA, hR⟩ := hF
    have hR0 := hR
    obtain ⟨ra, rb, rB, rC, rD⟩ := hR
    have hp := hI.2.2.2.1
    rw [g_134_24]
    simp only [g_134_0, g_134_1, g_134_2, g_134_5, g_134_6, g_134_7, g_134_10, g_134_11, g_134_12, g_134_15, g_134_16, g_134_17, g_134_20, g_134_21, g_134_25, g_134_28, g_134_30, g_134_33, g_134_34, g_134_37, g_134_38, g_134_41, g_134_43, g_134_44, g_134_47, g_134_49, g_134_50, g_134_53, g_134_54, g_134_57, g_134_60, g_134_61, g_134_64, g_134_67, g_134_68, g_134_71, g_134_72, g_134_75, g_134_77, g_134_78, g_134_79, g_134_80, g_134_81, g_134_84, g_134_85, g_134_88, g_134_91, g_134_93, g_134_94, g_134_95, g_134_98, g_134_99, g_134_102, g_134_103, g_134_106, g_134_108, g_134_109, g_134_110, g_134_113, g_134_114, g_134_117, g_134_120, g_134_121, g_134_123, g_134_126, qOb_some, kr_v, kr_n, qinv_i, qinv_r, qinv_0, Nat.reduceAdd, List.getElem?_cons_zero, List.getElem?_cons_succ, List.set_cons_zero, List.set_cons_succ, List.length_cons, List.length_nil, not_true_eq_false, not_false_eq_true, false_implies, true_implies, and_true, true_and, and_false, false_and, if_true, if_false, forall_const, or_true, true_or, false_or, or_false, i10, Bool.false_eq_true, hM.cls]
    refine m_wrong hM hT1 hk hw1 hh1 hD hA (hp.msk hk) hW1 hwo ra (fun M1 a1 a2 => ?_)
    have hM1 := hM.fr a1 (by omega)
    have mf1 := mf.trans (a1.m (by omega) (by omega))
    have hA1 := hA.fr a1 (by omega)
    have hF1 : MFil M1 s (w * h) n p sn gc gt x gs tk := by
      refine ⟨⟨x26, x27, x28, x29⟩, hA1, a2, ?_, ?_, rC.fr a1 (by omega), rD.fr a1 (by omega)⟩
      · obtain ⟨f2, r2⟩ := rb
        exact ⟨f2, (a1 _ (by omega)).trans r2⟩
      · obtain ⟨f2, r2, v2⟩ := rB
        exact ⟨f2, (a1 _ (by omega)).trans r2, v2⟩
    simp only [g_134_0, g_134_1, g_134_2, g_134_5, g_134_6, g_134_7, g_134_10, g_134_11, g_134_12, g_134_15, g_134_16, g_134_17, g_134_20, g_134_21, g_134_25, g_134_28, g_134_30, g_134_33, g_134_34, g_134_37, g_134_38, g_134_41, g_134_43, g_134_44, g_134_47, g_134_49, g_134_50, g_134_53, g_134_54, g_134_57, g_134_60, g_134_61, g_134_64, g_134_67, g_134_68, g_134_71, g_134_72, g_134_75, g_134_77, g_134_78, g_134_79, g_134_80, g_134_81, g_134_84, g_134_85, g_134_88, g_134_91, g_134_93, g_134_94, g_134_95, g_134_98, g_134_99, g_134_102, g_134_103, g_134_106, g_134_108, g_134_109, g_134_110, g_134_113, g_134_114, g_134_117, g_134_120, g_134_121, g_134_123, g_134_126, qOb_some, kr_v, kr_n, qinv_i, qinv_r, qinv_0, Nat.reduceAdd, List.getElem?_cons_zero, List.getElem?_cons_succ, List.set_cons_zero, List.set_cons_succ, List.length_cons, List.length_nil, not_true_eq_false, not_false_eq_true, false_implies, true_implies, and_true, true_and, and_false, false_and, if_true, if_false, forall_const, or_true, true_or, false_or, or_false, i10, Bool.false_eq_true]
    have wrong : goneP T w h wo road p → ∀ (M2 : qM) (l4 : Option Value), MFr M0 M2 → ModAt M2 s → MFil M2 s (w * h) n p sn gc gt x gs tk → g 134 80 [some (.ref 101), some (.int x1), some (.int (nI lim)), some (.int 1), l4] [] M2 0 0 Q := by
      intro hg M2 l4 b1 b2 b3
      have hnle := hI.n_le
      rw [frun, if_pos (cB_iff.mpr hg)] at hQ
      simp only [g_134_0, g_134_1, g_134_2, g_134_5, g_134_6, g_134_7, g_134_10, g_134_11, g_134_12, g_134_15, g_134_16, g_134_17, g_134_20, g_134_21, g_134_25, g_134_28, g_134_29, g_134_30, g_134_33, g_134_34, g_134_37, g_134_38, g_134_41, g_134_43, g_134_44, g_134_47, g_134_49, g_134_50, g_134_53, g_134_54, g_134_57, g_134_60, g_134_61, g_134_64, g_134_67, g_134_68, g_134_71, g_134_72, g_134_75, g_134_77, g_134_78, g_134_79, g_134_80, g_134_81, g_134_84, g_134_85, g_134_88, g_134_91, g_134_93, g_134_95, g_134_98, g_134_99, g_134_102, g_134_103, g_134_106, g_134_108, g_134_109, g_134_110, g_134_113, g_134_114, g_134_117, g_134_120, g_134_121, g_134_123, g_134_126, qOb_some, kr_v, kr_n, qinv_i, qinv_r, qinv_0, Nat.reduceAdd, List.getElem?_cons_zero, List.getElem?_cons_succ, List.set_cons_zero, List.set_cons_succ, List.length_cons, List.length_nil, not_true_eq_false, not_false_eq_true, false_implies, true_implies, and_true, true_and, and_false, false_and, if_true, if_false, forall_const, or_true, true_or, false_or, or_false, i10, Bool.false_eq_true, mget b2, mo_29, x29, nI_eq0 (show n < 2147483648 by omega)]
      cases n with
      | zero =>
        rw [if_pos rfl] at hQ
        simp only [not_true_eq_false, not_false_eq_true, false_implies, true_implies, and_true, true_and, and_false, false_and, if_true, if_false, forall_const, or_true, true_or, false_or, or_false, i10, Bool.false_eq_true]
        exact ⟨by decide, hQ M2 s b1 sf b2 ⟨0, sn, gc, gt, x, b3⟩⟩
      | succ n =>
        rw [if_neg (Nat.succ_ne_zero n)] at hQ
        have htl := hI.2.1
        have e1 : (nI tk = nI lim) = (tk = lim) := propext (nI_eq (by omega) (by omega))
        simp only [Nat.succ_ne_zero, g_134_0, g_134_1, g_134_2, g_134_5, g_134_6, g_134_7, g_134_10, g_134_11, g_134_12, g_134_15, g_134_16, g_134_17, g_134_20, g_134_21, g_134_25, g_134_28, g_134_29, g_134_30, g_134_33, g_134_34, g_134_37, g_134_38, g_134_41, g_134_43, g_134_44, g_134_47, g_134_49, g_134_50, g_134_53, g_134_54, g_134_57, g_134_60, g_134_61, g_134_64, g_134_67, g_134_68, g_134_71, g_134_72, g_134_75, g_134_77, g_134_78, g_134_79, g_134_80, g_134_81, g_134_84, g_134_85, g_134_88, g_134_91, g_134_93, g_134_94, g_134_95, g_134_98, g_134_99, g_134_102, g_134_103, g_134_106, g_134_108, g_134_109, g_134_110, g_134_113, g_134_114, g_134_117, g_134_120, g_134_121, g_134_123, g_134_126, qOb_some, kr_v, kr_n, qinv_i, qinv_r, qinv_0, Nat.reduceAdd, List.getElem?_cons_zero, List.getElem?_cons_succ, List.set_cons_zero, List.set_cons_succ, List.length_cons, List.length_nil, not_true_eq_false, not_false_eq_true, false_implies, true_implies, and_true, true_and, and_false, false_and, if_true, if_false, forall_const, or_true, true_or, false_or, or_false, i10, Bool.false_eq_true, mget b2, mo_28, x28, e1]
        by_cases u : tk = lim
        · rw [if_pos (show lim ≤ tk by omega)] at hQ
          simp only [u, not_true_eq_false, not_false_eq_true, false_implies, true_implies, and_true, true_and, and_false, false_and, if_true, if_false, forall_const, or_true, true_or, false_or, or_false, i10, Bool.false_eq_true]
          exact ⟨by decide, hQ M2 s b1 sf b2 ⟨n + 1, sn, gc, gt, x, b3⟩⟩
        · rw [if_neg (show ¬ lim ≤ tk by omega)] at hQ
          have u2 : tk < lim := by omega
          obtain ⟨z1, z2, z3, z4, z5, z6⟩ := hI.2.2.2.2.2 n (Nat.lt_succ_self _)
          simp only [u, not_true_eq_false, not_false_eq_true, false_implies, true_implies, and_true, true_and, and_false, false_and, if_true, if_false, forall_const, or_true, true_or, false_or, or_false, i10, Bool.false_eq_true, b2.cls]
          refine m_back b2 (b1.til hT (sf.le (by decide))) hk hw1 hh1 hD b3 z2 z4 z5 (by omega) (fun M3 s3 c1 c2 c3 c4 => ?_)
          simp only [g_134_0, g_134_1, g_134_2, g_134_5, g_134_6, g_134_7, g_134_10, g_134_11, g_134_12, g_134_15, g_134_16, g_134_17, g_134_20, g_134_21, g_134_25, g_134_28, g_134_29, g_134_30, g_134_33, g_134_34, g_134_37, g_134_38, g_134_41, g_134_43, g_134_44, g_134_47, g_134_49, g_134_50, g_134_53, g_134_54, g_134_57, g_134_60, g_134_61, g_134_64, g_134_67, g_134_68, g_134_71, g_134_72, g_134_75, g_134_77, g_134_78, g_134_79, g_134_80, g_134_81, g_134_84, g_134_85, g_134_88, g_134_91, g_134_93, g_134_94, g_134_95, g_134_98, g_134_99, g_134_102, g_134_103, g_134_106, g_134_108, g_134_109, g_134_110, g_134_113, g_134_114, g_134_117, g_134_120, g_134_121, g_134_123, g_134_126, qOb_some, kr_v, kr_n, qinv_i, qinv_r, qinv_0, Nat.reduceAdd, List.getElem?_cons_zero, List.getElem?_cons_succ, List.set_cons_zero, List.set_cons_succ, List.length_cons, List.length_nil, not_true_eq_false, not_false_eq_true, false_implies, true_implies, and_true, true_and, and_false, false_and, if_true, if_false, forall_const, or_true, true_or, false_or, or_false, i10, Bool.false_eq_true]
          exact ih n _ sn gc gt x gs (tk + 1) _ _ M3 s3 (hI.back hk u2) (b1.trans c1) (sf.trans c2) c3 c4 hQ
    by_cases hwr : wrongP T (w * h) wo p
    · have e1 : (cB (wrongP T (w * h) wo p) = true) := cB_iff.mpr hwr
      simp only [g_134_0, g_134_1, g_134_2, g_134_5, g_134_6, g_134_7, g_134_10, g_134_11, g_134_12, g_134_15, g_134_16, g_134_17, g_134_20, g_134_21, g_134_25, g_134_28, g_134_29, g_134_30, g_134_33, g_134_34, g_134_37, g_134_38, g_134_41, g_134_43, g_134_44, g_134_47, g_134_49, g_134_50, g_134_53, g_134_54, g_134_57, g_134_60, g_134_61, g_134_64, g_134_67, g_134_68, g_134_71, g_134_72, g_134_75, g_134_77, g_134_78, g_134_79, g_134_81, g_134_84, g_134_85, g_134_88, g_134_91, g_134_93, g_134_94, g_134_95, g_134_98, g_134_99, g_134_102, g_134_103, g_134_106, g_134_108, g_134_109, g_134_110, g_134_113, g_134_114, g_134_117, g_134_120, g_134_121, g_134_123, g_134_126, qOb_some, kr_v, kr_n, qinv_i, qinv_r, qinv_0, Nat.reduceAdd, List.getElem?_cons_zero, List.getElem?_cons_succ, List.set_cons_zero, List.set_cons_succ, List.length_cons, List.length_nil, bI_t e1, not_true_eq_false, not_false_eq_true, false_implies, true_implies, and_true, true_and, and_false, false_and, if_true, if_false, forall_const, or_true, true_or, false_or, or_false, i10, Bool.false_eq_true]
      exact wrong (Or.inl hwr) M1 _ mf1 hM1 hF1
    · have e1 : ¬ (cB (wrongP T (w * h) wo p) = true) := fun q => hwr (cB_iff.mp q)
      cases hf : few p (w * h) with
      | none =>
        have hto := tof_ok hk hp hwr hf
        have good : ∀ (M3 : qM), MFr M0 M3 → ModAt M3 s → MFil M3 s (w * h) n p sn gc gt x gs tk → rdOk T w h road (tof p) → Q (.inl (some (.int 100))) M3 := by
          intro M3 b1 b2 b3 hr
          have hg : ¬ goneP T w h wo road p := by
            rintro (q | ⟨_, q⟩)
            · exact hwr q
            · exact q hr
          rw [frun, if_neg (fun q => hg (cB_iff.mp q)), hf] at hQ
          exact hQ M3 s b1 sf b2 ⟨n, sn, gc, gt, x, b3⟩
        simp only [g_134_0, g_134_1, g_134_2, g_134_5, g_134_6, g_134_7, g_134_10, g_134_11, g_134_12, g_134_15, g_134_16, g_134_17, g_134_20, g_134_21, g_134_25, g_134_28, g_134_29, g_134_30, g_134_33, g_134_34, g_134_37, g_134_38, g_134_41, g_134_43, g_134_44, g_134_47, g_134_49, g_134_50, g_134_53, g_134_54, g_134_57, g_134_60, g_134_61, g_134_64, g_134_67, g_134_68, g_134_71, g_134_72, g_134_75, g_134_77, g_134_78, g_134_79, g_134_81, g_134_84, g_134_85, g_134_88, g_134_91, g_134_93, g_134_94, g_134_95, g_134_98, g_134_99, g_134_102, g_134_103, g_134_106, g_134_108, g_134_109, g_134_110, g_134_113, g_134_114, g_134_117, g_134_120, g_134_121, g_134_123, g_134_126, qOb_some, kr_v, kr_n, qinv_i, qinv_r, qinv_0, Nat.reduceAdd, List.getElem?_cons_zero, List.getElem?_cons_succ, List.set_cons_zero, List.set_cons_succ, List.length_cons, List.length_nil, bI_f e1, not_true_eq_false, not_false_eq_true, false_implies, true_implies, and_true, true_and, and_false, false_and, if_true, if_false, forall_const, or_true, true_or, false_or, or_false, i10, Bool.false_eq_true, hM1.cls, m_fewest hM1 hw1 hh1 hD hA1 (hp.msk hk), hf, nbI, mget hM1, mo_22, mo_10]
        rcases hW1 with ⟨y1, y2, y3⟩ | ⟨y1, y2, y3⟩
        · cases hrd : road with
          | false =>
            rw [hrd] at y3
            simp only [y1, y3, bI, not_true_eq_false, not_false_eq_true, false_implies, true_implies, and_true, true_and, and_false, false_and, if_true, if_false, forall_const, or_true, true_or, false_or, or_false, i10, Bool.false_eq_true]
            exact ⟨by decide, good M1 mf1 hM1 hF1 (fun q => by rw [hrd] at q; cases q)⟩
          | true =>
            rw [hrd] at y3
            simp only [y1, y3, bI, not_true_eq_false, not_false_eq_true, false_implies, true_implies, and_true, true_and, and_false, false_and, if_true, if_false, forall_const, or_true, true_or, false_or, or_false, i10, Bool.false_eq_true]
            obtain ⟨z0, z1, z2, z3, z4, z5, z6⟩ := hF1
            refine m_pieces hM1 (mf1.til hT (sf.le (by decide))) hk hw1 hh1 hD hA1 hto z3 (fun M2 b1 b2 => ?_)
            have hM2 := hM1.fr b1 (by omega)
            have mf2 := mf1.trans (b1.m (by omega) (by omega))
            have hF2 : MFil M2 s (w * h) n p sn gc gt x gs tk := by
              refine ⟨z0, hA1.fr b1 (by omega), ?_, b2, ?_, z5.fr b1 (by omega), z6.fr b1 (by omega)⟩
              · obtain ⟨f2, r2⟩ := z2
                exact ⟨f2, (b1 _ (by omega)).trans r2⟩
              · obtain ⟨f2, r2, v2⟩ := z4
                exact ⟨f2, (b1 _ (by omega)).trans r2, v2⟩
            have hle := npc_le (T := T) (w := w) (h := h) (tl := tof p)
            have e2 : (1 < nI (npc T w h (tof p))) = (1 < npc T w h (tof p)) := propext (nI_ltI (a := 1) (by decide) (by omega))
            simp only [g_134_0, g_134_1, g_134_2, g_134_5, g_134_6, g_134_7, g_134_10, g_134_11, g_134_12, g_134_15, g_134_16, g_134_17, g_134_20, g_134_21, g_134_25, g_134_28, g_134_29, g_134_30, g_134_33, g_134_34, g_134_37, g_134_38, g_134_41, g_134_43, g_134_44, g_134_47, g_134_49, g_134_50, g_134_53, g_134_54, g_134_57, g_134_60, g_134_61, g_134_64, g_134_67, g_134_68, g_134_71, g_134_72, g_134_75, g_134_77, g_134_78, g_134_79, g_134_81, g_134_84, g_134_85, g_134_88, g_134_91, g_134_93, g_134_94, g_134_95, g_134_98, g_134_99, g_134_102, g_134_103, g_134_106, g_134_108, g_134_109, g_134_110, g_134_113, g_134_114, g_134_117, g_134_120, g_134_121, g_134_123, g_134_126, qOb_some, kr_v, kr_n, qinv_i, qinv_r, qinv_0, Nat.reduceAdd, List.getElem?_cons_zero, List.getElem?_cons_succ, List.set_cons_zero, List.set_cons_succ, List.length_cons, List.length_nil, e2, not_true_eq_false, not_false_eq_true, false_implies, true_implies, and_true, true_and, and_false, false_and, if_true, if_false, forall_const, or_true, true_or, false_or, or_false, i10, Bool.false_eq_true]
            by_cases u : 1 < npc T w h (tof p)
            · simp only [u, not_true_eq_false, not_false_eq_true, false_implies, true_implies, and_true, true_and, and_false, false_and, if_true, if_false, forall_const, or_true, true_or, false_or, or_false, i10, Bool.false_eq_true]
              exact wrong (Or.inr ⟨hf, fun q => by have := q hrd; omega⟩) M2 _ mf2 hM2 hF2
            · simp only [u, not_true_eq_false, not_false_eq_true, false_implies, true_implies, and_true, true_and, and_false, false_and, if_true, if_false, forall_const, or_true, true_or, false_or, or_false, i10, Bool.false_eq_true]
              exact ⟨by decide, good M2 mf2 hM2 hF2 (fun _ => by omega)⟩
        · simp only [y1, not_true_eq_false, not_false_eq_true, false_implies, true_implies, and_true, true_and, and_false, false_and, if_true, if_false, forall_const, or_true, true_or, false_or, or_false, i10, Bool.false_eq_true]
          exact ⟨by decide, good M1 mf1 hM1 hF1 (fun q => by rw [y3] at q; cases q)⟩
      | some c =>
        have hc := (few_some hf).1
        have hg : ¬ goneP T w h wo road p := by
          rintro (q | ⟨q, _⟩)
          · exact hwr q
          · rw [hf] at q; cases q
        have hnl : n < 36 := by
          have := nOne_lt hc (few_some hf).2
          have := hI.1
          omega
        obtain ⟨d1, d2, d3⟩ := dtl_ok (s := x) hk (hp c hc) (few_some hf).2
        rw [frun, if_neg (fun q => hg (cB_iff.mp q)), hf] at hQ
        simp only [g_134_0, g_134_1, g_134_2, g_134_5, g_134_6, g_134_7, g_134_10, g_134_11, g_134_12, g_134_15, g_134_16, g_134_17, g_134_20, g_134_21, g_134_25, g_134_28, g_134_29, g_134_30, g_134_33, g_134_34, g_134_37, g_134_38, g_134_41, g_134_43, g_134_44, g_134_47, g_134_49, g_134_50, g_134_53, g_134_54, g_134_57, g_134_60, g_134_61, g_134_64, g_134_67, g_134_68, g_134_71, g_134_72, g_134_75, g_134_77, g_134_78, g_134_79, g_134_80, g_134_81, g_134_84, g_134_85, g_134_88, g_134_91, g_134_93, g_134_94, g_134_95, g_134_98, g_134_99, g_134_102, g_134_103, g_134_106, g_134_108, g_134_109, g_134_110, g_134_113, g_134_114, g_134_117, g_134_120, g_134_121, g_134_123, g_134_126, qOb_some, kr_v, kr_n, qinv_i, qinv_r, qinv_0, Nat.reduceAdd, List.getElem?_cons_zero, List.getElem?_cons_succ, List.set_cons_zero, List.set_cons_succ, List.length_cons, List.length_nil, bI_f e1, not_true_eq_false, not_false_eq_true, false_implies, true_implies, and_true, true_and, and_false, false_and, if_true, if_false, forall_const, or_true, true_or, false_or, or_false, i10, Bool.false_eq_true, hM1.cls, m_fewest hM1 hw1 hh1 hD hA1 (hp.msk hk), hf, nbI, m1_ne (show c < 1000 by omega)]
        refine m_guess hM1 (mf1.til hT (sf.le (by decide))) hk hw1 hh1 hD hF1 hp hnl hf (fun M3 s3 c1 c2 c3 c4 => ?_)
        simp only [g_134_0, g_134_1, g_134_2, g_134_5, g_134_6, g_134_7, g_134_10, g_134_11, g_134_12, g_134_15, g_134_16, g_134_17, g_134_20, g_134_21, g_134_25, g_134_28, g_134_29, g_134_30, g_134_33, g_134_34, g_134_37, g_134_38, g_134_41, g_134_43, g_134_44, g_134_47, g_134_49, g_134_50, g_134_53, g_134_54, g_134_57, g_134_60, g_134_61, g_134_64, g_134_67, g_134_68, g_134_71, g_134_72, g_134_75, g_134_77, g_134_78, g_134_79, g_134_80, g_134_81, g_134_84, g_134_85, g_134_88, g_134_91, g_134_93, g_134_94, g_134_95, g_134_98, g_134_99, g_134_102, g_134_103, g_134_106, g_134_108, g_134_109, g_134_110, g_134_113, g_134_114, g_134_117, g_134_120, g_134_121, g_134_123, g_134_126, qOb_some, kr_v, kr_n, qinv_i, qinv_r, qinv_0, Nat.reduceAdd, List.getElem?_cons_zero, List.getElem?_cons_succ, List.set_cons_zero, List.set_cons_succ, List.length_cons, List.length_nil, not_true_eq_false, not_false_eq_true, false_implies, true_implies, and_true, true_and, and_false, false_and, if_true, if_false, forall_const, or_true, true_or, false_or, or_false, i10, Bool.false_eq_true]
        exact ih (n + 1) _ _ _ _ _ (gs + 1) tk _ _ M3 s3 (hI.guess hk hf d2 d3) (mf1.trans c1) (sf.trans c2) c3 c4 hQ
theorem m_fills {M : qM} {s : Nat → Int32} {T : TS} {w h lim N' n' : Nat} {wo : Nat → Option Nat} {road : Bool} {p : Nat → Nat} {x : Int32} {sn' : Nat → Nat → Nat} {gc' gt' : Nat → Nat} {Q : qR → qM → Prop} (hM : ModAt M s) (hT : MTil M s T) (hk : TOk T) (hw : s 20 = nI w) (hh : s 21 = nI h) (hD : Dim w h) (hW : MWish M s wo road) (hwo : ∀ t m, wo t = some m → m < 1000) (hlim : lim ≤ 200) (hA : ArrV M 112 36 (w * h) p) (hp : PN T (w * h) p) (hR : MRow M N' n' sn' gc' gt')
    (hQ : ∀ M' s', MFr M M' → SFr 26 s s' → ModAt M' s' → MEnd M' s' w h (fres T w h wo road lim p x) → Q (.inl (some (.int (nI (fres T w h wo road lim p x).1)))) M') : cl 134 [.ref 101, .int x, .int (nI lim)] M Q := by
  have hN := hD.le
  obtain ⟨M1, e1, f1, hM1⟩ := put_G 26 x hM (by decide) rfl ms_26
  obtain ⟨M2, e2, f2, hM2⟩ := put_G 27 0 hM1 (by decide) rfl ms_27
  obtain ⟨M3, e3, f3, hM3⟩ := put_G 28 0 hM2 (by decide) rfl ms_28
  obtain ⟨M4, e4, f4, hM4⟩ := put_G 29 0 hM3 (by decide) rfl ms_29
  have fA := ((f1.trans f2).trans f3).trans f4
  have mf : MFr M M4 := fA.m (by omega) (by omega)
  have sf : SFr 26 s (upd (upd (upd (upd s 26 x) 27 0) 28 0) 29 0) := (((SFr.upd (by decide)).trans (SFr.upd (by decide))).trans (SFr.upd (by decide))).trans (SFr.upd (by decide))
  have hn := narF_is (T := T) (hp.msk hk)
  rw [e_134]
  simp only [g_134_0, g_134_1, g_134_2, g_134_5, g_134_6, g_134_7, g_134_10, g_134_11, g_134_12, g_134_15, g_134_16, g_134_17, g_134_20, g_134_21, g_134_25, g_134_28, g_134_29, g_134_30, g_134_33, g_134_34, g_134_37, g_134_38, g_134_41, g_134_43, g_134_44, g_134_47, g_134_49, g_134_50, g_134_53, g_134_54, g_134_57, g_134_60, g_134_61, g_134_64, g_134_67, g_134_68, g_134_71, g_134_72, g_134_75, g_134_77, g_134_78, g_134_79, g_134_80, g_134_81, g_134_84, g_134_85, g_134_88, g_134_91, g_134_93, g_134_94, g_134_95, g_134_98, g_134_99, g_134_102, g_134_103, g_134_106, g_134_108, g_134_109, g_134_110, g_134_113, g_134_114, g_134_117, g_134_120, g_134_121, g_134_123, g_134_126, qOb_some, kr_v, kr_n, qinv_i, qinv_r, qinv_0, Nat.reduceAdd, List.getElem?_cons_zero, List.getElem?_cons_succ, List.set_cons_zero, List.set_cons_succ, List.length_cons, List.length_nil, not_true_eq_false, not_false_eq_true, false_implies, true_implies, and_true, true_and, and_false, false_and, if_true, if_false, forall_const, or_true, true_or, false_or, or_false, i10, Bool.false_eq_true, e1, e2, e3, e4, hM4.cls]
  refine m_narrows hM4 (mf.til hT (sf.le (by decide))) hk ((sf 20 (by decide)).trans hw) ((sf 21 (by decide)).trans hh) hD (hA.fr fA (by omega)) hp (fun M5 p5 g1 g2 g3 g4 => ?_)
  simp only [g_134_0, g_134_1, g_134_2, g_134_5, g_134_6, g_134_7, g_134_10, g_134_11, g_134_12, g_134_15, g_134_16, g_134_17, g_134_20, g_134_21, g_134_25, g_134_28, g_134_29, g_134_30, g_134_33, g_134_34, g_134_37, g_134_38, g_134_41, g_134_43, g_134_44, g_134_47, g_134_49, g_134_50, g_134_53, g_134_54, g_134_57, g_134_60, g_134_61, g_134_64, g_134_67, g_134_68, g_134_71, g_134_72, g_134_75, g_134_77, g_134_78, g_134_79, g_134_80, g_134_81, g_134_84, g_134_85, g_134_88, g_134_91, g_134_93, g_134_94, g_134_95, g_134_98, g_134_99, g_134_102, g_134_103, g_134_106, g_134_108, g_134_109, g_134_110, g_134_113, g_134_114, g_134_117, g_134_120, g_134_121, g_134_123, g_134_126, qOb_some, kr_v, kr_n, qinv_i, qinv_r, qinv_0, Nat.reduceAdd, List.getElem?_cons_zero, List.getElem?_cons_succ, List.set_cons_zero, List.set_cons_succ, List.length_cons, List.length_nil, not_true_eq_false, not_false_eq_true, false_implies, true_implies, and_true, true_and, and_false, false_and, if_true, if_false, forall_const, or_true, true_or, false_or, or_false, i10, Bool.false_eq_true]
  obtain ⟨f5, g5, g6⟩ := g2
  have hR5 := (hR.fr fA (by omega)).fr g1 (by omega)
  obtain ⟨q1, q2, ⟨fB, rB, -⟩, ⟨fC, rC, -⟩, ⟨fD, rD, -⟩⟩ := hR5
  refine m_loop hT hk hw hh hD hW hwo hlim (2 * lim + 38) 0 (narF T w h p) (fun _ _ => 0) (fun _ => 0) (fun _ => 0) x 0 0 _ _ M5 _ (FInv.start (narF_pn hk hp) hn.2) (mf.trans (g1.m (by omega) (by omega))) sf (hM4.fr g1 (by omega)) ⟨⟨?_, ?_, ?_, ?_⟩, ⟨f5, g5, fun k hk2 => by rw [g6 k hk2, g3.eq (hp.msk hk) k hk2]⟩, q1, q2, ⟨fB, rB, fun i k hi => absurd hi (Nat.not_lt_zero _)⟩, ⟨fC, rC, fun i hi => absurd hi (Nat.not_lt_zero _)⟩, ⟨fD, rD, fun i hi => absurd hi (Nat.not_lt_zero _)⟩⟩ hQ
  · rw [upd_n (by decide), upd_n (by decide), upd_n (by decide), upd_s]
  · rw [upd_n (by decide), upd_n (by decide), upd_s]; rfl
  · rw [upd_n (by decide), upd_s]; rfl
  · rw [upd_s]; rfl
