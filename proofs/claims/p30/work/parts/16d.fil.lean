/-! the class's filling: a guess, and a guess that is taken back -/
def NarS (M : qM) (o G N : Nat) (p : Nat → Nat) : Prop := ∃ st, NarAt M o G N p (fun _ => false) st 0
theorem NarS.fr {lo hi o G N : Nat} {p : Nat → Nat} {M M' : qM} (h : NarS M o G N p) (hf : Fr lo hi M M') (ho : o + 6 < lo ∨ hi ≤ o) : NarS M' o G N p := by
  obtain ⟨st, h⟩ := h
  exact ⟨st, h.fr hf ho⟩
theorem NarAt.c {M : qM} {o G N wt : Nat} {p p' st : Nat → Nat} {fl : Nat → Bool} (h : NarAt M o G N p fl st wt) (he : ∀ k, k < N → p k = p' k) : NarAt M o G N p' fl st wt := by
  obtain ⟨h1, ⟨f, h2, h3⟩, h4, h5⟩ := h
  exact ⟨h1, ⟨f, h2, fun k hk => by rw [h3 k hk, he k hk]⟩, h4, h5⟩
/-- the rows of a filling -/
def FRow (M : qM) (a N n : Nat) (sn : Nat → Nat → Nat) (gc gt : Nat → Nat) : Prop := (∃ f, RowAt M a 8 f) ∧ (∃ f, RowAt M (a + 2) 1296 f ∧ ∀ i k, i < n → k < N → f (i * 36 + k) = nI (sn i k)) ∧ RowV M (a + 4) 36 n gc ∧ RowV M (a + 6) 36 n gt
theorem FRow.fr {lo hi a N n : Nat} {sn : Nat → Nat → Nat} {gc gt : Nat → Nat} {M M' : qM} (h : FRow M a N n sn gc gt) (hf : Fr lo hi M M') (ho : a + 7 < lo ∨ hi ≤ a) : FRow M' a N n sn gc gt := by
  obtain ⟨⟨f, h1⟩, ⟨f', h2, h3⟩, h4, h5⟩ := h
  exact ⟨⟨f, h1.fr hf (by omega)⟩, ⟨f', h2.fr hf (by omega), h3⟩, h4.fr hf (by omega), h5.fr hf (by omega)⟩
theorem arcs_fu {T : TS} {w h c v : Nat} {p : Nat → Nat} (hs : Stab T w h p) (hv : Sb v (p c)) : Arcs T w h 0 4 (fu p c v) (fb (fun _ => false) c true) := by
  intro i hi hf d' k2 hd hn _
  have e : i ≠ c := by
    intro q
    rw [q, fb_s] at hf
    cases hf
  rw [fu_n (i := i) e]
  have h1 := hs i d' k2 hi hd hn
  by_cases q : k2 = c
  · subst q
    rw [fu_s]
    exact hv.trans h1
  · rw [fu_n q]
    exact h1
theorem pow_sb {a t : Nat} (h : a.testBit t = true) : Sb (2 ^ t) a := by
  intro u hu
  rw [Nat.testBit_two_pow, decide_eq_true_eq] at hu
  rw [← hu]
  exact h
/-- narrowing behind one change -/
theorem s_change1 {M : qM} {T : TS} {o G w h c v : Nat} {p : Nat → Nat} {Q Q2 : qR → qM → Prop} (hT : TilesAt M T) (hk : TOk T) (hG : GridAt M G w h) (hD : Dim w h) (ho : 7 < o) (hGo : G < o ∨ o + 7 ≤ G) (hA : NarS M o G (w * h) p) (hp : PN T (w * h) p) (hs : Stab T w h p) (hc : c < w * h) (hv : Sb v (p c))
    (hmid : ∀ M', Fr o (o + 7) M M' → (∃ st wt fl, NarAt M' o G (w * h) (fu p c v) fl st wt) → cl 23 [.ref o] M' Q2 → Q (.inl none) M')
    (hQ : ∀ M', Fr o (o + 7) M M' → NarS M' o G (w * h) (narF T w h (fu p c v)) → Q2 (.inl none) M') : cl 22 [.ref o, .int (nI c), .int (nI v)] M Q := by
  obtain ⟨st, hA⟩ := hA
  have hN := hD.le
  have hvn : v < 2 ^ T.n := sb_ltn (hp c hc) hv
  have hm2 : Msk (w * h) (fu p c v) := (PN_fu hp hvn).msk hk
  refine s_change hA StkOk_0 hN hc (fun M1 st1 wt1 a1 a2 a3 a4 => hmid M1 a1 ⟨st1, wt1, _, a2⟩ ?_)
  refine s_narrow (hT.fr a1 ho) hk (hG.fr a1 hGo) hD ho hGo a2 a3 hm2 (arcs_fu hs hv) (fun M2 p2 st2 b1 b2 b3 b4 => ?_)
  exact hQ M2 (a1.trans b1) ⟨st2, b2.c (fun k hk => b3.eq hm2 k hk)⟩
theorem nI_shl1' {t : Nat} (h : t < 8) : (1 : Int32) <<< (nI t &&& 31) = nI (2 ^ t) := nI_shl1 t h
theorem s_guess {M : qM} {T : TS} {o a G Wo w h n gs tk c : Nat} {s : Int32} {p : Nat → Nat} {sn : Nat → Nat → Nat} {gc gt : Nat → Nat} {Q : qR → qM → Prop} (hT : TilesAt M T) (hk : TOk T) (hG : GridAt M G w h) (hD : Dim w h) (hO : FObj M o a G Wo (nI n) s (nI gs) (nI tk)) (hA : NarS M (a + 8) G (w * h) p) (hR : FRow M a (w * h) n sn gc gt) (hp : PN T (w * h) p) (hs : Stab T w h p) (hn : n < 36) (hf : few p (w * h) = some c) (ho : 7 < o) (hoa : o < a) (hGo : G < o ∨ a + 24 ≤ G)
    (hQ : ∀ M', (∀ b, b ≠ o → (b < a ∨ a + 15 ≤ b) → M'[b]? = M[b]?) → FObj M' o a G Wo (nI (n + 1)) (nxt s) (nI (gs + 1)) (nI tk) → NarS M' (a + 8) G (w * h) (narF T w h (fu p c (2 ^ dtl T (p c) s))) → FRow M' a (w * h) (n + 1) (snu sn n p) (fu gc n c) (fu gt n (dtl T (p c) s)) → Q (.inl none) M') : cl 12 [.ref o, .int (nI c)] M Q := by
  have hN := hD.le
  obtain ⟨c1, c2⟩ := few_some hf
  obtain ⟨d1, d2, d3⟩ := dtl_ok (s := s) hk (hp c c1) c2
  have hpc := (hp.msk hk) c c1
  obtain ⟨st, hA0⟩ := hA
  obtain ⟨⟨fA, rA⟩, ⟨fB, rB, vB⟩, ⟨fC, rC, vC⟩, ⟨fD, rD, vD⟩⟩ := hR
  rw [e_12]
  simp only [g_12_0, g_12_1, g_12_3, g_12_4, g_12_7, g_12_10, g_12_13, g_12_14, g_12_17, g_12_18, g_12_21, g_12_23, g_12_24, g_12_25, g_12_26, g_12_27, g_12_30, g_12_33, g_12_34, g_12_37, g_12_40, g_12_43, g_12_46, g_12_47, g_12_48, g_12_51, g_12_53, g_12_54, g_12_57, g_12_58, g_12_60, g_12_61, g_12_64, g_12_65, g_12_68, g_12_69, g_12_72, g_12_75, g_12_76, g_12_79, g_12_80, g_12_83, g_12_85, g_12_86, g_12_89, g_12_90, g_12_91, g_12_94, g_12_95, g_12_98, g_12_99, g_12_102, g_12_103, g_12_106, g_12_107, g_12_110, g_12_111, g_12_114, g_12_115, g_12_116, g_12_119, g_12_120, g_12_121, g_12_124, g_12_125, g_12_126, g_12_129, g_12_130, g_12_131, g_12_134, g_12_135, g_12_138, g_12_139, g_12_140, g_12_141, g_12_142, g_12_145, g_12_146, g_12_149, g_12_152, qOb_some, kr_v, kr_n, qinv_i, qinv_r, qinv_0, Nat.reduceAdd, List.getElem?_cons_zero, List.getElem?_cons_succ, List.set_cons_zero, List.set_cons_succ, List.length_cons, List.length_nil]
  refine upto (N := w * h) (I := fun k M' => Fr (a + 2) (a + 4) M M' ∧ ∃ f, RowAt M' (a + 2) 1296 f ∧ (∀ i j, i < n → j < w * h → f (i * 36 + j) = nI (sn i j)) ∧ ∀ j, j < k → f (n * 36 + j) = nI (p j)) (G := fun k M' => g 12 2 [some (.ref o), some (.int (nI c)), some (.int (nI k))] [] M' 0 0 Q) ?_ ?_ 0 M (Nat.zero_le _) ⟨Fr.refl, fB, rB, vB, fun k hk => absurd hk (Nat.not_lt_zero _)⟩
  · rintro M1 ⟨a1, f, a2, a3, a4⟩
    have hG1 := hG.fr a1 (by omega)
    have hO1 := hO.fr a1 (by omega)
    have hT1 := hT.fr a1 (by omega)
    have hA1 := hA0.fr a1 (by omega)
    have hA1' := hA1
    obtain ⟨h1, ⟨fp, r1, v1⟩, -, -⟩ := hA1
    have hx : s * 1103515245 + 12345 &&& 2147483647 = nxt s := rfl
    have hO2 : FObj (M1.set o (.inr (1, FO a G Wo (nI n) (nxt s) (nI gs) (nI tk)))) o a G Wo (nI n) (nxt s) (nI gs) (nI tk) := hO1.s
    have f2 : Fr o (o + 1) M1 (M1.set o (.inr (1, FO a G Wo (nI n) (nxt s) (nI gs) (nI tk)))) := Fr.set (by omega) (by omega)
    rw [g_12_2]
    simp only [g_12_0, g_12_1, g_12_3, g_12_4, g_12_7, g_12_10, g_12_13, g_12_14, g_12_17, g_12_18, g_12_21, g_12_23, g_12_24, g_12_25, g_12_26, g_12_27, g_12_30, g_12_33, g_12_34, g_12_37, g_12_40, g_12_43, g_12_46, g_12_47, g_12_48, g_12_51, g_12_53, g_12_54, g_12_57, g_12_58, g_12_60, g_12_61, g_12_64, g_12_65, g_12_68, g_12_69, g_12_72, g_12_75, g_12_76, g_12_79, g_12_80, g_12_83, g_12_85, g_12_86, g_12_89, g_12_90, g_12_91, g_12_94, g_12_95, g_12_98, g_12_99, g_12_102, g_12_103, g_12_106, g_12_107, g_12_110, g_12_111, g_12_114, g_12_115, g_12_116, g_12_119, g_12_120, g_12_121, g_12_124, g_12_125, g_12_126, g_12_129, g_12_130, g_12_131, g_12_134, g_12_135, g_12_138, g_12_139, g_12_140, g_12_141, g_12_142, g_12_145, g_12_146, g_12_149, g_12_152, qOb_some, kr_v, kr_n, qinv_i, qinv_r, qinv_0, Nat.reduceAdd, List.getElem?_cons_zero, List.getElem?_cons_succ, List.set_cons_zero, List.set_cons_succ, List.length_cons, List.length_nil, not_true_eq_false, not_false_eq_true, false_implies, true_implies, and_true, true_and, and_false, false_and, if_true, if_false, forall_const, or_true, true_or, false_or, or_false, i10, Bool.false_eq_true, hO1.get, fo_1, fo_10, qcls_of hG1, s_cells hG1, Int32.le_refl, hO1.put (k := 10) (by decide) rfl, fp_10, hx]
    revert hO2 f2
    generalize M1.set o (.inr (1, FO a G Wo (nI n) (nxt s) (nI gs) (nI tk))) = M2
    intro hO2 f2
    have hT2 := hT1.fr f2 (by omega)
    have h12 := (f2 (a + 8) (by omega)).trans h1
    have r12 := r1.fr f2 (by omega)
    have rC2 := (rC.fr a1 (by omega)).fr f2 (by omega)
    simp only [g_12_0, g_12_1, g_12_3, g_12_4, g_12_7, g_12_10, g_12_13, g_12_14, g_12_17, g_12_18, g_12_21, g_12_23, g_12_24, g_12_25, g_12_26, g_12_27, g_12_30, g_12_33, g_12_34, g_12_37, g_12_40, g_12_43, g_12_46, g_12_47, g_12_48, g_12_51, g_12_53, g_12_54, g_12_57, g_12_58, g_12_60, g_12_61, g_12_64, g_12_65, g_12_68, g_12_69, g_12_72, g_12_75, g_12_76, g_12_79, g_12_80, g_12_83, g_12_85, g_12_86, g_12_89, g_12_90, g_12_91, g_12_94, g_12_95, g_12_98, g_12_99, g_12_102, g_12_103, g_12_106, g_12_107, g_12_110, g_12_111, g_12_114, g_12_115, g_12_116, g_12_119, g_12_120, g_12_121, g_12_124, g_12_125, g_12_126, g_12_129, g_12_130, g_12_131, g_12_134, g_12_135, g_12_138, g_12_139, g_12_140, g_12_141, g_12_142, g_12_145, g_12_146, g_12_149, g_12_152, qOb_some, kr_v, kr_n, qinv_i, qinv_r, qinv_0, Nat.reduceAdd, List.getElem?_cons_zero, List.getElem?_cons_succ, List.set_cons_zero, List.set_cons_succ, List.length_cons, List.length_nil, not_true_eq_false, not_false_eq_true, false_implies, true_implies, and_true, true_and, and_false, false_and, if_true, if_false, forall_const, or_true, true_or, false_or, or_false, i10, Bool.false_eq_true, hO2.get, fo_0, fo_3, fo_10, fo_7, fo_9, qget_of h12, qcls_of hT2.1, r12.cls, s_get r12 (show 36 < 2147483648 by decide), rget_nI (show c < 36 by omega) (show 36 < 2147483648 by decide), v1 c c1, drn_e, s_draw hT2 hk hpc d1 (drn_lt s), rC2.cls]
    have hdt : drw T (p c) (drn s % wsum T (p c) T.n) = dtl T (p c) s := rfl
    rw [hdt]
    refine s_setF rC2 (by decide) (show n < 36 by omega) (fun M3 b1 b2 => ?_)
    have hO3 := hO2.fr b1 (by omega)
    have rD3 := ((rD.fr a1 (by omega)).fr f2 (by omega)).fr b1 (by omega)
    simp only [g_12_0, g_12_1, g_12_3, g_12_4, g_12_7, g_12_10, g_12_13, g_12_14, g_12_17, g_12_18, g_12_21, g_12_23, g_12_24, g_12_25, g_12_26, g_12_27, g_12_30, g_12_33, g_12_34, g_12_37, g_12_40, g_12_43, g_12_46, g_12_47, g_12_48, g_12_51, g_12_53, g_12_54, g_12_57, g_12_58, g_12_60, g_12_61, g_12_64, g_12_65, g_12_68, g_12_69, g_12_72, g_12_75, g_12_76, g_12_79, g_12_80, g_12_83, g_12_85, g_12_86, g_12_89, g_12_90, g_12_91, g_12_94, g_12_95, g_12_98, g_12_99, g_12_102, g_12_103, g_12_106, g_12_107, g_12_110, g_12_111, g_12_114, g_12_115, g_12_116, g_12_119, g_12_120, g_12_121, g_12_124, g_12_125, g_12_126, g_12_129, g_12_130, g_12_131, g_12_134, g_12_135, g_12_138, g_12_139, g_12_140, g_12_141, g_12_142, g_12_145, g_12_146, g_12_149, g_12_152, qOb_some, kr_v, kr_n, qinv_i, qinv_r, qinv_0, Nat.reduceAdd, List.getElem?_cons_zero, List.getElem?_cons_succ, List.set_cons_zero, List.set_cons_succ, List.length_cons, List.length_nil, not_true_eq_false, not_false_eq_true, false_implies, true_implies, and_true, true_and, and_false, false_and, if_true, if_false, forall_const, or_true, true_or, false_or, or_false, i10, Bool.false_eq_true, hO3.get, fo_8, fo_9, rD3.cls]
    refine s_setF rD3 (by decide) (show n < 36 by omega) (fun M4 b3 b4 => ?_)
    have hO4 := hO3.fr b3 (by omega)
    have hO5 : FObj (M4.set o (.inr (1, FO a G Wo (nI (n + 1)) (nxt s) (nI gs) (nI tk)))) o a G Wo (nI (n + 1)) (nxt s) (nI gs) (nI tk) := hO4.s
    have f5 : Fr o (o + 1) M4 (M4.set o (.inr (1, FO a G Wo (nI (n + 1)) (nxt s) (nI gs) (nI tk)))) := Fr.set (by omega) (by omega)
    simp only [g_12_0, g_12_1, g_12_3, g_12_4, g_12_7, g_12_10, g_12_13, g_12_14, g_12_17, g_12_18, g_12_21, g_12_23, g_12_24, g_12_25, g_12_26, g_12_27, g_12_30, g_12_33, g_12_34, g_12_37, g_12_40, g_12_43, g_12_46, g_12_47, g_12_48, g_12_51, g_12_53, g_12_54, g_12_57, g_12_58, g_12_60, g_12_61, g_12_64, g_12_65, g_12_68, g_12_69, g_12_72, g_12_75, g_12_76, g_12_79, g_12_80, g_12_83, g_12_85, g_12_86, g_12_89, g_12_90, g_12_91, g_12_94, g_12_95, g_12_98, g_12_99, g_12_102, g_12_103, g_12_106, g_12_107, g_12_110, g_12_111, g_12_114, g_12_115, g_12_116, g_12_119, g_12_120, g_12_121, g_12_124, g_12_125, g_12_126, g_12_129, g_12_130, g_12_131, g_12_134, g_12_135, g_12_138, g_12_139, g_12_140, g_12_141, g_12_142, g_12_145, g_12_146, g_12_149, g_12_152, qOb_some, kr_v, kr_n, qinv_i, qinv_r, qinv_0, Nat.reduceAdd, List.getElem?_cons_zero, List.getElem?_cons_succ, List.set_cons_zero, List.set_cons_succ, List.length_cons, List.length_nil, not_true_eq_false, not_false_eq_true, false_implies, true_implies, and_true, true_and, and_false, false_and, if_true, if_false, forall_const, or_true, true_or, false_or, or_false, i10, Bool.false_eq_true, hO4.get, fo_9, nI_1, hO4.put (k := 9) (by decide) rfl, fp_9]
    revert hO5 f5
    generalize M4.set o (.inr (1, FO a G Wo (nI (n + 1)) (nxt s) (nI gs) (nI tk))) = M5
    intro hO5 f5
    have hO6 : FObj (M5.set o (.inr (1, FO a G Wo (nI (n + 1)) (nxt s) (nI (gs + 1)) (nI tk)))) o a G Wo (nI (n + 1)) (nxt s) (nI (gs + 1)) (nI tk) := hO5.s
    have f6 : Fr o (o + 1) M5 (M5.set o (.inr (1, FO a G Wo (nI (n + 1)) (nxt s) (nI (gs + 1)) (nI tk)))) := Fr.set (by omega) (by omega)
    simp only [g_12_0, g_12_1, g_12_3, g_12_4, g_12_7, g_12_10, g_12_13, g_12_14, g_12_17, g_12_18, g_12_21, g_12_23, g_12_24, g_12_25, g_12_26, g_12_27, g_12_30, g_12_33, g_12_34, g_12_37, g_12_40, g_12_43, g_12_46, g_12_47, g_12_48, g_12_51, g_12_53, g_12_54, g_12_57, g_12_58, g_12_60, g_12_61, g_12_64, g_12_65, g_12_68, g_12_69, g_12_72, g_12_75, g_12_76, g_12_79, g_12_80, g_12_83, g_12_85, g_12_86, g_12_89, g_12_90, g_12_91, g_12_94, g_12_95, g_12_98, g_12_99, g_12_102, g_12_103, g_12_106, g_12_107, g_12_110, g_12_111, g_12_114, g_12_115, g_12_116, g_12_119, g_12_120, g_12_121, g_12_124, g_12_125, g_12_126, g_12_129, g_12_130, g_12_131, g_12_134, g_12_135, g_12_138, g_12_139, g_12_140, g_12_141, g_12_142, g_12_145, g_12_146, g_12_149, g_12_152, qOb_some, kr_v, kr_n, qinv_i, qinv_r, qinv_0, Nat.reduceAdd, List.getElem?_cons_zero, List.getElem?_cons_succ, List.set_cons_zero, List.set_cons_succ, List.length_cons, List.length_nil, not_true_eq_false, not_false_eq_true, false_implies, true_implies, and_true, true_and, and_false, false_and, if_true, if_false, forall_const, or_true, true_or, false_or, or_false, i10, Bool.false_eq_true, hO5.get, fo_11, nI_1, hO5.put (k := 11) (by decide) rfl, fp_11]
    revert hO6 f6
    generalize M5.set o (.inr (1, FO a G Wo (nI (n + 1)) (nxt s) (nI (gs + 1)) (nI tk))) = M6
    intro hO6 f6
    have all : ∀ b, b ≠ o → (b < a ∨ a + 8 ≤ b) → M6[b]? = M[b]? := fun b q1 q2 => ((f6 b (by omega)).trans ((f5 b (by omega)).trans ((b3 b (by omega)).trans ((b1 b (by omega)).trans ((f2 b (by omega)).trans (a1 b (by omega)))))))
    have hT6 := ((((hT1.fr f2 (by omega)).fr b1 (by omega)).fr b3 (by omega)).fr f5 (by omega)).fr f6 (by omega)
    have hG6 := ((((hG1.fr f2 (by omega)).fr b1 (by omega)).fr b3 (by omega)).fr f5 (by omega)).fr f6 (by omega)
    have hA6 := ((((hA1'.fr f2 (by omega)).fr b1 (by omega)).fr b3 (by omega)).fr f5 (by omega)).fr f6 (by omega)
    have rA6 := (((((rA.fr a1 (by omega)).fr f2 (by omega)).fr b1 (by omega)).fr b3 (by omega)).fr f5 (by omega)).fr f6 (by omega)
    have rB6 := ((((a2.fr f2 (by omega)).fr b1 (by omega)).fr b3 (by omega)).fr f5 (by omega)).fr f6 (by omega)
    have rC6 := ((b2.fr b3 (by omega)).fr f5 (by omega)).fr f6 (by omega)
    have rD6 := (b4.fr f5 (by omega)).fr f6 (by omega)
    have hR6 : FRow M6 a (w * h) (n + 1) (snu sn n p) (fu gc n c) (fu gt n (dtl T (p c) s)) := by
      refine ⟨⟨fA, rA6⟩, ⟨f, rB6, fun i k hi hk2 => ?_⟩, ⟨_, rC6, fun i hi => ?_⟩, ⟨_, rD6, fun i hi => ?_⟩⟩
      · by_cases e : i = n
        · subst e
          simp only [snu, if_true]
          exact a4 k hk2
        · simp only [snu, e, if_false]
          exact a3 i k (by omega) hk2
      · by_cases e : i = n
        · rw [e, upd_s, fu_s]
        · rw [upd_n e, fu_n e]; exact vC i (by omega)
      · by_cases e : i = n
        · rw [e, upd_s, fu_s]
        · rw [upd_n e, fu_n e]; exact vD i (by omega)
    simp only [g_12_0, g_12_1, g_12_3, g_12_4, g_12_7, g_12_10, g_12_13, g_12_14, g_12_17, g_12_18, g_12_21, g_12_23, g_12_24, g_12_25, g_12_26, g_12_27, g_12_30, g_12_33, g_12_34, g_12_37, g_12_40, g_12_43, g_12_46, g_12_47, g_12_48, g_12_51, g_12_53, g_12_54, g_12_57, g_12_58, g_12_60, g_12_61, g_12_64, g_12_65, g_12_68, g_12_69, g_12_72, g_12_75, g_12_76, g_12_79, g_12_80, g_12_83, g_12_85, g_12_86, g_12_89, g_12_90, g_12_91, g_12_94, g_12_95, g_12_98, g_12_99, g_12_102, g_12_103, g_12_106, g_12_107, g_12_110, g_12_111, g_12_114, g_12_115, g_12_116, g_12_119, g_12_120, g_12_121, g_12_124, g_12_125, g_12_126, g_12_129, g_12_130, g_12_131, g_12_134, g_12_135, g_12_138, g_12_139, g_12_140, g_12_141, g_12_142, g_12_145, g_12_146, g_12_149, g_12_152, qOb_some, kr_v, kr_n, qinv_i, qinv_r, qinv_0, Nat.reduceAdd, List.getElem?_cons_zero, List.getElem?_cons_succ, List.set_cons_zero, List.set_cons_succ, List.length_cons, List.length_nil, not_true_eq_false, not_false_eq_true, false_implies, true_implies, and_true, true_and, and_false, false_and, if_true, if_false, forall_const, or_true, true_or, false_or, or_false, i10, Bool.false_eq_true, hO6.get, fo_3, qcls_of hA6.1, nI_shl1' (show dtl T (p c) s < 8 by have := hk.1; omega)]
    refine s_change1 hT6 hk hG6 hD (by omega) (by omega) ⟨st, hA6⟩ hp hs c1 (pow_sb d3) (fun M7 e1 e2 e3 => ?_) (fun M8 e1 e2 => ?_) (Q2 := kr 12 149 [some (.ref o), some (.int (nI c)), some (.int (nI (dtl T (p c) s)))] [] 0 0 Q)
    · obtain ⟨st7, wt7, fl7, e4⟩ := e2
      simp only [g_12_0, g_12_1, g_12_3, g_12_4, g_12_7, g_12_10, g_12_13, g_12_14, g_12_17, g_12_18, g_12_21, g_12_23, g_12_24, g_12_25, g_12_26, g_12_27, g_12_30, g_12_33, g_12_34, g_12_37, g_12_40, g_12_43, g_12_46, g_12_47, g_12_48, g_12_51, g_12_53, g_12_54, g_12_57, g_12_58, g_12_60, g_12_61, g_12_64, g_12_65, g_12_68, g_12_69, g_12_72, g_12_75, g_12_76, g_12_79, g_12_80, g_12_83, g_12_85, g_12_86, g_12_89, g_12_90, g_12_91, g_12_94, g_12_95, g_12_98, g_12_99, g_12_102, g_12_103, g_12_106, g_12_107, g_12_110, g_12_111, g_12_114, g_12_115, g_12_116, g_12_119, g_12_120, g_12_121, g_12_124, g_12_125, g_12_126, g_12_129, g_12_130, g_12_131, g_12_134, g_12_135, g_12_138, g_12_139, g_12_140, g_12_141, g_12_142, g_12_145, g_12_146, g_12_149, g_12_152, qOb_some, kr_v, kr_n, qinv_i, qinv_r, qinv_0, Nat.reduceAdd, List.getElem?_cons_zero, List.getElem?_cons_succ, List.set_cons_zero, List.set_cons_succ, List.length_cons, List.length_nil, not_true_eq_false, not_false_eq_true, false_implies, true_implies, and_true, true_and, and_false, false_and, if_true, if_false, forall_const, or_true, true_or, false_or, or_false, i10, Bool.false_eq_true, (hO6.fr e1 (by omega)).get, fo_3, qcls_of e4.1]
      exact e3
    · simp only [g_12_0, g_12_1, g_12_3, g_12_4, g_12_7, g_12_10, g_12_13, g_12_14, g_12_17, g_12_18, g_12_21, g_12_23, g_12_24, g_12_25, g_12_26, g_12_27, g_12_30, g_12_33, g_12_34, g_12_37, g_12_40, g_12_43, g_12_46, g_12_47, g_12_48, g_12_51, g_12_53, g_12_54, g_12_57, g_12_58, g_12_60, g_12_61, g_12_64, g_12_65, g_12_68, g_12_69, g_12_72, g_12_75, g_12_76, g_12_79, g_12_80, g_12_83, g_12_85, g_12_86, g_12_89, g_12_90, g_12_91, g_12_94, g_12_95, g_12_98, g_12_99, g_12_102, g_12_103, g_12_106, g_12_107, g_12_110, g_12_111, g_12_114, g_12_115, g_12_116, g_12_119, g_12_120, g_12_121, g_12_124, g_12_125, g_12_126, g_12_129, g_12_130, g_12_131, g_12_134, g_12_135, g_12_138, g_12_139, g_12_140, g_12_141, g_12_142, g_12_145, g_12_146, g_12_149, g_12_152, qOb_some, kr_v, kr_n, qinv_i, qinv_r, qinv_0, Nat.reduceAdd, List.getElem?_cons_zero, List.getElem?_cons_succ, List.set_cons_zero, List.set_cons_succ, List.length_cons, List.length_nil, not_true_eq_false, not_false_eq_true, false_implies, true_implies, and_true, true_and, and_false, false_and, if_true, if_false, forall_const, or_true, true_or, false_or, or_false, i10, Bool.false_eq_true]
      exact hQ M8 (fun b q1 q2 => (e1 b (by omega)).trans (all b q1 (by omega))) (hO6.fr e1 (by omega)) e2 (hR6.fr e1 (by omega))
  · rintro k M1 hk2 ⟨a1, f, a2, a3, a4⟩ ih
    have hG1 := hG.fr a1 (by omega)
    have hO1 := hO.fr a1 (by omega)
    obtain ⟨h1, ⟨fp, r1, v1⟩, -, -⟩ := hA0.fr a1 (by omega)
    rw [g_12_2]
    simp only [g_12_0, g_12_1, g_12_3, g_12_4, g_12_7, g_12_10, g_12_13, g_12_14, g_12_17, g_12_18, g_12_21, g_12_23, g_12_24, g_12_25, g_12_26, g_12_27, g_12_30, g_12_33, g_12_34, g_12_37, g_12_40, g_12_43, g_12_46, g_12_47, g_12_48, g_12_51, g_12_53, g_12_54, g_12_57, g_12_58, g_12_60, g_12_61, g_12_64, g_12_65, g_12_68, g_12_69, g_12_72, g_12_75, g_12_76, g_12_79, g_12_80, g_12_83, g_12_85, g_12_86, g_12_89, g_12_90, g_12_91, g_12_94, g_12_95, g_12_98, g_12_99, g_12_102, g_12_103, g_12_106, g_12_107, g_12_110, g_12_111, g_12_114, g_12_115, g_12_116, g_12_119, g_12_120, g_12_121, g_12_124, g_12_125, g_12_126, g_12_129, g_12_130, g_12_131, g_12_134, g_12_135, g_12_138, g_12_139, g_12_140, g_12_141, g_12_142, g_12_145, g_12_146, g_12_149, g_12_152, qOb_some, kr_v, kr_n, qinv_i, qinv_r, qinv_0, Nat.reduceAdd, List.getElem?_cons_zero, List.getElem?_cons_succ, List.set_cons_zero, List.set_cons_succ, List.length_cons, List.length_nil, not_true_eq_false, not_false_eq_true, false_implies, true_implies, and_true, true_and, and_false, false_and, if_true, if_false, forall_const, or_true, true_or, false_or, or_false, i10, Bool.false_eq_true, hO1.get, fo_1, fo_3, fo_6, fo_9, qcls_of hG1, s_cells hG1, nI_ge hk2 (show w * h < 2 ^ 31 by omega), qget_of h1, r1.cls, s_get r1 (show 36 < 2147483648 by decide), rget_nI (show k < 36 by omega) (show 36 < 2147483648 by decide), v1 k hk2, show (36 : Int32) = nI 36 from rfl, pk_mul, nI_add, a2.cls]
    refine s_setF a2 (by decide) (show n * 36 + k < 1296 by omega) (fun M2 b1 b2 => ?_)
    simp only [g_12_0, g_12_1, g_12_3, g_12_4, g_12_7, g_12_10, g_12_13, g_12_14, g_12_17, g_12_18, g_12_21, g_12_23, g_12_24, g_12_25, g_12_26, g_12_27, g_12_30, g_12_33, g_12_34, g_12_37, g_12_40, g_12_43, g_12_46, g_12_47, g_12_48, g_12_51, g_12_53, g_12_54, g_12_57, g_12_58, g_12_60, g_12_61, g_12_64, g_12_65, g_12_68, g_12_69, g_12_72, g_12_75, g_12_76, g_12_79, g_12_80, g_12_83, g_12_85, g_12_86, g_12_89, g_12_90, g_12_91, g_12_94, g_12_95, g_12_98, g_12_99, g_12_102, g_12_103, g_12_106, g_12_107, g_12_110, g_12_111, g_12_114, g_12_115, g_12_116, g_12_119, g_12_120, g_12_121, g_12_124, g_12_125, g_12_126, g_12_129, g_12_130, g_12_131, g_12_134, g_12_135, g_12_138, g_12_139, g_12_140, g_12_141, g_12_142, g_12_145, g_12_146, g_12_149, g_12_152, qOb_some, kr_v, kr_n, qinv_i, qinv_r, qinv_0, Nat.reduceAdd, List.getElem?_cons_zero, List.getElem?_cons_succ, List.set_cons_zero, List.set_cons_succ, List.length_cons, List.length_nil, not_true_eq_false, not_false_eq_true, false_implies, true_implies, and_true, true_and, and_false, false_and, if_true, if_false, forall_const, or_true, true_or, false_or, or_false, i10, Bool.false_eq_true, nI_1]
    refine ih M2 ⟨a1.trans (b1.mono (by omega) (by omega)), _, b2, fun i j hi hj => ?_, fun j hj => ?_⟩
    · rw [upd_n (by omega)]
      exact a3 i j hi hj
    · by_cases e : j = k
      · rw [e, upd_s]
      · rw [upd_n (by omega)]
        exact a4 j (by omega)
