/-! the model's filling: what it begins with, what is wrong, the cell with the fewest -/
/-- but for the model's object and what it has at hand -/
def MFr (M M' : qM) : Prop := ∀ b, b < 101 ∨ (102 ≤ b ∧ b < 112) ∨ 118 ≤ b → M'[b]? = M[b]?
theorem MFr.refl {M : qM} : MFr M M := fun _ _ => rfl
theorem MFr.trans {M M1 M2 : qM} (h : MFr M M1) (h' : MFr M1 M2) : MFr M M2 := fun b hb => (h' b hb).trans (h b hb)
theorem Fr.m {lo hi : Nat} {M M' : qM} (h : Fr lo hi M M') (h1 : 101 ≤ lo) (h2 : hi ≤ 102 ∨ (112 ≤ lo ∧ hi ≤ 118)) : MFr M M' := fun b q => h b (by omega)
def SFr (n : Nat) (s s' : Nat → Int32) : Prop := ∀ k, k < n → s' k = s k
theorem SFr.refl {n : Nat} {s : Nat → Int32} : SFr n s s := fun _ _ => rfl
theorem SFr.trans {n : Nat} {s s1 s2 : Nat → Int32} (h : SFr n s s1) (h' : SFr n s1 s2) : SFr n s s2 := fun k hk => (h' k hk).trans (h k hk)
theorem SFr.le {n m : Nat} {s s' : Nat → Int32} (h : SFr n s s') (hm : m ≤ n) : SFr m s s' := fun k hk => h k (by omega)
theorem SFr.upd {n k : Nat} {s : Nat → Int32} {x : Int32} (h : n ≤ k) : SFr n s (upd s k x) := fun j hj => upd_n (by omega)
theorem MFr.til {s s' : Nat → Int32} {T : TS} {M M' : qM} (h : MTil M s T) (hf : MFr M M') (hs : SFr 20 s s') : MTil M' s' T := by
  obtain ⟨h1, ⟨f, h2, h3⟩, ⟨f', h4, h5⟩⟩ := h
  exact ⟨(hs 1 (by decide)).trans h1, ⟨f, (hf 102 (by omega)).trans h2, h3⟩, ⟨f', (hf 103 (by omega)).trans h4, h5⟩⟩
/-- the wishes that the filling at hand heeds -/
def MWish (M : qM) (s : Nat → Int32) (wo : Nat → Option Nat) (road : Bool) : Prop := (s 22 = 1 ∧ (∃ f, M[106]? = some (.inl (0, 8, .inl f)) ∧ ∀ t, t < 8 → f t = nbI (wo t)) ∧ s 10 = bI (road = true)) ∨ (s 22 = 0 ∧ (∀ t, wo t = none) ∧ road = false)
theorem MWish.fr {M M' : qM} {s s' : Nat → Int32} {wo : Nat → Option Nat} {road : Bool} (h : MWish M s wo road) (hf : MFr M M') (hs : SFr 26 s s') : MWish M' s' wo road := by
  rcases h with ⟨h1, ⟨f, h2, h3⟩, h4⟩ | ⟨h1, h2⟩
  · exact Or.inl ⟨(hs 22 (by decide)).trans h1, ⟨f, (hf 106 (by omega)).trans h2, h3⟩, (hs 10 (by decide)).trans h4⟩
  · exact Or.inr ⟨(hs 22 (by decide)).trans h1, h2⟩
theorem onlyI_1 {k : Nat} (h : cnt k ≠ 1) : onlyI k = -1 := if_neg h
theorem pow_inj8 {t u : Nat} (h : (2 : Nat) ^ t = 2 ^ u) : t = u := (Nat.pow_right_inj (a := 2) (by decide)).mp h
theorem m_wrong {M : qM} {s : Nat → Int32} {T : TS} {w h : Nat} {wo : Nat → Option Nat} {road : Bool} {p : Nat → Nat} {Q : qR → qM → Prop} (hM : ModAt M s) (hT : MTil M s T) (hk : TOk T) (hw : s 20 = nI w) (hh : s 21 = nI h) (hD : Dim w h) (hA : ArrV M 112 36 (w * h) p) (hp : Msk (w * h) p) (hW : MWish M s wo road) (hwo : ∀ t m, wo t = some m → m < 1000) (hR : ∃ f, M[113]? = some (.inl (0, 8, .inl f)))
    (hQ : ∀ M', Fr 113 114 M M' → (∃ f, M'[113]? = some (.inl (0, 8, .inl f))) → Q (.inl (some (.int (bI (cB (wrongP T (w * h) wo p) = true))))) M') : cl 127 [.ref 101] M Q := by
  have hN := hD.le
  have h8 := hk.1
  obtain ⟨fp, rp, vp⟩ := hA
  obtain ⟨f0, r0⟩ := hR
  rw [e_127]
  simp only [g_127_0, g_127_1, g_127_2, g_127_3, g_127_5, g_127_7, g_127_10, g_127_11, g_127_14, g_127_15, g_127_16, g_127_17, g_127_20, g_127_23, g_127_24, g_127_26, g_127_27, g_127_30, g_127_33, g_127_34, g_127_37, g_127_38, g_127_39, g_127_42, g_127_43, g_127_44, g_127_47, g_127_48, g_127_51, g_127_52, g_127_53, g_127_56, g_127_57, g_127_60, g_127_61, g_127_62, g_127_63, g_127_64, g_127_67, g_127_68, g_127_71, g_127_72, g_127_73, g_127_74, g_127_75, g_127_76, g_127_77, g_127_80, g_127_83, g_127_84, g_127_86, g_127_87, g_127_90, g_127_93, g_127_94, g_127_97, g_127_100, g_127_101, g_127_104, g_127_105, g_127_108, g_127_109, g_127_110, g_127_111, g_127_114, g_127_115, g_127_118, g_127_119, g_127_120, g_127_121, g_127_124, g_127_125, g_127_126, g_127_129, g_127_130, g_127_133, g_127_134, g_127_135, g_127_138, g_127_141, g_127_142, qOb_some, kr_v, kr_n, qinv_i, qinv_r, qinv_0, Nat.reduceAdd, List.getElem?_cons_zero, List.getElem?_cons_succ, List.set_cons_zero, List.set_cons_succ, List.length_cons, List.length_nil]
  refine upto (N := 8) (I := fun t (M' : qM) => Fr 113 114 M M' ∧ ∃ f, M'[113]? = some (.inl (0, 8, .inl f)) ∧ ∀ u, u < t → f u = nI 0) (G := fun t M' => g 127 4 [some (.ref 101), some (.int 0), some (.int (nI t)), none] [] M' 0 0 Q) ?_ ?_ 0 M (Nat.zero_le _) ⟨Fr.refl, f0, r0, fun u hu => absurd hu (Nat.not_lt_zero _)⟩
  · rintro M1 ⟨a1, f1, a2, a3⟩
    rw [g_127_4]
    simp only [g_127_0, g_127_1, g_127_2, g_127_3, g_127_5, g_127_7, g_127_10, g_127_11, g_127_14, g_127_15, g_127_16, g_127_17, g_127_20, g_127_23, g_127_24, g_127_26, g_127_27, g_127_30, g_127_33, g_127_34, g_127_37, g_127_38, g_127_39, g_127_42, g_127_43, g_127_44, g_127_47, g_127_48, g_127_51, g_127_52, g_127_53, g_127_56, g_127_57, g_127_60, g_127_61, g_127_62, g_127_63, g_127_64, g_127_67, g_127_68, g_127_71, g_127_72, g_127_73, g_127_74, g_127_75, g_127_76, g_127_77, g_127_80, g_127_83, g_127_84, g_127_86, g_127_87, g_127_90, g_127_93, g_127_94, g_127_97, g_127_100, g_127_101, g_127_104, g_127_105, g_127_108, g_127_109, g_127_110, g_127_111, g_127_114, g_127_115, g_127_118, g_127_119, g_127_120, g_127_121, g_127_124, g_127_125, g_127_126, g_127_129, g_127_130, g_127_133, g_127_134, g_127_135, g_127_138, g_127_141, g_127_142, qOb_some, kr_v, kr_n, qinv_i, qinv_r, qinv_0, Nat.reduceAdd, List.getElem?_cons_zero, List.getElem?_cons_succ, List.set_cons_zero, List.set_cons_succ, List.length_cons, List.length_nil, not_true_eq_false, not_false_eq_true, false_implies, true_implies, and_true, true_and, and_false, false_and, if_true, if_false, forall_const, or_true, true_or, false_or, or_false, i10, Bool.false_eq_true, show (8 : Int32) = nI 8 from rfl, Int32.le_refl]
    refine upto (N := w * h) (I := fun c (z : qM × Bool × Option Value) => Fr 113 114 M z.1 ∧ (∃ f, z.1[113]? = some (.inl (0, 8, .inl f)) ∧ ∀ u, u < 8 → f u = nI (al p u c)) ∧ (z.2.1 = true ↔ ∃ k, k < c ∧ p k = 0)) (G := fun c (z : qM × Bool × Option Value) => g 127 25 [some (.ref 101), some (.int (bI (z.2.1 = true))), some (.int (nI c)), z.2.2] [] z.1 0 0 Q) ?_ ?_ 0 (M1, false, none) (Nat.zero_le _) ⟨a1, ⟨f1, a2, fun u hu => a3 u hu⟩, ⟨fun q => (by cases q), fun ⟨k, q, _⟩ => absurd q (Nat.not_lt_zero _)⟩⟩
    · rintro ⟨M2, b, l3⟩ ⟨b1, ⟨f2, b2, b3⟩, b4⟩
      have hM2 := hM.fr b1 (by omega)
      have fin : ∀ b' : Bool, (b' = true ↔ wrongP T (w * h) wo p) → ∀ l2 l3, g 127 141 [some (.ref 101), some (.int (bI (b' = true))), l2, l3] [] M2 0 0 Q := by
        intro b' hb' l2 l3
        have hq := hQ M2 b1 ⟨f2, b2⟩
        rw [bI_c (cB_iff.trans hb'.symm)] at hq
        simp only [g_127_0, g_127_1, g_127_2, g_127_3, g_127_5, g_127_7, g_127_10, g_127_11, g_127_14, g_127_15, g_127_16, g_127_17, g_127_20, g_127_23, g_127_24, g_127_26, g_127_27, g_127_30, g_127_33, g_127_34, g_127_37, g_127_38, g_127_39, g_127_42, g_127_43, g_127_44, g_127_47, g_127_48, g_127_51, g_127_52, g_127_53, g_127_56, g_127_57, g_127_60, g_127_61, g_127_62, g_127_63, g_127_64, g_127_67, g_127_68, g_127_71, g_127_72, g_127_73, g_127_74, g_127_75, g_127_76, g_127_77, g_127_80, g_127_83, g_127_84, g_127_86, g_127_87, g_127_90, g_127_93, g_127_94, g_127_97, g_127_100, g_127_101, g_127_104, g_127_105, g_127_108, g_127_109, g_127_110, g_127_111, g_127_114, g_127_115, g_127_118, g_127_119, g_127_120, g_127_121, g_127_124, g_127_125, g_127_126, g_127_129, g_127_130, g_127_133, g_127_134, g_127_135, g_127_138, g_127_141, g_127_142, qOb_some, kr_v, kr_n, qinv_i, qinv_r, qinv_0, Nat.reduceAdd, List.getElem?_cons_zero, List.getElem?_cons_succ, List.set_cons_zero, List.set_cons_succ, List.length_cons, List.length_nil, not_true_eq_false, not_false_eq_true, false_implies, true_implies, and_true, true_and, and_false, false_and, if_true, if_false, forall_const, or_true, true_or, false_or, or_false, i10, Bool.false_eq_true, bI_01]
        exact hq
      rw [g_127_25]
      simp only [g_127_0, g_127_1, g_127_2, g_127_3, g_127_5, g_127_7, g_127_10, g_127_11, g_127_14, g_127_15, g_127_16, g_127_17, g_127_20, g_127_23, g_127_24, g_127_26, g_127_27, g_127_30, g_127_33, g_127_34, g_127_37, g_127_38, g_127_39, g_127_42, g_127_43, g_127_44, g_127_47, g_127_48, g_127_51, g_127_52, g_127_53, g_127_56, g_127_57, g_127_60, g_127_61, g_127_62, g_127_63, g_127_64, g_127_67, g_127_68, g_127_71, g_127_72, g_127_73, g_127_74, g_127_75, g_127_76, g_127_77, g_127_80, g_127_83, g_127_84, g_127_86, g_127_87, g_127_90, g_127_93, g_127_94, g_127_97, g_127_100, g_127_101, g_127_104, g_127_105, g_127_108, g_127_109, g_127_110, g_127_111, g_127_114, g_127_115, g_127_118, g_127_119, g_127_120, g_127_121, g_127_124, g_127_125, g_127_126, g_127_129, g_127_130, g_127_133, g_127_134, g_127_135, g_127_138, g_127_142, qOb_some, kr_v, kr_n, qinv_i, qinv_r, qinv_0, Nat.reduceAdd, List.getElem?_cons_zero, List.getElem?_cons_succ, List.set_cons_zero, List.set_cons_succ, List.length_cons, List.length_nil, not_true_eq_false, not_false_eq_true, false_implies, true_implies, and_true, true_and, and_false, false_and, if_true, if_false, forall_const, or_true, true_or, false_or, or_false, i10, Bool.false_eq_true, hM2.cls, m_cells hM2 hw hh, Int32.le_refl]
      rcases hW with ⟨w1, ⟨fw, w2, w3⟩, -⟩ | ⟨w1, w2, -⟩
      · have rw2 := (b1 106 (by omega)).trans w2
        refine upto (N := T.n) (I := fun t (b : Bool) => (b = true ↔ (∃ k, k < w * h ∧ p k = 0) ∨ (∃ u m, u < t ∧ wo u = some m ∧ m < al p u (w * h)))) (G := fun t (b : Bool) => g 127 85 [some (.ref 101), some (.int (bI (b = true))), some (.int (nI t)), l3] [] M2 0 0 Q) ?_ ?_ 0 b (Nat.zero_le _) (b4.trans ⟨Or.inl, fun q => q.elim id (fun ⟨u, m, q, _⟩ => absurd q (Nat.not_lt_zero _))⟩)
        · intro b hb
          rw [g_127_85]
          simp only [g_127_0, g_127_1, g_127_2, g_127_3, g_127_5, g_127_7, g_127_10, g_127_11, g_127_14, g_127_15, g_127_16, g_127_17, g_127_20, g_127_23, g_127_24, g_127_26, g_127_27, g_127_30, g_127_33, g_127_34, g_127_37, g_127_38, g_127_39, g_127_42, g_127_43, g_127_44, g_127_47, g_127_48, g_127_51, g_127_52, g_127_53, g_127_56, g_127_57, g_127_60, g_127_61, g_127_62, g_127_63, g_127_64, g_127_67, g_127_68, g_127_71, g_127_72, g_127_73, g_127_74, g_127_75, g_127_76, g_127_77, g_127_80, g_127_83, g_127_84, g_127_86, g_127_87, g_127_90, g_127_93, g_127_94, g_127_97, g_127_100, g_127_101, g_127_104, g_127_105, g_127_108, g_127_109, g_127_110, g_127_111, g_127_114, g_127_115, g_127_118, g_127_119, g_127_120, g_127_121, g_127_124, g_127_125, g_127_126, g_127_129, g_127_130, g_127_133, g_127_134, g_127_135, g_127_138, g_127_142, qOb_some, kr_v, kr_n, qinv_i, qinv_r, qinv_0, Nat.reduceAdd, List.getElem?_cons_zero, List.getElem?_cons_succ, List.set_cons_zero, List.set_cons_succ, List.length_cons, List.length_nil, not_true_eq_false, not_false_eq_true, false_implies, true_implies, and_true, true_and, and_false, false_and, if_true, if_false, forall_const, or_true, true_or, false_or, or_false, i10, Bool.false_eq_true, mget hM2, mo_1, hT.1, Int32.le_refl]
          exact fin b hb _ _
        · intro t b ht hb ih
          have hle := al_le (p := p) (t := t) (n := w * h)
          have nx : ∀ b' : Bool, (b' = true ↔ (b = true ∨ ∃ m, wo t = some m ∧ m < al p t (w * h))) → g 127 85 [some (.ref 101), some (.int (bI (b' = true))), some (.int (nI (t + 1))), l3] [] M2 0 0 Q := by
            intro b' hb'
            refine ih b' ?_
            rw [hb', hb]
            constructor
            · rintro ((q | ⟨u, m, q1, q2⟩) | ⟨m, q⟩)
              · exact Or.inl q
              · exact Or.inr ⟨u, m, by omega, q2⟩
              · exact Or.inr ⟨t, m, by omega, q⟩
            · rintro (q | ⟨u, m, q1, q2⟩)
              · exact Or.inl (Or.inl q)
              · by_cases e : u = t
                · subst e; exact Or.inr ⟨m, q2⟩
                · exact Or.inl (Or.inr ⟨u, m, by omega, q2⟩)
          rw [g_127_85]
          simp only [g_127_0, g_127_1, g_127_2, g_127_3, g_127_5, g_127_7, g_127_10, g_127_11, g_127_14, g_127_15, g_127_16, g_127_17, g_127_20, g_127_23, g_127_24, g_127_26, g_127_27, g_127_30, g_127_33, g_127_34, g_127_37, g_127_38, g_127_39, g_127_42, g_127_43, g_127_44, g_127_47, g_127_48, g_127_51, g_127_52, g_127_53, g_127_56, g_127_57, g_127_60, g_127_61, g_127_62, g_127_63, g_127_64, g_127_67, g_127_68, g_127_71, g_127_72, g_127_73, g_127_74, g_127_75, g_127_76, g_127_77, g_127_80, g_127_83, g_127_84, g_127_86, g_127_87, g_127_90, g_127_93, g_127_94, g_127_97, g_127_100, g_127_101, g_127_104, g_127_105, g_127_108, g_127_109, g_127_110, g_127_111, g_127_114, g_127_115, g_127_118, g_127_119, g_127_120, g_127_121, g_127_124, g_127_125, g_127_126, g_127_129, g_127_130, g_127_133, g_127_134, g_127_135, g_127_138, g_127_142, qOb_some, kr_v, kr_n, qinv_i, qinv_r, qinv_0, Nat.reduceAdd, List.getElem?_cons_zero, List.getElem?_cons_succ, List.set_cons_zero, List.set_cons_succ, List.length_cons, List.length_nil, not_true_eq_false, not_false_eq_true, false_implies, true_implies, and_true, true_and, and_false, false_and, if_true, if_false, forall_const, or_true, true_or, false_or, or_false, i10, Bool.false_eq_true, mget hM2, mo_1, mo_22, mo_9, mo_24, hT.1, w1, nI_ge ht (show T.n < 2 ^ 31 by omega), bI_0, ald_N rw2 (show t < 8 by omega) (show 8 < 2147483648 by decide), ald_N b2 (show t < 8 by omega) (show 8 < 2147483648 by decide), w3 t (show t < 8 by omega), b3 t (show t < 8 by omega), nI_1]
          cases b with
          | true =>
            simp only [not_true_eq_false, not_false_eq_true, false_implies, true_implies, and_true, true_and, and_false, false_and, if_true, if_false, forall_const, or_true, true_or, false_or, or_false, i10, Bool.false_eq_true]
            exact nx true ⟨fun _ => Or.inl rfl, fun _ => rfl⟩
          | false =>
            cases hwt : wo t with
            | none =>
              simp only [nbI, not_true_eq_false, not_false_eq_true, false_implies, true_implies, and_true, true_and, and_false, false_and, if_true, if_false, forall_const, or_true, true_or, false_or, or_false, i10, Bool.false_eq_true]
              exact nx false ⟨fun q => (by cases q), fun q => by
                rcases q with q | ⟨m, q, _⟩
                · exact q
                · rw [hwt] at q; cases q⟩
            | some m =>
              have hm := hwo t m hwt
              have e2 : (nI (al p t (w * h)) ≤ nI m) = (al p t (w * h) ≤ m) := propext (nI_leI (by omega) (by omega))
              simp only [nbI, m1_ne (show m < 1000 by omega), e2, not_true_eq_false, not_false_eq_true, false_implies, true_implies, and_true, true_and, and_false, false_and, if_true, if_false, forall_const, or_true, true_or, false_or, or_false, i10, Bool.false_eq_true]
              by_cases u2 : al p t (w * h) ≤ m
              · simp only [u2, not_true_eq_false, not_false_eq_true, false_implies, true_implies, and_true, true_and, and_false, false_and, if_true, if_false, forall_const, or_true, true_or, false_or, or_false, i10, Bool.false_eq_true]
                exact nx false ⟨fun q => (by cases q), fun q => by
                  rcases q with q | ⟨m', q, q2⟩
                  · exact q
                  · rw [hwt] at q; cases q; omega⟩
              · simp only [u2, not_true_eq_false, not_false_eq_true, false_implies, true_implies, and_true, true_and, and_false, false_and, if_true, if_false, forall_const, or_true, true_or, false_or, or_false, i10, Bool.false_eq_true]
                exact nx true ⟨fun _ => Or.inr ⟨m, hwt, by omega⟩, fun _ => rfl⟩
      · rw [show (0 : Int32) = nI 0 from rfl, g_127_85]
        have fin := fin b (b4.trans ⟨Or.inl, fun q => q.elim id (fun ⟨u, m, _, q, _⟩ => by rw [w2 u] at q; cases q)⟩)
        by_cases hn : T.n = 0
        · simp only [g_127_0, g_127_1, g_127_2, g_127_3, g_127_5, g_127_7, g_127_10, g_127_11, g_127_14, g_127_15, g_127_16, g_127_17, g_127_20, g_127_23, g_127_24, g_127_26, g_127_27, g_127_30, g_127_33, g_127_34, g_127_37, g_127_38, g_127_39, g_127_42, g_127_43, g_127_44, g_127_47, g_127_48, g_127_51, g_127_52, g_127_53, g_127_56, g_127_57, g_127_60, g_127_61, g_127_62, g_127_63, g_127_64, g_127_67, g_127_68, g_127_71, g_127_72, g_127_73, g_127_74, g_127_75, g_127_76, g_127_77, g_127_80, g_127_83, g_127_84, g_127_86, g_127_87, g_127_90, g_127_93, g_127_94, g_127_97, g_127_100, g_127_101, g_127_104, g_127_105, g_127_108, g_127_109, g_127_110, g_127_111, g_127_114, g_127_115, g_127_118, g_127_119, g_127_120, g_127_121, g_127_124, g_127_125, g_127_126, g_127_129, g_127_130, g_127_133, g_127_134, g_127_135, g_127_138, g_127_142, qOb_some, kr_v, kr_n, qinv_i, qinv_r, qinv_0, Nat.reduceAdd, List.getElem?_cons_zero, List.getElem?_cons_succ, List.set_cons_zero, List.set_cons_succ, List.length_cons, List.length_nil, not_true_eq_false, not_false_eq_true, false_implies, true_implies, and_true, true_and, and_false, false_and, if_true, if_false, forall_const, or_true, true_or, false_or, or_false, i10, Bool.false_eq_true, mget hM2, mo_1, hT.1, hn, Int32.le_refl]
          exact fin _ _
        · simp only [g_127_0, g_127_1, g_127_2, g_127_3, g_127_5, g_127_7, g_127_10, g_127_11, g_127_14, g_127_15, g_127_16, g_127_17, g_127_20, g_127_23, g_127_24, g_127_26, g_127_27, g_127_30, g_127_33, g_127_34, g_127_37, g_127_38, g_127_39, g_127_42, g_127_43, g_127_44, g_127_47, g_127_48, g_127_51, g_127_52, g_127_53, g_127_56, g_127_57, g_127_60, g_127_61, g_127_62, g_127_63, g_127_64, g_127_67, g_127_68, g_127_71, g_127_72, g_127_73, g_127_74, g_127_75, g_127_76, g_127_77, g_127_80, g_127_83, g_127_84, g_127_86, g_127_87, g_127_90, g_127_93, g_127_94, g_127_97, g_127_100, g_127_101, g_127_104, g_127_105, g_127_108, g_127_109, g_127_110, g_127_111, g_127_114, g_127_115, g_127_118, g_127_119, g_127_120, g_127_121, g_127_124, g_127_125, g_127_126, g_127_129, g_127_130, g_127_133, g_127_134, g_127_135, g_127_138, g_127_142, qOb_some, kr_v, kr_n, qinv_i, qinv_r, qinv_0, Nat.reduceAdd, List.getElem?_cons_zero, List.getElem?_cons_succ, List.set_cons_zero, List.set_cons_succ, List.length_cons, List.length_nil, not_true_eq_false, not_false_eq_true, false_implies, true_implies, and_true, true_and, and_false, false_and, if_true, if_false, forall_const, or_true, true_or, false_or, or_false, i10, Bool.false_eq_true, mget hM2, mo_1, mo_22, hT.1, w1, nI_ge (show 0 < T.n by omega) (show T.n < 2 ^ 31 by omega)]
          exact fin _ _
    · rintro c ⟨M2, b, l3⟩ hc ⟨b1, ⟨f2, b2, b3⟩, b4⟩ ih
      have hM2 := hM.fr b1 (by omega)
      have rp2 := (b1 112 (by omega)).trans rp
      have hpc := hp c hc
      have hb4 : ∀ b' : Bool, (b' = true ↔ (b = true ∨ p c = 0)) → (b' = true ↔ ∃ k, k < c + 1 ∧ p k = 0) := by
        intro b' hb'
        rw [hb', b4]
        constructor
        · rintro (⟨k, q1, q2⟩ | q)
          · exact ⟨k, by omega, q2⟩
          · exact ⟨c, by omega, q⟩
        · rintro ⟨k, q1, q2⟩
          by_cases e : k = c
          · subst e; exact Or.inr q2
          · exact Or.inl ⟨k, by omega, q2⟩
      -- the rest of the turn, with what is wrong so far
      have nx : ∀ b' : Bool, (b' = true ↔ (b = true ∨ p c = 0)) → g 127 62 [some (.ref 101), some (.int (bI (b' = true))), some (.int (nI c)), some (.int (onlyI (p c)))] [] M2 0 0 Q := by
        intro b' hb'
        by_cases u1 : cnt (p c) = 1
        · obtain ⟨t, ht, ht2⟩ := (cnt_1 (p c) hpc).mp u1
          have e1 : onlyI (p c) = nI t := by rw [ht2]; exact onlyI_pow t ht
          simp only [g_127_0, g_127_1, g_127_2, g_127_3, g_127_5, g_127_7, g_127_10, g_127_11, g_127_14, g_127_15, g_127_16, g_127_17, g_127_20, g_127_23, g_127_24, g_127_26, g_127_27, g_127_30, g_127_33, g_127_34, g_127_37, g_127_38, g_127_39, g_127_42, g_127_43, g_127_44, g_127_47, g_127_48, g_127_51, g_127_52, g_127_53, g_127_56, g_127_57, g_127_60, g_127_61, g_127_62, g_127_63, g_127_64, g_127_67, g_127_68, g_127_71, g_127_72, g_127_73, g_127_74, g_127_75, g_127_76, g_127_77, g_127_80, g_127_83, g_127_84, g_127_86, g_127_87, g_127_90, g_127_93, g_127_94, g_127_97, g_127_100, g_127_101, g_127_104, g_127_105, g_127_108, g_127_109, g_127_110, g_127_111, g_127_114, g_127_115, g_127_118, g_127_119, g_127_120, g_127_121, g_127_124, g_127_125, g_127_126, g_127_129, g_127_130, g_127_133, g_127_134, g_127_135, g_127_138, g_127_141, g_127_142, qOb_some, kr_v, kr_n, qinv_i, qinv_r, qinv_0, Nat.reduceAdd, List.getElem?_cons_zero, List.getElem?_cons_succ, List.set_cons_zero, List.set_cons_succ, List.length_cons, List.length_nil, not_true_eq_false, not_false_eq_true, false_implies, true_implies, and_true, true_and, and_false, false_and, if_true, if_false, forall_const, or_true, true_or, false_or, or_false, i10, Bool.false_eq_true, e1, m1_ne (show t < 1000 by omega), mget hM2, mo_24, ald_N b2 ht (show 8 < 2147483648 by decide), b3 t ht, nI_1, ast_N b2 ht (show 8 < 2147483648 by decide)]
          refine ih (M2.set 113 (.inl (0, 8, .inl (upd f2 t (nI (al p t c + 1))))), b', _) ⟨b1.trans (Fr.set (by omega) (by omega)), ⟨_, get_set_eq b2, fun u hu => ?_⟩, hb4 b' hb'⟩
          by_cases e : u = t
          · rw [e, upd_s, al_s, if_pos ht2]
          · rw [upd_n e, b3 u hu, al_s, if_neg (fun q => e (by rw [ht2] at q; exact (pow_inj8 q).symm))]
            rfl
        · simp only [g_127_0, g_127_1, g_127_2, g_127_3, g_127_5, g_127_7, g_127_10, g_127_11, g_127_14, g_127_15, g_127_16, g_127_17, g_127_20, g_127_23, g_127_24, g_127_26, g_127_27, g_127_30, g_127_33, g_127_34, g_127_37, g_127_38, g_127_39, g_127_42, g_127_43, g_127_44, g_127_47, g_127_48, g_127_51, g_127_52, g_127_53, g_127_56, g_127_57, g_127_60, g_127_61, g_127_62, g_127_63, g_127_64, g_127_67, g_127_68, g_127_71, g_127_72, g_127_73, g_127_74, g_127_75, g_127_76, g_127_77, g_127_80, g_127_83, g_127_84, g_127_86, g_127_87, g_127_90, g_127_93, g_127_94, g_127_97, g_127_100, g_127_101, g_127_104, g_127_105, g_127_108, g_127_109, g_127_110, g_127_111, g_127_114, g_127_115, g_127_118, g_127_119, g_127_120, g_127_121, g_127_124, g_127_125, g_127_126, g_127_129, g_127_130, g_127_133, g_127_134, g_127_135, g_127_138, g_127_141, g_127_142, qOb_some, kr_v, kr_n, qinv_i, qinv_r, qinv_0, Nat.reduceAdd, List.getElem?_cons_zero, List.getElem?_cons_succ, List.set_cons_zero, List.set_cons_succ, List.length_cons, List.length_nil, not_true_eq_false, not_false_eq_true, false_implies, true_implies, and_true, true_and, and_false, false_and, if_true, if_false, forall_const, or_true, true_or, false_or, or_false, i10, Bool.false_eq_true, onlyI_1 u1, nI_1]
          refine ih (M2, b', _) ⟨b1, ⟨f2, b2, fun u hu => ?_⟩, hb4 b' hb'⟩
          rw [b3 u hu, al_s, if_neg (fun q => u1 (by rw [q]; exact cnt_pow u hu))]
          rfl
      rw [g_127_25]
      simp only [g_127_0, g_127_1, g_127_2, g_127_3, g_127_5, g_127_7, g_127_10, g_127_11, g_127_14, g_127_15, g_127_16, g_127_17, g_127_20, g_127_23, g_127_24, g_127_26, g_127_27, g_127_30, g_127_33, g_127_34, g_127_37, g_127_38, g_127_39, g_127_42, g_127_43, g_127_44, g_127_47, g_127_48, g_127_51, g_127_52, g_127_53, g_127_56, g_127_57, g_127_60, g_127_61, g_127_63, g_127_64, g_127_67, g_127_68, g_127_71, g_127_72, g_127_73, g_127_74, g_127_75, g_127_76, g_127_77, g_127_80, g_127_83, g_127_84, g_127_86, g_127_87, g_127_90, g_127_93, g_127_94, g_127_97, g_127_100, g_127_101, g_127_104, g_127_105, g_127_108, g_127_109, g_127_110, g_127_111, g_127_114, g_127_115, g_127_118, g_127_119, g_127_120, g_127_121, g_127_124, g_127_125, g_127_126, g_127_129, g_127_130, g_127_133, g_127_134, g_127_135, g_127_138, g_127_141, g_127_142, qOb_some, kr_v, kr_n, qinv_i, qinv_r, qinv_0, Nat.reduceAdd, List.getElem?_cons_zero, List.getElem?_cons_succ, List.set_cons_zero, List.set_cons_succ, List.length_cons, List.length_nil, not_true_eq_false, not_false_eq_true, false_implies, true_implies, and_true, true_and, and_false, false_and, if_true, if_false, forall_const, or_true, true_or, false_or, or_false, i10, Bool.false_eq_true, hM2.cls, m_cells hM2 hw hh, nI_ge hc (show w * h < 2 ^ 31 by omega), mget hM2, mo_23, ald_N rp2 (show c < 36 by omega) (show 36 < 2147483648 by decide), vp c hc, m_only hpc, bI_0, nI_eq0 (show p c < 2147483648 by omega)]
      cases b with
      | true =>
        simp only [not_true_eq_false, not_false_eq_true, false_implies, true_implies, and_true, true_and, and_false, false_and, if_true, if_false, forall_const, or_true, true_or, false_or, or_false, i10, Bool.false_eq_true]
        exact nx true ⟨fun _ => Or.inl rfl, fun _ => rfl⟩
      | false =>
        by_cases u0 : p c = 0
        · have := nx true ⟨fun _ => Or.inr u0, fun _ => rfl⟩
          rw [u0] at this
          simp only [u0, not_true_eq_false, not_false_eq_true, false_implies, true_implies, and_true, true_and, and_false, false_and, if_true, if_false, forall_const, or_true, true_or, false_or, or_false, i10, Bool.false_eq_true]
          exact this
        · simp only [u0, not_true_eq_false, not_false_eq_true, false_implies, true_implies, and_true, true_and, and_false, false_and, if_true, if_false, forall_const, or_true, true_or, false_or, or_false, i10, Bool.false_eq_true]
          exact nx false ⟨fun q => (by cases q), fun q => q.elim id (fun q => absurd q u0)⟩
  · rintro t M1 ht ⟨a1, f1, a2, a3⟩ ih
    have hM1 := hM.fr a1 (by omega)
    rw [g_127_4]
    simp only [g_127_0, g_127_1, g_127_2, g_127_3, g_127_5, g_127_7, g_127_10, g_127_11, g_127_14, g_127_15, g_127_16, g_127_17, g_127_20, g_127_23, g_127_24, g_127_26, g_127_27, g_127_30, g_127_33, g_127_34, g_127_37, g_127_38, g_127_39, g_127_42, g_127_43, g_127_44, g_127_47, g_127_48, g_127_51, g_127_52, g_127_53, g_127_56, g_127_57, g_127_60, g_127_61, g_127_62, g_127_63, g_127_64, g_127_67, g_127_68, g_127_71, g_127_72, g_127_73, g_127_74, g_127_75, g_127_76, g_127_77, g_127_80, g_127_83, g_127_84, g_127_86, g_127_87, g_127_90, g_127_93, g_127_94, g_127_97, g_127_100, g_127_101, g_127_104, g_127_105, g_127_108, g_127_109, g_127_110, g_127_111, g_127_114, g_127_115, g_127_118, g_127_119, g_127_120, g_127_121, g_127_124, g_127_125, g_127_126, g_127_129, g_127_130, g_127_133, g_127_134, g_127_135, g_127_138, g_127_141, g_127_142, qOb_some, kr_v, kr_n, qinv_i, qinv_r, qinv_0, Nat.reduceAdd, List.getElem?_cons_zero, List.getElem?_cons_succ, List.set_cons_zero, List.set_cons_succ, List.length_cons, List.length_nil, not_true_eq_false, not_false_eq_true, false_implies, true_implies, and_true, true_and, and_false, false_and, if_true, if_false, forall_const, or_true, true_or, false_or, or_false, i10, Bool.false_eq_true, show (8 : Int32) = nI 8 from rfl, nI_ge ht (show 8 < 2 ^ 31 by decide), mget hM1, mo_24, ast_N a2 ht (show 8 < 2147483648 by decide), nI_1]
    refine ih _ ⟨a1.trans (Fr.set (by omega) (by omega)), _, get_set_eq a2, fun u hu => ?_⟩
    by_cases e : u = t
    · rw [e, upd_s]; rfl
    · rw [upd_n e]; exact a3 u (by omega)
theorem m_fewest {M : qM} {s : Nat → Int32} {w h : Nat} {p : Nat → Nat} {Q : qR → qM → Prop} (hM : ModAt M s) (hw : s 20 = nI w) (hh : s 21 = nI h) (hD : Dim w h) (hA : ArrV M 112 36 (w * h) p) (hp : Msk (w * h) p) : cl 131 [.ref 101] M Q ↔ Q (.inl (some (.int (nbI (few p (w * h)))))) M := by
  refine cl_iff (fun Q hQ => ?_)
  have hN := hD.le
  obtain ⟨fp, rp, vp⟩ := hA
  rw [e_131]
  simp only [g_131_0, g_131_1, g_131_2, g_131_3, g_131_5, g_131_6, g_131_9, g_131_12, g_131_13, g_131_16, g_131_17, g_131_18, g_131_21, g_131_22, g_131_25, g_131_26, g_131_29, g_131_30, g_131_31, g_131_32, g_131_35, g_131_36, g_131_37, g_131_40, g_131_41, g_131_44, g_131_45, g_131_46, g_131_49, g_131_50, g_131_53, g_131_54, g_131_55, g_131_58, g_131_61, g_131_62, g_131_65, g_131_66, g_131_67, g_131_70, g_131_73, g_131_74, qOb_some, kr_v, kr_n, qinv_i, qinv_r, qinv_0, Nat.reduceAdd, List.getElem?_cons_zero, List.getElem?_cons_succ, List.set_cons_zero, List.set_cons_succ, List.length_cons, List.length_nil]
  refine upto (N := w * h) (I := fun _ _ => True) (G := fun c (l3 : Option Value) => g 131 4 [some (.ref 101), some (.int (nbI (few p c))), some (.int (nI c)), l3] [] M 0 0 Q) ?_ ?_ 0 none (Nat.zero_le _) trivial
  · intro l3 _
    rw [g_131_4]
    simp only [g_131_0, g_131_1, g_131_2, g_131_3, g_131_5, g_131_6, g_131_9, g_131_12, g_131_13, g_131_16, g_131_17, g_131_18, g_131_21, g_131_22, g_131_25, g_131_26, g_131_29, g_131_30, g_131_31, g_131_32, g_131_35, g_131_36, g_131_37, g_131_40, g_131_41, g_131_44, g_131_45, g_131_46, g_131_49, g_131_50, g_131_53, g_131_54, g_131_55, g_131_58, g_131_61, g_131_62, g_131_65, g_131_66, g_131_67, g_131_70, g_131_73, g_131_74, qOb_some, kr_v, kr_n, qinv_i, qinv_r, qinv_0, Nat.reduceAdd, List.getElem?_cons_zero, List.getElem?_cons_succ, List.set_cons_zero, List.set_cons_succ, List.length_cons, List.length_nil, not_true_eq_false, not_false_eq_true, false_implies, true_implies, and_true, true_and, and_false, false_and, if_true, if_false, forall_const, or_true, true_or, false_or, or_false, i10, Bool.false_eq_true, hM.cls, m_cells hM hw hh, Int32.le_refl]
    exact hQ
  · intro c l3 hc _ ih
    have hpc := hp c hc
    have hle := cnt_le (p c) hpc
    have e1 : (nI (cnt (p c)) ≤ 1) = (cnt (p c) ≤ 1) := propext (nI_leI (b := 1) (by omega) (by decide))
    have ih := fun l3 => ih l3 trivial
    rw [g_131_4]
    simp only [g_131_0, g_131_1, g_131_2, g_131_3, g_131_5, g_131_6, g_131_9, g_131_12, g_131_13, g_131_16, g_131_17, g_131_18, g_131_21, g_131_22, g_131_25, g_131_26, g_131_29, g_131_30, g_131_31, g_131_32, g_131_35, g_131_36, g_131_37, g_131_40, g_131_41, g_131_44, g_131_45, g_131_46, g_131_49, g_131_50, g_131_53, g_131_54, g_131_55, g_131_58, g_131_61, g_131_62, g_131_65, g_131_66, g_131_67, g_131_70, g_131_73, g_131_74, qOb_some, kr_v, kr_n, qinv_i, qinv_r, qinv_0, Nat.reduceAdd, List.getElem?_cons_zero, List.getElem?_cons_succ, List.set_cons_zero, List.set_cons_succ, List.length_cons, List.length_nil, not_true_eq_false, not_false_eq_true, false_implies, true_implies, and_true, true_and, and_false, false_and, if_true, if_false, forall_const, or_true, true_or, false_or, or_false, i10, Bool.false_eq_true, hM.cls, m_cells hM hw hh, nI_ge hc (show w * h < 2 ^ 31 by omega), mget hM, mo_23, ald_N rp (show c < 36 by omega) (show 36 < 2147483648 by decide), vp c hc, m_many hpc, e1, nI_1]
    by_cases u1 : cnt (p c) ≤ 1
    · have u2 : ¬ 1 < cnt (p c) := by omega
      have e : few p (c + 1) = few p c := by
        rw [few]
        cases few p c with
        | none => simp only [u2, if_false]
        | some k => simp only [u2, false_and, if_false]
      rw [e] at ih
      simp only [u1, not_true_eq_false, not_false_eq_true, false_implies, true_implies, and_true, true_and, and_false, false_and, if_true, if_false, forall_const, or_true, true_or, false_or, or_false, i10, Bool.false_eq_true]
      exact ih _
    · have u2 : 1 < cnt (p c) := by omega
      simp only [u1, not_true_eq_false, not_false_eq_true, false_implies, true_implies, and_true, true_and, and_false, false_and, if_true, if_false, forall_const, or_true, true_or, false_or, or_false, i10, Bool.false_eq_true]
      cases hf : few p c with
      | none =>
        have e : few p (c + 1) = some c := by
          rw [few, hf]
          simp only [u2, if_true]
        rw [e] at ih
        simp only [nbI, not_true_eq_false, not_false_eq_true, false_implies, true_implies, and_true, true_and, and_false, false_and, if_true, if_false, forall_const, or_true, true_or, false_or, or_false, i10, Bool.false_eq_true] at ih ⊢
        exact ih _
      | some k =>
        have hk2 := (few_some hf).1
        have hpk := hp k (by omega)
        have hlk := cnt_le (p k) hpk
        have e2 : (nI (cnt (p k)) ≤ nI (cnt (p c))) = (cnt (p k) ≤ cnt (p c)) := propext (nI_leI (by omega) (by omega))
        simp only [nbI, m1_ne (show k < 1000 by omega), not_true_eq_false, not_false_eq_true, false_implies, true_implies, and_true, true_and, and_false, false_and, if_true, if_false, forall_const, or_true, true_or, false_or, or_false, i10, Bool.false_eq_true, ald_N rp (show k < 36 by omega) (show 36 < 2147483648 by decide), vp k (show k < w * h by omega), m_many hpk, m_many hpc, e2]
        by_cases u3 : cnt (p k) ≤ cnt (p c)
        · have e : few p (c + 1) = some k := by
            rw [few, hf]
            simp only [show ¬ cnt (p c) < cnt (p k) by omega, and_false, if_false]
          rw [e] at ih
          simp only [qOb_some, g_131_0, g_131_1, g_131_2, g_131_3, g_131_5, g_131_6, g_131_9, g_131_12, g_131_13, g_131_16, g_131_17, g_131_18, g_131_21, g_131_22, g_131_25, g_131_26, g_131_29, g_131_30, g_131_31, g_131_32, g_131_35, g_131_36, g_131_37, g_131_40, g_131_41, g_131_44, g_131_45, g_131_46, g_131_49, g_131_50, g_131_53, g_131_54, g_131_55, g_131_58, g_131_61, g_131_62, g_131_65, g_131_66, g_131_67, g_131_70, g_131_73, g_131_74, qOb_some, kr_v, kr_n, qinv_i, qinv_r, qinv_0, Nat.reduceAdd, List.getElem?_cons_zero, List.getElem?_cons_succ, List.set_cons_zero, List.set_cons_succ, List.length_cons, List.length_nil, m_many hpk, e2, u3, nI_1, nbI, not_true_eq_false, not_false_eq_true, false_implies, true_implies, and_true, true_and, and_false, false_and, if_true, if_false, forall_const, or_true, true_or, false_or, or_false, i10, Bool.false_eq_true] at ih ⊢
          exact ih _
        · have e : few p (c + 1) = some c := by
            rw [few, hf]
            simp only [u2, show cnt (p c) < cnt (p k) by omega, and_self, if_true]
          rw [e] at ih
          simp only [qOb_some, g_131_0, g_131_1, g_131_2, g_131_3, g_131_5, g_131_6, g_131_9, g_131_12, g_131_13, g_131_16, g_131_17, g_131_18, g_131_21, g_131_22, g_131_25, g_131_26, g_131_29, g_131_30, g_131_31, g_131_32, g_131_35, g_131_36, g_131_37, g_131_40, g_131_41, g_131_44, g_131_45, g_131_46, g_131_49, g_131_50, g_131_53, g_131_54, g_131_55, g_131_58, g_131_61, g_131_62, g_131_65, g_131_66, g_131_67, g_131_70, g_131_73, g_131_74, qOb_some, kr_v, kr_n, qinv_i, qinv_r, qinv_0, Nat.reduceAdd, List.getElem?_cons_zero, List.getElem?_cons_succ, List.set_cons_zero, List.set_cons_succ, List.length_cons, List.length_nil, m_many hpk, e2, u3, nI_1, nbI, not_true_eq_false, not_false_eq_true, false_implies, true_implies, and_true, true_and, and_false, false_and, if_true, if_false, forall_const, or_true, true_or, false_or, or_false, i10, Bool.false_eq_true] at ih ⊢
          exact ih _
