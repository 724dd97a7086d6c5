/-! the model's small questions, what a call begins with -/
theorem m_goesOn {M : qM} {s : Nat → Int32} {x : Int32} {Q : qR → qM → Prop} (hM : ModAt M s)
    (hQ : ∀ M', Fr 101 102 M M' → ModAt M' (upd s 0 x) → Q (.inl (some (.int (bI (x = 0))))) M') : cl 103 [.ref 101, .int x] M Q := by
  obtain ⟨M1, e1, f1, hM1⟩ := put_G 0 x hM (by decide) rfl ms_0
  have := hQ M1 f1 hM1
  rw [e_103]
  by_cases h : x = 0
  · subst h
    simp only [g_103_0, g_103_1, g_103_2, g_103_5, g_103_6, g_103_9, g_103_10, g_103_13, g_103_14, qOb_some, kr_v, kr_n, qinv_i, qinv_r, qinv_0, Nat.reduceAdd, List.getElem?_cons_zero, List.getElem?_cons_succ, List.set_cons_zero, List.set_cons_succ, List.length_cons, List.length_nil, not_true_eq_false, not_false_eq_true, false_implies, true_implies, and_true, true_and, and_false, false_and, if_true, if_false, forall_const, or_true, true_or, false_or, or_false, i10, Bool.false_eq_true, e1, bI] at this ⊢
    exact this
  · simp only [g_103_0, g_103_1, g_103_2, g_103_5, g_103_6, g_103_9, g_103_10, g_103_13, g_103_14, qOb_some, kr_v, kr_n, qinv_i, qinv_r, qinv_0, Nat.reduceAdd, List.getElem?_cons_zero, List.getElem?_cons_succ, List.set_cons_zero, List.set_cons_succ, List.length_cons, List.length_nil, not_true_eq_false, not_false_eq_true, false_implies, true_implies, and_true, true_and, and_false, false_and, if_true, if_false, forall_const, or_true, true_or, false_or, or_false, i10, Bool.false_eq_true, e1, bI, h] at this ⊢
    exact this
theorem m_isTile {M : qM} {s : Nat → Int32} {T : TS} {i : Int32} {Q : qR → qM → Prop} (hM : ModAt M s) (hT : MTil M s T) (hk : TOk T) : cl 104 [.ref 101, .int i] M Q ↔ Q (.inl (some (.int (bI (0 ≤ i ∧ i < nI T.n))))) M := by
  have h8 := hk.1
  rw [e_104]
  simp only [g_104_0, g_104_1, g_104_2, g_104_3, g_104_6, g_104_7, g_104_8, g_104_11, qOb_some, kr_v, kr_n, qinv_i, qinv_r, qinv_0, Nat.reduceAdd, List.getElem?_cons_zero, List.getElem?_cons_succ, List.set_cons_zero, List.set_cons_succ, List.length_cons, List.length_nil, not_true_eq_false, not_false_eq_true, false_implies, true_implies, and_true, true_and, and_false, false_and, if_true, if_false, forall_const, or_true, true_or, false_or, or_false, i10, Bool.false_eq_true, mget hM, mo_1, hT.1, m_in, bI_01]
  refine iff_of_eq (congrArg (fun v => Q (.inl (some (.int v))) M) (bI_c (and_congr_right (fun h0 => ?_))))
  obtain ⟨j, hj, rfl⟩ := nI_of (Int32.not_lt.mpr h0)
  cases hn : T.n with
  | zero =>
    constructor
    · intro q
      exact absurd (Int32.le_trans h0 q) (by decide)
    · intro q
      exact absurd (Int32.lt_of_le_of_lt h0 q) (by decide)
  | succ m =>
    rw [show nI (m + 1) - 1 = nI m from nI_pred m, nI_leI hj (by omega), nI_ltI hj (by omega)]
    omega
theorem m_isCell {M : qM} {s : Nat → Int32} {w h : Nat} {i : Int32} {Q : qR → qM → Prop} (hM : ModAt M s) (hw : s 5 = nI w) (hh : s 6 = nI h) (hD : Dim w h) : cl 105 [.ref 101, .int i] M Q ↔ Q (.inl (some (.int (bI (0 ≤ i ∧ i < nI (w * h)))))) M := by
  have hN := hD.le
  have hp := hD.pos
  rw [e_105]
  simp only [g_105_0, g_105_1, g_105_2, g_105_3, g_105_6, g_105_7, g_105_10, g_105_11, g_105_12, g_105_13, g_105_16, qOb_some, kr_v, kr_n, qinv_i, qinv_r, qinv_0, Nat.reduceAdd, List.getElem?_cons_zero, List.getElem?_cons_succ, List.set_cons_zero, List.set_cons_succ, List.length_cons, List.length_nil, not_true_eq_false, not_false_eq_true, false_implies, true_implies, and_true, true_and, and_false, false_and, if_true, if_false, forall_const, or_true, true_or, false_or, or_false, i10, Bool.false_eq_true, mget hM, mo_5, mo_6, hw, hh, pk_mul, m_in, bI_01]
  refine iff_of_eq (congrArg (fun v => Q (.inl (some (.int v))) M) (bI_c (and_congr_right (fun h0 => ?_))))
  obtain ⟨j, hj, rfl⟩ := nI_of (Int32.not_lt.mpr h0)
  rw [show nI (w * h) - 1 = nI (w * h - 1) from pk_sub (b := 1) hp, nI_leI hj (by omega), nI_ltI hj (by omega)]
  omega
theorem m_all {M : qM} {s : Nat → Int32} {T : TS} {Q : qR → qM → Prop} (hM : ModAt M s) (hT : MTil M s T) (hk : TOk T) : cl 106 [.ref 101] M Q ↔ Q (.inl (some (.int (nI (2 ^ T.n - 1))))) M := by
  rw [e_106]
  simp only [g_106_0, g_106_1, g_106_2, g_106_5, g_106_6, g_106_7, g_106_8, qOb_some, kr_v, kr_n, qinv_i, qinv_r, qinv_0, Nat.reduceAdd, List.getElem?_cons_zero, List.getElem?_cons_succ, List.set_cons_zero, List.set_cons_succ, List.length_cons, List.length_nil, mget hM, mo_1, hT.1, nI_shlA T.n (by have := hk.1; omega)]
/-- the model's world -/
def MWor (M : qM) (s : Nat → Int32) (w h : Nat) (F : Nat → Option Nat) (B : Nat → Nat) : Prop := s 5 = nI w ∧ s 6 = nI h ∧ (∃ f, M[104]? = some (.inl (0, 36, .inl f)) ∧ ∀ k, k < w * h → f k = nbI (F k)) ∧ (∃ f, M[105]? = some (.inl (0, 36, .inl f)) ∧ ∀ k, k < w * h → f k = nI (B k))
theorem MWor.fr {M M' : qM} {s s' : Nat → Int32} {w h : Nat} {F : Nat → Option Nat} {B : Nat → Nat} (hW : MWor M s w h F B) (hf : MFr M M') (hs : SFr 20 s s') : MWor M' s' w h F B := by
  obtain ⟨h1, h2, ⟨f, h3, h4⟩, ⟨f', h5, h6⟩⟩ := hW
  exact ⟨(hs 5 (by decide)).trans h1, (hs 6 (by decide)).trans h2, ⟨f, (hf 104 (by omega)).trans h3, h4⟩, ⟨f', (hf 105 (by omega)).trans h5, h6⟩⟩
theorem m_begins {M : qM} {s : Nat → Int32} {T : TS} {w h : Nat} {F : Nat → Option Nat} {B : Nat → Nat} {Q : qR → qM → Prop} (hM : ModAt M s) (hT : MTil M s T) (hk : TOk T) (hA : MWor M s w h F B) (hW : WOk T w h F B) (hR : ∃ f, M[112]? = some (.inl (0, 36, .inl f)))
    (hQ : ∀ M' s', (∀ b, b ≠ 101 → b ≠ 112 → M'[b]? = M[b]?) → SFr 20 s s' → ModAt M' s' → s' 20 = nI w → s' 21 = nI h → s' 22 = 1 → ArrV M' 112 36 (w * h) (possM T F B) → Q (.inl none) M') : cl 125 [.ref 101] M Q := by
  have hD := hW.1
  have hN := hD.le
  have h8 := hk.1
  obtain ⟨a1, a2, ⟨fF, a3, a4⟩, ⟨fB, a5, a6⟩⟩ := hA
  obtain ⟨f0, r0⟩ := hR
  obtain ⟨M1, e1, f1, hM1⟩ := put_G 20 (nI w) hM (by decide) rfl ms_20
  obtain ⟨M2, e2, f2, hM2⟩ := put_G 21 (nI h) hM1 (by decide) rfl ms_21
  obtain ⟨M3, e3, f3, hM3⟩ := put_G 22 1 hM2 (by decide) rfl ms_22
  have fA := (f1.trans f2).trans f3
  have sf : SFr 20 s (upd (upd (upd s 20 (nI w)) 21 (nI h)) 22 1) := ((SFr.upd (by decide)).trans (SFr.upd (by decide))).trans (SFr.upd (by decide))
  have v6 : upd s 20 (nI w) 6 = nI h := by rw [upd_n (by decide)]; exact a2
  have v20 : upd (upd (upd s 20 (nI w)) 21 (nI h)) 22 1 20 = nI w := by rw [upd_n (by decide), upd_n (by decide), upd_s]
  have v21 : upd (upd (upd s 20 (nI w)) 21 (nI h)) 22 1 21 = nI h := by rw [upd_n (by decide), upd_s]
  have hT3 := hT.fr fA (by omega) (sf 1 (by decide))
  rw [e_125]
  simp only [g_125_0, g_125_1, g_125_2, g_125_5, g_125_8, g_125_9, g_125_10, g_125_13, g_125_16, g_125_17, g_125_18, g_125_21, g_125_22, g_125_24, g_125_25, g_125_28, g_125_31, g_125_32, g_125_35, g_125_36, g_125_37, g_125_40, g_125_41, g_125_42, g_125_43, g_125_46, g_125_47, g_125_50, g_125_53, g_125_54, g_125_55, g_125_58, g_125_59, g_125_60, g_125_61, g_125_62, g_125_65, g_125_66, g_125_67, g_125_68, g_125_69, g_125_70, g_125_71, g_125_74, g_125_77, qOb_some, kr_v, kr_n, qinv_i, qinv_r, qinv_0, Nat.reduceAdd, List.getElem?_cons_zero, List.getElem?_cons_succ, List.set_cons_zero, List.set_cons_succ, List.length_cons, List.length_nil, not_true_eq_false, not_false_eq_true, false_implies, true_implies, and_true, true_and, and_false, false_and, if_true, if_false, forall_const, or_true, true_or, false_or, or_false, i10, Bool.false_eq_true, mget hM, mo_5, a1, e1, mget hM1, mo_6, v6, e2, e3]
  refine upto (N := w * h) (I := fun c M' => Fr 112 113 M3 M' ∧ ∃ f, M'[112]? = some (.inl (0, 36, .inl f)) ∧ ∀ k, k < c → f k = nI (possM T F B k)) (G := fun c M' => g 125 23 [some (.ref 101), some (.int (nI c))] [] M' 0 0 Q) ?_ ?_ 0 M3 (Nat.zero_le _) ⟨Fr.refl, f0, (fA 112 (by omega)).trans r0, fun k hk2 => absurd hk2 (Nat.not_lt_zero _)⟩
  · rintro M4 ⟨b1, f, b2, b3⟩
    have hM4 := hM3.fr b1 (by omega)
    rw [g_125_23]
    simp only [g_125_0, g_125_1, g_125_2, g_125_5, g_125_8, g_125_9, g_125_10, g_125_13, g_125_16, g_125_17, g_125_18, g_125_21, g_125_22, g_125_24, g_125_25, g_125_28, g_125_31, g_125_32, g_125_35, g_125_36, g_125_37, g_125_40, g_125_41, g_125_42, g_125_43, g_125_46, g_125_47, g_125_50, g_125_53, g_125_54, g_125_55, g_125_58, g_125_59, g_125_60, g_125_61, g_125_62, g_125_65, g_125_66, g_125_67, g_125_68, g_125_69, g_125_70, g_125_71, g_125_74, g_125_77, qOb_some, kr_v, kr_n, qinv_i, qinv_r, qinv_0, Nat.reduceAdd, List.getElem?_cons_zero, List.getElem?_cons_succ, List.set_cons_zero, List.set_cons_succ, List.length_cons, List.length_nil, not_true_eq_false, not_false_eq_true, false_implies, true_implies, and_true, true_and, and_false, false_and, if_true, if_false, forall_const, or_true, true_or, false_or, or_false, i10, Bool.false_eq_true, hM4.cls, m_cells hM4 v20 v21, Int32.le_refl]
    exact hQ M4 _ (fun b q1 q2 => (b1 b (by omega)).trans (fA b (by omega))) sf hM4 v20 v21 upd_s ⟨f, b2, b3⟩
  · rintro c M4 hc ⟨b1, f, b2, b3⟩ ih
    have hM4 := hM3.fr b1 (by omega)
    have hT4 := hT3.fr (s' := upd (upd (upd s 20 (nI w)) 21 (nI h)) 22 1) b1 (by omega) rfl
    have a34 := (b1 104 (by omega)).trans ((fA 104 (by omega)).trans a3)
    have a54 := (b1 105 (by omega)).trans ((fA 105 (by omega)).trans a5)
    obtain ⟨c1, c2⟩ := hW.2 c hc
    obtain ⟨M5, e5, f5, r5⟩ := ast_G (nI (possM T F B c)) b2 (show c < 36 by omega) (by decide)
    have nx := ih M5 ⟨b1.trans f5, _, r5, fun k hk2 => by
      by_cases e : k = c
      · rw [e, upd_s]
      · rw [upd_n e]; exact b3 k (by omega)⟩
    rw [g_125_23]
    simp only [g_125_0, g_125_1, g_125_2, g_125_5, g_125_8, g_125_9, g_125_10, g_125_13, g_125_16, g_125_17, g_125_18, g_125_21, g_125_22, g_125_24, g_125_25, g_125_28, g_125_31, g_125_32, g_125_35, g_125_36, g_125_37, g_125_40, g_125_41, g_125_42, g_125_43, g_125_46, g_125_47, g_125_50, g_125_53, g_125_54, g_125_55, g_125_58, g_125_59, g_125_60, g_125_61, g_125_62, g_125_65, g_125_66, g_125_67, g_125_68, g_125_69, g_125_70, g_125_71, g_125_74, g_125_77, qOb_some, kr_v, kr_n, qinv_i, qinv_r, qinv_0, Nat.reduceAdd, List.getElem?_cons_zero, List.getElem?_cons_succ, List.set_cons_zero, List.set_cons_succ, List.length_cons, List.length_nil, not_true_eq_false, not_false_eq_true, false_implies, true_implies, and_true, true_and, and_false, false_and, if_true, if_false, forall_const, or_true, true_or, false_or, or_false, i10, Bool.false_eq_true, hM4.cls, m_cells hM4 v20 v21, nI_ge hc (show w * h < 2 ^ 31 by omega), mget hM4, mo_23, mo_7, mo_8, ald_N a34 (show c < 36 by omega) (show 36 < 2147483648 by decide), ald_N a54 (show c < 36 by omega) (show 36 < 2147483648 by decide), a4 c hc, a6 c hc, m_all hM4 hT4 hk, nI_1]
    cases hF : F c with
    | none =>
      have hx : 2 ^ T.n - 1 < 256 := by
        have := pow_le8 h8
        omega
      have ep : nI (2 ^ T.n - 1) &&& (nI (B c) ^^^ (-1)) = nI (possM T F B c) := by
        rw [nI_clr hx c2, possM, hF]
      simp only [nbI, not_true_eq_false, not_false_eq_true, false_implies, true_implies, and_true, true_and, and_false, false_and, if_true, if_false, forall_const, or_true, true_or, false_or, or_false, i10, Bool.false_eq_true, ep, e5, qOb_some, g_125_0, g_125_1, g_125_2, g_125_5, g_125_8, g_125_9, g_125_10, g_125_13, g_125_16, g_125_17, g_125_18, g_125_21, g_125_22, g_125_24, g_125_25, g_125_28, g_125_31, g_125_32, g_125_35, g_125_36, g_125_37, g_125_40, g_125_41, g_125_42, g_125_43, g_125_46, g_125_47, g_125_50, g_125_53, g_125_54, g_125_55, g_125_58, g_125_59, g_125_60, g_125_61, g_125_62, g_125_65, g_125_66, g_125_67, g_125_68, g_125_69, g_125_70, g_125_71, g_125_74, g_125_77, qOb_some, kr_v, kr_n, qinv_i, qinv_r, qinv_0, Nat.reduceAdd, List.getElem?_cons_zero, List.getElem?_cons_succ, List.set_cons_zero, List.set_cons_succ, List.length_cons, List.length_nil, nI_1]
      exact nx
    | some t =>
      have ht := c1 t hF
      have hx : 2 ^ t < 256 := Nat.pow_lt_pow_right (a := 2) (m := t) (n := 8) (by decide) (by omega)
      have ep : nI (2 ^ t) &&& (nI (B c) ^^^ (-1)) = nI (possM T F B c) := by
        rw [nI_clr hx c2, possM, hF]
      simp only [nbI, m1_ne (show t < 1000 by omega), not_true_eq_false, not_false_eq_true, false_implies, true_implies, and_true, true_and, and_false, false_and, if_true, if_false, forall_const, or_true, true_or, false_or, or_false, i10, Bool.false_eq_true, nI_shl1 t (show t < 8 by omega), ep, e5, qOb_some, g_125_0, g_125_1, g_125_2, g_125_5, g_125_8, g_125_9, g_125_10, g_125_13, g_125_16, g_125_17, g_125_18, g_125_21, g_125_22, g_125_24, g_125_25, g_125_28, g_125_31, g_125_32, g_125_35, g_125_36, g_125_37, g_125_40, g_125_41, g_125_42, g_125_43, g_125_46, g_125_47, g_125_50, g_125_53, g_125_54, g_125_55, g_125_58, g_125_59, g_125_60, g_125_61, g_125_62, g_125_65, g_125_66, g_125_67, g_125_68, g_125_69, g_125_70, g_125_71, g_125_74, g_125_77, qOb_some, kr_v, kr_n, qinv_i, qinv_r, qinv_0, Nat.reduceAdd, List.getElem?_cons_zero, List.getElem?_cons_succ, List.set_cons_zero, List.set_cons_succ, List.length_cons, List.length_nil, nI_1]
      exact nx
