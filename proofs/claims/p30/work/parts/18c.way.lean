/-! the ways, by trying all: the class -/
def rst (n num : Nat) : Nat → Nat
  | 0 => num
  | k + 1 => rst n num k / n
def dgt (n num k : Nat) : Nat := rst n num k % n
theorem rst_le {n num : Nat} : ∀ {k : Nat}, rst n num k ≤ num
  | 0 => Nat.le_refl _
  | k + 1 => Nat.le_trans (Nat.div_le_self _ _) rst_le
def wayP (T : TS) (w h : Nat) (wo : Nat → Option Nat) (road : Bool) (PM : Nat → Nat) (num : Nat) : Prop := (∀ k, k < w * h → (PM k).testBit (dgt T.n num k) = true) ∧ fitP T w h (dgt T.n num) ∧ ¬ wrongP T (w * h) wo (pw (dgt T.n num)) ∧ rdOk T w h road (dgt T.n num)
noncomputable def nways (T : TS) (w h : Nat) (wo : Nat → Option Nat) (road : Bool) (PM : Nat → Nat) : Nat := cntB (fun num => cB (wayP T w h wo road PM num)) (T.n ^ (w * h))
theorem tries_le {T : TS} {N : Nat} (hk : TOk T) (hN : N ≤ 4) : T.n ^ N ≤ 4096 := Nat.le_trans (Nat.pow_le_pow_left hk.1 N) (Nat.pow_le_pow_right (n := 8) (by decide) hN)
/-- the class's object -/
def HO (sd fd : Int32) : List Value := [.ref 1, .ref 8, .ref 11, .ref 17, .ref 24, .ref 31, .ref 56, .ref 65, .ref 66, .ref 94, .int sd, .int fd]
theorem ho_0 {sd fd : Int32} : (HO sd fd)[0]? = some (.ref 1) := rfl
theorem ho_1 {sd fd : Int32} : (HO sd fd)[1]? = some (.ref 8) := rfl
theorem ho_2 {sd fd : Int32} : (HO sd fd)[2]? = some (.ref 11) := rfl
theorem ho_3 {sd fd : Int32} : (HO sd fd)[3]? = some (.ref 17) := rfl
theorem ho_4 {sd fd : Int32} : (HO sd fd)[4]? = some (.ref 24) := rfl
theorem ho_5 {sd fd : Int32} : (HO sd fd)[5]? = some (.ref 31) := rfl
theorem ho_6 {sd fd : Int32} : (HO sd fd)[6]? = some (.ref 56) := rfl
theorem ho_7 {sd fd : Int32} : (HO sd fd)[7]? = some (.ref 65) := rfl
theorem ho_8 {sd fd : Int32} : (HO sd fd)[8]? = some (.ref 66) := rfl
theorem ho_9 {sd fd : Int32} : (HO sd fd)[9]? = some (.ref 94) := rfl
theorem ho_10 {sd fd : Int32} : (HO sd fd)[10]? = some (.int sd) := rfl
theorem ho_11 {sd fd : Int32} : (HO sd fd)[11]? = some (.int fd) := rfl
theorem hs_10 {sd fd x : Int32} : (HO sd fd).set 10 (.int x) = HO x fd := rfl
theorem hs_11 {sd fd x : Int32} : (HO sd fd).set 11 (.int x) = HO sd x := rfl
def HObj (M : qM) (sd fd : Int32) : Prop := M[0]? = some (.inr (9, HO sd fd))
theorem HObj.fr {lo hi : Nat} {sd fd : Int32} {M M' : qM} (h : HObj M sd fd) (hf : Fr lo hi M M') (ho : 0 < lo) : HObj M' sd fd := (hf 0 (Or.inl ho)).trans h
theorem HObj.cls {M : qM} {sd fd : Int32} (h : HObj M sd fd) : qcls M 0 9 ↔ True := qcls_of h
theorem hget {M : qM} {sd fd : Int32} (h : HObj M sd fd) (k : Nat) : qget M 0 9 k = (HO sd fd)[k]? := qget_of h
theorem hput {M : qM} {sd fd : Int32} (k : Nat) (x : Int32) {sd' fd' : Int32} (h : HObj M sd fd) (hk : k < 12) (hty : q_fit (q_ty 9 k) (.int x) = true) (he : (HO sd fd).set k (.int x) = HO sd' fd') : ∃ M', qput M 0 9 k (.int x) = some M' ∧ Fr 0 1 M M' ∧ HObj M' sd' fd' := by
  refine ⟨M.set 0 (.inr (9, (HO sd fd).set k (.int x))), ?_, Fr.set (by omega) (by omega), ?_⟩
  · rw [qput_of h, if_pos ⟨hk, hty⟩]
  · rw [he]; exact get_set_eq h
theorem s_isWay {M : qM} {sd fd : Int32} {T : TS} {w h num : Nat} {F : Nat → Option Nat} {B : Nat → Nat} {wo : Nat → Option Nat} {road : Bool} {tl0 : Nat → Nat} {Q : qR → qM → Prop} (hH : HObj M sd fd) (hT : TilesAt M T) (hk : TOk T) (hn : 0 < T.n) (hA : WorldAt M w h F B) (hW : WOk T w h F B) (hP : PlaAt M 56 12 (w * h) tl0) (hWi : WishAt M 8 (fun t => nbI (wo t)) road) (hwo : ∀ t m, wo t = some m → m < 1000) (hnum : num < 100000)
    (hQ : ∀ M' b, Fr 56 65 M M' → (∃ tl, PlaAt M' 56 12 (w * h) tl) → (b = true ↔ wayP T w h wo road (possM T F B) num) → Q (.inl (some (.int (bI (b = true))))) M') : cl 93 [.ref 0, .int (nI num)] M Q := by
  have hD := hW.1
  have hN := hD.le
  have h8 := hk.1
  obtain ⟨p1, ⟨ft, p2, p3⟩, ⟨f4, p4⟩, ⟨f5, p5⟩, ⟨f6, p6⟩⟩ := hP
  have hn0 := nI_ne0 hn (show T.n < 2 ^ 31 by omega)
  have hn1 : ¬ nI T.n ≤ 0 := nI_nle hn (by omega)
  have pla : ∀ {M'} {tl : Nat → Nat}, Fr 57 59 M M' → (∃ f, RowAt M' 57 36 f ∧ ∀ k, k < w * h → f k = nI (tl k)) → PlaAt M' 56 12 (w * h) tl := fun fr hr => ⟨(fr 56 (by omega)).trans p1, hr, ⟨f4, p4.fr fr (by omega)⟩, ⟨f5, p5.fr fr (by omega)⟩, ⟨f6, p6.fr fr (by omega)⟩⟩
  rw [e_93]
  simp only [g_93_0, g_93_1, g_93_2, g_93_3, g_93_5, g_93_6, g_93_9, g_93_12, g_93_15, g_93_18, g_93_19, g_93_22, g_93_25, g_93_28, g_93_29, g_93_30, g_93_33, g_93_36, g_93_37, g_93_40, g_93_41, g_93_43, g_93_44, g_93_47, g_93_50, g_93_53, g_93_54, g_93_55, g_93_58, g_93_61, g_93_62, g_93_65, g_93_66, g_93_67, g_93_69, g_93_70, g_93_73, g_93_74, g_93_77, g_93_80, g_93_83, g_93_84, g_93_85, g_93_86, g_93_89, g_93_92, g_93_93, g_93_95, g_93_98, g_93_101, g_93_104, g_93_105, g_93_108, g_93_111, g_93_114, g_93_115, g_93_118, g_93_119, g_93_122, g_93_125, g_93_128, g_93_129, g_93_132, g_93_133, qOb_some, kr_v, kr_n, qinv_i, qinv_r, qinv_0, Nat.reduceAdd, List.getElem?_cons_zero, List.getElem?_cons_succ, List.set_cons_zero, List.set_cons_succ, List.length_cons, List.length_nil]
  refine upto (N := w * h) (I := fun c (z : qM × Option Value) => Fr 57 59 M z.1 ∧ (∃ f, RowAt z.1 57 36 f ∧ ∀ k, k < c → f k = nI (dgt T.n num k)) ∧ ∀ k, k < c → (possM T F B k).testBit (dgt T.n num k) = true) (G := fun c (z : qM × Option Value) => g 93 4 [some (.ref 0), some (.int (nI num)), some (.int (nI (rst T.n num c))), some (.int (nI c)), z.2] [] z.1 0 0 Q) ?_ ?_ 0 (M, none) (Nat.zero_le _) ⟨Fr.refl, ⟨ft, p2, fun k hk2 => absurd hk2 (Nat.not_lt_zero _)⟩, fun k hk2 => absurd hk2 (Nat.not_lt_zero _)⟩
  · rintro ⟨M1, l4⟩ ⟨a1, a2, a3⟩
    have hH1 := hH.fr a1 (by omega)
    have hA1 := hA.fr a1 (by omega)
    have hT1 := hT.fr a1 (by omega)
    have hP1 : PlaAt M1 56 12 (w * h) (dgt T.n num) := pla a1 a2
    have htl : ∀ k, k < w * h → dgt T.n num k < T.n := fun k _ => Nat.mod_lt _ hn
    rw [g_93_4]
    simp only [g_93_0, g_93_1, g_93_2, g_93_3, g_93_5, g_93_6, g_93_9, g_93_12, g_93_15, g_93_18, g_93_19, g_93_22, g_93_25, g_93_28, g_93_29, g_93_30, g_93_33, g_93_36, g_93_37, g_93_40, g_93_41, g_93_43, g_93_44, g_93_47, g_93_50, g_93_53, g_93_54, g_93_55, g_93_58, g_93_61, g_93_62, g_93_65, g_93_66, g_93_67, g_93_69, g_93_70, g_93_73, g_93_74, g_93_77, g_93_80, g_93_83, g_93_84, g_93_85, g_93_86, g_93_89, g_93_92, g_93_93, g_93_95, g_93_98, g_93_101, g_93_104, g_93_105, g_93_108, g_93_111, g_93_114, g_93_115, g_93_118, g_93_119, g_93_122, g_93_125, g_93_128, g_93_129, g_93_132, g_93_133, qOb_some, kr_v, kr_n, qinv_i, qinv_r, qinv_0, Nat.reduceAdd, List.getElem?_cons_zero, List.getElem?_cons_succ, List.set_cons_zero, List.set_cons_succ, List.length_cons, List.length_nil, not_true_eq_false, not_false_eq_true, false_implies, true_implies, and_true, true_and, and_false, false_and, if_true, if_false, forall_const, or_true, true_or, false_or, or_false, i10, Bool.false_eq_true, hget hH1, ho_2, ho_6, qget_of hA1.1, qcls_of hA1.2.1, s_cells hA1.2.1, Int32.le_refl, qcls_of hP1.1, s_isFitting hT1 hk hA1.2.1 hD hP1 htl, bI_0]
    by_cases hf : fitP T w h (dgt T.n num)
    · have e1 : (cB (fitP T w h (dgt T.n num)) = true) := cB_iff.mpr hf
      simp only [e1, not_true_eq_false, not_false_eq_true, false_implies, true_implies, and_true, true_and, and_false, false_and, if_true, if_false, forall_const, or_true, true_or, false_or, or_false, i10, Bool.false_eq_true, hget hH1, ho_6, ho_1, g_93_0, g_93_1, g_93_2, g_93_3, g_93_5, g_93_6, g_93_9, g_93_12, g_93_15, g_93_18, g_93_19, g_93_22, g_93_25, g_93_28, g_93_29, g_93_30, g_93_33, g_93_36, g_93_37, g_93_40, g_93_41, g_93_43, g_93_44, g_93_47, g_93_50, g_93_53, g_93_54, g_93_55, g_93_58, g_93_61, g_93_62, g_93_65, g_93_66, g_93_67, g_93_69, g_93_70, g_93_73, g_93_74, g_93_77, g_93_80, g_93_83, g_93_84, g_93_85, g_93_86, g_93_89, g_93_92, g_93_93, g_93_95, g_93_98, g_93_101, g_93_104, g_93_105, g_93_108, g_93_111, g_93_114, g_93_115, g_93_118, g_93_119, g_93_122, g_93_125, g_93_128, g_93_129, g_93_132, g_93_133, qOb_some, kr_v, kr_n, qinv_i, qinv_r, qinv_0, Nat.reduceAdd, List.getElem?_cons_zero, List.getElem?_cons_succ, List.set_cons_zero, List.set_cons_succ, List.length_cons, List.length_nil, qcls_of hP1.1]
      refine s_holds hT1 hk hA1.2.1 hD (by omega) (by omega) hP1 htl (hWi.fr a1 (by omega)) hwo (by omega) (fun M2 b b1 b2 b3 => ?_)
      have := hQ M2 b ((a1.mono (by omega) (by omega)).trans (b1.mono (by omega) (by omega))) ⟨_, b2⟩ (b3.trans ⟨fun q => ⟨a3, hf, q⟩, fun q => q.2.2⟩)
      cases b with
      | true =>
        simp only [g_93_0, g_93_1, g_93_2, g_93_3, g_93_5, g_93_6, g_93_9, g_93_12, g_93_15, g_93_18, g_93_19, g_93_22, g_93_25, g_93_28, g_93_29, g_93_30, g_93_33, g_93_36, g_93_37, g_93_40, g_93_41, g_93_43, g_93_44, g_93_47, g_93_50, g_93_53, g_93_54, g_93_55, g_93_58, g_93_61, g_93_62, g_93_65, g_93_66, g_93_67, g_93_69, g_93_70, g_93_73, g_93_74, g_93_77, g_93_80, g_93_83, g_93_84, g_93_85, g_93_86, g_93_89, g_93_92, g_93_93, g_93_95, g_93_98, g_93_101, g_93_104, g_93_105, g_93_108, g_93_111, g_93_114, g_93_115, g_93_118, g_93_119, g_93_122, g_93_125, g_93_128, g_93_129, g_93_132, g_93_133, qOb_some, kr_v, kr_n, qinv_i, qinv_r, qinv_0, Nat.reduceAdd, List.getElem?_cons_zero, List.getElem?_cons_succ, List.set_cons_zero, List.set_cons_succ, List.length_cons, List.length_nil, bI, not_true_eq_false, not_false_eq_true, false_implies, true_implies, and_true, true_and, and_false, false_and, if_true, if_false, forall_const, or_true, true_or, false_or, or_false, i10, Bool.false_eq_true] at this ⊢
        exact this
      | false =>
        simp only [g_93_0, g_93_1, g_93_2, g_93_3, g_93_5, g_93_6, g_93_9, g_93_12, g_93_15, g_93_18, g_93_19, g_93_22, g_93_25, g_93_28, g_93_29, g_93_30, g_93_33, g_93_36, g_93_37, g_93_40, g_93_41, g_93_43, g_93_44, g_93_47, g_93_50, g_93_53, g_93_54, g_93_55, g_93_58, g_93_61, g_93_62, g_93_65, g_93_66, g_93_67, g_93_69, g_93_70, g_93_73, g_93_74, g_93_77, g_93_80, g_93_83, g_93_84, g_93_85, g_93_86, g_93_89, g_93_92, g_93_93, g_93_95, g_93_98, g_93_101, g_93_104, g_93_105, g_93_108, g_93_111, g_93_114, g_93_115, g_93_118, g_93_119, g_93_122, g_93_125, g_93_128, g_93_129, g_93_132, g_93_133, qOb_some, kr_v, kr_n, qinv_i, qinv_r, qinv_0, Nat.reduceAdd, List.getElem?_cons_zero, List.getElem?_cons_succ, List.set_cons_zero, List.set_cons_succ, List.length_cons, List.length_nil, bI, not_true_eq_false, not_false_eq_true, false_implies, true_implies, and_true, true_and, and_false, false_and, if_true, if_false, forall_const, or_true, true_or, false_or, or_false, i10, Bool.false_eq_true] at this ⊢
        exact this
    · have e1 : ¬ (cB (fitP T w h (dgt T.n num)) = true) := fun q => hf (cB_iff.mp q)
      have := hQ M1 false (a1.mono (by omega) (by omega)) ⟨_, hP1⟩ ⟨fun q => (by cases q), fun q => absurd q.2.1 hf⟩
      simp only [e1, bI, not_true_eq_false, not_false_eq_true, false_implies, true_implies, and_true, true_and, and_false, false_and, if_true, if_false, forall_const, or_true, true_or, false_or, or_false, i10, Bool.false_eq_true] at this ⊢
      exact this
  · rintro c ⟨M1, l4⟩ hc ⟨a1, ⟨f, a2, a2v⟩, a3⟩ ih
    have hH1 := hH.fr a1 (by omega)
    have hA1 := hA.fr a1 (by omega)
    have hT1 := hT.fr a1 (by omega)
    have p11 := (a1 56 (by omega)).trans p1
    have hrl := rst_le (n := T.n) (num := num) (k := c)
    have hd : dgt T.n num c < T.n := Nat.mod_lt _ hn
    have hpm := (possM_pn hW).msk hk c hc
    have e1 : nI (rst T.n num c) - nI (rst T.n num c) / nI T.n * nI T.n = nI (dgt T.n num c) := pk_rem (by omega) hn (by omega)
    have e2 : nI (rst T.n num c) / nI T.n = nI (rst T.n num (c + 1)) := pk_div (by omega) hn (by omega)
    have e3 : nI (rst T.n num c) - nI (rst T.n num (c + 1)) * nI T.n = nI (dgt T.n num c) := by rw [← e2]; exact e1
    rw [g_93_4]
    simp only [g_93_0, g_93_1, g_93_2, g_93_3, g_93_5, g_93_6, g_93_9, g_93_12, g_93_15, g_93_18, g_93_19, g_93_22, g_93_25, g_93_28, g_93_29, g_93_30, g_93_33, g_93_36, g_93_37, g_93_40, g_93_41, g_93_43, g_93_44, g_93_47, g_93_50, g_93_53, g_93_54, g_93_55, g_93_58, g_93_61, g_93_62, g_93_65, g_93_66, g_93_67, g_93_69, g_93_70, g_93_73, g_93_74, g_93_77, g_93_80, g_93_83, g_93_84, g_93_85, g_93_86, g_93_89, g_93_92, g_93_93, g_93_95, g_93_98, g_93_101, g_93_104, g_93_105, g_93_108, g_93_111, g_93_114, g_93_115, g_93_118, g_93_119, g_93_122, g_93_125, g_93_128, g_93_129, g_93_132, g_93_133, qOb_some, kr_v, kr_n, qinv_i, qinv_r, qinv_0, Nat.reduceAdd, List.getElem?_cons_zero, List.getElem?_cons_succ, List.set_cons_zero, List.set_cons_succ, List.length_cons, List.length_nil, not_true_eq_false, not_false_eq_true, false_implies, true_implies, and_true, true_and, and_false, false_and, if_true, if_false, forall_const, or_true, true_or, false_or, or_false, i10, Bool.false_eq_true, hget hH1, ho_2, ho_0, ho_6, qget_of hA1.1, qcls_of hA1.2.1, s_cells hA1.2.1, nI_ge hc (show w * h < 2 ^ 31 by omega), qget_of hT1.1, hn0, hn1, e2, e3, qcls_of hA1.1, s_possibleIn hT1 hk hA1 hW hc, s_isOneOf (show dgt T.n num c < 8 by omega) hpm, bI_0, qget_of p11, a2.cls]
    by_cases u : (possM T F B c).testBit (dgt T.n num c) = true
    · simp only [u, not_true_eq_false, not_false_eq_true, false_implies, true_implies, and_true, true_and, and_false, false_and, if_true, if_false, forall_const, or_true, true_or, false_or, or_false, i10, Bool.false_eq_true, hget hH1, ho_6, qget_of p11, a2.cls, g_93_0, g_93_1, g_93_2, g_93_3, g_93_5, g_93_6, g_93_9, g_93_12, g_93_15, g_93_18, g_93_19, g_93_22, g_93_25, g_93_28, g_93_29, g_93_30, g_93_33, g_93_36, g_93_37, g_93_40, g_93_41, g_93_43, g_93_44, g_93_47, g_93_50, g_93_53, g_93_54, g_93_55, g_93_58, g_93_61, g_93_62, g_93_65, g_93_66, g_93_67, g_93_69, g_93_70, g_93_73, g_93_74, g_93_77, g_93_80, g_93_83, g_93_84, g_93_85, g_93_86, g_93_89, g_93_92, g_93_93, g_93_95, g_93_98, g_93_101, g_93_104, g_93_105, g_93_108, g_93_111, g_93_114, g_93_115, g_93_118, g_93_119, g_93_122, g_93_125, g_93_128, g_93_129, g_93_132, g_93_133, qOb_some, kr_v, kr_n, qinv_i, qinv_r, qinv_0, Nat.reduceAdd, List.getElem?_cons_zero, List.getElem?_cons_succ, List.set_cons_zero, List.set_cons_succ, List.length_cons, List.length_nil]
      refine s_setF a2 (by decide) (show c < 36 by omega) (fun M2 b1 b2 => ?_)
      simp only [g_93_0, g_93_1, g_93_2, g_93_3, g_93_5, g_93_6, g_93_9, g_93_12, g_93_15, g_93_18, g_93_19, g_93_22, g_93_25, g_93_28, g_93_29, g_93_30, g_93_33, g_93_36, g_93_37, g_93_40, g_93_41, g_93_43, g_93_44, g_93_47, g_93_50, g_93_53, g_93_54, g_93_55, g_93_58, g_93_61, g_93_62, g_93_65, g_93_66, g_93_67, g_93_69, g_93_70, g_93_73, g_93_74, g_93_77, g_93_80, g_93_83, g_93_84, g_93_85, g_93_86, g_93_89, g_93_92, g_93_93, g_93_95, g_93_98, g_93_101, g_93_104, g_93_105, g_93_108, g_93_111, g_93_114, g_93_115, g_93_118, g_93_119, g_93_122, g_93_125, g_93_128, g_93_129, g_93_132, g_93_133, qOb_some, kr_v, kr_n, qinv_i, qinv_r, qinv_0, Nat.reduceAdd, List.getElem?_cons_zero, List.getElem?_cons_succ, List.set_cons_zero, List.set_cons_succ, List.length_cons, List.length_nil, not_true_eq_false, not_false_eq_true, false_implies, true_implies, and_true, true_and, and_false, false_and, if_true, if_false, forall_const, or_true, true_or, false_or, or_false, i10, Bool.false_eq_true, nI_1]
      refine ih (M2, _) ⟨a1.trans (b1.mono (by omega) (by omega)), ⟨_, b2, fun k hk2 => ?_⟩, fun k hk2 => ?_⟩
      · by_cases e : k = c
        · rw [e, upd_s]
        · rw [upd_n e]; exact a2v k (by omega)
      · by_cases e : k = c
        · subst e; exact u
        · exact a3 k (by omega)
    · obtain ⟨tl, hP2⟩ : ∃ tl, PlaAt M1 56 12 (w * h) tl := by
        obtain ⟨tl, q⟩ := (show PlaAt M1 56 12 0 (fun _ => 0) from ⟨p11, ⟨f, a2, fun k hk2 => absurd hk2 (Nat.not_lt_zero _)⟩, ⟨f4, p4.fr a1 (by omega)⟩, ⟨f5, p5.fr a1 (by omega)⟩, ⟨f6, p6.fr a1 (by omega)⟩⟩).any (w * h)
        exact ⟨tl, q⟩
      have := hQ M1 false (a1.mono (by omega) (by omega)) ⟨tl, hP2⟩ ⟨fun q => (by cases q), fun q => absurd (q.1 c hc) u⟩
      simp only [u, bI, not_true_eq_false, not_false_eq_true, false_implies, true_implies, and_true, true_and, and_false, false_and, if_true, if_false, forall_const, or_true, true_or, false_or, or_false, i10, Bool.false_eq_true] at this ⊢
      exact this
theorem s_ways {M : qM} {sd fd : Int32} {T : TS} {w h : Nat} {F : Nat → Option Nat} {B : Nat → Nat} {wo : Nat → Option Nat} {road : Bool} {tl0 : Nat → Nat} {Q : qR → qM → Prop} (hH : HObj M sd fd) (hT : TilesAt M T) (hk : TOk T) (hA : WorldAt M w h F B) (hW : WOk T w h F B) (hP : PlaAt M 56 12 (w * h) tl0) (hWi : WishAt M 8 (fun t => nbI (wo t)) road) (hwo : ∀ t m, wo t = some m → m < 1000)
    (hE : 4 < w * h → Q (.inr 4) M) (hQ : w * h ≤ 4 → ∀ M', Fr 56 65 M M' → (∃ tl, PlaAt M' 56 12 (w * h) tl) → Q (.inl (some (.int (nI (nways T w h wo road (possM T F B)))))) M') : cl 77 [.ref 0] M Q := by
  have hD := hW.1
  have hN := hD.le
  have h8 := hk.1
  rw [e_77]
  simp only [g_77_0, g_77_1, g_77_4, g_77_7, g_77_10, g_77_11, g_77_14, g_77_24, g_77_25, g_77_26, g_77_27, g_77_29, g_77_30, g_77_33, g_77_36, g_77_39, g_77_42, g_77_43, g_77_44, g_77_47, g_77_50, g_77_51, g_77_52, g_77_55, g_77_58, g_77_59, g_77_60, g_77_61, g_77_63, g_77_64, g_77_67, g_77_68, g_77_69, g_77_72, g_77_75, g_77_78, g_77_81, g_77_84, g_77_85, qOb_some, kr_v, kr_n, qinv_i, qinv_r, qinv_0, Nat.reduceAdd, List.getElem?_cons_zero, List.getElem?_cons_succ, List.set_cons_zero, List.set_cons_succ, List.length_cons, List.length_nil, not_true_eq_false, not_false_eq_true, false_implies, true_implies, and_true, true_and, and_false, false_and, if_true, if_false, forall_const, or_true, true_or, false_or, or_false, i10, Bool.false_eq_true, hget hH, ho_2, qget_of hA.1, qcls_of hA.2.1, s_cells hA.2.1, show (4 : Int32) = nI 4 from rfl, nI_leI (show w * h < 2 ^ 31 by omega) (show 4 < 2 ^ 31 by decide)]
  by_cases hle : w * h ≤ 4
  · simp only [hle, not_true_eq_false, not_false_eq_true, false_implies, true_implies, and_true, true_and, and_false, false_and, if_true, if_false, forall_const, or_true, true_or, false_or, or_false, i10, Bool.false_eq_true]
    refine upto (N := w * h) (I := fun _ _ => True) (G := fun c (_ : Unit) => g 77 28 [some (.ref 0), some (.int (nI (T.n ^ c))), some (.int (nI c)), none] [] M 0 0 Q) ?_ ?_ 0 () (Nat.zero_le _) trivial
    · intro _ _
      have htr := tries_le hk hle
      rw [g_77_28]
      simp only [g_77_0, g_77_1, g_77_4, g_77_7, g_77_10, g_77_11, g_77_14, g_77_24, g_77_25, g_77_26, g_77_27, g_77_29, g_77_30, g_77_33, g_77_36, g_77_39, g_77_42, g_77_43, g_77_44, g_77_47, g_77_50, g_77_51, g_77_52, g_77_55, g_77_58, g_77_59, g_77_60, g_77_61, g_77_63, g_77_64, g_77_67, g_77_68, g_77_69, g_77_72, g_77_75, g_77_78, g_77_81, g_77_84, g_77_85, qOb_some, kr_v, kr_n, qinv_i, qinv_r, qinv_0, Nat.reduceAdd, List.getElem?_cons_zero, List.getElem?_cons_succ, List.set_cons_zero, List.set_cons_succ, List.length_cons, List.length_nil, not_true_eq_false, not_false_eq_true, false_implies, true_implies, and_true, true_and, and_false, false_and, if_true, if_false, forall_const, or_true, true_or, false_or, or_false, i10, Bool.false_eq_true, hget hH, ho_2, qget_of hA.1, qcls_of hA.2.1, s_cells hA.2.1, Int32.le_refl]
      refine upto (N := T.n ^ (w * h)) (I := fun _ M' => Fr 56 65 M M' ∧ ∃ tl, PlaAt M' 56 12 (w * h) tl) (G := fun k M' => g 77 62 [some (.ref 0), some (.int (nI (T.n ^ (w * h)))), some (.int (nI (cntB (fun num => cB (wayP T w h wo road (possM T F B) num)) k))), some (.int (nI k))] [] M' 0 0 Q) ?_ ?_ 0 M (Nat.zero_le _) ⟨Fr.refl, tl0, hP⟩
      · rintro M1 ⟨a1, a2⟩
        rw [g_77_62]
        simp only [g_77_0, g_77_1, g_77_4, g_77_7, g_77_10, g_77_11, g_77_14, g_77_24, g_77_25, g_77_26, g_77_27, g_77_29, g_77_30, g_77_33, g_77_36, g_77_39, g_77_42, g_77_43, g_77_44, g_77_47, g_77_50, g_77_51, g_77_52, g_77_55, g_77_58, g_77_59, g_77_60, g_77_61, g_77_63, g_77_64, g_77_67, g_77_68, g_77_69, g_77_72, g_77_75, g_77_78, g_77_81, g_77_84, g_77_85, qOb_some, kr_v, kr_n, qinv_i, qinv_r, qinv_0, Nat.reduceAdd, List.getElem?_cons_zero, List.getElem?_cons_succ, List.set_cons_zero, List.set_cons_succ, List.length_cons, List.length_nil, not_true_eq_false, not_false_eq_true, false_implies, true_implies, and_true, true_and, and_false, false_and, if_true, if_false, forall_const, or_true, true_or, false_or, or_false, i10, Bool.false_eq_true, Int32.le_refl]
        exact hQ hle M1 a1 a2
      · rintro k M1 hk2 ⟨a1, tl, a2⟩ ih
        have hn : 0 < T.n := by
          rcases Nat.eq_zero_or_pos T.n with q | q
          · rw [q, Nat.zero_pow hD.pos] at hk2
            exact absurd hk2 (Nat.not_lt_zero _)
          · exact q
        have hH1 := hH.fr a1 (by omega)
        rw [g_77_62]
        simp only [g_77_0, g_77_1, g_77_4, g_77_7, g_77_10, g_77_11, g_77_14, g_77_24, g_77_25, g_77_26, g_77_27, g_77_29, g_77_30, g_77_33, g_77_36, g_77_39, g_77_42, g_77_43, g_77_44, g_77_47, g_77_50, g_77_51, g_77_52, g_77_55, g_77_58, g_77_59, g_77_60, g_77_61, g_77_63, g_77_64, g_77_67, g_77_68, g_77_69, g_77_72, g_77_75, g_77_78, g_77_81, g_77_84, g_77_85, qOb_some, kr_v, kr_n, qinv_i, qinv_r, qinv_0, Nat.reduceAdd, List.getElem?_cons_zero, List.getElem?_cons_succ, List.set_cons_zero, List.set_cons_succ, List.length_cons, List.length_nil, not_true_eq_false, not_false_eq_true, false_implies, true_implies, and_true, true_and, and_false, false_and, if_true, if_false, forall_const, or_true, true_or, false_or, or_false, i10, Bool.false_eq_true, nI_ge hk2 (show T.n ^ (w * h) < 2 ^ 31 by omega), hH1.cls]
        refine s_isWay hH1 (hT.fr a1 (by omega)) hk hn (hA.fr a1 (by omega)) hW a2 (hWi.fr a1 (by omega)) hwo (by omega) (fun M2 b b1 b2 b3 => ?_)
        have ih := ih M2 ⟨a1.trans b1, b2⟩
        rw [cntB] at ih
        have e : cB (wayP T w h wo road (possM T F B) k) = true ↔ b = true := cB_iff.trans b3.symm
        cases b with
        | true =>
          rw [if_pos (e.mpr rfl)] at ih
          simp only [g_77_0, g_77_1, g_77_4, g_77_7, g_77_10, g_77_11, g_77_14, g_77_24, g_77_25, g_77_26, g_77_27, g_77_29, g_77_30, g_77_33, g_77_36, g_77_39, g_77_42, g_77_43, g_77_44, g_77_47, g_77_50, g_77_51, g_77_52, g_77_55, g_77_58, g_77_59, g_77_60, g_77_61, g_77_63, g_77_64, g_77_67, g_77_68, g_77_69, g_77_72, g_77_75, g_77_78, g_77_81, g_77_84, g_77_85, qOb_some, kr_v, kr_n, qinv_i, qinv_r, qinv_0, Nat.reduceAdd, List.getElem?_cons_zero, List.getElem?_cons_succ, List.set_cons_zero, List.set_cons_succ, List.length_cons, List.length_nil, bI_0, not_true_eq_false, not_false_eq_true, false_implies, true_implies, and_true, true_and, and_false, false_and, if_true, if_false, forall_const, or_true, true_or, false_or, or_false, i10, Bool.false_eq_true, nI_1]
          exact ih
        | false =>
          rw [if_neg (fun q => by have := e.mp q; cases this), Nat.add_zero] at ih
          simp only [g_77_0, g_77_1, g_77_4, g_77_7, g_77_10, g_77_11, g_77_14, g_77_24, g_77_25, g_77_26, g_77_27, g_77_29, g_77_30, g_77_33, g_77_36, g_77_39, g_77_42, g_77_43, g_77_44, g_77_47, g_77_50, g_77_51, g_77_52, g_77_55, g_77_58, g_77_59, g_77_60, g_77_61, g_77_63, g_77_64, g_77_67, g_77_68, g_77_69, g_77_72, g_77_75, g_77_78, g_77_81, g_77_84, g_77_85, qOb_some, kr_v, kr_n, qinv_i, qinv_r, qinv_0, Nat.reduceAdd, List.getElem?_cons_zero, List.getElem?_cons_succ, List.set_cons_zero, List.set_cons_succ, List.length_cons, List.length_nil, bI_0, not_true_eq_false, not_false_eq_true, false_implies, true_implies, and_true, true_and, and_false, false_and, if_true, if_false, forall_const, or_true, true_or, false_or, or_false, i10, Bool.false_eq_true, nI_1]
          exact ih
    · intro c _ hc _ ih
      have ih := ih () trivial
      rw [Nat.pow_succ, ← pk_mul] at ih
      rw [g_77_28]
      simp only [g_77_0, g_77_1, g_77_4, g_77_7, g_77_10, g_77_11, g_77_14, g_77_24, g_77_25, g_77_26, g_77_27, g_77_29, g_77_30, g_77_33, g_77_36, g_77_39, g_77_42, g_77_43, g_77_44, g_77_47, g_77_50, g_77_51, g_77_52, g_77_55, g_77_58, g_77_59, g_77_60, g_77_61, g_77_63, g_77_64, g_77_67, g_77_68, g_77_69, g_77_72, g_77_75, g_77_78, g_77_81, g_77_84, g_77_85, qOb_some, kr_v, kr_n, qinv_i, qinv_r, qinv_0, Nat.reduceAdd, List.getElem?_cons_zero, List.getElem?_cons_succ, List.set_cons_zero, List.set_cons_succ, List.length_cons, List.length_nil, not_true_eq_false, not_false_eq_true, false_implies, true_implies, and_true, true_and, and_false, false_and, if_true, if_false, forall_const, or_true, true_or, false_or, or_false, i10, Bool.false_eq_true, hget hH, ho_2, ho_0, qget_of hA.1, qcls_of hA.2.1, s_cells hA.2.1, nI_ge hc (show w * h < 2 ^ 31 by omega), qget_of hT.1, nI_1]
      exact ih
  · simp only [hle, not_true_eq_false, not_false_eq_true, false_implies, true_implies, and_true, true_and, and_false, false_and, if_true, if_false, forall_const, or_true, true_or, false_or, or_false, i10, Bool.false_eq_true]
    exact hE (by omega)
