/-! is all sound; the figures -/
theorem s_bothWays {M : qM} {T : TS} {sd w h : Nat} {F : Nat → Option Nat} {B : Nat → Nat} {wo : Nat → Option Nat} {rd fd : Bool} {tl : Nat → Nat} {gs tk n : Nat} {cx cy : Nat → Int32} {ce : Nat → Nat} {ct : Nat → Nat → Nat} {Q : qR → qM → Prop} (hI : InvC M T sd w h F B wo rd fd tl gs tk n cx cy ce ct) (hS : SOk T sd w h F B wo rd fd tl gs tk n cx cy ce ct) (hQ : ∀ M', KC M M' → InvC M' T sd w h F B wo rd fd tl gs tk n cx cy ce ct → Q (.inl (some (.int 1))) M') : cl 98 [.ref 0] M Q := by
  have hN := hS.2.1.1.le
  have i1 := hI.1
  have i2 := hI.2.1
  have i4 := hI.2.2.2.1
  have i5 := hI.2.2.2.2.1
  have i6 := hI.2.2.2.2.2.1
  rw [e_98]
  simp only [g_98_0, g_98_1, g_98_4, g_98_5, g_98_8, g_98_11, g_98_12, g_98_15, g_98_18, g_98_19, g_98_22, g_98_23, g_98_26, g_98_29, g_98_30, g_98_33, g_98_36, g_98_37, g_98_39, g_98_40, g_98_43, g_98_46, g_98_49, g_98_52, g_98_53, g_98_56, g_98_59, g_98_60, g_98_63, g_98_64, g_98_67, g_98_70, g_98_71, g_98_74, g_98_77, g_98_78, g_98_79, g_98_82, g_98_85, g_98_86, qOb_some, kr_v, kr_n, qinv_i, qinv_r, qinv_0, Nat.reduceAdd, List.getElem?_cons_zero, List.getElem?_cons_succ, List.set_cons_zero, List.set_cons_succ, List.length_cons, List.length_nil, not_true_eq_false, not_false_eq_true, false_implies, true_implies, and_true, true_and, and_false, false_and, if_true, if_false, forall_const, or_true, true_or, false_or, or_false, i10, Bool.false_eq_true, hget i1, ho_2, ho_3, qcls_of i4.1]
  refine s_putInto i2 hS.1 i4 hS.2.1 (by decide) i5 (fun M1 p1 fl1 st1 wt1 a1 a2 a3 a4 => ?_)
  have i11 := i1.fr a1 (by omega)
  simp only [g_98_0, g_98_1, g_98_4, g_98_5, g_98_8, g_98_11, g_98_12, g_98_15, g_98_18, g_98_19, g_98_22, g_98_23, g_98_26, g_98_29, g_98_30, g_98_33, g_98_36, g_98_37, g_98_39, g_98_40, g_98_43, g_98_46, g_98_49, g_98_52, g_98_53, g_98_56, g_98_59, g_98_60, g_98_63, g_98_64, g_98_67, g_98_70, g_98_71, g_98_74, g_98_77, g_98_78, g_98_79, g_98_82, g_98_85, g_98_86, qOb_some, kr_v, kr_n, qinv_i, qinv_r, qinv_0, Nat.reduceAdd, List.getElem?_cons_zero, List.getElem?_cons_succ, List.set_cons_zero, List.set_cons_succ, List.length_cons, List.length_nil, not_true_eq_false, not_false_eq_true, false_implies, true_implies, and_true, true_and, and_false, false_and, if_true, if_false, forall_const, or_true, true_or, false_or, or_false, i10, Bool.false_eq_true, hget i11, ho_3, qcls_of a2.1]
  refine s_narrowP (i2.fr a1 (by omega)) hS.1 (i4.2.1.fr a1 (by omega)) hS.2.1.1 (by decide) (by decide) a2 a3 a4 (possM_pn hS.2.1) (fun M2 b1 b2 => ?_)
  have i12 := i11.fr b1 (by omega)
  have I2 := hI.n1 (a1.trans b1) b2.idle
  have i42 := I2.2.2.2.1
  simp only [g_98_0, g_98_1, g_98_4, g_98_5, g_98_8, g_98_11, g_98_12, g_98_15, g_98_18, g_98_19, g_98_22, g_98_23, g_98_26, g_98_29, g_98_30, g_98_33, g_98_36, g_98_37, g_98_39, g_98_40, g_98_43, g_98_46, g_98_49, g_98_52, g_98_53, g_98_56, g_98_59, g_98_60, g_98_63, g_98_64, g_98_67, g_98_70, g_98_71, g_98_74, g_98_77, g_98_78, g_98_79, g_98_82, g_98_85, g_98_86, qOb_some, kr_v, kr_n, qinv_i, qinv_r, qinv_0, Nat.reduceAdd, List.getElem?_cons_zero, List.getElem?_cons_succ, List.set_cons_zero, List.set_cons_succ, List.length_cons, List.length_nil, not_true_eq_false, not_false_eq_true, false_implies, true_implies, and_true, true_and, and_false, false_and, if_true, if_false, forall_const, or_true, true_or, false_or, or_false, i10, Bool.false_eq_true, hget i12, ho_2, ho_4, qcls_of i42.1]
  refine s_putInto I2.2.1 hS.1 i42 hS.2.1 (by decide) I2.2.2.2.2.2.1 (fun M3 p3 fl3 st3 wt3 c1 c2 c3 c4 => ?_)
  have i13 := i12.fr c1 (by omega)
  simp only [g_98_0, g_98_1, g_98_4, g_98_5, g_98_8, g_98_11, g_98_12, g_98_15, g_98_18, g_98_19, g_98_22, g_98_23, g_98_26, g_98_29, g_98_30, g_98_33, g_98_36, g_98_37, g_98_39, g_98_40, g_98_43, g_98_46, g_98_49, g_98_52, g_98_53, g_98_56, g_98_59, g_98_60, g_98_63, g_98_64, g_98_67, g_98_70, g_98_71, g_98_74, g_98_77, g_98_78, g_98_79, g_98_82, g_98_85, g_98_86, qOb_some, kr_v, kr_n, qinv_i, qinv_r, qinv_0, Nat.reduceAdd, List.getElem?_cons_zero, List.getElem?_cons_succ, List.set_cons_zero, List.set_cons_succ, List.length_cons, List.length_nil, not_true_eq_false, not_false_eq_true, false_implies, true_implies, and_true, true_and, and_false, false_and, if_true, if_false, forall_const, or_true, true_or, false_or, or_false, i10, Bool.false_eq_true, hget i13, ho_4, qcls_of c2.1]
  refine s_sweepsP (I2.2.1.fr c1 (by omega)) hS.1 (i42.2.1.fr c1 (by omega)) hS.2.1.1 (by decide) (by decide) c2 c4 (possM_pn hS.2.1) (fun M4 d1 d2 => ?_)
  have i14 := i13.fr d1 (by omega)
  have i44 := (i42.fr c1 (by omega)).fr d1 (by omega)
  have b24 := (b2.fr c1 (by omega)).fr d1 (by omega)
  obtain ⟨g1, ⟨ft, g2, g3⟩⟩ := b24.g
  obtain ⟨e1, ⟨fu2, e2, e3⟩⟩ := d2.g
  simp only [g_98_0, g_98_1, g_98_4, g_98_5, g_98_8, g_98_11, g_98_12, g_98_15, g_98_18, g_98_19, g_98_22, g_98_23, g_98_26, g_98_29, g_98_30, g_98_33, g_98_36, g_98_37, g_98_39, g_98_40, g_98_43, g_98_46, g_98_49, g_98_52, g_98_53, g_98_56, g_98_59, g_98_60, g_98_63, g_98_64, g_98_67, g_98_70, g_98_71, g_98_74, g_98_77, g_98_78, g_98_79, g_98_82, g_98_85, g_98_86, qOb_some, kr_v, kr_n, qinv_i, qinv_r, qinv_0, Nat.reduceAdd, List.getElem?_cons_zero, List.getElem?_cons_succ, List.set_cons_zero, List.set_cons_succ, List.length_cons, List.length_nil, not_true_eq_false, not_false_eq_true, false_implies, true_implies, and_true, true_and, and_false, false_and, if_true, if_false, forall_const, or_true, true_or, false_or, or_false, i10, Bool.false_eq_true]
  refine upto (N := w * h) (I := fun _ _ => True) (G := fun c (_ : Unit) => g 98 38 [some (.ref 0), some (.int (nI c))] [] M4 0 0 Q) ?_ ?_ 0 () (Nat.zero_le _) trivial
  · intro _ _
    rw [g_98_38]
    simp only [g_98_0, g_98_1, g_98_4, g_98_5, g_98_8, g_98_11, g_98_12, g_98_15, g_98_18, g_98_19, g_98_22, g_98_23, g_98_26, g_98_29, g_98_30, g_98_33, g_98_36, g_98_37, g_98_39, g_98_40, g_98_43, g_98_46, g_98_49, g_98_52, g_98_53, g_98_56, g_98_59, g_98_60, g_98_63, g_98_64, g_98_67, g_98_70, g_98_71, g_98_74, g_98_77, g_98_78, g_98_79, g_98_82, g_98_85, g_98_86, qOb_some, kr_v, kr_n, qinv_i, qinv_r, qinv_0, Nat.reduceAdd, List.getElem?_cons_zero, List.getElem?_cons_succ, List.set_cons_zero, List.set_cons_succ, List.length_cons, List.length_nil, not_true_eq_false, not_false_eq_true, false_implies, true_implies, and_true, true_and, and_false, false_and, if_true, if_false, forall_const, or_true, true_or, false_or, or_false, i10, Bool.false_eq_true, hget i14, ho_2, qget_of i44.1, qcls_of i44.2.1, s_cells i44.2.1, Int32.le_refl]
    exact hQ M4 (fun b q => (d1 b (by omega)).trans ((c1 b (by omega)).trans ((b1 b (by omega)).trans (a1 b (by omega))))) (I2.n2 (c1.trans d1) d2.idle)
  · intro c _ hc _ ih
    have ih := ih () trivial
    rw [g_98_38]
    simp only [g_98_0, g_98_1, g_98_4, g_98_5, g_98_8, g_98_11, g_98_12, g_98_15, g_98_18, g_98_19, g_98_22, g_98_23, g_98_26, g_98_29, g_98_30, g_98_33, g_98_36, g_98_37, g_98_39, g_98_40, g_98_43, g_98_46, g_98_49, g_98_52, g_98_53, g_98_56, g_98_59, g_98_60, g_98_63, g_98_64, g_98_67, g_98_70, g_98_71, g_98_74, g_98_77, g_98_78, g_98_79, g_98_82, g_98_85, g_98_86, qOb_some, kr_v, kr_n, qinv_i, qinv_r, qinv_0, Nat.reduceAdd, List.getElem?_cons_zero, List.getElem?_cons_succ, List.set_cons_zero, List.set_cons_succ, List.length_cons, List.length_nil, not_true_eq_false, not_false_eq_true, false_implies, true_implies, and_true, true_and, and_false, false_and, if_true, if_false, forall_const, or_true, true_or, false_or, or_false, i10, Bool.false_eq_true, hget i14, ho_2, ho_3, ho_4, qget_of i44.1, qcls_of i44.2.1, s_cells i44.2.1, nI_ge hc (show w * h < 2 ^ 31 by omega), qget_of g1, g2.cls, s_get g2 (show 36 < 2147483648 by decide), qget_of e1, e2.cls, s_get e2 (show 36 < 2147483648 by decide), rget_nI (show c < 36 by omega) (show 36 < 2147483648 by decide), g3 c hc, e3 c hc, nI_1]
    exact ih
theorem s_one {M : qM} {a : Int32} {Q : qR → qM → Prop} : cl 88 [.int a, .int (-1), .int 1] M Q ↔ Q (.inl (some (.int (bI (-1 ≤ a ∧ a ≤ 1))))) M := s_isFromTo
theorem s_nearSame {M : qM} {T : TS} {sd w h : Nat} {F : Nat → Option Nat} {B : Nat → Nat} {wo : Nat → Option Nat} {rd fd : Bool} {tl : Nat → Nat} {gs tk n : Nat} {cx cy : Nat → Int32} {ce : Nat → Nat} {ct : Nat → Nat → Nat} {Q : qR → qM → Prop} (hI : InvC M T sd w h F B wo rd fd tl gs tk n cx cy ce ct) (hS : SOk T sd w h F B wo rd fd tl gs tk n cx cy ce ct) (hQ : ∀ M', KC M M' → InvC M' T sd w h F B wo rd fd tl gs tk n cx cy ce ct → Q (.inl (some (.int 1))) M') : cl 99 [.ref 0] M Q := by
  have hn := hS.2.2.2.2.2.1
  rw [e_99]
  simp only [g_99_0, g_99_1, g_99_3, g_99_4, g_99_7, g_99_10, g_99_13, g_99_14, g_99_17, g_99_20, g_99_21, g_99_22, g_99_23, g_99_26, g_99_27, g_99_28, g_99_31, g_99_34, g_99_35, g_99_36, g_99_37, g_99_38, g_99_39, g_99_42, g_99_43, g_99_44, g_99_45, g_99_46, g_99_49, g_99_52, g_99_53, g_99_54, g_99_55, g_99_58, g_99_61, g_99_62, g_99_63, g_99_64, g_99_67, g_99_68, g_99_71, g_99_72, g_99_73, g_99_74, g_99_77, g_99_79, g_99_82, g_99_84, g_99_85, g_99_88, g_99_89, g_99_91, g_99_92, g_99_95, g_99_98, g_99_101, g_99_104, g_99_105, g_99_106, g_99_109, g_99_112, g_99_113, qOb_some, kr_v, kr_n, qinv_i, qinv_r, qinv_0, Nat.reduceAdd, List.getElem?_cons_zero, List.getElem?_cons_succ, List.set_cons_zero, List.set_cons_succ, List.length_cons, List.length_nil]
  refine upto (N := n) (I := fun _ (z : qM × Option Value × Option Value × Option Value) => KC M z.1 ∧ InvC z.1 T sd w h F B wo rd fd tl gs tk n cx cy ce ct) (G := fun k (z : qM × Option Value × Option Value × Option Value) => g 99 2 [some (.ref 0), some (.int (nI k)), z.2.1, z.2.2.1, z.2.2.2] [] z.1 0 0 Q) ?_ ?_ 0 (M, none, none, none) (Nat.zero_le _) ⟨KC.refl, hI⟩
  · rintro ⟨M1, l2, l3, l4⟩ ⟨a1, a2⟩
    have i1 := a2.1
    have i10 := a2.2.2.2.2.2.2.2.2.2
    rw [g_99_2]
    simp only [g_99_0, g_99_1, g_99_3, g_99_4, g_99_7, g_99_10, g_99_13, g_99_14, g_99_17, g_99_20, g_99_21, g_99_22, g_99_23, g_99_26, g_99_27, g_99_28, g_99_31, g_99_34, g_99_35, g_99_36, g_99_37, g_99_38, g_99_39, g_99_42, g_99_43, g_99_44, g_99_45, g_99_46, g_99_49, g_99_52, g_99_53, g_99_54, g_99_55, g_99_58, g_99_61, g_99_62, g_99_63, g_99_64, g_99_67, g_99_68, g_99_71, g_99_72, g_99_73, g_99_74, g_99_77, g_99_79, g_99_82, g_99_84, g_99_85, g_99_88, g_99_89, g_99_91, g_99_92, g_99_95, g_99_98, g_99_101, g_99_104, g_99_105, g_99_106, g_99_109, g_99_112, g_99_113, qOb_some, kr_v, kr_n, qinv_i, qinv_r, qinv_0, Nat.reduceAdd, List.getElem?_cons_zero, List.getElem?_cons_succ, List.set_cons_zero, List.set_cons_succ, List.length_cons, List.length_nil, not_true_eq_false, not_false_eq_true, false_implies, true_implies, and_true, true_and, and_false, false_and, if_true, if_false, forall_const, or_true, true_or, false_or, or_false, i10, Bool.false_eq_true, hget i1, ho_9, qget_of i10.1, Int32.le_refl]
    exact hQ M1 a1 a2
  · rintro k ⟨M1, l2, l3, l4⟩ hk ⟨a1, a2⟩ ih
    have a20 := a2
    obtain ⟨i1, i2, i3, i4, i5, i6, i7, i8, ⟨j0, ⟨n0, s0, g0, k0, j1⟩, j2, j3, ⟨t0, j4⟩, j5⟩, i10⟩ := a2
    have i100 := i10
    obtain ⟨h1, ⟨f, r1, v1⟩, -, -⟩ := i10
    obtain ⟨va, vb⟩ := v1 k hk
    rw [g_99_2]
    simp only [g_99_0, g_99_1, g_99_3, g_99_4, g_99_7, g_99_10, g_99_13, g_99_14, g_99_17, g_99_20, g_99_21, g_99_22, g_99_23, g_99_26, g_99_27, g_99_28, g_99_31, g_99_34, g_99_35, g_99_36, g_99_37, g_99_38, g_99_39, g_99_42, g_99_43, g_99_44, g_99_45, g_99_46, g_99_49, g_99_52, g_99_53, g_99_54, g_99_55, g_99_58, g_99_61, g_99_62, g_99_63, g_99_64, g_99_67, g_99_68, g_99_71, g_99_72, g_99_73, g_99_74, g_99_77, g_99_79, g_99_82, g_99_84, g_99_85, g_99_88, g_99_89, g_99_91, g_99_92, g_99_95, g_99_98, g_99_101, g_99_104, g_99_105, g_99_106, g_99_109, g_99_112, g_99_113, qOb_some, kr_v, kr_n, qinv_i, qinv_r, qinv_0, Nat.reduceAdd, List.getElem?_cons_zero, List.getElem?_cons_succ, List.set_cons_zero, List.set_cons_succ, List.length_cons, List.length_nil, not_true_eq_false, not_false_eq_true, false_implies, true_implies, and_true, true_and, and_false, false_and, if_true, if_false, forall_const, or_true, true_or, false_or, or_false, i10, Bool.false_eq_true, hget i1, ho_9, qget_of h1, nI_ge hk (show n < 2 ^ 31 by omega), show (2 : Int32) = nI 2 from rfl, pk_mul, r1.cls, s_get r1 (show 60 < 2147483648 by decide), rget_nI (show 2 * k < 60 by omega) (show 60 < 2147483648 by decide), va, nI_1, rget_nI (show 2 * k + 1 < 60 by omega) (show 60 < 2147483648 by decide), vb, s_one, bI_0]
    by_cases u1 : -1 ≤ cx k ∧ cx k ≤ 1
    case neg =>
      simp only [eq_false u1, not_true_eq_false, not_false_eq_true, false_implies, true_implies, and_true, true_and, and_false, false_and, if_true, if_false, forall_const, or_true, true_or, false_or, or_false, i10, Bool.false_eq_true]
      exact ih (M1, _, _, _) ⟨a1, a20⟩
    by_cases u2 : -1 ≤ cy k ∧ cy k ≤ 1
    case neg =>
      simp only [eq_true u1, eq_false u2, not_true_eq_false, not_false_eq_true, false_implies, true_implies, and_true, true_and, and_false, false_and, if_true, if_false, forall_const, or_true, true_or, false_or, or_false, i10, Bool.false_eq_true]
      exact ih (M1, _, _, _) ⟨a1, a20⟩
    simp only [eq_true u1, eq_true u2, not_true_eq_false, not_false_eq_true, false_implies, true_implies, and_true, true_and, and_false, false_and, if_true, if_false, forall_const, or_true, true_or, false_or, or_false, i10, Bool.false_eq_true, i1.cls]
    refine s_putChunk i1 i2 hS.1 j0 j1 j2 (fun M2 p1 fl1 st1 wt1 b1 b2 b3 b4 => ?_)
    have i12 := i1.fr b1 (by omega)
    have j12 := j1.fr b1 (by omega)
    simp only [g_99_0, g_99_1, g_99_3, g_99_4, g_99_7, g_99_10, g_99_13, g_99_14, g_99_17, g_99_20, g_99_21, g_99_22, g_99_23, g_99_26, g_99_27, g_99_28, g_99_31, g_99_34, g_99_35, g_99_36, g_99_37, g_99_38, g_99_39, g_99_42, g_99_43, g_99_44, g_99_45, g_99_46, g_99_49, g_99_52, g_99_53, g_99_54, g_99_55, g_99_58, g_99_61, g_99_62, g_99_63, g_99_64, g_99_67, g_99_68, g_99_71, g_99_72, g_99_73, g_99_74, g_99_77, g_99_79, g_99_82, g_99_84, g_99_85, g_99_88, g_99_89, g_99_91, g_99_92, g_99_95, g_99_98, g_99_101, g_99_104, g_99_105, g_99_106, g_99_109, g_99_112, g_99_113, qOb_some, kr_v, kr_n, qinv_i, qinv_r, qinv_0, Nat.reduceAdd, List.getElem?_cons_zero, List.getElem?_cons_succ, List.set_cons_zero, List.set_cons_succ, List.length_cons, List.length_nil, not_true_eq_false, not_false_eq_true, false_implies, true_implies, and_true, true_and, and_false, false_and, if_true, if_false, forall_const, or_true, true_or, false_or, or_false, i10, Bool.false_eq_true, hget i12, ho_8, i12.cls, s_state i12, j12.cls]
    refine s_chunkRun (i2.fr b1 (by omega)) hS.1 (j0.fr b1 (by omega)) j12 (j3.fr b1 (by omega)) (j4.fr b1 (by omega)) (j5.fr b1 (by omega)) b2 b3 b4 (fun M3 c1 c2 c3 => ?_)
    obtain ⟨tl2, c4, c5⟩ := c3
    have i13 := i12.fr c1 (by omega)
    have i103 := (i100.fr b1 (by omega)).fr c1 (by omega)
    obtain ⟨n2, s2, g2, k2, j13⟩ := c2.2.1
    obtain ⟨o1, o2⟩ := hS.2.2.2.2.2.2.2 k hk
    have he : ce k = 100 ∨ ce k = 108 ∨ ce k = 110 := by rw [o1]; exact (chR_end hS.1).1
    rw [← o1]
    simp only [g_99_0, g_99_1, g_99_3, g_99_4, g_99_7, g_99_10, g_99_13, g_99_14, g_99_17, g_99_20, g_99_21, g_99_22, g_99_23, g_99_26, g_99_27, g_99_28, g_99_31, g_99_34, g_99_35, g_99_36, g_99_37, g_99_38, g_99_39, g_99_42, g_99_43, g_99_44, g_99_45, g_99_46, g_99_49, g_99_52, g_99_53, g_99_54, g_99_55, g_99_58, g_99_61, g_99_62, g_99_63, g_99_64, g_99_67, g_99_68, g_99_71, g_99_72, g_99_73, g_99_74, g_99_77, g_99_79, g_99_82, g_99_84, g_99_85, g_99_88, g_99_89, g_99_91, g_99_92, g_99_95, g_99_98, g_99_101, g_99_104, g_99_105, g_99_106, g_99_109, g_99_112, g_99_113, qOb_some, kr_v, kr_n, qinv_i, qinv_r, qinv_0, Nat.reduceAdd, List.getElem?_cons_zero, List.getElem?_cons_succ, List.set_cons_zero, List.set_cons_succ, List.length_cons, List.length_nil, not_true_eq_false, not_false_eq_true, false_implies, true_implies, and_true, true_and, and_false, false_and, if_true, if_false, forall_const, or_true, true_or, false_or, or_false, i10, Bool.false_eq_true, hget i13, ho_9, ho_8, j13.get, fo_4, qcls_of i103.1]
    refine s_isSame i103 hn hk he c4 (by decide) (fun q c9 hc9 => by rw [o2 q c9 hc9, c5 (o1 ▸ q)]) ?_
    simp only [g_99_0, g_99_1, g_99_3, g_99_4, g_99_7, g_99_10, g_99_13, g_99_14, g_99_17, g_99_20, g_99_21, g_99_22, g_99_23, g_99_26, g_99_27, g_99_28, g_99_31, g_99_34, g_99_35, g_99_36, g_99_37, g_99_38, g_99_39, g_99_42, g_99_43, g_99_44, g_99_45, g_99_46, g_99_49, g_99_52, g_99_53, g_99_54, g_99_55, g_99_58, g_99_61, g_99_62, g_99_63, g_99_64, g_99_67, g_99_68, g_99_71, g_99_72, g_99_73, g_99_74, g_99_77, g_99_79, g_99_82, g_99_84, g_99_85, g_99_88, g_99_89, g_99_91, g_99_92, g_99_95, g_99_98, g_99_101, g_99_104, g_99_105, g_99_106, g_99_109, g_99_112, g_99_113, qOb_some, kr_v, kr_n, qinv_i, qinv_r, qinv_0, Nat.reduceAdd, List.getElem?_cons_zero, List.getElem?_cons_succ, List.set_cons_zero, List.set_cons_succ, List.length_cons, List.length_nil, not_true_eq_false, not_false_eq_true, false_implies, true_implies, and_true, true_and, and_false, false_and, if_true, if_false, forall_const, or_true, true_or, false_or, or_false, i10, Bool.false_eq_true, nI_1]
    exact ih (M3, _, _, _) ⟨fun b q => (c1 b (by omega)).trans ((b1 b (by omega)).trans (a1 b (by omega))), a20.ch (fun b q => (c1 b (by omega)).trans (b1 b (by omega))) c2 i103⟩
theorem c_isSound {M : qM} {T : TS} {sd w h : Nat} {F : Nat → Option Nat} {B : Nat → Nat} {wo : Nat → Option Nat} {rd fd : Bool} {tl : Nat → Nat} {gs tk n : Nat} {cx cy : Nat → Int32} {ce : Nat → Nat} {ct : Nat → Nat → Nat} {Q : qR → qM → Prop} (hI : InvC M T sd w h F B wo rd fd tl gs tk n cx cy ce ct) (hS : SOk T sd w h F B wo rd fd tl gs tk n cx cy ce ct) (hQ : ∀ M', KC M M' → InvC M' T sd w h F B wo rd fd tl gs tk n cx cy ce ct → Q (.inl (some (.int 1))) M') : cl 87 [.ref 0] M Q := by
  have i1 := hI.1
  have rest : ∀ M1, KC M M1 → InvC M1 T sd w h F B wo rd fd tl gs tk n cx cy ce ct → g 87 43 [some (.ref 0), some (.int 1)] [] M1 0 0 Q := by
    intro M1 a1 a2
    have i11 := a2.1
    simp only [g_87_0, g_87_1, g_87_4, g_87_7, g_87_8, g_87_11, g_87_14, g_87_17, g_87_20, g_87_21, g_87_24, g_87_27, g_87_28, g_87_31, g_87_34, g_87_37, g_87_38, g_87_41, g_87_42, g_87_43, g_87_44, g_87_47, g_87_48, g_87_51, g_87_54, g_87_55, g_87_58, g_87_61, g_87_62, g_87_65, g_87_66, qOb_some, kr_v, kr_n, qinv_i, qinv_r, qinv_0, Nat.reduceAdd, List.getElem?_cons_zero, List.getElem?_cons_succ, List.set_cons_zero, List.set_cons_succ, List.length_cons, List.length_nil, not_true_eq_false, not_false_eq_true, false_implies, true_implies, and_true, true_and, and_false, false_and, if_true, if_false, forall_const, or_true, true_or, false_or, or_false, i10, Bool.false_eq_true, i11.cls]
    refine s_bothWays a2 hS (fun M2 b1 b2 => ?_)
    have i12 := b2.1
    simp only [g_87_0, g_87_1, g_87_4, g_87_7, g_87_8, g_87_11, g_87_14, g_87_17, g_87_20, g_87_21, g_87_24, g_87_27, g_87_28, g_87_31, g_87_34, g_87_37, g_87_38, g_87_41, g_87_42, g_87_43, g_87_44, g_87_47, g_87_48, g_87_51, g_87_54, g_87_55, g_87_58, g_87_61, g_87_62, g_87_65, g_87_66, qOb_some, kr_v, kr_n, qinv_i, qinv_r, qinv_0, Nat.reduceAdd, List.getElem?_cons_zero, List.getElem?_cons_succ, List.set_cons_zero, List.set_cons_succ, List.length_cons, List.length_nil, not_true_eq_false, not_false_eq_true, false_implies, true_implies, and_true, true_and, and_false, false_and, if_true, if_false, forall_const, or_true, true_or, false_or, or_false, i10, Bool.false_eq_true, i12.cls]
    refine s_nearSame b2 hS (fun M3 c1 c2 => ?_)
    simp only [g_87_0, g_87_1, g_87_4, g_87_7, g_87_8, g_87_11, g_87_14, g_87_17, g_87_20, g_87_21, g_87_24, g_87_27, g_87_28, g_87_31, g_87_34, g_87_37, g_87_38, g_87_41, g_87_42, g_87_43, g_87_44, g_87_47, g_87_48, g_87_51, g_87_54, g_87_55, g_87_58, g_87_61, g_87_62, g_87_65, g_87_66, qOb_some, kr_v, kr_n, qinv_i, qinv_r, qinv_0, Nat.reduceAdd, List.getElem?_cons_zero, List.getElem?_cons_succ, List.set_cons_zero, List.set_cons_succ, List.length_cons, List.length_nil, not_true_eq_false, not_false_eq_true, false_implies, true_implies, and_true, true_and, and_false, false_and, if_true, if_false, forall_const, or_true, true_or, false_or, or_false, i10, Bool.false_eq_true]
    exact hQ M3 ((a1.trans b1).trans c1) c2
  rw [e_87]
  by_cases hf : fd = true
  · obtain ⟨⟨n0, s0, hO⟩, -, -, -, hP⟩ := hI.2.2.2.2.2.2.1
    have hP := hP hf
    obtain ⟨f1, f2, f3, f4⟩ := hS.2.2.2.2.1 hf
    have i1' : HObj M (nI sd) 1 := by rw [← bI_t hf]; exact i1
    have e1 : (cB (fitP T w h tl) = true) := cB_iff.mpr f2
    simp only [g_87_0, g_87_1, g_87_4, g_87_7, g_87_8, g_87_11, g_87_14, g_87_17, g_87_20, g_87_21, g_87_24, g_87_27, g_87_28, g_87_31, g_87_34, g_87_37, g_87_38, g_87_41, g_87_42, g_87_44, g_87_47, g_87_48, g_87_51, g_87_54, g_87_55, g_87_58, g_87_61, g_87_62, g_87_65, g_87_66, qOb_some, kr_v, kr_n, qinv_i, qinv_r, qinv_0, Nat.reduceAdd, List.getElem?_cons_zero, List.getElem?_cons_succ, List.set_cons_zero, List.set_cons_succ, List.length_cons, List.length_nil, not_true_eq_false, not_false_eq_true, false_implies, true_implies, and_true, true_and, and_false, false_and, if_true, if_false, forall_const, or_true, true_or, false_or, or_false, i10, Bool.false_eq_true, hget i1', ho_11, ho_5, ho_1, hO.get, fo_4, qcls_of hP.1, s_isFitting hI.2.1 hS.1 hI.2.2.2.1.2.1 hS.2.1.1 hP f1, bI_0, eq_true e1]
    refine s_holds hI.2.1 hS.1 hI.2.2.2.1.2.1 hS.2.1.1 (by decide) (by decide) hP f1 hI.2.2.1 hS.2.2.2.1 (by decide) (fun M1 b b1 b2 b3 => ?_)
    have hb := b3.mpr ⟨f3, f4⟩
    subst hb
    have := rest M1 (b1.kc (by omega)) (hI.pla (b1.mono (by omega) (by omega)) hf b2)
    simp only [g_87_0, g_87_1, g_87_4, g_87_7, g_87_8, g_87_11, g_87_14, g_87_17, g_87_20, g_87_21, g_87_24, g_87_27, g_87_28, g_87_31, g_87_34, g_87_37, g_87_38, g_87_41, g_87_42, g_87_44, g_87_47, g_87_48, g_87_51, g_87_54, g_87_55, g_87_58, g_87_61, g_87_62, g_87_65, g_87_66, qOb_some, kr_v, kr_n, qinv_i, qinv_r, qinv_0, Nat.reduceAdd, List.getElem?_cons_zero, List.getElem?_cons_succ, List.set_cons_zero, List.set_cons_succ, List.length_cons, List.length_nil, not_true_eq_false, not_false_eq_true, false_implies, true_implies, and_true, true_and, and_false, false_and, if_true, if_false, forall_const, or_true, true_or, false_or, or_false, i10, Bool.false_eq_true, bI]
    exact this
  · have i1' : HObj M (nI sd) 0 := by rw [← bI_f hf]; exact i1
    have := rest M KC.refl hI
    simp only [g_87_0, g_87_1, g_87_4, g_87_7, g_87_8, g_87_11, g_87_14, g_87_17, g_87_20, g_87_21, g_87_24, g_87_27, g_87_28, g_87_31, g_87_34, g_87_37, g_87_38, g_87_41, g_87_42, g_87_44, g_87_47, g_87_48, g_87_51, g_87_54, g_87_55, g_87_58, g_87_61, g_87_62, g_87_65, g_87_66, qOb_some, kr_v, kr_n, qinv_i, qinv_r, qinv_0, Nat.reduceAdd, List.getElem?_cons_zero, List.getElem?_cons_succ, List.set_cons_zero, List.set_cons_succ, List.length_cons, List.length_nil, not_true_eq_false, not_false_eq_true, false_implies, true_implies, and_true, true_and, and_false, false_and, if_true, if_false, forall_const, or_true, true_or, false_or, or_false, i10, Bool.false_eq_true, hget i1', ho_11]
    exact this
def wsL (tl : Nat → Nat) : Nat → Int64
  | 0 => 0
  | k + 1 => wsL tl k + lN (tl k + 1) * lN (k + 1) * lN (k + 1)
theorem c_worldSum {M : qM} {T : TS} {sd w h : Nat} {F : Nat → Option Nat} {B : Nat → Nat} {wo : Nat → Option Nat} {rd fd : Bool} {tl : Nat → Nat} {gs tk n : Nat} {cx cy : Nat → Int32} {ce : Nat → Nat} {ct : Nat → Nat → Nat} {Q : qR → qM → Prop} (hI : InvC M T sd w h F B wo rd fd tl gs tk n cx cy ce ct) (hS : SOk T sd w h F B wo rd fd tl gs tk n cx cy ce ct) (hE : fd = false → Q (.inr 1) M)
    (hQ : fd = true → Q (.inl (some (.long (wsL tl (w * h))))) M) : cl 84 [.ref 0] M Q := by
  have hN := hS.2.1.1.le
  have h8 := hS.1.1
  have i1 := hI.1
  have i4 := hI.2.2.2.1
  rw [e_84]
  by_cases hf : fd = true
  · obtain ⟨⟨n0, s0, hO⟩, -, -, -, hP⟩ := hI.2.2.2.2.2.2.1
    obtain ⟨p1, ⟨ft, p2, p3⟩, -⟩ := hP hf
    have htl := (hS.2.2.2.2.1 hf).1
    have i1' : HObj M (nI sd) 1 := by rw [← bI_t hf]; exact i1
    simp only [g_84_0, g_84_1, g_84_4, g_84_7, g_84_17, g_84_18, g_84_19, g_84_20, g_84_22, g_84_23, g_84_26, g_84_29, g_84_32, g_84_35, g_84_36, g_84_37, g_84_38, g_84_39, g_84_41, g_84_42, g_84_43, g_84_46, g_84_49, g_84_52, g_84_53, g_84_56, g_84_57, g_84_58, g_84_59, g_84_61, g_84_62, g_84_64, g_84_65, g_84_66, g_84_67, g_84_70, g_84_73, g_84_74, qOb_some, kr_v, kr_n, qinv_i, qinv_r, qinv_0, Nat.reduceAdd, List.getElem?_cons_zero, List.getElem?_cons_succ, List.set_cons_zero, List.set_cons_succ, List.length_cons, List.length_nil, not_true_eq_false, not_false_eq_true, false_implies, true_implies, and_true, true_and, and_false, false_and, if_true, if_false, forall_const, or_true, true_or, false_or, or_false, i10, Bool.false_eq_true, hget i1', ho_11]
    refine upto (N := w * h) (I := fun _ _ => True) (G := fun c (z : Option Value × Option Value) => g 84 21 [some (.ref 0), some (.long (wsL tl c)), none, some (.int (nI c)), z.1, z.2] [] M 0 0 Q) ?_ ?_ 0 (none, none) (Nat.zero_le _) trivial
    · rintro ⟨l4, l5⟩ _
      rw [g_84_21]
      simp only [g_84_0, g_84_1, g_84_4, g_84_7, g_84_17, g_84_18, g_84_19, g_84_20, g_84_22, g_84_23, g_84_26, g_84_29, g_84_32, g_84_35, g_84_36, g_84_37, g_84_38, g_84_39, g_84_41, g_84_42, g_84_43, g_84_46, g_84_49, g_84_52, g_84_53, g_84_56, g_84_57, g_84_58, g_84_59, g_84_61, g_84_62, g_84_64, g_84_65, g_84_66, g_84_67, g_84_70, g_84_73, g_84_74, qOb_some, kr_v, kr_n, qinv_i, qinv_r, qinv_0, Nat.reduceAdd, List.getElem?_cons_zero, List.getElem?_cons_succ, List.set_cons_zero, List.set_cons_succ, List.length_cons, List.length_nil, not_true_eq_false, not_false_eq_true, false_implies, true_implies, and_true, true_and, and_false, false_and, if_true, if_false, forall_const, or_true, true_or, false_or, or_false, i10, Bool.false_eq_true, hget i1', ho_2, qget_of i4.1, qcls_of i4.2.1, s_cells i4.2.1, Int32.le_refl]
      exact hQ hf
    · rintro c ⟨l4, l5⟩ hc _ ih
      have ih := ih (some (.long (lN (c + 1))), none) trivial
      have ht := htl c hc
      rw [wsL] at ih
      rw [g_84_21]
      simp only [g_84_0, g_84_1, g_84_4, g_84_7, g_84_17, g_84_18, g_84_19, g_84_20, g_84_22, g_84_23, g_84_26, g_84_29, g_84_32, g_84_35, g_84_36, g_84_37, g_84_38, g_84_39, g_84_41, g_84_42, g_84_43, g_84_46, g_84_49, g_84_52, g_84_53, g_84_56, g_84_57, g_84_58, g_84_59, g_84_61, g_84_62, g_84_64, g_84_65, g_84_66, g_84_67, g_84_70, g_84_73, g_84_74, qOb_some, kr_v, kr_n, qinv_i, qinv_r, qinv_0, Nat.reduceAdd, List.getElem?_cons_zero, List.getElem?_cons_succ, List.set_cons_zero, List.set_cons_succ, List.length_cons, List.length_nil, not_true_eq_false, not_false_eq_true, false_implies, true_implies, and_true, true_and, and_false, false_and, if_true, if_false, forall_const, or_true, true_or, false_or, or_false, i10, Bool.false_eq_true, hget i1', ho_2, ho_5, qget_of i4.1, qcls_of i4.2.1, s_cells i4.2.1, nI_ge hc (show w * h < 2 ^ 31 by omega), nI_1, nI_l (show c + 1 < 2 ^ 31 by omega), hO.get, fo_4, qget_of p1, p2.cls, s_get p2 (show 36 < 2147483648 by decide), rget_nI (show c < 36 by omega) (show 36 < 2147483648 by decide), p3 c hc, nI_l (show tl c + 1 < 2 ^ 31 by omega)]
      exact ih
  · have := hE (by simpa using hf)
    have i1' : HObj M (nI sd) 0 := by rw [← bI_f hf]; exact i1
    simp only [g_84_0, g_84_1, g_84_4, g_84_7, g_84_17, g_84_18, g_84_19, g_84_20, g_84_22, g_84_23, g_84_26, g_84_29, g_84_32, g_84_35, g_84_36, g_84_37, g_84_38, g_84_39, g_84_41, g_84_42, g_84_43, g_84_46, g_84_49, g_84_52, g_84_53, g_84_56, g_84_57, g_84_58, g_84_59, g_84_61, g_84_62, g_84_64, g_84_65, g_84_66, g_84_67, g_84_70, g_84_73, g_84_74, qOb_some, kr_v, kr_n, qinv_i, qinv_r, qinv_0, Nat.reduceAdd, List.getElem?_cons_zero, List.getElem?_cons_succ, List.set_cons_zero, List.set_cons_succ, List.length_cons, List.length_nil, not_true_eq_false, not_false_eq_true, false_implies, true_implies, and_true, true_and, and_false, false_and, if_true, if_false, forall_const, or_true, true_or, false_or, or_false, i10, Bool.false_eq_true, hget i1', ho_11]
    exact this
theorem c_roadShare {M : qM} {T : TS} {sd w h : Nat} {F : Nat → Option Nat} {B : Nat → Nat} {wo : Nat → Option Nat} {rd fd : Bool} {tl : Nat → Nat} {gs tk n : Nat} {cx cy : Nat → Int32} {ce : Nat → Nat} {ct : Nat → Nat → Nat} {Q : qR → qM → Prop} (hI : InvC M T sd w h F B wo rd fd tl gs tk n cx cy ce ct) (hS : SOk T sd w h F B wo rd fd tl gs tk n cx cy ce ct) (hE : fd = false → Q (.inr 1) M)
    (hQ : fd = true → Q (.inl (some (.float (FP.fdiv (FP.i2f (nI (cntB (fun k => roadT T (tl k)) (w * h)))) (FP.i2f (nI (w * h))))))) M) : cl 86 [.ref 0] M Q := by
  have hN := hS.2.1.1.le
  have hp := hS.2.1.1.pos
  have i1 := hI.1
  have i4 := hI.2.2.2.1
  rw [e_86]
  by_cases hf : fd = true
  · obtain ⟨⟨n0, s0, hO⟩, -, -, -, hP⟩ := hI.2.2.2.2.2.2.1
    have hP := hP hf
    have i1' : HObj M (nI sd) 1 := by rw [← bI_t hf]; exact i1
    have e1 : (1 ≤ nI (w * h)) = (1 ≤ w * h) := propext (nI_leI (a := 1) (by decide) (by omega))
    have hc := cntB_le (f := fun k => roadT T (tl k)) (n := w * h)
    obtain ⟨m, hm⟩ : ∃ m, w * h = m + 1 := ⟨w * h - 1, by omega⟩
    have hd := (ff_ok m (by omega) (cntB (fun k => roadT T (tl k)) (w * h)) (by omega)).1
    rw [← hm] at hd
    simp only [g_86_0, g_86_1, g_86_4, g_86_7, g_86_17, g_86_18, g_86_21, g_86_24, g_86_27, g_86_28, g_86_29, g_86_30, g_86_33, g_86_34, g_86_37, g_86_38, g_86_41, g_86_44, g_86_47, g_86_48, g_86_49, g_86_50, g_86_51, qOb_some, kr_v, kr_n, qinv_i, qinv_r, qinv_0, Nat.reduceAdd, List.getElem?_cons_zero, List.getElem?_cons_succ, List.set_cons_zero, List.set_cons_succ, List.length_cons, List.length_nil, not_true_eq_false, not_false_eq_true, false_implies, true_implies, and_true, true_and, and_false, false_and, if_true, if_false, forall_const, or_true, true_or, false_or, or_false, i10, Bool.false_eq_true, hget i1', ho_11, ho_2, ho_5, qget_of i4.1, qcls_of i4.2.1, s_cells i4.2.1, e1, eq_true (show 1 ≤ w * h from hp), hO.get, fo_4, qcls_of hP.1, s_roadCells hI.2.1 hS.1 i4.2.1 hS.2.1.1 hP (hS.2.2.2.2.1 hf).1, eq_true hd]
    exact hQ hf
  · have := hE (by simpa using hf)
    have i1' : HObj M (nI sd) 0 := by rw [← bI_f hf]; exact i1
    simp only [g_86_0, g_86_1, g_86_4, g_86_7, g_86_17, g_86_18, g_86_21, g_86_24, g_86_27, g_86_28, g_86_29, g_86_30, g_86_33, g_86_34, g_86_37, g_86_38, g_86_41, g_86_44, g_86_47, g_86_48, g_86_49, g_86_50, g_86_51, qOb_some, kr_v, kr_n, qinv_i, qinv_r, qinv_0, Nat.reduceAdd, List.getElem?_cons_zero, List.getElem?_cons_succ, List.set_cons_zero, List.set_cons_succ, List.length_cons, List.length_nil, not_true_eq_false, not_false_eq_true, false_implies, true_implies, and_true, true_and, and_false, false_and, if_true, if_false, forall_const, or_true, true_or, false_or, or_false, i10, Bool.false_eq_true, hget i1', ho_11]
    exact this
