/-! the model's calls that narrow and fill, and its figures -/
theorem HandM.arr {M M' : qM} (h : HandM M) (hA : ∃ f, M'[112]? = some (.inl (0, 36, .inl f))) (un : ∀ b, 113 ≤ b → b < 119 → M'[b]? = M[b]?) : HandM M' := by
  obtain ⟨-, ⟨⟨f1, r1⟩, ⟨f2, r2⟩, ⟨f3, r3, v3⟩, ⟨f4, r4, v4⟩, ⟨f5, r5, v5⟩⟩, ⟨f', h3⟩⟩ := h
  exact ⟨hA, ⟨⟨f1, (un _ (by omega) (by omega)).trans r1⟩, ⟨f2, (un _ (by omega) (by omega)).trans r2⟩, ⟨f3, (un _ (by omega) (by omega)).trans r3, v3⟩, ⟨f4, (un _ (by omega) (by omega)).trans r4, v4⟩, ⟨f5, (un _ (by omega) (by omega)).trans r5, v5⟩⟩, ⟨f', (un _ (by omega) (by omega)).trans h3⟩⟩
theorem ArrV.ex {M : qM} {a n N : Nat} {p : Nat → Nat} (h : ArrV M a n N p) : ∃ f, M[a]? = some (.inl (0, n, .inl f)) := by
  obtain ⟨f, h1, _⟩ := h
  exact ⟨f, h1⟩
theorem m_beg {M : qM} {s : Nat → Int32} {T : TS} {sd w h : Nat} {F : Nat → Option Nat} {B : Nat → Nat} {wo : Nat → Option Nat} {rd fd : Bool} {tl : Nat → Nat} {gs tk n : Nat} {cx cy : Nat → Int32} {ce : Nat → Nat} {ct : Nat → Nat → Nat} {Q : qR → qM → Prop} (hI : InvM M s T sd w h F B wo rd fd tl gs tk n cx cy ce ct) (hS : SOk T sd w h F B wo rd fd tl gs tk n cx cy ce ct)
    (hQ : ∀ M' s', MFr M M' → SFr 20 s s' → InvM M' s' T sd w h F B wo rd fd tl gs tk n cx cy ce ct → s' 20 = nI w → s' 21 = nI h → s' 22 = 1 → ArrV M' 112 36 (w * h) (possM T F B) → Q (.inl none) M') : cl 125 [.ref 101] M Q := by
  have hH := hI.2.2.2.2.2.2.2.2
  refine m_begins hI.1 hI.2.1 hS.1 hI.2.2.2.1 hS.2.1 hH.1 (fun M' s' b1 b2 b3 b4 b5 b6 b7 => ?_)
  have mf : MFr M M' := fun b q => b1 b (by omega) (by omega)
  exact hQ M' s' mf b2 (hI.fr mf.w (b2.sf (by decide)) b3 (hH.arr b7.ex (fun b q1 q2 => b1 b (by omega) (by omega)))) b4 b5 b6 b7
theorem m_brings {M : qM} {s : Nat → Int32} {T : TS} {sd w h : Nat} {F : Nat → Option Nat} {B : Nat → Nat} {wo : Nat → Option Nat} {rd fd : Bool} {tl : Nat → Nat} {gs tk n : Nat} {cx cy : Nat → Int32} {ce : Nat → Nat} {ct : Nat → Nat → Nat} {Q : qR → qM → Prop} (hI : InvM M s T sd w h F B wo rd fd tl gs tk n cx cy ce ct) (hS : SOk T sd w h F B wo rd fd tl gs tk n cx cy ce ct)
    (hQ : ∀ M' s', MFr M M' → SFr 20 s s' → InvM M' s' T sd w h F B wo rd fd tl gs tk n cx cy ce ct → s' 20 = nI w → s' 21 = nI h → ArrV M' 112 36 (w * h) (narF T w h (possM T F B)) → Q (.inl none) M') : cl 136 [.ref 101] M Q := by
  rw [e_136]
  simp only [g_136_0, g_136_1, g_136_4, g_136_5, g_136_8, qOb_some, kr_v, kr_n, qinv_i, qinv_r, qinv_0, Nat.reduceAdd, List.getElem?_cons_zero, List.getElem?_cons_succ, List.set_cons_zero, List.set_cons_succ, List.length_cons, List.length_nil, not_true_eq_false, not_false_eq_true, false_implies, true_implies, and_true, true_and, and_false, false_and, if_true, if_false, forall_const, or_true, true_or, false_or, or_false, i10, Bool.false_eq_true, bI_T, bI_F, hI.1.cls]
  refine m_beg hI hS (fun M1 s1 b1 b2 I1 b4 b5 b6 b7 => ?_)
  simp only [g_136_0, g_136_1, g_136_4, g_136_5, g_136_8, qOb_some, kr_v, kr_n, qinv_i, qinv_r, qinv_0, Nat.reduceAdd, List.getElem?_cons_zero, List.getElem?_cons_succ, List.set_cons_zero, List.set_cons_succ, List.length_cons, List.length_nil, not_true_eq_false, not_false_eq_true, false_implies, true_implies, and_true, true_and, and_false, false_and, if_true, if_false, forall_const, or_true, true_or, false_or, or_false, i10, Bool.false_eq_true, bI_T, bI_F, I1.1.cls]
  refine m_narrows I1.1 I1.2.1 hS.1 b4 b5 hS.2.1.1 b7 (possM_pn hS.2.1) (fun M2 p2 c1 c2 c3 c4 => ?_)
  simp only [g_136_0, g_136_1, g_136_4, g_136_5, g_136_8, qOb_some, kr_v, kr_n, qinv_i, qinv_r, qinv_0, Nat.reduceAdd, List.getElem?_cons_zero, List.getElem?_cons_succ, List.set_cons_zero, List.set_cons_succ, List.length_cons, List.length_nil, not_true_eq_false, not_false_eq_true, false_implies, true_implies, and_true, true_and, and_false, false_and, if_true, if_false, forall_const, or_true, true_or, false_or, or_false, i10, Bool.false_eq_true, bI_T, bI_F]
  obtain ⟨f, c5, c6⟩ := c2
  have hm := (possM_pn (T := T) hS.2.1).msk hS.1
  refine hQ M2 s1 (b1.trans (c1.m (by omega) (by omega))) b2 (I1.fr (c1.m (by omega) (by omega)).w SF.refl (I1.1.fr c1 (by omega)) (I1.2.2.2.2.2.2.2.2.arr ⟨f, c5⟩ (fun b q1 q2 => c1 b (by omega)))) b4 b5 ⟨f, c5, fun k hk => by rw [c6 k hk, c3.eq hm k hk]⟩
theorem m_options {M : qM} {s : Nat → Int32} {T : TS} {sd w h : Nat} {F : Nat → Option Nat} {B : Nat → Nat} {wo : Nat → Option Nat} {rd fd : Bool} {tl : Nat → Nat} {gs tk n : Nat} {cx cy : Nat → Int32} {ce : Nat → Nat} {ct : Nat → Nat → Nat} {c : Int32} {Q : qR → qM → Prop} (hI : InvM M s T sd w h F B wo rd fd tl gs tk n cx cy ce ct) (hS : SOk T sd w h F B wo rd fd tl gs tk n cx cy ce ct)
    (hE : ¬ cellP w h c → ∀ M' s', KM M M' → s' 0 = 1 → InvM M' s' T sd w h F B wo rd fd tl gs tk n cx cy ce ct → Q (.inl (some (.int 0))) M')
    (hQ : cellP w h c → ∀ M' s', KM M M' → s' 0 = 0 → InvM M' s' T sd w h F B wo rd fd tl gs tk n cx cy ce ct → Q (.inl (some (.int (nI (cnt (narF T w h (possM T F B) (cn c))))))) M') : cl 137 [.ref 101, .int c] M Q := by
  have hM := hI.1
  have hD := hS.2.1.1
  have hN := hD.le
  rw [e_137]
  by_cases a : cellP w h c
  case neg =>
    simp only [g_137_0, g_137_1, g_137_2, g_137_3, g_137_6, g_137_9, g_137_10, g_137_13, g_137_14, g_137_17, g_137_20, g_137_21, g_137_22, g_137_23, g_137_26, g_137_27, g_137_30, g_137_31, g_137_32, g_137_35, qOb_some, kr_v, kr_n, qinv_i, qinv_r, qinv_0, Nat.reduceAdd, List.getElem?_cons_zero, List.getElem?_cons_succ, List.set_cons_zero, List.set_cons_succ, List.length_cons, List.length_nil, hM.cls, m_isCellP hM hI.2.2.2.1.1 hI.2.2.2.1.2.1 hD, bI_0, eq_false a, not_true_eq_false, not_false_eq_true, false_implies, true_implies, and_true, true_and, and_false, false_and, if_true, if_false, forall_const, or_true, true_or, false_or, or_false, i10, Bool.false_eq_true, bI_T, bI_F]
    refine m_go hI (fun M1 k1 f1 I1 => ?_)
    simp only [g_137_0, g_137_1, g_137_2, g_137_3, g_137_6, g_137_9, g_137_10, g_137_13, g_137_14, g_137_17, g_137_20, g_137_21, g_137_22, g_137_23, g_137_26, g_137_27, g_137_30, g_137_31, g_137_32, g_137_35, qOb_some, kr_v, kr_n, qinv_i, qinv_r, qinv_0, Nat.reduceAdd, List.getElem?_cons_zero, List.getElem?_cons_succ, List.set_cons_zero, List.set_cons_succ, List.length_cons, List.length_nil, bI_0, not_true_eq_false, not_false_eq_true, false_implies, true_implies, and_true, true_and, and_false, false_and, if_true, if_false, forall_const, or_true, true_or, false_or, or_false, i10, Bool.false_eq_true, bI_T, bI_F]
    exact hE a M1 _ k1 upd_s I1
  obtain ⟨c1, c2⟩ := cell_cn hD a
  simp only [g_137_0, g_137_1, g_137_2, g_137_3, g_137_6, g_137_9, g_137_10, g_137_13, g_137_14, g_137_17, g_137_20, g_137_21, g_137_22, g_137_23, g_137_26, g_137_27, g_137_30, g_137_31, g_137_32, g_137_35, qOb_some, kr_v, kr_n, qinv_i, qinv_r, qinv_0, Nat.reduceAdd, List.getElem?_cons_zero, List.getElem?_cons_succ, List.set_cons_zero, List.set_cons_succ, List.length_cons, List.length_nil, hM.cls, m_isCellP hM hI.2.2.2.1.1 hI.2.2.2.1.2.1 hD, bI_0, eq_true a, not_true_eq_false, not_false_eq_true, false_implies, true_implies, and_true, true_and, and_false, false_and, if_true, if_false, forall_const, or_true, true_or, false_or, or_false, i10, Bool.false_eq_true, bI_T, bI_F]
  refine m_go hI (fun M1 k1 f1 I1 => ?_)
  simp only [g_137_0, g_137_1, g_137_2, g_137_3, g_137_6, g_137_9, g_137_10, g_137_13, g_137_14, g_137_17, g_137_20, g_137_21, g_137_22, g_137_23, g_137_26, g_137_27, g_137_30, g_137_31, g_137_32, g_137_35, qOb_some, kr_v, kr_n, qinv_i, qinv_r, qinv_0, Nat.reduceAdd, List.getElem?_cons_zero, List.getElem?_cons_succ, List.set_cons_zero, List.set_cons_succ, List.length_cons, List.length_nil, bI_0, not_true_eq_false, not_false_eq_true, false_implies, true_implies, and_true, true_and, and_false, false_and, if_true, if_false, forall_const, or_true, true_or, false_or, or_false, i10, Bool.false_eq_true, bI_T, bI_F, I1.1.cls]
  refine m_brings I1 hS (fun M2 s2 b1 b2 I2 b4 b5 b6 => ?_)
  obtain ⟨f, r, v⟩ := b6
  have ea : qald none M2 112 0 c = some (.int (nI (narF T w h (possM T F B) (cn c)))) := by
    have := ald_N r (show cn c < 36 by omega) (by decide)
    rw [← c1, v _ c2] at this
    exact this
  have hb : narF T w h (possM T F B) (cn c) < 256 := narF_lt
  simp only [g_137_0, g_137_1, g_137_2, g_137_3, g_137_6, g_137_9, g_137_10, g_137_13, g_137_14, g_137_17, g_137_20, g_137_21, g_137_22, g_137_23, g_137_26, g_137_27, g_137_30, g_137_31, g_137_32, g_137_35, qOb_some, kr_v, kr_n, qinv_i, qinv_r, qinv_0, Nat.reduceAdd, List.getElem?_cons_zero, List.getElem?_cons_succ, List.set_cons_zero, List.set_cons_succ, List.length_cons, List.length_nil, not_true_eq_false, not_false_eq_true, false_implies, true_implies, and_true, true_and, and_false, false_and, if_true, if_false, forall_const, or_true, true_or, false_or, or_false, i10, Bool.false_eq_true, bI_T, bI_F, mget I2.1, mo_23, ea, m_many hb]
  exact hQ a M2 s2 (k1.trans b1.km) ((b2 0 (by decide)).trans upd_s) I2
theorem m_optionsAnew {M : qM} {s : Nat → Int32} {T : TS} {sd w h : Nat} {F : Nat → Option Nat} {B : Nat → Nat} {wo : Nat → Option Nat} {rd fd : Bool} {tl : Nat → Nat} {gs tk n : Nat} {cx cy : Nat → Int32} {ce : Nat → Nat} {ct : Nat → Nat → Nat} {c : Int32} {Q : qR → qM → Prop} (hI : InvM M s T sd w h F B wo rd fd tl gs tk n cx cy ce ct) (hS : SOk T sd w h F B wo rd fd tl gs tk n cx cy ce ct)
    (hE : ¬ cellP w h c → ∀ M' s', KM M M' → s' 0 = 1 → InvM M' s' T sd w h F B wo rd fd tl gs tk n cx cy ce ct → Q (.inl (some (.int 0))) M')
    (hQ : cellP w h c → ∀ M' s', KM M M' → s' 0 = 0 → InvM M' s' T sd w h F B wo rd fd tl gs tk n cx cy ce ct → Q (.inl (some (.int (nI (cnt (narF T w h (possM T F B) (cn c))))))) M') : cl 138 [.ref 101, .int c] M Q := by
  rw [e_138]
  simp only [g_138_0, g_138_1, g_138_2, g_138_5, qOb_some, kr_v, kr_n, qinv_i, qinv_r, qinv_0, Nat.reduceAdd, List.getElem?_cons_zero, List.getElem?_cons_succ, List.set_cons_zero, List.set_cons_succ, List.length_cons, List.length_nil, not_true_eq_false, not_false_eq_true, false_implies, true_implies, and_true, true_and, and_false, false_and, if_true, if_false, forall_const, or_true, true_or, false_or, or_false, i10, Bool.false_eq_true, bI_T, bI_F, hI.1.cls]
  refine m_options hI hS (fun a M' s' k1 k2 k3 => ?_) (fun a M' s' k1 k2 k3 => ?_)
  · simp only [g_138_0, g_138_1, g_138_2, g_138_5, qOb_some, kr_v, kr_n, qinv_i, qinv_r, qinv_0, Nat.reduceAdd, List.getElem?_cons_zero, List.getElem?_cons_succ, List.set_cons_zero, List.set_cons_succ, List.length_cons, List.length_nil, not_true_eq_false, not_false_eq_true, false_implies, true_implies, and_true, true_and, and_false, false_and, if_true, if_false, forall_const, or_true, true_or, false_or, or_false, i10, Bool.false_eq_true, bI_T, bI_F]
    exact hE a M' s' k1 k2 k3
  · simp only [g_138_0, g_138_1, g_138_2, g_138_5, qOb_some, kr_v, kr_n, qinv_i, qinv_r, qinv_0, Nat.reduceAdd, List.getElem?_cons_zero, List.getElem?_cons_succ, List.set_cons_zero, List.set_cons_succ, List.length_cons, List.length_nil, not_true_eq_false, not_false_eq_true, false_implies, true_implies, and_true, true_and, and_false, false_and, if_true, if_false, forall_const, or_true, true_or, false_or, or_false, i10, Bool.false_eq_true, bI_T, bI_F]
    exact hQ a M' s' k1 k2 k3
theorem m_fill {M : qM} {s : Nat → Int32} {T : TS} {sd w h : Nat} {F : Nat → Option Nat} {B : Nat → Nat} {wo : Nat → Option Nat} {rd fd : Bool} {tl : Nat → Nat} {gs tk n : Nat} {cx cy : Nat → Int32} {ce : Nat → Nat} {ct : Nat → Nat → Nat} {x : Int32} {Q : qR → qM → Prop} (hI : InvM M s T sd w h F B wo rd fd tl gs tk n cx cy ce ct) (hS : SOk T sd w h F B wo rd fd tl gs tk n cx cy ce ct)
    (hE1 : ¬ limP x → ∀ M' s', KM M M' → s' 0 = 1 → InvM M' s' T sd w h F B wo rd fd tl gs tk n cx cy ce ct → Q (.inl (some (.int 0))) M') (hE2 : limP x → T.n = 0 → ∀ M' s', KM M M' → s' 0 = 2 → InvM M' s' T sd w h F B wo rd fd tl gs tk n cx cy ce ct → Q (.inl (some (.int 0))) M')
    (hQ : limP x → T.n ≠ 0 → ∀ M' s', KM M M' → s' 0 = 0 → InvM M' s' T sd w h F B wo rd ((fres T w h wo rd (cn x) (possM T F B) (nI sd)).1 == 100) (tof (fres T w h wo rd (cn x) (possM T F B) (nI sd)).2.1) (fres T w h wo rd (cn x) (possM T F B) (nI sd)).2.2.1 (fres T w h wo rd (cn x) (possM T F B) (nI sd)).2.2.2 n cx cy ce ct → Q (.inl (some (.int (nI (fres T w h wo rd (cn x) (possM T F B) (nI sd)).1)))) M') : cl 135 [.ref 101, .int x] M Q := by
  have hM := hI.1
  have hD := hS.2.1.1
  have hN := hD.le
  have h8 := hS.1.1
  have s1 : ∀ {M : qM} {a : Int32} {Q : qR → qM → Prop}, cl 102 [.int a, .int 0, .int 200] M Q ↔ Q (.inl (some (.int (@bI (limP a) (inferInstanceAs (Decidable (0 ≤ a ∧ a ≤ 200))))))) M := m_in
  rw [e_135]
  by_cases a : limP x
  case neg =>
    simp only [g_135_0, g_135_1, g_135_2, g_135_3, g_135_6, g_135_9, g_135_12, g_135_13, g_135_16, g_135_17, g_135_20, g_135_23, g_135_24, g_135_27, g_135_28, g_135_31, g_135_34, g_135_35, g_135_36, g_135_37, g_135_40, g_135_41, g_135_42, g_135_45, g_135_46, g_135_49, g_135_50, g_135_51, g_135_52, g_135_55, g_135_58, g_135_59, g_135_60, g_135_63, g_135_66, g_135_67, g_135_68, g_135_70, g_135_73, g_135_74, g_135_77, g_135_78, g_135_81, g_135_82, g_135_84, g_135_85, g_135_88, g_135_91, g_135_92, g_135_95, g_135_98, g_135_99, g_135_102, g_135_103, g_135_104, g_135_107, g_135_108, g_135_109, g_135_112, g_135_113, g_135_116, g_135_119, g_135_120, qOb_some, kr_v, kr_n, qinv_i, qinv_r, qinv_0, Nat.reduceAdd, List.getElem?_cons_zero, List.getElem?_cons_succ, List.set_cons_zero, List.set_cons_succ, List.length_cons, List.length_nil, s1, bI_0, eq_false a, not_true_eq_false, not_false_eq_true, false_implies, true_implies, and_true, true_and, and_false, false_and, if_true, if_false, forall_const, or_true, true_or, false_or, or_false, i10, Bool.false_eq_true, bI_T, bI_F, hM.cls]
    refine m_go hI (fun M1 k1 f1 I1 => ?_)
    simp only [g_135_0, g_135_1, g_135_2, g_135_3, g_135_6, g_135_9, g_135_12, g_135_13, g_135_16, g_135_17, g_135_20, g_135_23, g_135_24, g_135_27, g_135_28, g_135_31, g_135_34, g_135_35, g_135_36, g_135_37, g_135_40, g_135_41, g_135_42, g_135_45, g_135_46, g_135_49, g_135_50, g_135_51, g_135_52, g_135_55, g_135_58, g_135_59, g_135_60, g_135_63, g_135_66, g_135_67, g_135_68, g_135_70, g_135_73, g_135_74, g_135_77, g_135_78, g_135_81, g_135_82, g_135_84, g_135_85, g_135_88, g_135_91, g_135_92, g_135_95, g_135_98, g_135_99, g_135_102, g_135_103, g_135_104, g_135_107, g_135_108, g_135_109, g_135_112, g_135_113, g_135_116, g_135_119, g_135_120, qOb_some, kr_v, kr_n, qinv_i, qinv_r, qinv_0, Nat.reduceAdd, List.getElem?_cons_zero, List.getElem?_cons_succ, List.set_cons_zero, List.set_cons_succ, List.length_cons, List.length_nil, bI_0, not_true_eq_false, not_false_eq_true, false_implies, true_implies, and_true, true_and, and_false, false_and, if_true, if_false, forall_const, or_true, true_or, false_or, or_false, i10, Bool.false_eq_true, bI_T, bI_F]
    exact ⟨by decide, hE1 a M1 _ k1 upd_s I1⟩
  by_cases b : T.n = 0
  case pos =>
    have e0 : (nI T.n = 0) = True := eq_true (by rw [b]; rfl)
    simp only [g_135_0, g_135_1, g_135_2, g_135_3, g_135_6, g_135_9, g_135_12, g_135_13, g_135_16, g_135_17, g_135_20, g_135_23, g_135_24, g_135_27, g_135_28, g_135_31, g_135_34, g_135_35, g_135_36, g_135_37, g_135_40, g_135_41, g_135_42, g_135_45, g_135_46, g_135_49, g_135_50, g_135_51, g_135_52, g_135_55, g_135_58, g_135_59, g_135_60, g_135_63, g_135_66, g_135_67, g_135_68, g_135_70, g_135_73, g_135_74, g_135_77, g_135_78, g_135_81, g_135_82, g_135_84, g_135_85, g_135_88, g_135_91, g_135_92, g_135_95, g_135_98, g_135_99, g_135_102, g_135_103, g_135_104, g_135_107, g_135_108, g_135_109, g_135_112, g_135_113, g_135_116, g_135_119, g_135_120, qOb_some, kr_v, kr_n, qinv_i, qinv_r, qinv_0, Nat.reduceAdd, List.getElem?_cons_zero, List.getElem?_cons_succ, List.set_cons_zero, List.set_cons_succ, List.length_cons, List.length_nil, s1, bI_0, eq_true a, not_true_eq_false, not_false_eq_true, false_implies, true_implies, and_true, true_and, and_false, false_and, if_true, if_false, forall_const, or_true, true_or, false_or, or_false, i10, Bool.false_eq_true, bI_T, bI_F, mget hM, mo_1, hI.2.1.1, e0, hM.cls]
    refine m_go hI (fun M1 k1 f1 I1 => ?_)
    simp only [g_135_0, g_135_1, g_135_2, g_135_3, g_135_6, g_135_9, g_135_12, g_135_13, g_135_16, g_135_17, g_135_20, g_135_23, g_135_24, g_135_27, g_135_28, g_135_31, g_135_34, g_135_35, g_135_36, g_135_37, g_135_40, g_135_41, g_135_42, g_135_45, g_135_46, g_135_49, g_135_50, g_135_51, g_135_52, g_135_55, g_135_58, g_135_59, g_135_60, g_135_63, g_135_66, g_135_67, g_135_68, g_135_70, g_135_73, g_135_74, g_135_77, g_135_78, g_135_81, g_135_82, g_135_84, g_135_85, g_135_88, g_135_91, g_135_92, g_135_95, g_135_98, g_135_99, g_135_102, g_135_103, g_135_104, g_135_107, g_135_108, g_135_109, g_135_112, g_135_113, g_135_116, g_135_119, g_135_120, qOb_some, kr_v, kr_n, qinv_i, qinv_r, qinv_0, Nat.reduceAdd, List.getElem?_cons_zero, List.getElem?_cons_succ, List.set_cons_zero, List.set_cons_succ, List.length_cons, List.length_nil, bI_0, i20, not_true_eq_false, not_false_eq_true, false_implies, true_implies, and_true, true_and, and_false, false_and, if_true, if_false, forall_const, or_true, true_or, false_or, or_false, i10, Bool.false_eq_true, bI_T, bI_F]
    exact ⟨by decide, hE2 a b M1 _ k1 upd_s I1⟩
  obtain ⟨x1, x2⟩ := cn_le (m := 200) (by decide) a.1 a.2
  have e0 : (nI T.n = 0) = False := eq_false (nI_ne0 (by omega) (by omega))
  simp only [g_135_0, g_135_1, g_135_2, g_135_3, g_135_6, g_135_9, g_135_12, g_135_13, g_135_16, g_135_17, g_135_20, g_135_23, g_135_24, g_135_27, g_135_28, g_135_31, g_135_34, g_135_35, g_135_36, g_135_37, g_135_40, g_135_41, g_135_42, g_135_45, g_135_46, g_135_49, g_135_50, g_135_51, g_135_52, g_135_55, g_135_58, g_135_59, g_135_60, g_135_63, g_135_66, g_135_67, g_135_68, g_135_70, g_135_73, g_135_74, g_135_77, g_135_78, g_135_81, g_135_82, g_135_84, g_135_85, g_135_88, g_135_91, g_135_92, g_135_95, g_135_98, g_135_99, g_135_102, g_135_103, g_135_104, g_135_107, g_135_108, g_135_109, g_135_112, g_135_113, g_135_116, g_135_119, g_135_120, qOb_some, kr_v, kr_n, qinv_i, qinv_r, qinv_0, Nat.reduceAdd, List.getElem?_cons_zero, List.getElem?_cons_succ, List.set_cons_zero, List.set_cons_succ, List.length_cons, List.length_nil, s1, bI_0, eq_true a, not_true_eq_false, not_false_eq_true, false_implies, true_implies, and_true, true_and, and_false, false_and, if_true, if_false, forall_const, or_true, true_or, false_or, or_false, i10, Bool.false_eq_true, bI_T, bI_F, mget hM, mo_1, hI.2.1.1, e0, hM.cls]
  refine m_go hI (fun M1 k1 f1 I1 => ?_)
  simp only [g_135_0, g_135_1, g_135_2, g_135_3, g_135_6, g_135_9, g_135_12, g_135_13, g_135_16, g_135_17, g_135_20, g_135_23, g_135_24, g_135_27, g_135_28, g_135_31, g_135_34, g_135_35, g_135_36, g_135_37, g_135_40, g_135_41, g_135_42, g_135_45, g_135_46, g_135_49, g_135_50, g_135_51, g_135_52, g_135_55, g_135_58, g_135_59, g_135_60, g_135_63, g_135_66, g_135_67, g_135_68, g_135_70, g_135_73, g_135_74, g_135_77, g_135_78, g_135_81, g_135_82, g_135_84, g_135_85, g_135_88, g_135_91, g_135_92, g_135_95, g_135_98, g_135_99, g_135_102, g_135_103, g_135_104, g_135_107, g_135_108, g_135_109, g_135_112, g_135_113, g_135_116, g_135_119, g_135_120, qOb_some, kr_v, kr_n, qinv_i, qinv_r, qinv_0, Nat.reduceAdd, List.getElem?_cons_zero, List.getElem?_cons_succ, List.set_cons_zero, List.set_cons_succ, List.length_cons, List.length_nil, bI_0, not_true_eq_false, not_false_eq_true, false_implies, true_implies, and_true, true_and, and_false, false_and, if_true, if_false, forall_const, or_true, true_or, false_or, or_false, i10, Bool.false_eq_true, bI_T, bI_F, I1.1.cls]
  refine m_beg I1 hS (fun M2 s2 b1 b2 I2 b4 b5 b6 b7 => ?_)
  have v4 := I2.2.2.1
  simp only [g_135_0, g_135_1, g_135_2, g_135_3, g_135_6, g_135_9, g_135_12, g_135_13, g_135_16, g_135_17, g_135_20, g_135_23, g_135_24, g_135_27, g_135_28, g_135_31, g_135_34, g_135_35, g_135_36, g_135_37, g_135_40, g_135_41, g_135_42, g_135_45, g_135_46, g_135_49, g_135_50, g_135_51, g_135_52, g_135_55, g_135_58, g_135_59, g_135_60, g_135_63, g_135_66, g_135_67, g_135_68, g_135_70, g_135_73, g_135_74, g_135_77, g_135_78, g_135_81, g_135_82, g_135_84, g_135_85, g_135_88, g_135_91, g_135_92, g_135_95, g_135_98, g_135_99, g_135_102, g_135_103, g_135_104, g_135_107, g_135_108, g_135_109, g_135_112, g_135_113, g_135_116, g_135_119, g_135_120, qOb_some, kr_v, kr_n, qinv_i, qinv_r, qinv_0, Nat.reduceAdd, List.getElem?_cons_zero, List.getElem?_cons_succ, List.set_cons_zero, List.set_cons_succ, List.length_cons, List.length_nil, not_true_eq_false, not_false_eq_true, false_implies, true_implies, and_true, true_and, and_false, false_and, if_true, if_false, forall_const, or_true, true_or, false_or, or_false, i10, Bool.false_eq_true, bI_T, bI_F, mget I2.1, mo_4, v4, I2.1.cls]
  have hQ := hQ a b
  have he := fres_end (wo := wo) (road := rd) (lim := cn x) (s := nI sd) hS.1 hD (possM_pn (T := T) hS.2.1)
  have hwi := I2.2.2.2.2.1
  have st : cl 134 [.ref 101, .int (nI sd), .int (nI (cn x))] M2 (kr 135 46 [some (.ref 101), some (.int x), none, none] [] 0 0 Q) := by
    refine m_fills I2.1 I2.2.1 hS.1 b4 b5 hD (wo := wo) (road := rd) (Or.inl ⟨b6, hwi.1, hwi.2⟩) hS.2.2.2.1 x2 b7 (possM_pn hS.2.1) I2.2.2.2.2.2.2.2.2.2.1 (fun M3 s3 c1 c2 c3 c4 => ?_)
    have s30 : s3 0 = 0 := (c2 0 (by decide)).trans ((b2 0 (by decide)).trans upd_s)
    have k3 : KM M M3 := (k1.trans b1.km).trans c1.km
    have c20 := (c2 20 (by decide)).trans b4
    have c21 := (c2 21 (by decide)).trans b5
    revert hQ he c4
    generalize fres T w h wo rd (cn x) (possM T F B) (nI sd) = r
    intro hQ he c4
    obtain ⟨z0, z1, z2⟩ := c16 he.1
    have e1 : (nI r.1 = 100) = (r.1 = 100) := propext (nI_eq (b := 100) (by omega) (by decide))
    obtain ⟨n4, sn, gc, gt, x4, ⟨y26, y27, y28, y29⟩, y1, y2⟩ := c4
    have hH3 : HandM M3 := ⟨y1.ex, y2.z, by
      obtain ⟨f, q⟩ := I2.2.2.2.2.2.2.2.2.2.2
      exact ⟨f, (c1 118 (by omega)).trans q⟩⟩
    have I3 := I2.fr c1.w (c2.sf (by decide)) c3 hH3
    have hpn := he.2.1
    obtain ⟨fp, rp, vp⟩ := y1
    obtain ⟨-, j2, j3, j4, j5, ⟨j60, ff, j6, j61⟩, ⟨j7, j8⟩, j9, j10⟩ := I3
    obtain ⟨M4, e4, f4, hM4⟩ := put_G 13 (nI r.2.2.1) c3 (by decide) rfl ms_13
    obtain ⟨M5, e5, f5, hM5⟩ := put_G 14 (nI r.2.2.2) hM4 (by decide) rfl ms_14
    obtain ⟨M6, e6, f6, hM6⟩ := put_G 11 (bI ((r.1 == 100) = true)) hM5 (by decide) (by unfold bI; split <;> rfl) ms_11
    have fA := (f4.trans f5).trans f6
    have u28 : upd s3 13 (nI r.2.2.1) 28 = nI r.2.2.2 := by rw [upd_n (by decide)]; exact y28
    have w20 : upd (upd (upd s3 13 (nI r.2.2.1)) 14 (nI r.2.2.2)) 11 (bI ((r.1 == 100) = true)) 20 = nI w := by rw [upd_n (by decide), upd_n (by decide), upd_n (by decide)]; exact c20
    have w21 : upd (upd (upd s3 13 (nI r.2.2.1)) 14 (nI r.2.2.2)) 11 (bI ((r.1 == 100) = true)) 21 = nI h := by rw [upd_n (by decide), upd_n (by decide), upd_n (by decide)]; exact c21
    have w11 : upd (upd (upd s3 13 (nI r.2.2.1)) 14 (nI r.2.2.2)) 11 (bI ((r.1 == 100) = true)) 11 = bI ((r.1 == 100) = true) := upd_s
    have fin : ∀ M7, Fr 107 108 M6 M7 → (∃ f, M7[107]? = some (.inl (0, 36, .inl f)) ∧ ((r.1 == 100) = true → ∀ k, k < w * h → f k = nI (tof r.2.1 k))) → Q (.inl (some (.int (nI r.1)))) M7 := by
      intro M7 g1 g2
      have un : ∀ b, 102 ≤ b → b ≠ 107 → M7[b]? = M3[b]? := fun b q1 q2 => (g1 b (by omega)).trans (fA b (by omega))
      refine hQ M7 _ (k3.trans (fun b q => (g1 b (by omega)).trans (fA b (by omega)))) ?_ ⟨hM6.fr g1 (by omega), j2.u ?_ (fun b q1 q2 => un b (by omega) (by omega)), ?_, j4.u ?_ ?_ (fun b q1 q2 => un b (by omega) (by omega)), j5.u ?_ (un _ (by omega) (by omega)), ⟨w11, g2⟩, ⟨?_, ?_⟩, j9.u ?_ (fun b q1 q2 => un b (by omega) (by omega)), j10.u (fun b q1 q2 => un b (by omega) (by omega))⟩
      · rw [upd_n (by decide), upd_n (by decide), upd_n (by decide)]; exact s30
      · rw [upd_n (by decide), upd_n (by decide), upd_n (by decide)]
      · rw [upd_n (by decide), upd_n (by decide), upd_n (by decide)]; exact j3
      · rw [upd_n (by decide), upd_n (by decide), upd_n (by decide)]
      · rw [upd_n (by decide), upd_n (by decide), upd_n (by decide)]
      · rw [upd_n (by decide), upd_n (by decide), upd_n (by decide)]
      · rw [upd_n (by decide), upd_n (by decide), upd_s]
      · rw [upd_n (by decide), upd_s]
      · rw [upd_n (by decide), upd_n (by decide), upd_n (by decide)]
    have j66 := (fA 107 (by omega)).trans j6
    have rp6 := (fA 112 (by omega)).trans rp
    by_cases hr : r.1 = 100
    · have hb : (r.1 == 100) = true := by rw [hr]; rfl
      have hgo := he.2.2 hr
      have hto := tof_ok hS.1 hpn (fun q => hgo.1 (Or.inl q)) hgo.2.1
      have eb := bI_t hb
      rw [eb] at e6
      have w11' := w11.trans eb
      simp only [g_135_0, g_135_1, g_135_2, g_135_3, g_135_6, g_135_9, g_135_12, g_135_13, g_135_16, g_135_17, g_135_20, g_135_23, g_135_24, g_135_27, g_135_28, g_135_31, g_135_34, g_135_35, g_135_36, g_135_37, g_135_40, g_135_41, g_135_42, g_135_45, g_135_46, g_135_49, g_135_50, g_135_51, g_135_52, g_135_55, g_135_58, g_135_59, g_135_60, g_135_63, g_135_66, g_135_67, g_135_68, g_135_70, g_135_73, g_135_74, g_135_77, g_135_78, g_135_81, g_135_82, g_135_84, g_135_85, g_135_88, g_135_91, g_135_92, g_135_95, g_135_98, g_135_99, g_135_102, g_135_103, g_135_104, g_135_107, g_135_108, g_135_109, g_135_112, g_135_113, g_135_116, g_135_119, g_135_120, qOb_some, kr_v, kr_n, qinv_i, qinv_r, qinv_0, Nat.reduceAdd, List.getElem?_cons_zero, List.getElem?_cons_succ, List.set_cons_zero, List.set_cons_succ, List.length_cons, List.length_nil, not_true_eq_false, not_false_eq_true, false_implies, true_implies, and_true, true_and, and_false, false_and, if_true, if_false, forall_const, or_true, true_or, false_or, or_false, i10, Bool.false_eq_true, bI_T, bI_F, mget c3, mo_27, y27, e4, mget hM4, mo_28, u28, e5, e1, eq_true hr, e6]
      refine upto (N := w * h) (I := fun c M' => Fr 107 108 M6 M' ∧ ∃ f, M'[107]? = some (.inl (0, 36, .inl f)) ∧ ∀ k, k < c → f k = nI (tof r.2.1 k)) (G := fun c M' => g 135 83 [some (.ref 101), some (.int x), some (.int (nI r.1)), some (.int (nI c))] [] M' 0 0 Q) ?_ ?_ 0 M6 (Nat.zero_le _) ⟨Fr.refl, ff, j66, fun k hk => absurd hk (Nat.not_lt_zero _)⟩
      · rintro M7 ⟨g1, f, g2, g3⟩
        have hM7 := hM6.fr g1 (by omega)
        have := fin M7 g1 ⟨f, g2, fun _ => g3⟩
        rw [g_135_83]
        simp only [g_135_0, g_135_1, g_135_2, g_135_3, g_135_6, g_135_9, g_135_12, g_135_13, g_135_16, g_135_17, g_135_20, g_135_23, g_135_24, g_135_27, g_135_28, g_135_31, g_135_34, g_135_35, g_135_36, g_135_37, g_135_40, g_135_41, g_135_42, g_135_45, g_135_46, g_135_49, g_135_50, g_135_51, g_135_52, g_135_55, g_135_58, g_135_59, g_135_60, g_135_63, g_135_66, g_135_67, g_135_68, g_135_70, g_135_73, g_135_74, g_135_77, g_135_78, g_135_81, g_135_82, g_135_84, g_135_85, g_135_88, g_135_91, g_135_92, g_135_95, g_135_98, g_135_99, g_135_102, g_135_103, g_135_104, g_135_107, g_135_108, g_135_109, g_135_112, g_135_113, g_135_116, g_135_119, g_135_120, qOb_some, kr_v, kr_n, qinv_i, qinv_r, qinv_0, Nat.reduceAdd, List.getElem?_cons_zero, List.getElem?_cons_succ, List.set_cons_zero, List.set_cons_succ, List.length_cons, List.length_nil, not_true_eq_false, not_false_eq_true, false_implies, true_implies, and_true, true_and, and_false, false_and, if_true, if_false, forall_const, or_true, true_or, false_or, or_false, i10, Bool.false_eq_true, bI_T, bI_F, hM7.cls, m_cells hM7 w20 w21, Int32.le_refl, z1, z2]
        exact this
      · rintro c M7 hc ⟨g1, f, g2, g3⟩ ih
        have hM7 := hM6.fr g1 (by omega)
        have hpc := (hpn.msk hS.1) c hc
        have ho : onlyI (r.2.1 c) = nI (tof r.2.1 c) := by
          rw [(hto c hc).2]
          rw [onlyI_pow _ (by have := (hto c hc).1; omega)]
        obtain ⟨M8, e8, f8, r8⟩ := ast_G (nI (tof r.2.1 c)) g2 (show c < 36 by omega) (by decide)
        rw [g_135_83]
        simp only [g_135_0, g_135_1, g_135_2, g_135_3, g_135_6, g_135_9, g_135_12, g_135_13, g_135_16, g_135_17, g_135_20, g_135_23, g_135_24, g_135_27, g_135_28, g_135_31, g_135_34, g_135_35, g_135_36, g_135_37, g_135_40, g_135_41, g_135_42, g_135_45, g_135_46, g_135_49, g_135_50, g_135_51, g_135_52, g_135_55, g_135_58, g_135_59, g_135_60, g_135_63, g_135_66, g_135_67, g_135_68, g_135_70, g_135_73, g_135_74, g_135_77, g_135_78, g_135_81, g_135_82, g_135_84, g_135_85, g_135_88, g_135_91, g_135_92, g_135_95, g_135_98, g_135_99, g_135_102, g_135_103, g_135_104, g_135_107, g_135_108, g_135_109, g_135_112, g_135_113, g_135_116, g_135_119, g_135_120, qOb_some, kr_v, kr_n, qinv_i, qinv_r, qinv_0, Nat.reduceAdd, List.getElem?_cons_zero, List.getElem?_cons_succ, List.set_cons_zero, List.set_cons_succ, List.length_cons, List.length_nil, not_true_eq_false, not_false_eq_true, false_implies, true_implies, and_true, true_and, and_false, false_and, if_true, if_false, forall_const, or_true, true_or, false_or, or_false, i10, Bool.false_eq_true, bI_T, bI_F, hM7.cls, m_cells hM7 w20 w21, nI_ge hc (show w * h < 2 ^ 31 by omega), mget hM7, mo_11, w11', mo_12, mo_23, ald_N ((g1 112 (by omega)).trans rp6) (show c < 36 by omega) (show 36 < 2147483648 by decide), vp c hc, m_only hpc, ho, e8, nI_1]
        refine ih M8 ⟨g1.trans f8, _, r8, fun k hk => ?_⟩
        by_cases e : k = c
        · rw [e, upd_s]
        · rw [upd_n e]; exact g3 k (by omega)
    · have hb : ¬ (r.1 == 100) = true := fun q => hr (by simpa using q)
      have eb := bI_f hb
      rw [eb] at e6
      have w11' := w11.trans eb
      have fin := fin M6 Fr.refl ⟨ff, j66, fun q => absurd q hb⟩
      simp only [g_135_0, g_135_1, g_135_2, g_135_3, g_135_6, g_135_9, g_135_12, g_135_13, g_135_16, g_135_17, g_135_20, g_135_23, g_135_24, g_135_27, g_135_28, g_135_31, g_135_34, g_135_35, g_135_36, g_135_37, g_135_40, g_135_41, g_135_42, g_135_45, g_135_46, g_135_49, g_135_50, g_135_51, g_135_52, g_135_55, g_135_58, g_135_59, g_135_60, g_135_63, g_135_66, g_135_67, g_135_68, g_135_70, g_135_73, g_135_74, g_135_77, g_135_78, g_135_81, g_135_82, g_135_84, g_135_85, g_135_88, g_135_91, g_135_92, g_135_95, g_135_98, g_135_99, g_135_102, g_135_103, g_135_104, g_135_107, g_135_108, g_135_109, g_135_112, g_135_113, g_135_116, g_135_119, g_135_120, qOb_some, kr_v, kr_n, qinv_i, qinv_r, qinv_0, Nat.reduceAdd, List.getElem?_cons_zero, List.getElem?_cons_succ, List.set_cons_zero, List.set_cons_succ, List.length_cons, List.length_nil, not_true_eq_false, not_false_eq_true, false_implies, true_implies, and_true, true_and, and_false, false_and, if_true, if_false, forall_const, or_true, true_or, false_or, or_false, i10, Bool.false_eq_true, bI_T, bI_F, mget c3, mo_27, y27, e4, mget hM4, mo_28, u28, e5, e1, eq_false hr, e6]
      rw [show (0 : Int32) = nI 0 from rfl, g_135_83]
      simp only [g_135_0, g_135_1, g_135_2, g_135_3, g_135_6, g_135_9, g_135_12, g_135_13, g_135_16, g_135_17, g_135_20, g_135_23, g_135_24, g_135_27, g_135_28, g_135_31, g_135_34, g_135_35, g_135_36, g_135_37, g_135_40, g_135_41, g_135_42, g_135_45, g_135_46, g_135_49, g_135_50, g_135_51, g_135_52, g_135_55, g_135_58, g_135_59, g_135_60, g_135_63, g_135_66, g_135_67, g_135_68, g_135_70, g_135_73, g_135_74, g_135_77, g_135_78, g_135_81, g_135_82, g_135_84, g_135_85, g_135_88, g_135_91, g_135_92, g_135_95, g_135_98, g_135_99, g_135_102, g_135_103, g_135_104, g_135_107, g_135_108, g_135_109, g_135_112, g_135_113, g_135_116, g_135_119, g_135_120, qOb_some, kr_v, kr_n, qinv_i, qinv_r, qinv_0, Nat.reduceAdd, List.getElem?_cons_zero, List.getElem?_cons_succ, List.set_cons_zero, List.set_cons_succ, List.length_cons, List.length_nil, not_true_eq_false, not_false_eq_true, false_implies, true_implies, and_true, true_and, and_false, false_and, if_true, if_false, forall_const, or_true, true_or, false_or, or_false, i10, Bool.false_eq_true, bI_T, bI_F, hM6.cls, m_cells hM6 w20 w21, nI_ge (show 0 < w * h from hD.pos) (show w * h < 2 ^ 31 by omega), mget hM6, mo_11, w11', z1, z2]
      exact fin
  rw [← x1] at st
  exact st
