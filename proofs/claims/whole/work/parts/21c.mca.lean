/-! the model's calls: wishes and questions -/
theorem m_setMost {M : qM} {s : Nat → Int32} {T : TS} {sd w h : Nat} {F : Nat → Option Nat} {B : Nat → Nat} {wo : Nat → Option Nat} {rd fd : Bool} {tl : Nat → Nat} {gs tk n : Nat} {cx cy : Nat → Int32} {ce : Nat → Nat} {ct : Nat → Nat → Nat} {t x : Int32} {Q : qR → qM → Prop} (hI : InvM M s T sd w h F B wo rd fd tl gs tk n cx cy ce ct) (hS : SOk T sd w h F B wo rd fd tl gs tk n cx cy ce ct)
    (hE1 : ¬ tileP T t → ∀ M' s', KM M M' → s' 0 = 1 → InvM M' s' T sd w h F B wo rd fd tl gs tk n cx cy ce ct → Q (.inl (some (.int 0))) M') (hE2 : tileP T t → ¬ mostP x → ∀ M' s', KM M M' → s' 0 = 2 → InvM M' s' T sd w h F B wo rd fd tl gs tk n cx cy ce ct → Q (.inl (some (.int 0))) M')
    (hQ : tileP T t → mostP x → ∀ M' s', KM M M' → s' 0 = 0 → InvM M' s' T sd w h F B (fuO wo (cn t) (oI x)) rd false tl gs tk n cx cy ce ct → Q (.inl (some (.int (nbI (wo (cn t)))))) M') : cl 118 [.ref 101, .int t, .int x] M Q := by
  have hM := hI.1
  have h8 := hS.1.1
  have s1 : ∀ {M : qM} {a : Int32} {Q : qR → qM → Prop}, cl 102 [.int a, .int (-1), .int 36] M Q ↔ Q (.inl (some (.int (@bI (mostP a) (inferInstanceAs (Decidable (-1 ≤ a ∧ a ≤ 36))))))) M := m_in
  rw [e_118]
  by_cases a : tileP T t
  case neg =>
    simp only [g_118_0, g_118_1, g_118_2, g_118_3, g_118_6, g_118_9, g_118_10, g_118_13, g_118_14, g_118_15, g_118_17, g_118_20, g_118_23, g_118_24, g_118_27, g_118_28, g_118_31, g_118_34, g_118_35, g_118_36, g_118_37, g_118_40, g_118_41, g_118_42, g_118_43, g_118_44, g_118_47, g_118_48, g_118_49, g_118_50, g_118_51, g_118_52, g_118_55, g_118_56, qOb_some, kr_v, kr_n, qinv_i, qinv_r, qinv_0, Nat.reduceAdd, List.getElem?_cons_zero, List.getElem?_cons_succ, List.set_cons_zero, List.set_cons_succ, List.length_cons, List.length_nil, hM.cls, m_isTileP hM hI.2.1 hS.1, bI_0, eq_false a, not_true_eq_false, not_false_eq_true, false_implies, true_implies, and_true, true_and, and_false, false_and, if_true, if_false, forall_const, or_true, true_or, false_or, or_false, i10, Bool.false_eq_true, bI_T, bI_F]
    refine m_go hI (fun M1 k1 f1 I1 => ?_)
    simp only [g_118_0, g_118_1, g_118_2, g_118_3, g_118_6, g_118_9, g_118_10, g_118_13, g_118_14, g_118_15, g_118_17, g_118_20, g_118_23, g_118_24, g_118_27, g_118_28, g_118_31, g_118_34, g_118_35, g_118_36, g_118_37, g_118_40, g_118_41, g_118_42, g_118_43, g_118_44, g_118_47, g_118_48, g_118_49, g_118_50, g_118_51, g_118_52, g_118_55, g_118_56, qOb_some, kr_v, kr_n, qinv_i, qinv_r, qinv_0, Nat.reduceAdd, List.getElem?_cons_zero, List.getElem?_cons_succ, List.set_cons_zero, List.set_cons_succ, List.length_cons, List.length_nil, bI_0, not_true_eq_false, not_false_eq_true, false_implies, true_implies, and_true, true_and, and_false, false_and, if_true, if_false, forall_const, or_true, true_or, false_or, or_false, i10, Bool.false_eq_true, bI_T, bI_F]
    exact hE1 a M1 _ k1 upd_s I1
  by_cases b : mostP x
  case neg =>
    simp only [g_118_0, g_118_1, g_118_2, g_118_3, g_118_6, g_118_9, g_118_10, g_118_13, g_118_14, g_118_15, g_118_17, g_118_20, g_118_23, g_118_24, g_118_27, g_118_28, g_118_31, g_118_34, g_118_35, g_118_36, g_118_37, g_118_40, g_118_41, g_118_42, g_118_43, g_118_44, g_118_47, g_118_48, g_118_49, g_118_50, g_118_51, g_118_52, g_118_55, g_118_56, qOb_some, kr_v, kr_n, qinv_i, qinv_r, qinv_0, Nat.reduceAdd, List.getElem?_cons_zero, List.getElem?_cons_succ, List.set_cons_zero, List.set_cons_succ, List.length_cons, List.length_nil, hM.cls, m_isTileP hM hI.2.1 hS.1, s1, bI_0, eq_true a, eq_false b, not_true_eq_false, not_false_eq_true, false_implies, true_implies, and_true, true_and, and_false, false_and, if_true, if_false, forall_const, or_true, true_or, false_or, or_false, i10, Bool.false_eq_true, bI_T, bI_F]
    refine m_go hI (fun M1 k1 f1 I1 => ?_)
    simp only [g_118_0, g_118_1, g_118_2, g_118_3, g_118_6, g_118_9, g_118_10, g_118_13, g_118_14, g_118_15, g_118_17, g_118_20, g_118_23, g_118_24, g_118_27, g_118_28, g_118_31, g_118_34, g_118_35, g_118_36, g_118_37, g_118_40, g_118_41, g_118_42, g_118_43, g_118_44, g_118_47, g_118_48, g_118_49, g_118_50, g_118_51, g_118_52, g_118_55, g_118_56, qOb_some, kr_v, kr_n, qinv_i, qinv_r, qinv_0, Nat.reduceAdd, List.getElem?_cons_zero, List.getElem?_cons_succ, List.set_cons_zero, List.set_cons_succ, List.length_cons, List.length_nil, bI_0, i20, not_true_eq_false, not_false_eq_true, false_implies, true_implies, and_true, true_and, and_false, false_and, if_true, if_false, forall_const, or_true, true_or, false_or, or_false, i10, Bool.false_eq_true, bI_T, bI_F]
    exact hE2 a b M1 _ k1 upd_s I1
  obtain ⟨t1, t2⟩ := tile_cn hS.1 a
  obtain ⟨x1, x2⟩ := oI_e b
  simp only [g_118_0, g_118_1, g_118_2, g_118_3, g_118_6, g_118_9, g_118_10, g_118_13, g_118_14, g_118_15, g_118_17, g_118_20, g_118_23, g_118_24, g_118_27, g_118_28, g_118_31, g_118_34, g_118_35, g_118_36, g_118_37, g_118_40, g_118_41, g_118_42, g_118_43, g_118_44, g_118_47, g_118_48, g_118_49, g_118_50, g_118_51, g_118_52, g_118_55, g_118_56, qOb_some, kr_v, kr_n, qinv_i, qinv_r, qinv_0, Nat.reduceAdd, List.getElem?_cons_zero, List.getElem?_cons_succ, List.set_cons_zero, List.set_cons_succ, List.length_cons, List.length_nil, hM.cls, m_isTileP hM hI.2.1 hS.1, s1, bI_0, eq_true a, eq_true b, not_true_eq_false, not_false_eq_true, false_implies, true_implies, and_true, true_and, and_false, false_and, if_true, if_false, forall_const, or_true, true_or, false_or, or_false, i10, Bool.false_eq_true, bI_T, bI_F]
  refine m_go hI (fun M1 k1 f1 I1 => ?_)
  have hM1 := I1.1
  obtain ⟨-, j2, j3, j4, ⟨⟨fw, j51, j52⟩, j53⟩, j6, ⟨j7, j8⟩, j9, j10⟩ := I1
  have ea : qald none M1 106 0 t = some (.int (nbI (wo (cn t)))) := by
    have := ald_N j51 (show cn t < 8 by omega) (by decide)
    rw [← t1, j52 _ (by omega)] at this
    exact this
  obtain ⟨M2, e2, f2, r2⟩ := ast_G x j51 (show cn t < 8 by omega) (by decide)
  rw [← t1] at e2
  have hM2 := hM1.fr f2 (by omega)
  obtain ⟨M3, e3, f3, hM3⟩ := put_G 11 0 hM2 (by decide) rfl ms_11
  simp only [g_118_0, g_118_1, g_118_2, g_118_3, g_118_6, g_118_9, g_118_10, g_118_13, g_118_14, g_118_15, g_118_17, g_118_20, g_118_23, g_118_24, g_118_27, g_118_28, g_118_31, g_118_34, g_118_35, g_118_36, g_118_37, g_118_40, g_118_41, g_118_42, g_118_43, g_118_44, g_118_47, g_118_48, g_118_49, g_118_50, g_118_51, g_118_52, g_118_55, g_118_56, qOb_some, kr_v, kr_n, qinv_i, qinv_r, qinv_0, Nat.reduceAdd, List.getElem?_cons_zero, List.getElem?_cons_succ, List.set_cons_zero, List.set_cons_succ, List.length_cons, List.length_nil, not_true_eq_false, not_false_eq_true, false_implies, true_implies, and_true, true_and, and_false, false_and, if_true, if_false, forall_const, or_true, true_or, false_or, or_false, i10, Bool.false_eq_true, bI_T, bI_F, mget hM1, mo_9, ea, e2, e3]
  have un : ∀ b, 102 ≤ b → b ≠ 106 → M3[b]? = M1[b]? := fun b q1 q2 => (f3 b (by omega)).trans (f2 b (by omega))
  refine hQ a b M3 _ (k1.trans (fun b q => (f3 b (by omega)).trans (f2 b (by omega)))) ?_ ⟨hM3, j2.u ?_ (fun b q1 q2 => un b (by omega) (by omega)), ?_, j4.u ?_ ?_ (fun b q1 q2 => un b (by omega) (by omega)), ⟨⟨_, (f3 106 (by omega)).trans r2, fun k hk => ?_⟩, ?_⟩, j6.un ?_ (un _ (by omega) (by omega)), ⟨?_, ?_⟩, j9.u ?_ (fun b q1 q2 => un b (by omega) (by omega)), j10.u (fun b q1 q2 => un b (by omega) (by omega))⟩
  · rw [upd_n (by decide), upd_s]
  · rw [upd_n (by decide)]
  · rw [upd_n (by decide)]; exact j3
  · rw [upd_n (by decide)]
  · rw [upd_n (by decide)]
  · by_cases e : k = cn t
    · rw [e, upd_s, fuO_s]; exact x1
    · rw [upd_n e, fuO_n e]; exact j52 k hk
  · rw [upd_n (by decide)]; exact j53
  · rw [upd_s]
  · rw [upd_n (by decide)]; exact j7
  · rw [upd_n (by decide)]; exact j8
  · rw [upd_n (by decide)]
theorem m_setRoad {M : qM} {s : Nat → Int32} {T : TS} {sd w h : Nat} {F : Nat → Option Nat} {B : Nat → Nat} {wo : Nat → Option Nat} {rd fd : Bool} {tl : Nat → Nat} {gs tk n : Nat} {cx cy : Nat → Int32} {ce : Nat → Nat} {ct : Nat → Nat → Nat} {b : Bool} {Q : qR → qM → Prop} (hI : InvM M s T sd w h F B wo rd fd tl gs tk n cx cy ce ct)
    (hQ : ∀ M' s', KM M M' → s' 0 = 0 → InvM M' s' T sd w h F B wo b false tl gs tk n cx cy ce ct → Q (.inl (some (.int (bI (rd = true))))) M') : cl 119 [.ref 101, .int (bI (b = true))] M Q := by
  have hM := hI.1
  obtain ⟨M1, e1, f1, hM1⟩ := put_G 0 0 hM (by decide) rfl ms_0
  obtain ⟨M2, e2, f2, hM2⟩ := put_G 10 (bI (b = true)) hM1 (by decide) (by cases b <;> rfl) ms_10
  obtain ⟨M3, e3, f3, hM3⟩ := put_G 11 0 hM2 (by decide) rfl ms_11
  obtain ⟨-, j2, j3, j4, ⟨⟨fw, j51, j52⟩, j53⟩, j6, ⟨j7, j8⟩, j9, j10⟩ := hI
  have v10 : upd s 0 0 10 = bI (rd = true) := by rw [upd_n (by decide)]; exact j53
  have fA := (f1.trans f2).trans f3
  have un : ∀ b, 102 ≤ b → M3[b]? = M[b]? := fun b q => fA b (by omega)
  rw [e_119]
  simp only [g_119_0, g_119_1, g_119_2, g_119_5, g_119_6, g_119_9, g_119_10, g_119_11, g_119_12, g_119_15, g_119_16, g_119_17, g_119_20, g_119_21, qOb_some, kr_v, kr_n, qinv_i, qinv_r, qinv_0, Nat.reduceAdd, List.getElem?_cons_zero, List.getElem?_cons_succ, List.set_cons_zero, List.set_cons_succ, List.length_cons, List.length_nil, not_true_eq_false, not_false_eq_true, false_implies, true_implies, and_true, true_and, and_false, false_and, if_true, if_false, forall_const, or_true, true_or, false_or, or_false, i10, Bool.false_eq_true, bI_T, bI_F, e1, mget hM1, mo_10, v10, e2, e3, bI_01]
  refine hQ M3 _ (fA.km (by omega) (by omega)) ?_ ⟨hM3, j2.u ?_ (fun b q1 q2 => un b (by omega)), ?_, j4.u ?_ ?_ (fun b q1 q2 => un b (by omega)), ⟨⟨fw, (un 106 (by omega)).trans j51, j52⟩, ?_⟩, j6.un ?_ (un _ (by omega)), ⟨?_, ?_⟩, j9.u ?_ (fun b q1 q2 => un b (by omega)), j10.u (fun b q1 q2 => un b (by omega))⟩
  · rw [upd_n (by decide), upd_n (by decide), upd_s]
  · rw [upd_n (by decide), upd_n (by decide), upd_n (by decide)]
  · rw [upd_n (by decide), upd_n (by decide), upd_n (by decide)]; exact j3
  · rw [upd_n (by decide), upd_n (by decide), upd_n (by decide)]
  · rw [upd_n (by decide), upd_n (by decide), upd_n (by decide)]
  · rw [upd_n (by decide), upd_s]
  · rw [upd_s]
  · rw [upd_n (by decide), upd_n (by decide), upd_n (by decide)]; exact j7
  · rw [upd_n (by decide), upd_n (by decide), upd_n (by decide)]; exact j8
  · rw [upd_n (by decide), upd_n (by decide), upd_n (by decide)]
theorem m_areFitting {M : qM} {s : Nat → Int32} {T : TS} {sd w h : Nat} {F : Nat → Option Nat} {B : Nat → Nat} {wo : Nat → Option Nat} {rd fd : Bool} {tl : Nat → Nat} {gs tk n : Nat} {cx cy : Nat → Int32} {ce : Nat → Nat} {ct : Nat → Nat → Nat} {t u d : Int32} {Q : qR → qM → Prop} (hI : InvM M s T sd w h F B wo rd fd tl gs tk n cx cy ce ct) (hS : SOk T sd w h F B wo rd fd tl gs tk n cx cy ce ct)
    (hE1 : ¬ (tileP T t ∧ tileP T u) → ∀ M' s', KM M M' → s' 0 = 1 → InvM M' s' T sd w h F B wo rd fd tl gs tk n cx cy ce ct → Q (.inl (some (.int 0))) M') (hE2 : tileP T t → tileP T u → ¬ dirP d → ∀ M' s', KM M M' → s' 0 = 2 → InvM M' s' T sd w h F B wo rd fd tl gs tk n cx cy ce ct → Q (.inl (some (.int 0))) M')
    (hQ : tileP T t → tileP T u → dirP d → ∀ M' s', KM M M' → s' 0 = 0 → InvM M' s' T sd w h F B wo rd fd tl gs tk n cx cy ce ct → Q (.inl (some (.int (bI (T.c (cn t) (cn d) = T.c (cn u) (op (cn d))))))) M') : cl 120 [.ref 101, .int t, .int u, .int d] M Q := by
  have hM := hI.1
  have s1 : ∀ {M : qM} {a : Int32} {Q : qR → qM → Prop}, cl 102 [.int a, .int 0, .int 3] M Q ↔ Q (.inl (some (.int (@bI (dirP a) (inferInstanceAs (Decidable (0 ≤ a ∧ a ≤ 3))))))) M := m_in
  rw [e_120]
  by_cases a : tileP T t
  case neg =>
    simp only [g_120_0, g_120_1, g_120_2, g_120_3, g_120_6, g_120_9, g_120_10, g_120_11, g_120_14, g_120_17, g_120_18, g_120_21, g_120_22, g_120_23, g_120_24, g_120_27, g_120_30, g_120_31, g_120_34, g_120_35, g_120_38, g_120_41, g_120_42, g_120_43, g_120_44, g_120_45, g_120_48, g_120_51, g_120_52, g_120_55, g_120_56, qOb_some, kr_v, kr_n, qinv_i, qinv_r, qinv_0, Nat.reduceAdd, List.getElem?_cons_zero, List.getElem?_cons_succ, List.set_cons_zero, List.set_cons_succ, List.length_cons, List.length_nil, hM.cls, m_isTileP hM hI.2.1 hS.1, bI_0, eq_false a, not_true_eq_false, not_false_eq_true, false_implies, true_implies, and_true, true_and, and_false, false_and, if_true, if_false, forall_const, or_true, true_or, false_or, or_false, i10, Bool.false_eq_true, bI_T, bI_F]
    refine m_go hI (fun M1 k1 f1 I1 => ?_)
    simp only [g_120_0, g_120_1, g_120_2, g_120_3, g_120_6, g_120_9, g_120_10, g_120_11, g_120_14, g_120_17, g_120_18, g_120_21, g_120_22, g_120_23, g_120_24, g_120_27, g_120_30, g_120_31, g_120_34, g_120_35, g_120_38, g_120_41, g_120_42, g_120_43, g_120_44, g_120_45, g_120_48, g_120_51, g_120_52, g_120_55, g_120_56, qOb_some, kr_v, kr_n, qinv_i, qinv_r, qinv_0, Nat.reduceAdd, List.getElem?_cons_zero, List.getElem?_cons_succ, List.set_cons_zero, List.set_cons_succ, List.length_cons, List.length_nil, bI_0, not_true_eq_false, not_false_eq_true, false_implies, true_implies, and_true, true_and, and_false, false_and, if_true, if_false, forall_const, or_true, true_or, false_or, or_false, i10, Bool.false_eq_true, bI_T, bI_F]
    exact hE1 (fun q => a q.1) M1 _ k1 upd_s I1
  by_cases b : tileP T u
  case neg =>
    simp only [g_120_0, g_120_1, g_120_2, g_120_3, g_120_6, g_120_9, g_120_10, g_120_11, g_120_14, g_120_17, g_120_18, g_120_21, g_120_22, g_120_23, g_120_24, g_120_27, g_120_30, g_120_31, g_120_34, g_120_35, g_120_38, g_120_41, g_120_42, g_120_43, g_120_44, g_120_45, g_120_48, g_120_51, g_120_52, g_120_55, g_120_56, qOb_some, kr_v, kr_n, qinv_i, qinv_r, qinv_0, Nat.reduceAdd, List.getElem?_cons_zero, List.getElem?_cons_succ, List.set_cons_zero, List.set_cons_succ, List.length_cons, List.length_nil, hM.cls, m_isTileP hM hI.2.1 hS.1, bI_0, eq_true a, eq_false b, not_true_eq_false, not_false_eq_true, false_implies, true_implies, and_true, true_and, and_false, false_and, if_true, if_false, forall_const, or_true, true_or, false_or, or_false, i10, Bool.false_eq_true, bI_T, bI_F]
    refine m_go hI (fun M1 k1 f1 I1 => ?_)
    simp only [g_120_0, g_120_1, g_120_2, g_120_3, g_120_6, g_120_9, g_120_10, g_120_11, g_120_14, g_120_17, g_120_18, g_120_21, g_120_22, g_120_23, g_120_24, g_120_27, g_120_30, g_120_31, g_120_34, g_120_35, g_120_38, g_120_41, g_120_42, g_120_43, g_120_44, g_120_45, g_120_48, g_120_51, g_120_52, g_120_55, g_120_56, qOb_some, kr_v, kr_n, qinv_i, qinv_r, qinv_0, Nat.reduceAdd, List.getElem?_cons_zero, List.getElem?_cons_succ, List.set_cons_zero, List.set_cons_succ, List.length_cons, List.length_nil, bI_0, not_true_eq_false, not_false_eq_true, false_implies, true_implies, and_true, true_and, and_false, false_and, if_true, if_false, forall_const, or_true, true_or, false_or, or_false, i10, Bool.false_eq_true, bI_T, bI_F]
    exact hE1 (fun q => b q.2) M1 _ k1 upd_s I1
  by_cases c : dirP d
  case neg =>
    simp only [g_120_0, g_120_1, g_120_2, g_120_3, g_120_6, g_120_9, g_120_10, g_120_11, g_120_14, g_120_17, g_120_18, g_120_21, g_120_22, g_120_23, g_120_24, g_120_27, g_120_30, g_120_31, g_120_34, g_120_35, g_120_38, g_120_41, g_120_42, g_120_43, g_120_44, g_120_45, g_120_48, g_120_51, g_120_52, g_120_55, g_120_56, qOb_some, kr_v, kr_n, qinv_i, qinv_r, qinv_0, Nat.reduceAdd, List.getElem?_cons_zero, List.getElem?_cons_succ, List.set_cons_zero, List.set_cons_succ, List.length_cons, List.length_nil, hM.cls, m_isTileP hM hI.2.1 hS.1, s1, bI_0, eq_true a, eq_true b, eq_false c, not_true_eq_false, not_false_eq_true, false_implies, true_implies, and_true, true_and, and_false, false_and, if_true, if_false, forall_const, or_true, true_or, false_or, or_false, i10, Bool.false_eq_true, bI_T, bI_F]
    refine m_go hI (fun M1 k1 f1 I1 => ?_)
    simp only [g_120_0, g_120_1, g_120_2, g_120_3, g_120_6, g_120_9, g_120_10, g_120_11, g_120_14, g_120_17, g_120_18, g_120_21, g_120_22, g_120_23, g_120_24, g_120_27, g_120_30, g_120_31, g_120_34, g_120_35, g_120_38, g_120_41, g_120_42, g_120_43, g_120_44, g_120_45, g_120_48, g_120_51, g_120_52, g_120_55, g_120_56, qOb_some, kr_v, kr_n, qinv_i, qinv_r, qinv_0, Nat.reduceAdd, List.getElem?_cons_zero, List.getElem?_cons_succ, List.set_cons_zero, List.set_cons_succ, List.length_cons, List.length_nil, bI_0, i20, not_true_eq_false, not_false_eq_true, false_implies, true_implies, and_true, true_and, and_false, false_and, if_true, if_false, forall_const, or_true, true_or, false_or, or_false, i10, Bool.false_eq_true, bI_T, bI_F]
    exact hE2 a b c M1 _ k1 upd_s I1
  obtain ⟨t1, t2⟩ := tile_cn hS.1 a
  obtain ⟨u1, u2⟩ := tile_cn hS.1 b
  obtain ⟨d1, d2⟩ := cn_le (m := 3) (by decide) c.1 c.2
  simp only [g_120_0, g_120_1, g_120_2, g_120_3, g_120_6, g_120_9, g_120_10, g_120_11, g_120_14, g_120_17, g_120_18, g_120_21, g_120_22, g_120_23, g_120_24, g_120_27, g_120_30, g_120_31, g_120_34, g_120_35, g_120_38, g_120_41, g_120_42, g_120_43, g_120_44, g_120_45, g_120_48, g_120_51, g_120_52, g_120_55, g_120_56, qOb_some, kr_v, kr_n, qinv_i, qinv_r, qinv_0, Nat.reduceAdd, List.getElem?_cons_zero, List.getElem?_cons_succ, List.set_cons_zero, List.set_cons_succ, List.length_cons, List.length_nil, hM.cls, m_isTileP hM hI.2.1 hS.1, s1, bI_0, eq_true a, eq_true b, eq_true c, not_true_eq_false, not_false_eq_true, false_implies, true_implies, and_true, true_and, and_false, false_and, if_true, if_false, forall_const, or_true, true_or, false_or, or_false, i10, Bool.false_eq_true, bI_T, bI_F]
  refine m_go hI (fun M1 k1 f1 I1 => ?_)
  have fin := hQ a b c M1 _ k1 upd_s I1
  have fe : ∀ Q : qR → qM → Prop, cl 109 [.ref 101, .int t, .int u, .int d] M1 Q ↔ Q (.inl (some (.int (bI (T.c (cn t) (cn d) = T.c (cn u) (op (cn d))))))) M1 := by
    intro Q
    have := m_fit (Q := Q) I1.1 I1.2.1 hS.1 t2 u2 (show cn d < 4 by omega)
    rw [← t1, ← u1, ← d1] at this
    exact this
  by_cases e : T.c (cn t) (cn d) = T.c (cn u) (op (cn d))
  · rw [bI_t e] at fin
    simp only [g_120_0, g_120_1, g_120_2, g_120_3, g_120_6, g_120_9, g_120_10, g_120_11, g_120_14, g_120_17, g_120_18, g_120_21, g_120_22, g_120_23, g_120_24, g_120_27, g_120_30, g_120_31, g_120_34, g_120_35, g_120_38, g_120_41, g_120_42, g_120_43, g_120_44, g_120_45, g_120_48, g_120_51, g_120_52, g_120_55, g_120_56, qOb_some, kr_v, kr_n, qinv_i, qinv_r, qinv_0, Nat.reduceAdd, List.getElem?_cons_zero, List.getElem?_cons_succ, List.set_cons_zero, List.set_cons_succ, List.length_cons, List.length_nil, bI_0, not_true_eq_false, not_false_eq_true, false_implies, true_implies, and_true, true_and, and_false, false_and, if_true, if_false, forall_const, or_true, true_or, false_or, or_false, i10, Bool.false_eq_true, bI_T, bI_F, I1.1.cls, fe, eq_true e]
    exact fin
  · rw [bI_f e] at fin
    simp only [g_120_0, g_120_1, g_120_2, g_120_3, g_120_6, g_120_9, g_120_10, g_120_11, g_120_14, g_120_17, g_120_18, g_120_21, g_120_22, g_120_23, g_120_24, g_120_27, g_120_30, g_120_31, g_120_34, g_120_35, g_120_38, g_120_41, g_120_42, g_120_43, g_120_44, g_120_45, g_120_48, g_120_51, g_120_52, g_120_55, g_120_56, qOb_some, kr_v, kr_n, qinv_i, qinv_r, qinv_0, Nat.reduceAdd, List.getElem?_cons_zero, List.getElem?_cons_succ, List.set_cons_zero, List.set_cons_succ, List.length_cons, List.length_nil, bI_0, not_true_eq_false, not_false_eq_true, false_implies, true_implies, and_true, true_and, and_false, false_and, if_true, if_false, forall_const, or_true, true_or, false_or, or_false, i10, Bool.false_eq_true, bI_T, bI_F, I1.1.cls, fe, eq_false e]
    exact fin
theorem m_isFilled {M : qM} {s : Nat → Int32} {T : TS} {sd w h : Nat} {F : Nat → Option Nat} {B : Nat → Nat} {wo : Nat → Option Nat} {rd fd : Bool} {tl : Nat → Nat} {gs tk n : Nat} {cx cy : Nat → Int32} {ce : Nat → Nat} {ct : Nat → Nat → Nat} {Q : qR → qM → Prop} (hI : InvM M s T sd w h F B wo rd fd tl gs tk n cx cy ce ct) (hQ : ∀ M' s', KM M M' → InvM M' s' T sd w h F B wo rd fd tl gs tk n cx cy ce ct → Q (.inl (some (.int (bI (fd = true))))) M') : cl 139 [.ref 101] M Q := by
  obtain ⟨M1, e1, f1, hM1⟩ := put_G 0 0 hI.1 (by decide) rfl ms_0
  have I1 := hI.p0 f1 hM1
  rw [e_139]
  simp only [g_139_0, g_139_1, g_139_2, g_139_5, g_139_6, g_139_9, qOb_some, kr_v, kr_n, qinv_i, qinv_r, qinv_0, Nat.reduceAdd, List.getElem?_cons_zero, List.getElem?_cons_succ, List.set_cons_zero, List.set_cons_succ, List.length_cons, List.length_nil, not_true_eq_false, not_false_eq_true, false_implies, true_implies, and_true, true_and, and_false, false_and, if_true, if_false, forall_const, or_true, true_or, false_or, or_false, i10, Bool.false_eq_true, bI_T, bI_F, e1, mget hM1, mo_11, I1.2.2.2.2.2.1.1, bI_01]
  exact hQ M1 _ (f1.km (by omega) (by omega)) I1
theorem m_guesses {M : qM} {s : Nat → Int32} {T : TS} {sd w h : Nat} {F : Nat → Option Nat} {B : Nat → Nat} {wo : Nat → Option Nat} {rd fd : Bool} {tl : Nat → Nat} {gs tk n : Nat} {cx cy : Nat → Int32} {ce : Nat → Nat} {ct : Nat → Nat → Nat} {Q : qR → qM → Prop} (hI : InvM M s T sd w h F B wo rd fd tl gs tk n cx cy ce ct) (hQ : ∀ M' s', KM M M' → InvM M' s' T sd w h F B wo rd fd tl gs tk n cx cy ce ct → Q (.inl (some (.int (nI gs)))) M') : cl 141 [.ref 101] M Q := by
  obtain ⟨M1, e1, f1, hM1⟩ := put_G 0 0 hI.1 (by decide) rfl ms_0
  have I1 := hI.p0 f1 hM1
  rw [e_141]
  simp only [g_141_0, g_141_1, g_141_2, g_141_5, g_141_6, g_141_9, qOb_some, kr_v, kr_n, qinv_i, qinv_r, qinv_0, Nat.reduceAdd, List.getElem?_cons_zero, List.getElem?_cons_succ, List.set_cons_zero, List.set_cons_succ, List.length_cons, List.length_nil, not_true_eq_false, not_false_eq_true, false_implies, true_implies, and_true, true_and, and_false, false_and, if_true, if_false, forall_const, or_true, true_or, false_or, or_false, i10, Bool.false_eq_true, bI_T, bI_F, e1, mget hM1, mo_13, I1.2.2.2.2.2.2.1.1]
  exact hQ M1 _ (f1.km (by omega) (by omega)) I1
theorem m_takenBack {M : qM} {s : Nat → Int32} {T : TS} {sd w h : Nat} {F : Nat → Option Nat} {B : Nat → Nat} {wo : Nat → Option Nat} {rd fd : Bool} {tl : Nat → Nat} {gs tk n : Nat} {cx cy : Nat → Int32} {ce : Nat → Nat} {ct : Nat → Nat → Nat} {Q : qR → qM → Prop} (hI : InvM M s T sd w h F B wo rd fd tl gs tk n cx cy ce ct) (hQ : ∀ M' s', KM M M' → InvM M' s' T sd w h F B wo rd fd tl gs tk n cx cy ce ct → Q (.inl (some (.int (nI tk)))) M') : cl 142 [.ref 101] M Q := by
  obtain ⟨M1, e1, f1, hM1⟩ := put_G 0 0 hI.1 (by decide) rfl ms_0
  have I1 := hI.p0 f1 hM1
  rw [e_142]
  simp only [g_142_0, g_142_1, g_142_2, g_142_5, g_142_6, g_142_9, qOb_some, kr_v, kr_n, qinv_i, qinv_r, qinv_0, Nat.reduceAdd, List.getElem?_cons_zero, List.getElem?_cons_succ, List.set_cons_zero, List.set_cons_succ, List.length_cons, List.length_nil, not_true_eq_false, not_false_eq_true, false_implies, true_implies, and_true, true_and, and_false, false_and, if_true, if_false, forall_const, or_true, true_or, false_or, or_false, i10, Bool.false_eq_true, bI_T, bI_F, e1, mget hM1, mo_14, I1.2.2.2.2.2.2.1.2]
  exact hQ M1 _ (f1.km (by omega) (by omega)) I1
theorem m_chunks {M : qM} {s : Nat → Int32} {T : TS} {sd w h : Nat} {F : Nat → Option Nat} {B : Nat → Nat} {wo : Nat → Option Nat} {rd fd : Bool} {tl : Nat → Nat} {gs tk n : Nat} {cx cy : Nat → Int32} {ce : Nat → Nat} {ct : Nat → Nat → Nat} {Q : qR → qM → Prop} (hI : InvM M s T sd w h F B wo rd fd tl gs tk n cx cy ce ct) (hQ : ∀ M' s', KM M M' → InvM M' s' T sd w h F B wo rd fd tl gs tk n cx cy ce ct → Q (.inl (some (.int (nI n)))) M') : cl 154 [.ref 101] M Q := by
  obtain ⟨M1, e1, f1, hM1⟩ := put_G 0 0 hI.1 (by decide) rfl ms_0
  have I1 := hI.p0 f1 hM1
  rw [e_154]
  simp only [g_154_0, g_154_1, g_154_2, g_154_5, g_154_6, g_154_9, qOb_some, kr_v, kr_n, qinv_i, qinv_r, qinv_0, Nat.reduceAdd, List.getElem?_cons_zero, List.getElem?_cons_succ, List.set_cons_zero, List.set_cons_succ, List.length_cons, List.length_nil, not_true_eq_false, not_false_eq_true, false_implies, true_implies, and_true, true_and, and_false, false_and, if_true, if_false, forall_const, or_true, true_or, false_or, or_false, i10, Bool.false_eq_true, bI_T, bI_F, e1, mget hM1, mo_15, I1.2.2.2.2.2.2.2.1.1]
  exact hQ M1 _ (f1.km (by omega) (by omega)) I1
theorem m_forget {M : qM} {s : Nat → Int32} {T : TS} {sd w h : Nat} {F : Nat → Option Nat} {B : Nat → Nat} {wo : Nat → Option Nat} {rd fd : Bool} {tl : Nat → Nat} {gs tk n : Nat} {cx cy : Nat → Int32} {ce : Nat → Nat} {ct : Nat → Nat → Nat} {Q : qR → qM → Prop} (hI : InvM M s T sd w h F B wo rd fd tl gs tk n cx cy ce ct) (hQ : ∀ M' s', KM M M' → InvM M' s' T sd w h F B wo rd fd tl gs tk 0 cx cy ce ct → Q (.inl (some (.int (nI n)))) M') : cl 155 [.ref 101] M Q := by
  obtain ⟨M1, e1, f1, hM1⟩ := put_G 0 0 hI.1 (by decide) rfl ms_0
  have I1 := hI.p0 f1 hM1
  have v15 := I1.2.2.2.2.2.2.2.1.1
  obtain ⟨M2, e2, f2, hM2⟩ := put_G 15 0 hM1 (by decide) rfl ms_15
  obtain ⟨-, j2, j3, j4, j5, j6, ⟨j7, j8⟩, j9, j10⟩ := I1
  have un : ∀ b, 102 ≤ b → M2[b]? = M1[b]? := fun b q => f2 b (by omega)
  rw [e_155]
  simp only [g_155_0, g_155_1, g_155_2, g_155_5, g_155_6, g_155_9, g_155_10, g_155_11, g_155_12, g_155_15, g_155_16, qOb_some, kr_v, kr_n, qinv_i, qinv_r, qinv_0, Nat.reduceAdd, List.getElem?_cons_zero, List.getElem?_cons_succ, List.set_cons_zero, List.set_cons_succ, List.length_cons, List.length_nil, not_true_eq_false, not_false_eq_true, false_implies, true_implies, and_true, true_and, and_false, false_and, if_true, if_false, forall_const, or_true, true_or, false_or, or_false, i10, Bool.false_eq_true, bI_T, bI_F, e1, mget hM1, mo_15, v15, e2]
  refine hQ M2 _ ((f1.km (by omega) (by omega)).trans (f2.km (by omega) (by omega))) ⟨hM2, j2.u ?_ (fun b q1 q2 => un b (by omega)), ?_, j4.u ?_ ?_ (fun b q1 q2 => un b (by omega)), j5.u ?_ (un _ (by omega)), j6.u ?_ (un _ (by omega)), ⟨?_, ?_⟩, j9.none ?_ (fun b q1 q2 => un b (by omega)), j10.u (fun b q1 q2 => un b (by omega))⟩
  · rw [upd_n (by decide)]
  · rw [upd_n (by decide)]; exact j3
  · rw [upd_n (by decide)]
  · rw [upd_n (by decide)]
  · rw [upd_n (by decide)]
  · rw [upd_n (by decide)]
  · rw [upd_n (by decide)]; exact j7
  · rw [upd_n (by decide)]; exact j8
  · rw [upd_s]
theorem bI_t' {p : Prop} {i : Decidable p} (h : p) : @bI p i = 1 := if_pos h
theorem bI_f' {p : Prop} {i : Decidable p} (h : ¬ p) : @bI p i = 0 := if_neg h
theorem m_isNearP {M : qM} {a b : Int32} {Q : qR → qM → Prop} : cl 148 [.int a, .int b] M Q ↔ Q (.inl (some (.int (@bI (nearP a b) (inferInstanceAs (Decidable ((-50 ≤ a ∧ a ≤ 50) ∧ (-50 ≤ b ∧ b ≤ 50)))))))) M := by
  refine cl_iff (fun Q hQ => ?_)
  rw [e_148]
  by_cases h1 : -50 ≤ a ∧ a ≤ 50
  · by_cases h2 : -50 ≤ b ∧ b ≤ 50
    · have := hQ
      rw [bI_t' (show nearP a b from ⟨h1, h2⟩)] at this
      simp only [g_148_0, g_148_1, g_148_3, g_148_5, g_148_8, g_148_11, g_148_12, g_148_14, g_148_16, g_148_19, g_148_22, g_148_23, g_148_26, g_148_27, qOb_some, kr_v, kr_n, qinv_i, qinv_r, qinv_0, Nat.reduceAdd, List.getElem?_cons_zero, List.getElem?_cons_succ, List.set_cons_zero, List.set_cons_succ, List.length_cons, List.length_nil, m_in, bI_0, eq_true h1, eq_true h2, not_true_eq_false, not_false_eq_true, false_implies, true_implies, and_true, true_and, and_false, false_and, if_true, if_false, forall_const, or_true, true_or, false_or, or_false, i10, Bool.false_eq_true, bI_T, bI_F]
      exact this
    · have := hQ
      rw [bI_f' (show ¬ nearP a b from fun q => h2 q.2)] at this
      simp only [g_148_0, g_148_1, g_148_3, g_148_5, g_148_8, g_148_11, g_148_12, g_148_14, g_148_16, g_148_19, g_148_22, g_148_23, g_148_26, g_148_27, qOb_some, kr_v, kr_n, qinv_i, qinv_r, qinv_0, Nat.reduceAdd, List.getElem?_cons_zero, List.getElem?_cons_succ, List.set_cons_zero, List.set_cons_succ, List.length_cons, List.length_nil, m_in, bI_0, eq_true h1, eq_false h2, not_true_eq_false, not_false_eq_true, false_implies, true_implies, and_true, true_and, and_false, false_and, if_true, if_false, forall_const, or_true, true_or, false_or, or_false, i10, Bool.false_eq_true, bI_T, bI_F]
      exact this
  · have := hQ
    rw [bI_f' (show ¬ nearP a b from fun q => h1 q.1)] at this
    simp only [g_148_0, g_148_1, g_148_3, g_148_5, g_148_8, g_148_11, g_148_12, g_148_14, g_148_16, g_148_19, g_148_22, g_148_23, g_148_26, g_148_27, qOb_some, kr_v, kr_n, qinv_i, qinv_r, qinv_0, Nat.reduceAdd, List.getElem?_cons_zero, List.getElem?_cons_succ, List.set_cons_zero, List.set_cons_succ, List.length_cons, List.length_nil, m_in, bI_0, eq_false h1, not_true_eq_false, not_false_eq_true, false_implies, true_implies, and_true, true_and, and_false, false_and, if_true, if_false, forall_const, or_true, true_or, false_or, or_false, i10, Bool.false_eq_true, bI_T, bI_F]
    exact this
theorem m_border {M : qM} {s : Nat → Int32} {T : TS} {sd w h : Nat} {F : Nat → Option Nat} {B : Nat → Nat} {wo : Nat → Option Nat} {rd fd : Bool} {tl : Nat → Nat} {gs tk n : Nat} {cx cy : Nat → Int32} {ce : Nat → Nat} {ct : Nat → Nat → Nat} {x y p : Int32} {b : Bool} {Q : qR → qM → Prop} (hI : InvM M s T sd w h F B wo rd fd tl gs tk n cx cy ce ct)
    (hE : ¬ (nearP x y ∧ plP p) → ∀ M' s', KM M M' → s' 0 = 1 → InvM M' s' T sd w h F B wo rd fd tl gs tk n cx cy ce ct → Q (.inl (some (.int 0))) M')
    (hQ : nearP x y → plP p → ∀ M' s', KM M M' → s' 0 = 0 → InvM M' s' T sd w h F B wo rd fd tl gs tk n cx cy ce ct → Q (.inl (some (.int (nI (colN (nI sd) x y (bI (b = true)) p))))) M') : cl 153 [.ref 101, .int x, .int y, .int (bI (b = true)), .int p] M Q := by
  have hM := hI.1
  have s1 : ∀ {M : qM} {a : Int32} {Q : qR → qM → Prop}, cl 102 [.int a, .int 0, .int 2] M Q ↔ Q (.inl (some (.int (@bI (plP a) (inferInstanceAs (Decidable (0 ≤ a ∧ a ≤ 2))))))) M := m_in
  rw [e_153]
  by_cases a : nearP x y
  case neg =>
    simp only [g_153_0, g_153_1, g_153_2, g_153_3, g_153_6, g_153_9, g_153_11, g_153_12, g_153_13, g_153_16, g_153_19, g_153_20, g_153_23, g_153_24, g_153_27, g_153_30, g_153_31, g_153_32, g_153_33, g_153_34, g_153_37, g_153_38, g_153_41, g_153_42, g_153_44, g_153_47, g_153_50, g_153_51, qOb_some, kr_v, kr_n, qinv_i, qinv_r, qinv_0, Nat.reduceAdd, List.getElem?_cons_zero, List.getElem?_cons_succ, List.set_cons_zero, List.set_cons_succ, List.length_cons, List.length_nil, m_isNearP, bI_0, eq_false a, not_true_eq_false, not_false_eq_true, false_implies, true_implies, and_true, true_and, and_false, false_and, if_true, if_false, forall_const, or_true, true_or, false_or, or_false, i10, Bool.false_eq_true, bI_T, bI_F, hM.cls]
    refine m_go hI (fun M1 k1 f1 I1 => ?_)
    simp only [g_153_0, g_153_1, g_153_2, g_153_3, g_153_6, g_153_9, g_153_11, g_153_12, g_153_13, g_153_16, g_153_19, g_153_20, g_153_23, g_153_24, g_153_27, g_153_30, g_153_31, g_153_32, g_153_33, g_153_34, g_153_37, g_153_38, g_153_41, g_153_42, g_153_44, g_153_47, g_153_50, g_153_51, qOb_some, kr_v, kr_n, qinv_i, qinv_r, qinv_0, Nat.reduceAdd, List.getElem?_cons_zero, List.getElem?_cons_succ, List.set_cons_zero, List.set_cons_succ, List.length_cons, List.length_nil, bI_0, not_true_eq_false, not_false_eq_true, false_implies, true_implies, and_true, true_and, and_false, false_and, if_true, if_false, forall_const, or_true, true_or, false_or, or_false, i10, Bool.false_eq_true, bI_T, bI_F]
    exact hE (fun q => a q.1) M1 _ k1 upd_s I1
  by_cases c : plP p
  case neg =>
    simp only [g_153_0, g_153_1, g_153_2, g_153_3, g_153_6, g_153_9, g_153_11, g_153_12, g_153_13, g_153_16, g_153_19, g_153_20, g_153_23, g_153_24, g_153_27, g_153_30, g_153_31, g_153_32, g_153_33, g_153_34, g_153_37, g_153_38, g_153_41, g_153_42, g_153_44, g_153_47, g_153_50, g_153_51, qOb_some, kr_v, kr_n, qinv_i, qinv_r, qinv_0, Nat.reduceAdd, List.getElem?_cons_zero, List.getElem?_cons_succ, List.set_cons_zero, List.set_cons_succ, List.length_cons, List.length_nil, m_isNearP, s1, bI_0, eq_true a, eq_false c, not_true_eq_false, not_false_eq_true, false_implies, true_implies, and_true, true_and, and_false, false_and, if_true, if_false, forall_const, or_true, true_or, false_or, or_false, i10, Bool.false_eq_true, bI_T, bI_F, hM.cls]
    refine m_go hI (fun M1 k1 f1 I1 => ?_)
    simp only [g_153_0, g_153_1, g_153_2, g_153_3, g_153_6, g_153_9, g_153_11, g_153_12, g_153_13, g_153_16, g_153_19, g_153_20, g_153_23, g_153_24, g_153_27, g_153_30, g_153_31, g_153_32, g_153_33, g_153_34, g_153_37, g_153_38, g_153_41, g_153_42, g_153_44, g_153_47, g_153_50, g_153_51, qOb_some, kr_v, kr_n, qinv_i, qinv_r, qinv_0, Nat.reduceAdd, List.getElem?_cons_zero, List.getElem?_cons_succ, List.set_cons_zero, List.set_cons_succ, List.length_cons, List.length_nil, bI_0, not_true_eq_false, not_false_eq_true, false_implies, true_implies, and_true, true_and, and_false, false_and, if_true, if_false, forall_const, or_true, true_or, false_or, or_false, i10, Bool.false_eq_true, bI_T, bI_F]
    exact hE (fun q => c q.2) M1 _ k1 upd_s I1
  simp only [g_153_0, g_153_1, g_153_2, g_153_3, g_153_6, g_153_9, g_153_11, g_153_12, g_153_13, g_153_16, g_153_19, g_153_20, g_153_23, g_153_24, g_153_27, g_153_30, g_153_31, g_153_32, g_153_33, g_153_34, g_153_37, g_153_38, g_153_41, g_153_42, g_153_44, g_153_47, g_153_50, g_153_51, qOb_some, kr_v, kr_n, qinv_i, qinv_r, qinv_0, Nat.reduceAdd, List.getElem?_cons_zero, List.getElem?_cons_succ, List.set_cons_zero, List.set_cons_succ, List.length_cons, List.length_nil, m_isNearP, s1, bI_0, eq_true a, eq_true c, not_true_eq_false, not_false_eq_true, false_implies, true_implies, and_true, true_and, and_false, false_and, if_true, if_false, forall_const, or_true, true_or, false_or, or_false, i10, Bool.false_eq_true, bI_T, bI_F, hM.cls]
  refine m_go hI (fun M1 k1 f1 I1 => ?_)
  have fin := hQ a c M1 _ k1 upd_s I1
  cases b with
  | true =>
    simp only [g_153_0, g_153_1, g_153_2, g_153_3, g_153_6, g_153_9, g_153_11, g_153_12, g_153_13, g_153_16, g_153_19, g_153_20, g_153_23, g_153_24, g_153_27, g_153_30, g_153_31, g_153_32, g_153_33, g_153_34, g_153_37, g_153_38, g_153_41, g_153_42, g_153_44, g_153_47, g_153_50, g_153_51, qOb_some, kr_v, kr_n, qinv_i, qinv_r, qinv_0, Nat.reduceAdd, List.getElem?_cons_zero, List.getElem?_cons_succ, List.set_cons_zero, List.set_cons_succ, List.length_cons, List.length_nil, bI_0, not_true_eq_false, not_false_eq_true, false_implies, true_implies, and_true, true_and, and_false, false_and, if_true, if_false, forall_const, or_true, true_or, false_or, or_false, i10, Bool.false_eq_true, bI_T, bI_F, I1.1.cls, m_colour I1.1 I1.2.2.1, bI] at fin ⊢
    exact fin
  | false =>
    simp only [g_153_0, g_153_1, g_153_2, g_153_3, g_153_6, g_153_9, g_153_11, g_153_12, g_153_13, g_153_16, g_153_19, g_153_20, g_153_23, g_153_24, g_153_27, g_153_30, g_153_31, g_153_32, g_153_33, g_153_34, g_153_37, g_153_38, g_153_41, g_153_42, g_153_44, g_153_47, g_153_50, g_153_51, qOb_some, kr_v, kr_n, qinv_i, qinv_r, qinv_0, Nat.reduceAdd, List.getElem?_cons_zero, List.getElem?_cons_succ, List.set_cons_zero, List.set_cons_succ, List.length_cons, List.length_nil, bI_0, not_true_eq_false, not_false_eq_true, false_implies, true_implies, and_true, true_and, and_false, false_and, if_true, if_false, forall_const, or_true, true_or, false_or, or_false, i10, Bool.false_eq_true, bI_T, bI_F, I1.1.cls, m_colour I1.1 I1.2.2.1, bI] at fin ⊢
    exact fin
theorem m_tileAt {M : qM} {s : Nat → Int32} {T : TS} {sd w h : Nat} {F : Nat → Option Nat} {B : Nat → Nat} {wo : Nat → Option Nat} {rd fd : Bool} {tl : Nat → Nat} {gs tk n : Nat} {cx cy : Nat → Int32} {ce : Nat → Nat} {ct : Nat → Nat → Nat} {c : Int32} {Q : qR → qM → Prop} (hI : InvM M s T sd w h F B wo rd fd tl gs tk n cx cy ce ct) (hS : SOk T sd w h F B wo rd fd tl gs tk n cx cy ce ct)
    (hE1 : ¬ cellP w h c → ∀ M' s', KM M M' → s' 0 = 1 → InvM M' s' T sd w h F B wo rd fd tl gs tk n cx cy ce ct → Q (.inl (some (.int 0))) M') (hE2 : cellP w h c → fd = false → ∀ M' s', KM M M' → s' 0 = 2 → InvM M' s' T sd w h F B wo rd fd tl gs tk n cx cy ce ct → Q (.inl (some (.int 0))) M')
    (hQ : cellP w h c → fd = true → ∀ M' s', KM M M' → s' 0 = 0 → InvM M' s' T sd w h F B wo rd fd tl gs tk n cx cy ce ct → Q (.inl (some (.int (nI (tl (cn c)))))) M') : cl 140 [.ref 101, .int c] M Q := by
  have hM := hI.1
  have hD := hS.2.1.1
  have hN := hD.le
  have v11 := hI.2.2.2.2.2.1.1
  rw [e_140]
  by_cases a : cellP w h c
  case neg =>
    simp only [g_140_0, g_140_1, g_140_2, g_140_3, g_140_6, g_140_9, g_140_10, g_140_13, g_140_14, g_140_17, g_140_20, g_140_21, g_140_24, g_140_25, g_140_28, g_140_31, g_140_32, g_140_35, g_140_36, g_140_37, g_140_40, g_140_41, qOb_some, kr_v, kr_n, qinv_i, qinv_r, qinv_0, Nat.reduceAdd, List.getElem?_cons_zero, List.getElem?_cons_succ, List.set_cons_zero, List.set_cons_succ, List.length_cons, List.length_nil, hM.cls, m_isCellP hM hI.2.2.2.1.1 hI.2.2.2.1.2.1 hD, bI_0, eq_false a, not_true_eq_false, not_false_eq_true, false_implies, true_implies, and_true, true_and, and_false, false_and, if_true, if_false, forall_const, or_true, true_or, false_or, or_false, i10, Bool.false_eq_true, bI_T, bI_F]
    refine m_go hI (fun M1 k1 f1 I1 => ?_)
    simp only [g_140_0, g_140_1, g_140_2, g_140_3, g_140_6, g_140_9, g_140_10, g_140_13, g_140_14, g_140_17, g_140_20, g_140_21, g_140_24, g_140_25, g_140_28, g_140_31, g_140_32, g_140_35, g_140_36, g_140_37, g_140_40, g_140_41, qOb_some, kr_v, kr_n, qinv_i, qinv_r, qinv_0, Nat.reduceAdd, List.getElem?_cons_zero, List.getElem?_cons_succ, List.set_cons_zero, List.set_cons_succ, List.length_cons, List.length_nil, bI_0, not_true_eq_false, not_false_eq_true, false_implies, true_implies, and_true, true_and, and_false, false_and, if_true, if_false, forall_const, or_true, true_or, false_or, or_false, i10, Bool.false_eq_true, bI_T, bI_F]
    exact hE1 a M1 _ k1 upd_s I1
  by_cases b : fd = true
  case neg =>
    have v11' := v11.trans (bI_f b)
    simp only [g_140_0, g_140_1, g_140_2, g_140_3, g_140_6, g_140_9, g_140_10, g_140_13, g_140_14, g_140_17, g_140_20, g_140_21, g_140_24, g_140_25, g_140_28, g_140_31, g_140_32, g_140_35, g_140_36, g_140_37, g_140_40, g_140_41, qOb_some, kr_v, kr_n, qinv_i, qinv_r, qinv_0, Nat.reduceAdd, List.getElem?_cons_zero, List.getElem?_cons_succ, List.set_cons_zero, List.set_cons_succ, List.length_cons, List.length_nil, hM.cls, m_isCellP hM hI.2.2.2.1.1 hI.2.2.2.1.2.1 hD, bI_0, eq_true a, not_true_eq_false, not_false_eq_true, false_implies, true_implies, and_true, true_and, and_false, false_and, if_true, if_false, forall_const, or_true, true_or, false_or, or_false, i10, Bool.false_eq_true, bI_T, bI_F, mget hM, mo_11, v11']
    refine m_go hI (fun M1 k1 f1 I1 => ?_)
    simp only [g_140_0, g_140_1, g_140_2, g_140_3, g_140_6, g_140_9, g_140_10, g_140_13, g_140_14, g_140_17, g_140_20, g_140_21, g_140_24, g_140_25, g_140_28, g_140_31, g_140_32, g_140_35, g_140_36, g_140_37, g_140_40, g_140_41, qOb_some, kr_v, kr_n, qinv_i, qinv_r, qinv_0, Nat.reduceAdd, List.getElem?_cons_zero, List.getElem?_cons_succ, List.set_cons_zero, List.set_cons_succ, List.length_cons, List.length_nil, bI_0, i20, not_true_eq_false, not_false_eq_true, false_implies, true_implies, and_true, true_and, and_false, false_and, if_true, if_false, forall_const, or_true, true_or, false_or, or_false, i10, Bool.false_eq_true, bI_T, bI_F]
    exact hE2 a (by simpa using b) M1 _ k1 upd_s I1
  have v11' := v11.trans (bI_t b)
  obtain ⟨c1, c2⟩ := cell_cn hD a
  simp only [g_140_0, g_140_1, g_140_2, g_140_3, g_140_6, g_140_9, g_140_10, g_140_13, g_140_14, g_140_17, g_140_20, g_140_21, g_140_24, g_140_25, g_140_28, g_140_31, g_140_32, g_140_35, g_140_36, g_140_37, g_140_40, g_140_41, qOb_some, kr_v, kr_n, qinv_i, qinv_r, qinv_0, Nat.reduceAdd, List.getElem?_cons_zero, List.getElem?_cons_succ, List.set_cons_zero, List.set_cons_succ, List.length_cons, List.length_nil, hM.cls, m_isCellP hM hI.2.2.2.1.1 hI.2.2.2.1.2.1 hD, bI_0, eq_true a, not_true_eq_false, not_false_eq_true, false_implies, true_implies, and_true, true_and, and_false, false_and, if_true, if_false, forall_const, or_true, true_or, false_or, or_false, i10, Bool.false_eq_true, bI_T, bI_F, mget hM, mo_11, v11']
  refine m_go hI (fun M1 k1 f1 I1 => ?_)
  obtain ⟨-, f, r, v⟩ := I1.2.2.2.2.2.1
  have ea : qald none M1 107 0 c = some (.int (nI (tl (cn c)))) := by
    have := ald_N r (show cn c < 36 by omega) (by decide)
    rw [← c1, v b _ c2] at this
    exact this
  simp only [g_140_0, g_140_1, g_140_2, g_140_3, g_140_6, g_140_9, g_140_10, g_140_13, g_140_14, g_140_17, g_140_20, g_140_21, g_140_24, g_140_25, g_140_28, g_140_31, g_140_32, g_140_35, g_140_36, g_140_37, g_140_40, g_140_41, qOb_some, kr_v, kr_n, qinv_i, qinv_r, qinv_0, Nat.reduceAdd, List.getElem?_cons_zero, List.getElem?_cons_succ, List.set_cons_zero, List.set_cons_succ, List.length_cons, List.length_nil, bI_0, not_true_eq_false, not_false_eq_true, false_implies, true_implies, and_true, true_and, and_false, false_and, if_true, if_false, forall_const, or_true, true_or, false_or, or_false, i10, Bool.false_eq_true, bI_T, bI_F, mget I1.1, mo_12, ea]
  exact hQ a b M1 _ k1 upd_s I1
