/-! the model's calls that set, on -/
theorem m_setSeed {M : qM} {s : Nat → Int32} {T : TS} {sd w h : Nat} {F : Nat → Option Nat} {B : Nat → Nat} {wo : Nat → Option Nat} {rd fd : Bool} {tl : Nat → Nat} {gs tk n : Nat} {cx cy : Nat → Int32} {ce : Nat → Nat} {ct : Nat → Nat → Nat} {x : Int32} {Q : qR → qM → Prop} (hI : InvM M s T sd w h F B wo rd fd tl gs tk n cx cy ce ct)
    (hE : ¬ (0 ≤ x ∧ x ≤ 99999) → ∀ M' s', KM M M' → s' 0 = 1 → InvM M' s' T sd w h F B wo rd fd tl gs tk n cx cy ce ct → Q (.inl (some (.int 0))) M')
    (hQ : (0 ≤ x ∧ x ≤ 99999) → ∀ M' s', KM M M' → s' 0 = 0 → InvM M' s' T (cn x) w h F B wo rd false tl gs tk 0 cx cy ce ct → Q (.inl (some (.int (nI sd)))) M') : cl 112 [.ref 101, .int x] M Q := by
  have hM := hI.1
  rw [e_112]
  by_cases a : 0 ≤ x ∧ x ≤ 99999
  · simp only [g_112_0, g_112_1, g_112_2, g_112_3, g_112_5, g_112_8, g_112_11, g_112_12, g_112_15, g_112_16, g_112_19, g_112_22, g_112_23, g_112_24, g_112_25, g_112_28, g_112_29, g_112_30, g_112_31, g_112_34, g_112_35, g_112_36, g_112_39, g_112_40, g_112_41, g_112_44, g_112_45, qOb_some, kr_v, kr_n, qinv_i, qinv_r, qinv_0, Nat.reduceAdd, List.getElem?_cons_zero, List.getElem?_cons_succ, List.set_cons_zero, List.set_cons_succ, List.length_cons, List.length_nil, m_in, bI_0, eq_true a, not_true_eq_false, not_false_eq_true, false_implies, true_implies, and_true, true_and, and_false, false_and, if_true, if_false, forall_const, or_true, true_or, false_or, or_false, i10, Bool.false_eq_true, bI_T, bI_F, hM.cls]
    refine m_go hI (fun M1 k1 f1 I1 => ?_)
    have hM1 := I1.1
    obtain ⟨-, j2, j3, j4, j5, j6, ⟨j7, j8⟩, j9, j10⟩ := I1
    obtain ⟨M2, e2, f2, hM2⟩ := put_G 4 x hM1 (by decide) rfl ms_4
    obtain ⟨M3, e3, f3, hM3⟩ := put_G 11 0 hM2 (by decide) rfl ms_11
    obtain ⟨M4, e4, f4, hM4⟩ := put_G 15 0 hM3 (by decide) rfl ms_15
    have fA := (f2.trans f3).trans f4
    simp only [g_112_0, g_112_1, g_112_2, g_112_3, g_112_5, g_112_8, g_112_11, g_112_12, g_112_15, g_112_16, g_112_19, g_112_22, g_112_23, g_112_24, g_112_25, g_112_28, g_112_29, g_112_30, g_112_31, g_112_34, g_112_35, g_112_36, g_112_39, g_112_40, g_112_41, g_112_44, g_112_45, qOb_some, kr_v, kr_n, qinv_i, qinv_r, qinv_0, Nat.reduceAdd, List.getElem?_cons_zero, List.getElem?_cons_succ, List.set_cons_zero, List.set_cons_succ, List.length_cons, List.length_nil, not_true_eq_false, not_false_eq_true, false_implies, true_implies, and_true, true_and, and_false, false_and, if_true, if_false, forall_const, or_true, true_or, false_or, or_false, i10, Bool.false_eq_true, bI_T, bI_F, mget hM1, mo_4, j3, e2, e3, e4]
    have hx := (cn_le (m := 99999) (by decide) a.1 a.2).1
    have un : ∀ b, 102 ≤ b → M4[b]? = M1[b]? := fun b q => fA b (by omega)
    refine hQ a M4 _ (k1.trans (fA.km (by omega) (by omega))) ?_ ⟨hM4, j2.u ?_ (fun b q1 q2 => un b (by omega)), ?_, j4.u ?_ ?_ (fun b q1 q2 => un b (by omega)), j5.u ?_ (un _ (by omega)), j6.un ?_ (un _ (by omega)), ⟨?_, ?_⟩, j9.none ?_ (fun b q1 q2 => un b (by omega)), j10.u (fun b q1 q2 => un b (by omega))⟩
    · rw [upd_n (by decide), upd_n (by decide), upd_n (by decide), upd_s]
    · rw [upd_n (by decide), upd_n (by decide), upd_n (by decide)]
    · rw [upd_n (by decide), upd_n (by decide), upd_s]; exact hx
    · rw [upd_n (by decide), upd_n (by decide), upd_n (by decide)]
    · rw [upd_n (by decide), upd_n (by decide), upd_n (by decide)]
    · rw [upd_n (by decide), upd_n (by decide), upd_n (by decide)]
    · rw [upd_n (by decide), upd_s]
    · rw [upd_n (by decide), upd_n (by decide), upd_n (by decide)]; exact j7
    · rw [upd_n (by decide), upd_n (by decide), upd_n (by decide)]; exact j8
    · rw [upd_s]
  · simp only [g_112_0, g_112_1, g_112_2, g_112_3, g_112_5, g_112_8, g_112_11, g_112_12, g_112_15, g_112_16, g_112_19, g_112_22, g_112_23, g_112_24, g_112_25, g_112_28, g_112_29, g_112_30, g_112_31, g_112_34, g_112_35, g_112_36, g_112_39, g_112_40, g_112_41, g_112_44, g_112_45, qOb_some, kr_v, kr_n, qinv_i, qinv_r, qinv_0, Nat.reduceAdd, List.getElem?_cons_zero, List.getElem?_cons_succ, List.set_cons_zero, List.set_cons_succ, List.length_cons, List.length_nil, m_in, bI_0, eq_false a, not_true_eq_false, not_false_eq_true, false_implies, true_implies, and_true, true_and, and_false, false_and, if_true, if_false, forall_const, or_true, true_or, false_or, or_false, i10, Bool.false_eq_true, bI_T, bI_F, hM.cls]
    refine m_go hI (fun M1 k1 f1 I1 => ?_)
    simp only [g_112_0, g_112_1, g_112_2, g_112_3, g_112_5, g_112_8, g_112_11, g_112_12, g_112_15, g_112_16, g_112_19, g_112_22, g_112_23, g_112_24, g_112_25, g_112_28, g_112_29, g_112_30, g_112_31, g_112_34, g_112_35, g_112_36, g_112_39, g_112_40, g_112_41, g_112_44, g_112_45, qOb_some, kr_v, kr_n, qinv_i, qinv_r, qinv_0, Nat.reduceAdd, List.getElem?_cons_zero, List.getElem?_cons_succ, List.set_cons_zero, List.set_cons_succ, List.length_cons, List.length_nil, bI_0, not_true_eq_false, not_false_eq_true, false_implies, true_implies, and_true, true_and, and_false, false_and, if_true, if_false, forall_const, or_true, true_or, false_or, or_false, i10, Bool.false_eq_true, bI_T, bI_F]
    exact hE a M1 _ k1 upd_s I1
theorem m_setSize {M : qM} {s : Nat → Int32} {T : TS} {sd w h : Nat} {F : Nat → Option Nat} {B : Nat → Nat} {wo : Nat → Option Nat} {rd fd : Bool} {tl : Nat → Nat} {gs tk n : Nat} {cx cy : Nat → Int32} {ce : Nat → Nat} {ct : Nat → Nat → Nat} {x y : Int32} {Q : qR → qM → Prop} (hI : InvM M s T sd w h F B wo rd fd tl gs tk n cx cy ce ct)
    (hE : ¬ (sideP x ∧ sideP y) → ∀ M' s', KM M M' → s' 0 = 1 → InvM M' s' T sd w h F B wo rd fd tl gs tk n cx cy ce ct → Q (.inl (some (.int 0))) M')
    (hQ : sideP x → sideP y → ∀ M' s', KM M M' → s' 0 = 0 → InvM M' s' T sd (cn x) (cn y) (fun _ => none) (fun _ => 0) wo rd false tl gs tk n cx cy ce ct → Q (.inl (some (.int (nI (cn x * cn y))))) M') : cl 113 [.ref 101, .int x, .int y] M Q := by
  have hM := hI.1
  have s1 : ∀ {M : qM} {a : Int32} {Q : qR → qM → Prop}, cl 102 [.int a, .int 1, .int 6] M Q ↔ Q (.inl (some (.int (@bI (sideP a) (inferInstanceAs (Decidable (1 ≤ a ∧ a ≤ 6))))))) M := m_in
  have bad : ¬ (sideP x ∧ sideP y) → g 113 26 [some (.ref 101), some (.int x), some (.int y), none] [.int 1, .ref 101] M 0 0 Q := by
    intro q
    simp only [g_113_0, g_113_1, g_113_2, g_113_3, g_113_5, g_113_8, g_113_11, g_113_12, g_113_13, g_113_15, g_113_18, g_113_21, g_113_22, g_113_25, g_113_26, g_113_29, g_113_32, g_113_33, g_113_34, g_113_35, g_113_36, g_113_39, g_113_40, g_113_41, g_113_44, g_113_45, g_113_47, g_113_49, g_113_52, g_113_53, g_113_56, g_113_57, g_113_58, g_113_59, g_113_60, g_113_63, g_113_64, g_113_65, g_113_66, g_113_69, g_113_72, g_113_73, g_113_74, g_113_77, g_113_78, g_113_81, g_113_82, g_113_85, g_113_86, qOb_some, kr_v, kr_n, qinv_i, qinv_r, qinv_0, Nat.reduceAdd, List.getElem?_cons_zero, List.getElem?_cons_succ, List.set_cons_zero, List.set_cons_succ, List.length_cons, List.length_nil, not_true_eq_false, not_false_eq_true, false_implies, true_implies, and_true, true_and, and_false, false_and, if_true, if_false, forall_const, or_true, true_or, false_or, or_false, i10, Bool.false_eq_true, bI_T, bI_F, hM.cls]
    refine m_go hI (fun M1 k1 f1 I1 => ?_)
    simp only [g_113_0, g_113_1, g_113_2, g_113_3, g_113_5, g_113_8, g_113_11, g_113_12, g_113_13, g_113_15, g_113_18, g_113_21, g_113_22, g_113_25, g_113_26, g_113_29, g_113_32, g_113_33, g_113_34, g_113_35, g_113_36, g_113_39, g_113_40, g_113_41, g_113_44, g_113_45, g_113_47, g_113_49, g_113_52, g_113_53, g_113_56, g_113_57, g_113_58, g_113_59, g_113_60, g_113_63, g_113_64, g_113_65, g_113_66, g_113_69, g_113_72, g_113_73, g_113_74, g_113_77, g_113_78, g_113_81, g_113_82, g_113_85, g_113_86, qOb_some, kr_v, kr_n, qinv_i, qinv_r, qinv_0, Nat.reduceAdd, List.getElem?_cons_zero, List.getElem?_cons_succ, List.set_cons_zero, List.set_cons_succ, List.length_cons, List.length_nil, bI_0, not_true_eq_false, not_false_eq_true, false_implies, true_implies, and_true, true_and, and_false, false_and, if_true, if_false, forall_const, or_true, true_or, false_or, or_false, i10, Bool.false_eq_true, bI_T, bI_F]
    exact hE q M1 _ k1 upd_s I1
  rw [e_113]
  by_cases a : sideP x
  case neg =>
    simp only [g_113_0, g_113_1, g_113_2, g_113_3, g_113_5, g_113_8, g_113_11, g_113_12, g_113_13, g_113_15, g_113_18, g_113_21, g_113_22, g_113_25, g_113_29, g_113_32, g_113_33, g_113_34, g_113_35, g_113_36, g_113_39, g_113_40, g_113_41, g_113_44, g_113_45, g_113_47, g_113_49, g_113_52, g_113_53, g_113_56, g_113_57, g_113_58, g_113_59, g_113_60, g_113_63, g_113_64, g_113_65, g_113_66, g_113_69, g_113_72, g_113_73, g_113_74, g_113_77, g_113_78, g_113_81, g_113_82, g_113_85, g_113_86, qOb_some, kr_v, kr_n, qinv_i, qinv_r, qinv_0, Nat.reduceAdd, List.getElem?_cons_zero, List.getElem?_cons_succ, List.set_cons_zero, List.set_cons_succ, List.length_cons, List.length_nil, s1, bI_0, eq_false a, not_true_eq_false, not_false_eq_true, false_implies, true_implies, and_true, true_and, and_false, false_and, if_true, if_false, forall_const, or_true, true_or, false_or, or_false, i10, Bool.false_eq_true, bI_T, bI_F]
    exact bad (fun q => a q.1)
  by_cases b : sideP y
  case neg =>
    simp only [g_113_0, g_113_1, g_113_2, g_113_3, g_113_5, g_113_8, g_113_11, g_113_12, g_113_13, g_113_15, g_113_18, g_113_21, g_113_22, g_113_25, g_113_29, g_113_32, g_113_33, g_113_34, g_113_35, g_113_36, g_113_39, g_113_40, g_113_41, g_113_44, g_113_45, g_113_47, g_113_49, g_113_52, g_113_53, g_113_56, g_113_57, g_113_58, g_113_59, g_113_60, g_113_63, g_113_64, g_113_65, g_113_66, g_113_69, g_113_72, g_113_73, g_113_74, g_113_77, g_113_78, g_113_81, g_113_82, g_113_85, g_113_86, qOb_some, kr_v, kr_n, qinv_i, qinv_r, qinv_0, Nat.reduceAdd, List.getElem?_cons_zero, List.getElem?_cons_succ, List.set_cons_zero, List.set_cons_succ, List.length_cons, List.length_nil, s1, bI_0, eq_true a, eq_false b, not_true_eq_false, not_false_eq_true, false_implies, true_implies, and_true, true_and, and_false, false_and, if_true, if_false, forall_const, or_true, true_or, false_or, or_false, i10, Bool.false_eq_true, bI_T, bI_F]
    exact bad (fun q => b q.2)
  obtain ⟨x1, x2, x3⟩ := side_cn a
  obtain ⟨y1, y2, y3⟩ := side_cn b
  have hD : Dim (cn x) (cn y) := ⟨x2, x3, y2, y3⟩
  have hN := hD.le
  simp only [g_113_0, g_113_1, g_113_2, g_113_3, g_113_5, g_113_8, g_113_11, g_113_12, g_113_13, g_113_15, g_113_18, g_113_21, g_113_22, g_113_25, g_113_26, g_113_29, g_113_32, g_113_33, g_113_34, g_113_35, g_113_36, g_113_39, g_113_40, g_113_41, g_113_44, g_113_45, g_113_47, g_113_49, g_113_52, g_113_53, g_113_56, g_113_57, g_113_58, g_113_59, g_113_60, g_113_63, g_113_64, g_113_65, g_113_66, g_113_69, g_113_72, g_113_73, g_113_74, g_113_77, g_113_78, g_113_81, g_113_82, g_113_85, g_113_86, qOb_some, kr_v, kr_n, qinv_i, qinv_r, qinv_0, Nat.reduceAdd, List.getElem?_cons_zero, List.getElem?_cons_succ, List.set_cons_zero, List.set_cons_succ, List.length_cons, List.length_nil, s1, bI_0, eq_true a, eq_true b, not_true_eq_false, not_false_eq_true, false_implies, true_implies, and_true, true_and, and_false, false_and, if_true, if_false, forall_const, or_true, true_or, false_or, or_false, i10, Bool.false_eq_true, bI_T, bI_F, hM.cls]
  refine m_go hI (fun M1 k1 f1 I1 => ?_)
  have hM1 := I1.1
  obtain ⟨-, j2, j3, ⟨-, -, ⟨fF, j4, -⟩, ⟨fB, j4', -⟩⟩, j5, j6, ⟨j7, j8⟩, j9, j10⟩ := I1
  obtain ⟨M2, e2, f2, hM2⟩ := put_G 5 x hM1 (by decide) rfl ms_5
  obtain ⟨M3, e3, f3, hM3⟩ := put_G 6 y hM2 (by decide) rfl ms_6
  simp only [g_113_0, g_113_1, g_113_2, g_113_3, g_113_5, g_113_8, g_113_11, g_113_12, g_113_13, g_113_15, g_113_18, g_113_21, g_113_22, g_113_25, g_113_26, g_113_29, g_113_32, g_113_33, g_113_34, g_113_35, g_113_36, g_113_39, g_113_40, g_113_41, g_113_44, g_113_45, g_113_47, g_113_49, g_113_52, g_113_53, g_113_56, g_113_57, g_113_58, g_113_59, g_113_60, g_113_63, g_113_64, g_113_65, g_113_66, g_113_69, g_113_72, g_113_73, g_113_74, g_113_77, g_113_78, g_113_81, g_113_82, g_113_85, g_113_86, qOb_some, kr_v, kr_n, qinv_i, qinv_r, qinv_0, Nat.reduceAdd, List.getElem?_cons_zero, List.getElem?_cons_succ, List.set_cons_zero, List.set_cons_succ, List.length_cons, List.length_nil, not_true_eq_false, not_false_eq_true, false_implies, true_implies, and_true, true_and, and_false, false_and, if_true, if_false, forall_const, or_true, true_or, false_or, or_false, i10, Bool.false_eq_true, bI_T, bI_F, e2, e3]
  refine upto (N := 36) (I := fun c M' => Fr 104 106 M3 M' ∧ (∃ f, M'[104]? = some (.inl (0, 36, .inl f)) ∧ ∀ k, k < c → f k = -1) ∧ (∃ f, M'[105]? = some (.inl (0, 36, .inl f)) ∧ ∀ k, k < c → f k = nI 0)) (G := fun c M' => g 113 46 [some (.ref 101), some (.int x), some (.int y), some (.int (nI c))] [] M' 0 0 Q) ?_ ?_ 0 M3 (Nat.zero_le _) ⟨Fr.refl, ⟨fF, (f3 104 (by omega)).trans ((f2 104 (by omega)).trans j4), fun k hk => absurd hk (Nat.not_lt_zero _)⟩, ⟨fB, (f3 105 (by omega)).trans ((f2 105 (by omega)).trans j4'), fun k hk => absurd hk (Nat.not_lt_zero _)⟩⟩
  · rintro M4 ⟨a1, ⟨f4, a2, a3⟩, ⟨f5, a4, a5⟩⟩
    have hM4 := hM3.fr a1 (by omega)
    obtain ⟨M5, e5, f5', hM5⟩ := put_G 11 0 hM4 (by decide) rfl ms_11
    have v5 : upd (upd (upd (upd s 0 0) 5 x) 6 y) 11 0 5 = nI (cn x) := by rw [upd_n (by decide), upd_n (by decide), upd_s]; exact x1
    have v6 : upd (upd (upd (upd s 0 0) 5 x) 6 y) 11 0 6 = nI (cn y) := by rw [upd_n (by decide), upd_s]; exact y1
    rw [g_113_46]
    simp only [g_113_0, g_113_1, g_113_2, g_113_3, g_113_5, g_113_8, g_113_11, g_113_12, g_113_13, g_113_15, g_113_18, g_113_21, g_113_22, g_113_25, g_113_26, g_113_29, g_113_32, g_113_33, g_113_34, g_113_35, g_113_36, g_113_39, g_113_40, g_113_41, g_113_44, g_113_45, g_113_47, g_113_49, g_113_52, g_113_53, g_113_56, g_113_57, g_113_58, g_113_59, g_113_60, g_113_63, g_113_64, g_113_65, g_113_66, g_113_69, g_113_72, g_113_73, g_113_74, g_113_77, g_113_78, g_113_81, g_113_82, g_113_85, g_113_86, qOb_some, kr_v, kr_n, qinv_i, qinv_r, qinv_0, Nat.reduceAdd, List.getElem?_cons_zero, List.getElem?_cons_succ, List.set_cons_zero, List.set_cons_succ, List.length_cons, List.length_nil, not_true_eq_false, not_false_eq_true, false_implies, true_implies, and_true, true_and, and_false, false_and, if_true, if_false, forall_const, or_true, true_or, false_or, or_false, i10, Bool.false_eq_true, bI_T, bI_F, show (36 : Int32) = nI 36 from rfl, Int32.le_refl, e5, mget hM5, mo_5, mo_6, v5, v6, pk_mul]
    have un : ∀ b, 102 ≤ b → ¬ (104 ≤ b ∧ b < 106) → M5[b]? = M1[b]? := fun b q1 q2 => (f5' b (by omega)).trans ((a1 b (by omega)).trans ((f3 b (by omega)).trans (f2 b (by omega))))
    refine hQ a b M5 _ (k1.trans (fun b q => (f5' b (by omega)).trans ((a1 b (by omega)).trans ((f3 b (by omega)).trans (f2 b (by omega)))))) ?_ ⟨hM5, j2.u ?_ (fun b q1 q2 => un b (by omega) (by omega)), ?_, ⟨v5, v6, ⟨f4, (f5' _ (by omega)).trans a2, fun k hk => a3 k (by omega)⟩, ⟨f5, (f5' _ (by omega)).trans a4, fun k hk => a5 k (by omega)⟩⟩, j5.u ?_ (un _ (by omega) (by omega)), j6.un ?_ (un _ (by omega) (by omega)), ⟨?_, ?_⟩, j9.u ?_ (fun b q1 q2 => un b (by omega) (by omega)), j10.u (fun b q1 q2 => un b (by omega) (by omega))⟩
    · rw [upd_n (by decide), upd_n (by decide), upd_n (by decide), upd_s]
    · rw [upd_n (by decide), upd_n (by decide), upd_n (by decide)]
    · rw [upd_n (by decide), upd_n (by decide), upd_n (by decide)]; exact j3
    · rw [upd_n (by decide), upd_n (by decide), upd_n (by decide)]
    · rw [upd_s]
    · rw [upd_n (by decide), upd_n (by decide), upd_n (by decide)]; exact j7
    · rw [upd_n (by decide), upd_n (by decide), upd_n (by decide)]; exact j8
    · rw [upd_n (by decide), upd_n (by decide), upd_n (by decide)]
  · rintro c M4 hc ⟨a1, ⟨f4, a2, a3⟩, ⟨f5, a4, a5⟩⟩ ih
    have hM4 := hM3.fr a1 (by omega)
    obtain ⟨M5, e5, g5, r5⟩ := ast_G (-1) a2 hc (by decide)
    have hM5 := hM4.fr g5 (by omega)
    obtain ⟨M6, e6, g6, r6⟩ := ast_G (nI 0) ((g5 105 (by omega)).trans a4) hc (by decide)
    rw [g_113_46]
    simp only [g_113_0, g_113_1, g_113_2, g_113_3, g_113_5, g_113_8, g_113_11, g_113_12, g_113_13, g_113_15, g_113_18, g_113_21, g_113_22, g_113_25, g_113_26, g_113_29, g_113_32, g_113_33, g_113_34, g_113_35, g_113_36, g_113_39, g_113_40, g_113_41, g_113_44, g_113_45, g_113_47, g_113_49, g_113_52, g_113_53, g_113_56, g_113_57, g_113_58, g_113_59, g_113_60, g_113_63, g_113_64, g_113_65, g_113_66, g_113_69, g_113_72, g_113_73, g_113_74, g_113_77, g_113_78, g_113_81, g_113_82, g_113_85, g_113_86, qOb_some, kr_v, kr_n, qinv_i, qinv_r, qinv_0, Nat.reduceAdd, List.getElem?_cons_zero, List.getElem?_cons_succ, List.set_cons_zero, List.set_cons_succ, List.length_cons, List.length_nil, not_true_eq_false, not_false_eq_true, false_implies, true_implies, and_true, true_and, and_false, false_and, if_true, if_false, forall_const, or_true, true_or, false_or, or_false, i10, Bool.false_eq_true, bI_T, bI_F, show (36 : Int32) = nI 36 from rfl, nI_ge hc (show 36 < 2 ^ 31 by decide), mget hM4, mget hM5, mo_7, mo_8, e5, show (0 : Int32) = nI 0 from rfl, e6, nI_1]
    refine ih M6 ⟨(a1.trans (g5.mono (by omega) (by omega))).trans (g6.mono (by omega) (by omega)), ⟨_, (g6 104 (by omega)).trans r5, fun k hk => ?_⟩, ⟨_, r6, fun k hk => ?_⟩⟩
    · by_cases e : k = c
      · rw [e, upd_s]
      · rw [upd_n e]; exact a3 k (by omega)
    · by_cases e : k = c
      · rw [e, upd_s]
      · rw [upd_n e]; exact a5 k (by omega)
theorem m_isTileP {M : qM} {s : Nat → Int32} {T : TS} {i : Int32} {Q : qR → qM → Prop} (hM : ModAt M s) (hT : MTil M s T) (hk : TOk T) : cl 104 [.ref 101, .int i] M Q ↔ Q (.inl (some (.int (@bI (tileP T i) (inferInstanceAs (Decidable (0 ≤ i ∧ i < nI T.n))))))) M := m_isTile hM hT hk
theorem m_isCellP {M : qM} {s : Nat → Int32} {w h : Nat} {i : Int32} {Q : qR → qM → Prop} (hM : ModAt M s) (hw : s 5 = nI w) (hh : s 6 = nI h) (hD : Dim w h) : cl 105 [.ref 101, .int i] M Q ↔ Q (.inl (some (.int (@bI (cellP w h i) (inferInstanceAs (Decidable (0 ≤ i ∧ i < nI (w * h)))))))) M := m_isCell hM hw hh hD
theorem i20 : ((2 : Int32) = 0) = False := eq_false (by decide)
theorem m_fix {M : qM} {s : Nat → Int32} {T : TS} {sd w h : Nat} {F : Nat → Option Nat} {B : Nat → Nat} {wo : Nat → Option Nat} {rd fd : Bool} {tl : Nat → Nat} {gs tk n : Nat} {cx cy : Nat → Int32} {ce : Nat → Nat} {ct : Nat → Nat → Nat} {c t : Int32} {Q : qR → qM → Prop} (hI : InvM M s T sd w h F B wo rd fd tl gs tk n cx cy ce ct) (hS : SOk T sd w h F B wo rd fd tl gs tk n cx cy ce ct)
    (hE1 : ¬ cellP w h c → ∀ M' s', KM M M' → s' 0 = 1 → InvM M' s' T sd w h F B wo rd fd tl gs tk n cx cy ce ct → Q (.inl (some (.int 0))) M') (hE2 : cellP w h c → ¬ tileP T t → ∀ M' s', KM M M' → s' 0 = 2 → InvM M' s' T sd w h F B wo rd fd tl gs tk n cx cy ce ct → Q (.inl (some (.int 0))) M')
    (hQ : cellP w h c → tileP T t → ∀ M' s', KM M M' → s' 0 = 0 → InvM M' s' T sd w h (fuO F (cn c) (some (cn t))) B wo rd false tl gs tk n cx cy ce ct → Q (.inl (some (.int (nbI (F (cn c)))))) M') : cl 114 [.ref 101, .int c, .int t] M Q := by
  have hM := hI.1
  have hD := hS.2.1.1
  have hN := hD.le
  rw [e_114]
  by_cases a : cellP w h c
  case neg =>
    simp only [g_114_0, g_114_1, g_114_2, g_114_3, g_114_6, g_114_9, g_114_10, g_114_13, g_114_14, g_114_15, g_114_18, g_114_21, g_114_22, g_114_25, g_114_26, g_114_29, g_114_32, g_114_33, g_114_34, g_114_35, g_114_38, g_114_39, g_114_40, g_114_41, g_114_42, g_114_45, g_114_46, g_114_47, g_114_48, g_114_49, g_114_50, g_114_53, g_114_54, qOb_some, kr_v, kr_n, qinv_i, qinv_r, qinv_0, Nat.reduceAdd, List.getElem?_cons_zero, List.getElem?_cons_succ, List.set_cons_zero, List.set_cons_succ, List.length_cons, List.length_nil, hM.cls, m_isCellP hM hI.2.2.2.1.1 hI.2.2.2.1.2.1 hD, bI_0, eq_false a, not_true_eq_false, not_false_eq_true, false_implies, true_implies, and_true, true_and, and_false, false_and, if_true, if_false, forall_const, or_true, true_or, false_or, or_false, i10, Bool.false_eq_true, bI_T, bI_F]
    refine m_go hI (fun M1 k1 f1 I1 => ?_)
    simp only [g_114_0, g_114_1, g_114_2, g_114_3, g_114_6, g_114_9, g_114_10, g_114_13, g_114_14, g_114_15, g_114_18, g_114_21, g_114_22, g_114_25, g_114_26, g_114_29, g_114_32, g_114_33, g_114_34, g_114_35, g_114_38, g_114_39, g_114_40, g_114_41, g_114_42, g_114_45, g_114_46, g_114_47, g_114_48, g_114_49, g_114_50, g_114_53, g_114_54, qOb_some, kr_v, kr_n, qinv_i, qinv_r, qinv_0, Nat.reduceAdd, List.getElem?_cons_zero, List.getElem?_cons_succ, List.set_cons_zero, List.set_cons_succ, List.length_cons, List.length_nil, bI_0, not_true_eq_false, not_false_eq_true, false_implies, true_implies, and_true, true_and, and_false, false_and, if_true, if_false, forall_const, or_true, true_or, false_or, or_false, i10, Bool.false_eq_true, bI_T, bI_F]
    exact hE1 a M1 _ k1 upd_s I1
  by_cases b : tileP T t
  case neg =>
    simp only [g_114_0, g_114_1, g_114_2, g_114_3, g_114_6, g_114_9, g_114_10, g_114_13, g_114_14, g_114_15, g_114_18, g_114_21, g_114_22, g_114_25, g_114_26, g_114_29, g_114_32, g_114_33, g_114_34, g_114_35, g_114_38, g_114_39, g_114_40, g_114_41, g_114_42, g_114_45, g_114_46, g_114_47, g_114_48, g_114_49, g_114_50, g_114_53, g_114_54, qOb_some, kr_v, kr_n, qinv_i, qinv_r, qinv_0, Nat.reduceAdd, List.getElem?_cons_zero, List.getElem?_cons_succ, List.set_cons_zero, List.set_cons_succ, List.length_cons, List.length_nil, hM.cls, m_isCellP hM hI.2.2.2.1.1 hI.2.2.2.1.2.1 hD, m_isTileP hM hI.2.1 hS.1, bI_0, eq_true a, eq_false b, not_true_eq_false, not_false_eq_true, false_implies, true_implies, and_true, true_and, and_false, false_and, if_true, if_false, forall_const, or_true, true_or, false_or, or_false, i10, Bool.false_eq_true, bI_T, bI_F]
    refine m_go hI (fun M1 k1 f1 I1 => ?_)
    simp only [g_114_0, g_114_1, g_114_2, g_114_3, g_114_6, g_114_9, g_114_10, g_114_13, g_114_14, g_114_15, g_114_18, g_114_21, g_114_22, g_114_25, g_114_26, g_114_29, g_114_32, g_114_33, g_114_34, g_114_35, g_114_38, g_114_39, g_114_40, g_114_41, g_114_42, g_114_45, g_114_46, g_114_47, g_114_48, g_114_49, g_114_50, g_114_53, g_114_54, qOb_some, kr_v, kr_n, qinv_i, qinv_r, qinv_0, Nat.reduceAdd, List.getElem?_cons_zero, List.getElem?_cons_succ, List.set_cons_zero, List.set_cons_succ, List.length_cons, List.length_nil, bI_0, i20, not_true_eq_false, not_false_eq_true, false_implies, true_implies, and_true, true_and, and_false, false_and, if_true, if_false, forall_const, or_true, true_or, false_or, or_false, i10, Bool.false_eq_true, bI_T, bI_F]
    exact hE2 a b M1 _ k1 upd_s I1
  obtain ⟨c1, c2⟩ := cell_cn hD a
  obtain ⟨t1, t2⟩ := tile_cn hS.1 b
  simp only [g_114_0, g_114_1, g_114_2, g_114_3, g_114_6, g_114_9, g_114_10, g_114_13, g_114_14, g_114_15, g_114_18, g_114_21, g_114_22, g_114_25, g_114_26, g_114_29, g_114_32, g_114_33, g_114_34, g_114_35, g_114_38, g_114_39, g_114_40, g_114_41, g_114_42, g_114_45, g_114_46, g_114_47, g_114_48, g_114_49, g_114_50, g_114_53, g_114_54, qOb_some, kr_v, kr_n, qinv_i, qinv_r, qinv_0, Nat.reduceAdd, List.getElem?_cons_zero, List.getElem?_cons_succ, List.set_cons_zero, List.set_cons_succ, List.length_cons, List.length_nil, hM.cls, m_isCellP hM hI.2.2.2.1.1 hI.2.2.2.1.2.1 hD, m_isTileP hM hI.2.1 hS.1, bI_0, eq_true a, eq_true b, not_true_eq_false, not_false_eq_true, false_implies, true_implies, and_true, true_and, and_false, false_and, if_true, if_false, forall_const, or_true, true_or, false_or, or_false, i10, Bool.false_eq_true, bI_T, bI_F]
  refine m_go hI (fun M1 k1 f1 I1 => ?_)
  have hM1 := I1.1
  obtain ⟨-, j2, j3, ⟨j41, j42, ⟨fF, j43, j44⟩, ⟨fB, j45, j46⟩⟩, j5, j6, ⟨j7, j8⟩, j9, j10⟩ := I1
  have ea : qald none M1 104 0 c = some (.int (nbI (F (cn c)))) := by
    have := ald_N j43 (show cn c < 36 by omega) (by decide)
    rw [← c1, j44 _ c2] at this
    exact this
  obtain ⟨M2, e2, f2, r2⟩ := ast_G t j43 (show cn c < 36 by omega) (by decide)
  rw [← c1] at e2
  have hM2 := hM1.fr f2 (by omega)
  obtain ⟨M3, e3, f3, hM3⟩ := put_G 11 0 hM2 (by decide) rfl ms_11
  simp only [g_114_0, g_114_1, g_114_2, g_114_3, g_114_6, g_114_9, g_114_10, g_114_13, g_114_14, g_114_15, g_114_18, g_114_21, g_114_22, g_114_25, g_114_26, g_114_29, g_114_32, g_114_33, g_114_34, g_114_35, g_114_38, g_114_39, g_114_40, g_114_41, g_114_42, g_114_45, g_114_46, g_114_47, g_114_48, g_114_49, g_114_50, g_114_53, g_114_54, qOb_some, kr_v, kr_n, qinv_i, qinv_r, qinv_0, Nat.reduceAdd, List.getElem?_cons_zero, List.getElem?_cons_succ, List.set_cons_zero, List.set_cons_succ, List.length_cons, List.length_nil, not_true_eq_false, not_false_eq_true, false_implies, true_implies, and_true, true_and, and_false, false_and, if_true, if_false, forall_const, or_true, true_or, false_or, or_false, i10, Bool.false_eq_true, bI_T, bI_F, mget hM1, mo_7, ea, e2, e3]
  have un : ∀ b, 102 ≤ b → b ≠ 104 → M3[b]? = M1[b]? := fun b q1 q2 => (f3 b (by omega)).trans (f2 b (by omega))
  refine hQ a b M3 _ (k1.trans (fun b q => (f3 b (by omega)).trans (f2 b (by omega)))) ?_ ⟨hM3, j2.u ?_ (fun b q1 q2 => un b (by omega) (by omega)), ?_, ⟨?_, ?_, ⟨_, (f3 104 (by omega)).trans r2, fun k hk => ?_⟩, ⟨fB, (un 105 (by omega) (by omega)).trans j45, j46⟩⟩, j5.u ?_ (un _ (by omega) (by omega)), j6.un ?_ (un _ (by omega) (by omega)), ⟨?_, ?_⟩, j9.u ?_ (fun b q1 q2 => un b (by omega) (by omega)), j10.u (fun b q1 q2 => un b (by omega) (by omega))⟩
  · rw [upd_n (by decide), upd_s]
  · rw [upd_n (by decide)]
  · rw [upd_n (by decide)]; exact j3
  · rw [upd_n (by decide)]; exact j41
  · rw [upd_n (by decide)]; exact j42
  · by_cases e : k = cn c
    · rw [e, upd_s, fuO_s]; exact t1
    · rw [upd_n e, fuO_n e]; exact j44 k hk
  · rw [upd_n (by decide)]
  · rw [upd_s]
  · rw [upd_n (by decide)]; exact j7
  · rw [upd_n (by decide)]; exact j8
  · rw [upd_n (by decide)]
theorem m_ban {M : qM} {s : Nat → Int32} {T : TS} {sd w h : Nat} {F : Nat → Option Nat} {B : Nat → Nat} {wo : Nat → Option Nat} {rd fd : Bool} {tl : Nat → Nat} {gs tk n : Nat} {cx cy : Nat → Int32} {ce : Nat → Nat} {ct : Nat → Nat → Nat} {c t : Int32} {Q : qR → qM → Prop} (hI : InvM M s T sd w h F B wo rd fd tl gs tk n cx cy ce ct) (hS : SOk T sd w h F B wo rd fd tl gs tk n cx cy ce ct)
    (hE1 : ¬ cellP w h c → ∀ M' s', KM M M' → s' 0 = 1 → InvM M' s' T sd w h F B wo rd fd tl gs tk n cx cy ce ct → Q (.inl (some (.int 0))) M') (hE2 : cellP w h c → ¬ tileP T t → ∀ M' s', KM M M' → s' 0 = 2 → InvM M' s' T sd w h F B wo rd fd tl gs tk n cx cy ce ct → Q (.inl (some (.int 0))) M')
    (hQ : cellP w h c → tileP T t → ∀ M' s', KM M M' → s' 0 = 0 → InvM M' s' T sd w h F (fu B (cn c) (B (cn c) ||| 2 ^ cn t)) wo rd false tl gs tk n cx cy ce ct → Q (.inl (some (.int (bI ((B (cn c)).testBit (cn t) = true))))) M') : cl 115 [.ref 101, .int c, .int t] M Q := by
  have hM := hI.1
  have hD := hS.2.1.1
  have hN := hD.le
  have h8 := hS.1.1
  rw [e_115]
  by_cases a : cellP w h c
  case neg =>
    simp only [g_115_0, g_115_1, g_115_2, g_115_3, g_115_6, g_115_9, g_115_10, g_115_13, g_115_14, g_115_15, g_115_18, g_115_21, g_115_22, g_115_25, g_115_26, g_115_29, g_115_32, g_115_33, g_115_34, g_115_35, g_115_38, g_115_39, g_115_40, g_115_41, g_115_42, g_115_43, g_115_44, g_115_45, g_115_48, g_115_49, g_115_52, g_115_53, g_115_54, g_115_55, g_115_58, g_115_59, g_115_60, g_115_61, g_115_62, g_115_63, g_115_64, g_115_65, g_115_66, g_115_67, g_115_68, g_115_71, g_115_72, qOb_some, kr_v, kr_n, qinv_i, qinv_r, qinv_0, Nat.reduceAdd, List.getElem?_cons_zero, List.getElem?_cons_succ, List.set_cons_zero, List.set_cons_succ, List.length_cons, List.length_nil, hM.cls, m_isCellP hM hI.2.2.2.1.1 hI.2.2.2.1.2.1 hD, bI_0, eq_false a, not_true_eq_false, not_false_eq_true, false_implies, true_implies, and_true, true_and, and_false, false_and, if_true, if_false, forall_const, or_true, true_or, false_or, or_false, i10, Bool.false_eq_true, bI_T, bI_F]
    refine m_go hI (fun M1 k1 f1 I1 => ?_)
    simp only [g_115_0, g_115_1, g_115_2, g_115_3, g_115_6, g_115_9, g_115_10, g_115_13, g_115_14, g_115_15, g_115_18, g_115_21, g_115_22, g_115_25, g_115_26, g_115_29, g_115_32, g_115_33, g_115_34, g_115_35, g_115_38, g_115_39, g_115_40, g_115_41, g_115_42, g_115_43, g_115_44, g_115_45, g_115_48, g_115_49, g_115_52, g_115_53, g_115_54, g_115_55, g_115_58, g_115_59, g_115_60, g_115_61, g_115_62, g_115_63, g_115_64, g_115_65, g_115_66, g_115_67, g_115_68, g_115_71, g_115_72, qOb_some, kr_v, kr_n, qinv_i, qinv_r, qinv_0, Nat.reduceAdd, List.getElem?_cons_zero, List.getElem?_cons_succ, List.set_cons_zero, List.set_cons_succ, List.length_cons, List.length_nil, bI_0, not_true_eq_false, not_false_eq_true, false_implies, true_implies, and_true, true_and, and_false, false_and, if_true, if_false, forall_const, or_true, true_or, false_or, or_false, i10, Bool.false_eq_true, bI_T, bI_F]
    exact hE1 a M1 _ k1 upd_s I1
  by_cases b : tileP T t
  case neg =>
    simp only [g_115_0, g_115_1, g_115_2, g_115_3, g_115_6, g_115_9, g_115_10, g_115_13, g_115_14, g_115_15, g_115_18, g_115_21, g_115_22, g_115_25, g_115_26, g_115_29, g_115_32, g_115_33, g_115_34, g_115_35, g_115_38, g_115_39, g_115_40, g_115_41, g_115_42, g_115_43, g_115_44, g_115_45, g_115_48, g_115_49, g_115_52, g_115_53, g_115_54, g_115_55, g_115_58, g_115_59, g_115_60, g_115_61, g_115_62, g_115_63, g_115_64, g_115_65, g_115_66, g_115_67, g_115_68, g_115_71, g_115_72, qOb_some, kr_v, kr_n, qinv_i, qinv_r, qinv_0, Nat.reduceAdd, List.getElem?_cons_zero, List.getElem?_cons_succ, List.set_cons_zero, List.set_cons_succ, List.length_cons, List.length_nil, hM.cls, m_isCellP hM hI.2.2.2.1.1 hI.2.2.2.1.2.1 hD, m_isTileP hM hI.2.1 hS.1, bI_0, eq_true a, eq_false b, not_true_eq_false, not_false_eq_true, false_implies, true_implies, and_true, true_and, and_false, false_and, if_true, if_false, forall_const, or_true, true_or, false_or, or_false, i10, Bool.false_eq_true, bI_T, bI_F]
    refine m_go hI (fun M1 k1 f1 I1 => ?_)
    simp only [g_115_0, g_115_1, g_115_2, g_115_3, g_115_6, g_115_9, g_115_10, g_115_13, g_115_14, g_115_15, g_115_18, g_115_21, g_115_22, g_115_25, g_115_26, g_115_29, g_115_32, g_115_33, g_115_34, g_115_35, g_115_38, g_115_39, g_115_40, g_115_41, g_115_42, g_115_43, g_115_44, g_115_45, g_115_48, g_115_49, g_115_52, g_115_53, g_115_54, g_115_55, g_115_58, g_115_59, g_115_60, g_115_61, g_115_62, g_115_63, g_115_64, g_115_65, g_115_66, g_115_67, g_115_68, g_115_71, g_115_72, qOb_some, kr_v, kr_n, qinv_i, qinv_r, qinv_0, Nat.reduceAdd, List.getElem?_cons_zero, List.getElem?_cons_succ, List.set_cons_zero, List.set_cons_succ, List.length_cons, List.length_nil, bI_0, i20, not_true_eq_false, not_false_eq_true, false_implies, true_implies, and_true, true_and, and_false, false_and, if_true, if_false, forall_const, or_true, true_or, false_or, or_false, i10, Bool.false_eq_true, bI_T, bI_F]
    exact hE2 a b M1 _ k1 upd_s I1
  obtain ⟨c1, c2⟩ := cell_cn hD a
  obtain ⟨t1, t2⟩ := tile_cn hS.1 b
  have hB := (hS.2.1.2 _ c2).2
  simp only [g_115_0, g_115_1, g_115_2, g_115_3, g_115_6, g_115_9, g_115_10, g_115_13, g_115_14, g_115_15, g_115_18, g_115_21, g_115_22, g_115_25, g_115_26, g_115_29, g_115_32, g_115_33, g_115_34, g_115_35, g_115_38, g_115_39, g_115_40, g_115_41, g_115_42, g_115_43, g_115_44, g_115_45, g_115_48, g_115_49, g_115_52, g_115_53, g_115_54, g_115_55, g_115_58, g_115_59, g_115_60, g_115_61, g_115_62, g_115_63, g_115_64, g_115_65, g_115_66, g_115_67, g_115_68, g_115_71, g_115_72, qOb_some, kr_v, kr_n, qinv_i, qinv_r, qinv_0, Nat.reduceAdd, List.getElem?_cons_zero, List.getElem?_cons_succ, List.set_cons_zero, List.set_cons_succ, List.length_cons, List.length_nil, hM.cls, m_isCellP hM hI.2.2.2.1.1 hI.2.2.2.1.2.1 hD, m_isTileP hM hI.2.1 hS.1, bI_0, eq_true a, eq_true b, not_true_eq_false, not_false_eq_true, false_implies, true_implies, and_true, true_and, and_false, false_and, if_true, if_false, forall_const, or_true, true_or, false_or, or_false, i10, Bool.false_eq_true, bI_T, bI_F]
  refine m_go hI (fun M1 k1 f1 I1 => ?_)
  have hM1 := I1.1
  obtain ⟨-, j2, j3, ⟨j41, j42, ⟨fF, j43, j44⟩, ⟨fB, j45, j46⟩⟩, j5, j6, ⟨j7, j8⟩, j9, j10⟩ := I1
  have ea : qald none M1 105 0 c = some (.int (nI (B (cn c)))) := by
    have := ald_N j45 (show cn c < 36 by omega) (by decide)
    rw [← c1, j46 _ c2] at this
    exact this
  have esh : nI (B (cn c)) >>> (t &&& 31) &&& 1 = if (B (cn c)).testBit (cn t) then 1 else 0 := by
    have := nI_shr1 (cn t) (by omega) _ hB
    rw [← t1] at this
    exact this
  have esl : (1 : Int32) <<< (t &&& 31) = nI (2 ^ cn t) := by
    have := nI_shl1 (cn t) (by omega)
    rw [← t1] at this
    exact this
  obtain ⟨M2, e2, f2, r2⟩ := ast_G (nI (B (cn c) ||| 2 ^ cn t)) j45 (show cn c < 36 by omega) (by decide)
  rw [← c1] at e2
  have hM2 := hM1.fr f2 (by omega)
  obtain ⟨M3, e3, f3, hM3⟩ := put_G 11 0 hM2 (by decide) rfl ms_11
  have un : ∀ b, 102 ≤ b → b ≠ 105 → M3[b]? = M1[b]? := fun b q1 q2 => (f3 b (by omega)).trans (f2 b (by omega))
  have fin := hQ a b M3 (upd (upd s 0 0) 11 0) (k1.trans (fun b q => (f3 b (by omega)).trans (f2 b (by omega)))) (by rw [upd_n (by decide), upd_s]) ⟨hM3, j2.u (by rw [upd_n (by decide)]) (fun b q1 q2 => un b (by omega) (by omega)), (by rw [upd_n (by decide)]; exact j3), ⟨(by rw [upd_n (by decide)]; exact j41), (by rw [upd_n (by decide)]; exact j42), ⟨fF, (un 104 (by omega) (by omega)).trans j43, j44⟩, ⟨_, (f3 105 (by omega)).trans r2, fun k hk => (by
    by_cases e : k = cn c
    · rw [e, upd_s, fu_s]
    · rw [upd_n e, fu_n e]; exact j46 k hk)⟩⟩, j5.u (by rw [upd_n (by decide)]) (un _ (by omega) (by omega)), j6.un (by rw [upd_s]) (un _ (by omega) (by omega)), ⟨(by rw [upd_n (by decide)]; exact j7), (by rw [upd_n (by decide)]; exact j8)⟩, j9.u (by rw [upd_n (by decide)]) (fun b q1 q2 => un b (by omega) (by omega)), j10.u (fun b q1 q2 => un b (by omega) (by omega))⟩
  by_cases u : (B (cn c)).testBit (cn t) = true
  · rw [bI_t u] at fin
    simp only [u, if_true] at esh
    simp only [g_115_0, g_115_1, g_115_2, g_115_3, g_115_6, g_115_9, g_115_10, g_115_13, g_115_14, g_115_15, g_115_18, g_115_21, g_115_22, g_115_25, g_115_26, g_115_29, g_115_32, g_115_33, g_115_34, g_115_35, g_115_38, g_115_39, g_115_40, g_115_41, g_115_42, g_115_43, g_115_44, g_115_45, g_115_48, g_115_49, g_115_52, g_115_53, g_115_54, g_115_55, g_115_58, g_115_59, g_115_60, g_115_61, g_115_62, g_115_63, g_115_64, g_115_65, g_115_66, g_115_67, g_115_68, g_115_71, g_115_72, qOb_some, kr_v, kr_n, qinv_i, qinv_r, qinv_0, Nat.reduceAdd, List.getElem?_cons_zero, List.getElem?_cons_succ, List.set_cons_zero, List.set_cons_succ, List.length_cons, List.length_nil, not_true_eq_false, not_false_eq_true, false_implies, true_implies, and_true, true_and, and_false, false_and, if_true, if_false, forall_const, or_true, true_or, false_or, or_false, i10, Bool.false_eq_true, bI_T, bI_F, mget hM1, mo_8, ea, esh, esl, nI_or, e2, e3]
    exact fin
  · rw [bI_f u] at fin
    simp only [u, Bool.false_eq_true, if_false] at esh
    simp only [g_115_0, g_115_1, g_115_2, g_115_3, g_115_6, g_115_9, g_115_10, g_115_13, g_115_14, g_115_15, g_115_18, g_115_21, g_115_22, g_115_25, g_115_26, g_115_29, g_115_32, g_115_33, g_115_34, g_115_35, g_115_38, g_115_39, g_115_40, g_115_41, g_115_42, g_115_43, g_115_44, g_115_45, g_115_48, g_115_49, g_115_52, g_115_53, g_115_54, g_115_55, g_115_58, g_115_59, g_115_60, g_115_61, g_115_62, g_115_63, g_115_64, g_115_65, g_115_66, g_115_67, g_115_68, g_115_71, g_115_72, qOb_some, kr_v, kr_n, qinv_i, qinv_r, qinv_0, Nat.reduceAdd, List.getElem?_cons_zero, List.getElem?_cons_succ, List.set_cons_zero, List.set_cons_succ, List.length_cons, List.length_nil, not_true_eq_false, not_false_eq_true, false_implies, true_implies, and_true, true_and, and_false, false_and, if_true, if_false, forall_const, or_true, true_or, false_or, or_false, i10, Bool.false_eq_true, bI_T, bI_F, mget hM1, mo_8, ea, esh, esl, nI_or, e2, e3, show ((0 : Int32) = 1) = False from eq_false (by decide)]
    exact fin
theorem m_soften {M : qM} {s : Nat → Int32} {T : TS} {sd w h : Nat} {F : Nat → Option Nat} {B : Nat → Nat} {wo : Nat → Option Nat} {rd fd : Bool} {tl : Nat → Nat} {gs tk n : Nat} {cx cy : Nat → Int32} {ce : Nat → Nat} {ct : Nat → Nat → Nat} {c : Int32} {Q : qR → qM → Prop} (hI : InvM M s T sd w h F B wo rd fd tl gs tk n cx cy ce ct) (hS : SOk T sd w h F B wo rd fd tl gs tk n cx cy ce ct)
    (hE1 : ¬ cellP w h c → ∀ M' s', KM M M' → s' 0 = 1 → InvM M' s' T sd w h F B wo rd fd tl gs tk n cx cy ce ct → Q (.inl (some (.int 0))) M')
    (hQ : cellP w h c → ∀ M' s', KM M M' → s' 0 = 0 → InvM M' s' T sd w h (fuO F (cn c) none) (fu B (cn c) 0) wo rd false tl gs tk n cx cy ce ct → Q (.inl (some (.int (nI (cnt (B (cn c)) + (if F (cn c) = none then 0 else 1)))))) M') : cl 117 [.ref 101, .int c] M Q := by
  have hM := hI.1
  have hD := hS.2.1.1
  have hN := hD.le
  have h8 := hS.1.1
  rw [e_117]
  by_cases a : cellP w h c
  case neg =>
    simp only [g_117_0, g_117_1, g_117_2, g_117_3, g_117_6, g_117_9, g_117_10, g_117_13, g_117_14, g_117_17, g_117_20, g_117_21, g_117_22, g_117_23, g_117_26, g_117_27, g_117_28, g_117_31, g_117_32, g_117_35, g_117_36, g_117_37, g_117_38, g_117_41, g_117_42, g_117_45, g_117_46, g_117_47, g_117_48, g_117_49, g_117_52, g_117_53, g_117_54, g_117_55, g_117_56, g_117_59, g_117_60, g_117_61, g_117_62, g_117_63, g_117_64, g_117_67, g_117_68, qOb_some, kr_v, kr_n, qinv_i, qinv_r, qinv_0, Nat.reduceAdd, List.getElem?_cons_zero, List.getElem?_cons_succ, List.set_cons_zero, List.set_cons_succ, List.length_cons, List.length_nil, hM.cls, m_isCellP hM hI.2.2.2.1.1 hI.2.2.2.1.2.1 hD, bI_0, eq_false a, not_true_eq_false, not_false_eq_true, false_implies, true_implies, and_true, true_and, and_false, false_and, if_true, if_false, forall_const, or_true, true_or, false_or, or_false, i10, Bool.false_eq_true, bI_T, bI_F]
    refine m_go hI (fun M1 k1 f1 I1 => ?_)
    simp only [g_117_0, g_117_1, g_117_2, g_117_3, g_117_6, g_117_9, g_117_10, g_117_13, g_117_14, g_117_17, g_117_20, g_117_21, g_117_22, g_117_23, g_117_26, g_117_27, g_117_28, g_117_31, g_117_32, g_117_35, g_117_36, g_117_37, g_117_38, g_117_41, g_117_42, g_117_45, g_117_46, g_117_47, g_117_48, g_117_49, g_117_52, g_117_53, g_117_54, g_117_55, g_117_56, g_117_59, g_117_60, g_117_61, g_117_62, g_117_63, g_117_64, g_117_67, g_117_68, qOb_some, kr_v, kr_n, qinv_i, qinv_r, qinv_0, Nat.reduceAdd, List.getElem?_cons_zero, List.getElem?_cons_succ, List.set_cons_zero, List.set_cons_succ, List.length_cons, List.length_nil, bI_0, not_true_eq_false, not_false_eq_true, false_implies, true_implies, and_true, true_and, and_false, false_and, if_true, if_false, forall_const, or_true, true_or, false_or, or_false, i10, Bool.false_eq_true, bI_T, bI_F]
    exact hE1 a M1 _ k1 upd_s I1
  obtain ⟨c1, c2⟩ := cell_cn hD a
  obtain ⟨hF, hB⟩ := hS.2.1.2 _ c2
  simp only [g_117_0, g_117_1, g_117_2, g_117_3, g_117_6, g_117_9, g_117_10, g_117_13, g_117_14, g_117_17, g_117_20, g_117_21, g_117_22, g_117_23, g_117_26, g_117_27, g_117_28, g_117_31, g_117_32, g_117_35, g_117_36, g_117_37, g_117_38, g_117_41, g_117_42, g_117_45, g_117_46, g_117_47, g_117_48, g_117_49, g_117_52, g_117_53, g_117_54, g_117_55, g_117_56, g_117_59, g_117_60, g_117_61, g_117_62, g_117_63, g_117_64, g_117_67, g_117_68, qOb_some, kr_v, kr_n, qinv_i, qinv_r, qinv_0, Nat.reduceAdd, List.getElem?_cons_zero, List.getElem?_cons_succ, List.set_cons_zero, List.set_cons_succ, List.length_cons, List.length_nil, hM.cls, m_isCellP hM hI.2.2.2.1.1 hI.2.2.2.1.2.1 hD, bI_0, eq_true a, not_true_eq_false, not_false_eq_true, false_implies, true_implies, and_true, true_and, and_false, false_and, if_true, if_false, forall_const, or_true, true_or, false_or, or_false, i10, Bool.false_eq_true, bI_T, bI_F]
  refine m_go hI (fun M1 k1 f1 I1 => ?_)
  have hM1 := I1.1
  obtain ⟨-, j2, j3, ⟨j41, j42, ⟨fF, j43, j44⟩, ⟨fB, j45, j46⟩⟩, j5, j6, ⟨j7, j8⟩, j9, j10⟩ := I1
  have ea : qald none M1 105 0 c = some (.int (nI (B (cn c)))) := by
    have := ald_N j45 (show cn c < 36 by omega) (by decide)
    rw [← c1, j46 _ c2] at this
    exact this
  have eb : qald none M1 104 0 c = some (.int (nbI (F (cn c)))) := by
    have := ald_N j43 (show cn c < 36 by omega) (by decide)
    rw [← c1, j44 _ c2] at this
    exact this
  obtain ⟨M2, e2, f2, r2⟩ := ast_G (-1) j43 (show cn c < 36 by omega) (by decide)
  rw [← c1] at e2
  have hM2 := hM1.fr f2 (by omega)
  obtain ⟨M3, e3, f3, r3⟩ := ast_G 0 ((f2 105 (by omega)).trans j45) (show cn c < 36 by omega) (by decide)
  rw [← c1] at e3
  have hM3 := hM2.fr f3 (by omega)
  obtain ⟨M4, e4, f4, hM4⟩ := put_G 11 0 hM3 (by decide) rfl ms_11
  have un : ∀ b, 102 ≤ b → b ≠ 104 → b ≠ 105 → M4[b]? = M1[b]? := fun b q1 q2 q3 => (f4 b (by omega)).trans ((f3 b (by omega)).trans (f2 b (by omega)))
  have fin := hQ a M4 (upd (upd s 0 0) 11 0) (k1.trans (fun b q => (f4 b (by omega)).trans ((f3 b (by omega)).trans (f2 b (by omega))))) (by rw [upd_n (by decide), upd_s]) ⟨hM4, j2.u (by rw [upd_n (by decide)]) (fun b q1 q2 => un b (by omega) (by omega) (by omega)), (by rw [upd_n (by decide)]; exact j3), ⟨(by rw [upd_n (by decide)]; exact j41), (by rw [upd_n (by decide)]; exact j42), ⟨_, (f4 104 (by omega)).trans ((f3 104 (by omega)).trans r2), fun k hk => (by
    by_cases e : k = cn c
    · rw [e, upd_s, fuO_s]; rfl
    · rw [upd_n e, fuO_n e]; exact j44 k hk)⟩, ⟨_, (f4 105 (by omega)).trans r3, fun k hk => (by
    by_cases e : k = cn c
    · rw [e, upd_s, fu_s]; rfl
    · rw [upd_n e, fu_n e]; exact j46 k hk)⟩⟩, j5.u (by rw [upd_n (by decide)]) (un _ (by omega) (by omega) (by omega)), j6.un (by rw [upd_s]) (un _ (by omega) (by omega) (by omega)), ⟨(by rw [upd_n (by decide)]; exact j7), (by rw [upd_n (by decide)]; exact j8)⟩, j9.u (by rw [upd_n (by decide)]) (fun b q1 q2 => un b (by omega) (by omega) (by omega)), j10.u (fun b q1 q2 => un b (by omega) (by omega) (by omega))⟩
  cases hFc : F (cn c) with
  | none =>
    rw [hFc, if_pos rfl, Nat.add_zero] at fin
    simp only [g_117_0, g_117_1, g_117_2, g_117_3, g_117_6, g_117_9, g_117_10, g_117_13, g_117_14, g_117_17, g_117_20, g_117_21, g_117_22, g_117_23, g_117_26, g_117_27, g_117_28, g_117_31, g_117_32, g_117_35, g_117_36, g_117_37, g_117_38, g_117_41, g_117_42, g_117_45, g_117_46, g_117_47, g_117_48, g_117_49, g_117_52, g_117_53, g_117_54, g_117_55, g_117_56, g_117_59, g_117_60, g_117_61, g_117_62, g_117_63, g_117_64, g_117_67, g_117_68, qOb_some, kr_v, kr_n, qinv_i, qinv_r, qinv_0, Nat.reduceAdd, List.getElem?_cons_zero, List.getElem?_cons_succ, List.set_cons_zero, List.set_cons_succ, List.length_cons, List.length_nil, not_true_eq_false, not_false_eq_true, false_implies, true_implies, and_true, true_and, and_false, false_and, if_true, if_false, forall_const, or_true, true_or, false_or, or_false, i10, Bool.false_eq_true, bI_T, bI_F, mget hM1, mget hM2, mo_8, mo_7, ea, m_many hB, eb, hFc, nbI, nI_add0, e2, e3, e4]
    exact fin
  | some t =>
    have ht := hF t hFc
    rw [hFc, if_neg (fun q => by cases q)] at fin
    simp only [g_117_0, g_117_1, g_117_2, g_117_3, g_117_6, g_117_9, g_117_10, g_117_13, g_117_14, g_117_17, g_117_20, g_117_21, g_117_22, g_117_23, g_117_26, g_117_27, g_117_28, g_117_31, g_117_32, g_117_35, g_117_36, g_117_37, g_117_38, g_117_41, g_117_42, g_117_45, g_117_46, g_117_47, g_117_48, g_117_49, g_117_52, g_117_53, g_117_54, g_117_55, g_117_56, g_117_59, g_117_60, g_117_61, g_117_62, g_117_63, g_117_64, g_117_67, g_117_68, qOb_some, kr_v, kr_n, qinv_i, qinv_r, qinv_0, Nat.reduceAdd, List.getElem?_cons_zero, List.getElem?_cons_succ, List.set_cons_zero, List.set_cons_succ, List.length_cons, List.length_nil, not_true_eq_false, not_false_eq_true, false_implies, true_implies, and_true, true_and, and_false, false_and, if_true, if_false, forall_const, or_true, true_or, false_or, or_false, i10, Bool.false_eq_true, bI_T, bI_F, mget hM1, mget hM2, mo_8, mo_7, ea, m_many hB, eb, hFc, nbI, m1_ne (show t < 1000 by omega), nI_1, e2, e3, e4]
    exact fin
