/-! the model's ways, roads, figures -/
theorem m_waysI {M : qM} {s : Nat → Int32} {T : TS} {sd w h : Nat} {F : Nat → Option Nat} {B : Nat → Nat} {wo : Nat → Option Nat} {rd fd : Bool} {tl : Nat → Nat} {gs tk n : Nat} {cx cy : Nat → Int32} {ce : Nat → Nat} {ct : Nat → Nat → Nat} {Q : qR → qM → Prop} (hI : InvM M s T sd w h F B wo rd fd tl gs tk n cx cy ce ct) (hS : SOk T sd w h F B wo rd fd tl gs tk n cx cy ce ct)
    (hE : 4 < w * h → ∀ M' s', KM M M' → s' 0 = 1 → InvM M' s' T sd w h F B wo rd fd tl gs tk n cx cy ce ct → Q (.inl (some (.int 0))) M')
    (hQ : w * h ≤ 4 → ∀ M' s', KM M M' → s' 0 = 0 → InvM M' s' T sd w h F B wo rd fd tl gs tk n cx cy ce ct → Q (.inl (some (.int (nI (nways T w h wo rd (possM T F B)))))) M') : cl 144 [.ref 101] M Q := by
  refine m_ways hI.1 hI.2.1 hS.1 hI.2.2.2.1 hS.2.1 hI.2.2.2.2.1.1 hI.2.2.2.2.1.2 hS.2.2.2.1 hI.2.2.2.2.2.2.2.2 (fun M' s' b1 b2 b3 b4 b5 => ?_)
  have I' := hI.fr b1 b2 b3 b4
  by_cases u : 4 < w * h
  · rw [if_pos u] at b5 ⊢
    exact hE u M' s' b1.km b5 I'
  · rw [if_neg u] at b5 ⊢
    exact hQ (by omega) M' s' b1.km b5 I'
theorem m_roads {M : qM} {s : Nat → Int32} {T : TS} {sd w h : Nat} {F : Nat → Option Nat} {B : Nat → Nat} {wo : Nat → Option Nat} {rd fd : Bool} {tl : Nat → Nat} {gs tk n : Nat} {cx cy : Nat → Int32} {ce : Nat → Nat} {ct : Nat → Nat → Nat} {Q : qR → qM → Prop} (hI : InvM M s T sd w h F B wo rd fd tl gs tk n cx cy ce ct) (hS : SOk T sd w h F B wo rd fd tl gs tk n cx cy ce ct)
    (hE : fd = false → ∀ M' s', KM M M' → s' 0 = 1 → InvM M' s' T sd w h F B wo rd fd tl gs tk n cx cy ce ct → Q (.inl (some (.int 0))) M')
    (hQ : fd = true → ∀ M' s', KM M M' → s' 0 = 0 → InvM M' s' T sd w h F B wo rd fd tl gs tk n cx cy ce ct → Q (.inl (some (.int (nI (npc T w h tl))))) M') : cl 146 [.ref 101] M Q := by
  have hM := hI.1
  have hD := hS.2.1.1
  have hN := hD.le
  have h8 := hS.1.1
  have v11 := hI.2.2.2.2.2.1.1
  rw [e_146]
  by_cases b : fd = true
  case neg =>
    have v11' := v11.trans (bI_f b)
    simp only [g_146_0, g_146_1, g_146_2, g_146_5, g_146_8, g_146_9, g_146_12, g_146_13, g_146_16, g_146_19, g_146_20, g_146_21, g_146_22, g_146_25, g_146_26, g_146_29, qOb_some, kr_v, kr_n, qinv_i, qinv_r, qinv_0, Nat.reduceAdd, List.getElem?_cons_zero, List.getElem?_cons_succ, List.set_cons_zero, List.set_cons_succ, List.length_cons, List.length_nil, hM.cls, not_true_eq_false, not_false_eq_true, false_implies, true_implies, and_true, true_and, and_false, false_and, if_true, if_false, forall_const, or_true, true_or, false_or, or_false, i10, Bool.false_eq_true, bI_T, bI_F, mget hM, mo_11, v11']
    refine m_go hI (fun M1 k1 f1 I1 => ?_)
    simp only [g_146_0, g_146_1, g_146_2, g_146_5, g_146_8, g_146_9, g_146_12, g_146_13, g_146_16, g_146_19, g_146_20, g_146_21, g_146_22, g_146_25, g_146_26, g_146_29, qOb_some, kr_v, kr_n, qinv_i, qinv_r, qinv_0, Nat.reduceAdd, List.getElem?_cons_zero, List.getElem?_cons_succ, List.set_cons_zero, List.set_cons_succ, List.length_cons, List.length_nil, bI_0, not_true_eq_false, not_false_eq_true, false_implies, true_implies, and_true, true_and, and_false, false_and, if_true, if_false, forall_const, or_true, true_or, false_or, or_false, i10, Bool.false_eq_true, bI_T, bI_F]
    exact hE (by simpa using b) M1 _ k1 upd_s I1
  have v11' := v11.trans (bI_t b)
  have htl := (hS.2.2.2.2.1 b).1
  simp only [g_146_0, g_146_1, g_146_2, g_146_5, g_146_8, g_146_9, g_146_12, g_146_13, g_146_16, g_146_19, g_146_20, g_146_21, g_146_22, g_146_25, g_146_26, g_146_29, qOb_some, kr_v, kr_n, qinv_i, qinv_r, qinv_0, Nat.reduceAdd, List.getElem?_cons_zero, List.getElem?_cons_succ, List.set_cons_zero, List.set_cons_succ, List.length_cons, List.length_nil, hM.cls, not_true_eq_false, not_false_eq_true, false_implies, true_implies, and_true, true_and, and_false, false_and, if_true, if_false, forall_const, or_true, true_or, false_or, or_false, i10, Bool.false_eq_true, bI_T, bI_F, mget hM, mo_11, v11']
  refine m_go hI (fun M1 k1 f1 I1 => ?_)
  simp only [g_146_0, g_146_1, g_146_2, g_146_5, g_146_8, g_146_9, g_146_12, g_146_13, g_146_16, g_146_19, g_146_20, g_146_21, g_146_22, g_146_25, g_146_26, g_146_29, qOb_some, kr_v, kr_n, qinv_i, qinv_r, qinv_0, Nat.reduceAdd, List.getElem?_cons_zero, List.getElem?_cons_succ, List.set_cons_zero, List.set_cons_succ, List.length_cons, List.length_nil, bI_0, not_true_eq_false, not_false_eq_true, false_implies, true_implies, and_true, true_and, and_false, false_and, if_true, if_false, forall_const, or_true, true_or, false_or, or_false, i10, Bool.false_eq_true, bI_T, bI_F, I1.1.cls]
  rw [e_145]
  simp only [g_145_0, g_145_1, g_145_4, g_145_5, g_145_7, g_145_8, g_145_11, g_145_14, g_145_15, g_145_18, g_145_19, g_145_20, g_145_21, g_145_24, g_145_25, g_145_26, g_145_27, g_145_28, g_145_31, g_145_34, qOb_some, kr_v, kr_n, qinv_i, qinv_r, qinv_0, Nat.reduceAdd, List.getElem?_cons_zero, List.getElem?_cons_succ, List.set_cons_zero, List.set_cons_succ, List.length_cons, List.length_nil, not_true_eq_false, not_false_eq_true, false_implies, true_implies, and_true, true_and, and_false, false_and, if_true, if_false, forall_const, or_true, true_or, false_or, or_false, i10, Bool.false_eq_true, bI_T, bI_F, I1.1.cls]
  refine m_beg I1 hS (fun M2 s2 b1 b2 I2 b4 b5 b6 b7 => ?_)
  simp only [g_145_0, g_145_1, g_145_4, g_145_5, g_145_7, g_145_8, g_145_11, g_145_14, g_145_15, g_145_18, g_145_19, g_145_20, g_145_21, g_145_24, g_145_25, g_145_26, g_145_27, g_145_28, g_145_31, g_145_34, qOb_some, kr_v, kr_n, qinv_i, qinv_r, qinv_0, Nat.reduceAdd, List.getElem?_cons_zero, List.getElem?_cons_succ, List.set_cons_zero, List.set_cons_succ, List.length_cons, List.length_nil, not_true_eq_false, not_false_eq_true, false_implies, true_implies, and_true, true_and, and_false, false_and, if_true, if_false, forall_const, or_true, true_or, false_or, or_false, i10, Bool.false_eq_true, bI_T, bI_F]
  obtain ⟨fp, rp, -⟩ := b7
  obtain ⟨-, ff, j6, j61⟩ := I2.2.2.2.2.2.1
  have j61 := j61 b
  refine upto (N := w * h) (I := fun c M' => Fr 112 113 M2 M' ∧ ∃ f, M'[112]? = some (.inl (0, 36, .inl f)) ∧ ∀ k, k < c → f k = nI (pw tl k)) (G := fun c M' => g 145 6 [some (.ref 101), some (.int (nI c))] [] M' 0 0 (kr 146 22 [some (.ref 101)] [] 0 0 Q)) ?_ ?_ 0 M2 (Nat.zero_le _) ⟨Fr.refl, fp, rp, fun k hk => absurd hk (Nat.not_lt_zero _)⟩
  · rintro M3 ⟨a1, f, a2, a3⟩
    have hM3 := I2.1.fr a1 (by omega)
    have hH3 := I2.2.2.2.2.2.2.2.2.arr ⟨f, a2⟩ (fun b q1 q2 => a1 b (by omega))
    have I3 := I2.fr (a1.m (by omega) (by omega)).w SF.refl hM3 hH3
    rw [g_145_6]
    simp only [g_145_0, g_145_1, g_145_4, g_145_5, g_145_7, g_145_8, g_145_11, g_145_14, g_145_15, g_145_18, g_145_19, g_145_20, g_145_21, g_145_24, g_145_25, g_145_26, g_145_27, g_145_28, g_145_31, g_145_34, g_146_0, g_146_1, g_146_2, g_146_5, g_146_8, g_146_9, g_146_12, g_146_13, g_146_16, g_146_19, g_146_20, g_146_21, g_146_22, g_146_25, g_146_26, g_146_29, qOb_some, kr_v, kr_n, qinv_i, qinv_r, qinv_0, Nat.reduceAdd, List.getElem?_cons_zero, List.getElem?_cons_succ, List.set_cons_zero, List.set_cons_succ, List.length_cons, List.length_nil, not_true_eq_false, not_false_eq_true, false_implies, true_implies, and_true, true_and, and_false, false_and, if_true, if_false, forall_const, or_true, true_or, false_or, or_false, i10, Bool.false_eq_true, bI_T, bI_F, hM3.cls, m_cells hM3 b4 b5, Int32.le_refl]
    refine m_pieces hM3 I3.2.1 hS.1 b4 b5 hD (p := pw tl) (tl := tl) ⟨f, a2, a3⟩ (fun k hk => ⟨htl k hk, rfl⟩) hH3.2.1.2.1 (fun M4 c1 c2 => ?_)
    simp only [g_146_0, g_146_1, g_146_2, g_146_5, g_146_8, g_146_9, g_146_12, g_146_13, g_146_16, g_146_19, g_146_20, g_146_21, g_146_22, g_146_25, g_146_26, g_146_29, qOb_some, kr_v, kr_n, qinv_i, qinv_r, qinv_0, Nat.reduceAdd, List.getElem?_cons_zero, List.getElem?_cons_succ, List.set_cons_zero, List.set_cons_succ, List.length_cons, List.length_nil, not_true_eq_false, not_false_eq_true, false_implies, true_implies, and_true, true_and, and_false, false_and, if_true, if_false, forall_const, or_true, true_or, false_or, or_false, i10, Bool.false_eq_true, bI_T, bI_F]
    have hH4 : HandM M4 := by
      obtain ⟨⟨g1, q1⟩, ⟨⟨g2, q2⟩, -, ⟨g3, q3, v3⟩, ⟨g4, q4, v4⟩, ⟨g5, q5, v5⟩⟩, ⟨g6, q6⟩⟩ := hH3
      exact ⟨⟨g1, (c1 _ (by omega)).trans q1⟩, ⟨⟨g2, (c1 _ (by omega)).trans q2⟩, c2, ⟨g3, (c1 _ (by omega)).trans q3, v3⟩, ⟨g4, (c1 _ (by omega)).trans q4, v4⟩, ⟨g5, (c1 _ (by omega)).trans q5, v5⟩⟩, ⟨g6, (c1 _ (by omega)).trans q6⟩⟩
    exact hQ b M4 s2 (((k1.trans b1.km).trans (a1.km (by omega) (by omega))).trans (c1.km (by omega) (by omega))) ((b2 0 (by decide)).trans upd_s) (I3.fr (c1.m (by omega) (by omega)).w SF.refl (hM3.fr c1 (by omega)) hH4)
  · rintro c M3 hc ⟨a1, f, a2, a3⟩ ih
    have hM3 := I2.1.fr a1 (by omega)
    have ht := htl c hc
    obtain ⟨M4, e4, f4, r4⟩ := ast_G (nI (2 ^ tl c)) a2 (show c < 36 by omega) (by decide)
    rw [g_145_6]
    simp only [g_145_0, g_145_1, g_145_4, g_145_5, g_145_7, g_145_8, g_145_11, g_145_14, g_145_15, g_145_18, g_145_19, g_145_20, g_145_21, g_145_24, g_145_25, g_145_26, g_145_27, g_145_28, g_145_31, g_145_34, qOb_some, kr_v, kr_n, qinv_i, qinv_r, qinv_0, Nat.reduceAdd, List.getElem?_cons_zero, List.getElem?_cons_succ, List.set_cons_zero, List.set_cons_succ, List.length_cons, List.length_nil, not_true_eq_false, not_false_eq_true, false_implies, true_implies, and_true, true_and, and_false, false_and, if_true, if_false, forall_const, or_true, true_or, false_or, or_false, i10, Bool.false_eq_true, bI_T, bI_F, hM3.cls, m_cells hM3 b4 b5, nI_ge hc (show w * h < 2 ^ 31 by omega), mget hM3, mo_23, mo_12, ald_N ((a1 107 (by omega)).trans j6) (show c < 36 by omega) (show 36 < 2147483648 by decide), j61 c hc, nI_shl1' (show tl c < 8 by omega), e4, nI_1]
    refine ih M4 ⟨a1.trans f4, _, r4, fun k hk => ?_⟩
    by_cases e : k = c
    · rw [e, upd_s]; rfl
    · rw [upd_n e]; exact a3 k (by omega)
theorem m_worldSum {M : qM} {s : Nat → Int32} {T : TS} {sd w h : Nat} {F : Nat → Option Nat} {B : Nat → Nat} {wo : Nat → Option Nat} {rd fd : Bool} {tl : Nat → Nat} {gs tk n : Nat} {cx cy : Nat → Int32} {ce : Nat → Nat} {ct : Nat → Nat → Nat} {Q : qR → qM → Prop} (hI : InvM M s T sd w h F B wo rd fd tl gs tk n cx cy ce ct) (hS : SOk T sd w h F B wo rd fd tl gs tk n cx cy ce ct)
    (hE : fd = false → ∀ M' s', KM M M' → s' 0 = 1 → InvM M' s' T sd w h F B wo rd fd tl gs tk n cx cy ce ct → Q (.inl (some (.long 0))) M')
    (hQ : fd = true → ∀ M' s', KM M M' → s' 0 = 0 → InvM M' s' T sd w h F B wo rd fd tl gs tk n cx cy ce ct → Q (.inl (some (.long (wsL tl (w * h))))) M') : cl 156 [.ref 101] M Q := by
  have hM := hI.1
  have hD := hS.2.1.1
  have hN := hD.le
  have h8 := hS.1.1
  obtain ⟨v11, ff, j6, j61⟩ := hI.2.2.2.2.2.1
  have v5 := hI.2.2.2.1.1
  have v6 := hI.2.2.2.1.2.1
  rw [e_156]
  by_cases b : fd = true
  case neg =>
    have v11' := v11.trans (bI_f b)
    simp only [g_156_0, g_156_1, g_156_2, g_156_3, g_156_5, g_156_6, g_156_9, g_156_10, g_156_13, g_156_14, g_156_17, g_156_18, g_156_21, g_156_24, g_156_25, g_156_26, g_156_29, g_156_30, g_156_31, g_156_32, g_156_33, g_156_34, g_156_35, g_156_36, g_156_37, g_156_38, g_156_39, g_156_40, g_156_41, g_156_42, g_156_43, g_156_44, g_156_45, g_156_46, g_156_49, g_156_52, g_156_53, g_156_54, g_156_57, g_156_60, g_156_61, g_156_64, g_156_65, g_156_68, g_156_71, g_156_72, g_156_75, g_156_76, qOb_some, kr_v, kr_n, qinv_i, qinv_r, qinv_0, Nat.reduceAdd, List.getElem?_cons_zero, List.getElem?_cons_succ, List.set_cons_zero, List.set_cons_succ, List.length_cons, List.length_nil, not_true_eq_false, not_false_eq_true, false_implies, true_implies, and_true, true_and, and_false, false_and, if_true, if_false, forall_const, or_true, true_or, false_or, or_false, i10, Bool.false_eq_true, bI_T, bI_F]
    rw [show (0 : Int32) = nI 0 from rfl, g_156_4]
    simp only [g_156_0, g_156_1, g_156_2, g_156_3, g_156_5, g_156_6, g_156_9, g_156_10, g_156_13, g_156_14, g_156_17, g_156_18, g_156_21, g_156_24, g_156_25, g_156_26, g_156_29, g_156_30, g_156_31, g_156_32, g_156_33, g_156_34, g_156_35, g_156_36, g_156_37, g_156_38, g_156_39, g_156_40, g_156_41, g_156_42, g_156_43, g_156_44, g_156_45, g_156_46, g_156_49, g_156_52, g_156_53, g_156_54, g_156_57, g_156_60, g_156_61, g_156_64, g_156_65, g_156_68, g_156_71, g_156_72, g_156_75, g_156_76, qOb_some, kr_v, kr_n, qinv_i, qinv_r, qinv_0, Nat.reduceAdd, List.getElem?_cons_zero, List.getElem?_cons_succ, List.set_cons_zero, List.set_cons_succ, List.length_cons, List.length_nil, hM.cls, not_true_eq_false, not_false_eq_true, false_implies, true_implies, and_true, true_and, and_false, false_and, if_true, if_false, forall_const, or_true, true_or, false_or, or_false, i10, Bool.false_eq_true, bI_T, bI_F, mget hM, mo_5, mo_6, v5, v6, pk_mul, nI_ge (show 0 < w * h from hD.pos) (show w * h < 2 ^ 31 by omega), mo_11, v11']
    refine m_go hI (fun M1 k1 f1 I1 => ?_)
    simp only [g_156_0, g_156_1, g_156_2, g_156_3, g_156_5, g_156_6, g_156_9, g_156_10, g_156_13, g_156_14, g_156_17, g_156_18, g_156_21, g_156_24, g_156_25, g_156_26, g_156_29, g_156_30, g_156_31, g_156_32, g_156_33, g_156_34, g_156_35, g_156_36, g_156_37, g_156_38, g_156_39, g_156_40, g_156_41, g_156_42, g_156_43, g_156_44, g_156_45, g_156_46, g_156_49, g_156_52, g_156_53, g_156_54, g_156_57, g_156_60, g_156_61, g_156_64, g_156_65, g_156_68, g_156_71, g_156_72, g_156_75, g_156_76, qOb_some, kr_v, kr_n, qinv_i, qinv_r, qinv_0, Nat.reduceAdd, List.getElem?_cons_zero, List.getElem?_cons_succ, List.set_cons_zero, List.set_cons_succ, List.length_cons, List.length_nil, bI_0, not_true_eq_false, not_false_eq_true, false_implies, true_implies, and_true, true_and, and_false, false_and, if_true, if_false, forall_const, or_true, true_or, false_or, or_false, i10, Bool.false_eq_true, bI_T, bI_F]
    exact hE (by simpa using b) M1 _ k1 upd_s I1
  have v11' := v11.trans (bI_t b)
  have j61 := j61 b
  have htl := (hS.2.2.2.2.1 b).1
  simp only [g_156_0, g_156_1, g_156_2, g_156_3, g_156_5, g_156_6, g_156_9, g_156_10, g_156_13, g_156_14, g_156_17, g_156_18, g_156_21, g_156_24, g_156_25, g_156_26, g_156_29, g_156_30, g_156_31, g_156_32, g_156_33, g_156_34, g_156_35, g_156_36, g_156_37, g_156_38, g_156_39, g_156_40, g_156_41, g_156_42, g_156_43, g_156_44, g_156_45, g_156_46, g_156_49, g_156_52, g_156_53, g_156_54, g_156_57, g_156_60, g_156_61, g_156_64, g_156_65, g_156_68, g_156_71, g_156_72, g_156_75, g_156_76, qOb_some, kr_v, kr_n, qinv_i, qinv_r, qinv_0, Nat.reduceAdd, List.getElem?_cons_zero, List.getElem?_cons_succ, List.set_cons_zero, List.set_cons_succ, List.length_cons, List.length_nil, not_true_eq_false, not_false_eq_true, false_implies, true_implies, and_true, true_and, and_false, false_and, if_true, if_false, forall_const, or_true, true_or, false_or, or_false, i10, Bool.false_eq_true, bI_T, bI_F]
  refine upto (N := w * h) (I := fun _ _ => True) (G := fun c (_ : Unit) => g 156 4 [some (.ref 101), some (.long (wsL tl c)), none, some (.int (nI c))] [] M 0 0 Q) ?_ ?_ 0 () (Nat.zero_le _) trivial
  · intro _ _
    rw [g_156_4]
    simp only [g_156_0, g_156_1, g_156_2, g_156_3, g_156_5, g_156_6, g_156_9, g_156_10, g_156_13, g_156_14, g_156_17, g_156_18, g_156_21, g_156_24, g_156_25, g_156_26, g_156_29, g_156_30, g_156_31, g_156_32, g_156_33, g_156_34, g_156_35, g_156_36, g_156_37, g_156_38, g_156_39, g_156_40, g_156_41, g_156_42, g_156_43, g_156_44, g_156_45, g_156_46, g_156_49, g_156_52, g_156_53, g_156_54, g_156_57, g_156_60, g_156_61, g_156_64, g_156_65, g_156_68, g_156_71, g_156_72, g_156_75, g_156_76, qOb_some, kr_v, kr_n, qinv_i, qinv_r, qinv_0, Nat.reduceAdd, List.getElem?_cons_zero, List.getElem?_cons_succ, List.set_cons_zero, List.set_cons_succ, List.length_cons, List.length_nil, hM.cls, not_true_eq_false, not_false_eq_true, false_implies, true_implies, and_true, true_and, and_false, false_and, if_true, if_false, forall_const, or_true, true_or, false_or, or_false, i10, Bool.false_eq_true, bI_T, bI_F, mget hM, mo_5, mo_6, v5, v6, pk_mul, Int32.le_refl, mo_11, v11']
    refine m_go hI (fun M1 k1 f1 I1 => ?_)
    simp only [g_156_0, g_156_1, g_156_2, g_156_3, g_156_5, g_156_6, g_156_9, g_156_10, g_156_13, g_156_14, g_156_17, g_156_18, g_156_21, g_156_24, g_156_25, g_156_26, g_156_29, g_156_30, g_156_31, g_156_32, g_156_33, g_156_34, g_156_35, g_156_36, g_156_37, g_156_38, g_156_39, g_156_40, g_156_41, g_156_42, g_156_43, g_156_44, g_156_45, g_156_46, g_156_49, g_156_52, g_156_53, g_156_54, g_156_57, g_156_60, g_156_61, g_156_64, g_156_65, g_156_68, g_156_71, g_156_72, g_156_75, g_156_76, qOb_some, kr_v, kr_n, qinv_i, qinv_r, qinv_0, Nat.reduceAdd, List.getElem?_cons_zero, List.getElem?_cons_succ, List.set_cons_zero, List.set_cons_succ, List.length_cons, List.length_nil, bI_0, not_true_eq_false, not_false_eq_true, false_implies, true_implies, and_true, true_and, and_false, false_and, if_true, if_false, forall_const, or_true, true_or, false_or, or_false, i10, Bool.false_eq_true, bI_T, bI_F]
    exact hQ b M1 _ k1 upd_s I1
  · intro c _ hc _ ih
    have ih := ih () trivial
    have ht := htl c hc
    rw [wsL] at ih
    rw [g_156_4]
    simp only [g_156_0, g_156_1, g_156_2, g_156_3, g_156_5, g_156_6, g_156_9, g_156_10, g_156_13, g_156_14, g_156_17, g_156_18, g_156_21, g_156_24, g_156_25, g_156_26, g_156_29, g_156_30, g_156_31, g_156_32, g_156_33, g_156_34, g_156_35, g_156_36, g_156_37, g_156_38, g_156_39, g_156_40, g_156_41, g_156_42, g_156_43, g_156_44, g_156_45, g_156_46, g_156_49, g_156_52, g_156_53, g_156_54, g_156_57, g_156_60, g_156_61, g_156_64, g_156_65, g_156_68, g_156_71, g_156_72, g_156_75, g_156_76, qOb_some, kr_v, kr_n, qinv_i, qinv_r, qinv_0, Nat.reduceAdd, List.getElem?_cons_zero, List.getElem?_cons_succ, List.set_cons_zero, List.set_cons_succ, List.length_cons, List.length_nil, hM.cls, not_true_eq_false, not_false_eq_true, false_implies, true_implies, and_true, true_and, and_false, false_and, if_true, if_false, forall_const, or_true, true_or, false_or, or_false, i10, Bool.false_eq_true, bI_T, bI_F, mget hM, mo_5, mo_6, v5, v6, pk_mul, nI_ge hc (show w * h < 2 ^ 31 by omega), mo_11, v11', mo_12, ald_N j6 (show c < 36 by omega) (show 36 < 2147483648 by decide), j61 c hc, nI_l (show tl c < 2 ^ 31 by omega), nI_l (show c < 2 ^ 31 by omega), lN_1, nI_1]
    exact ih
theorem m_meanOptions {M : qM} {s : Nat → Int32} {T : TS} {sd w h : Nat} {F : Nat → Option Nat} {B : Nat → Nat} {wo : Nat → Option Nat} {rd fd : Bool} {tl : Nat → Nat} {gs tk n : Nat} {cx cy : Nat → Int32} {ce : Nat → Nat} {ct : Nat → Nat → Nat} {Q : qR → qM → Prop} (hI : InvM M s T sd w h F B wo rd fd tl gs tk n cx cy ce ct) (hS : SOk T sd w h F B wo rd fd tl gs tk n cx cy ce ct)
    (hQ : ∀ M' s', KM M M' → InvM M' s' T sd w h F B wo rd fd tl gs tk n cx cy ce ct → Q (.inl (some (.double (FP.ddiv (FP.i2d (nI (nsum (fun k => cnt (narF T w h (possM T F B) k)) (w * h)))) (FP.i2d (nI (w * h))))))) M') : cl 157 [.ref 101] M Q := by
  have hD := hS.2.1.1
  have hN := hD.le
  have hp := hD.pos
  obtain ⟨M1, e1, f1, hM1⟩ := put_G 0 0 hI.1 (by decide) rfl ms_0
  have I1 := hI.p0 f1 hM1
  rw [e_157]
  simp only [g_157_0, g_157_1, g_157_2, g_157_5, g_157_6, g_157_9, g_157_10, g_157_11, g_157_12, g_157_14, g_157_15, g_157_18, g_157_21, g_157_22, g_157_23, g_157_26, g_157_27, g_157_28, g_157_31, g_157_32, g_157_33, g_157_36, g_157_39, g_157_40, g_157_41, g_157_42, g_157_45, g_157_46, g_157_47, qOb_some, kr_v, kr_n, qinv_i, qinv_r, qinv_0, Nat.reduceAdd, List.getElem?_cons_zero, List.getElem?_cons_succ, List.set_cons_zero, List.set_cons_succ, List.length_cons, List.length_nil, not_true_eq_false, not_false_eq_true, false_implies, true_implies, and_true, true_and, and_false, false_and, if_true, if_false, forall_const, or_true, true_or, false_or, or_false, i10, Bool.false_eq_true, bI_T, bI_F, e1, hM1.cls]
  refine m_brings I1 hS (fun M2 s2 b1 b2 I2 b4 b5 b6 => ?_)
  obtain ⟨f, r, v⟩ := b6
  have hb : ∀ k, narF T w h (possM T F B) k < 256 := fun k => narF_lt
  simp only [g_157_0, g_157_1, g_157_2, g_157_5, g_157_6, g_157_9, g_157_10, g_157_11, g_157_12, g_157_14, g_157_15, g_157_18, g_157_21, g_157_22, g_157_23, g_157_26, g_157_27, g_157_28, g_157_31, g_157_32, g_157_33, g_157_36, g_157_39, g_157_40, g_157_41, g_157_42, g_157_45, g_157_46, g_157_47, qOb_some, kr_v, kr_n, qinv_i, qinv_r, qinv_0, Nat.reduceAdd, List.getElem?_cons_zero, List.getElem?_cons_succ, List.set_cons_zero, List.set_cons_succ, List.length_cons, List.length_nil, not_true_eq_false, not_false_eq_true, false_implies, true_implies, and_true, true_and, and_false, false_and, if_true, if_false, forall_const, or_true, true_or, false_or, or_false, i10, Bool.false_eq_true, bI_T, bI_F]
  refine upto (N := w * h) (I := fun _ _ => True) (G := fun c (_ : Unit) => g 157 13 [some (.ref 101), some (.int (nI (nsum (fun k => cnt (narF T w h (possM T F B) k)) c))), some (.int (nI c))] [] M2 0 0 Q) ?_ ?_ 0 () (Nat.zero_le _) trivial
  · intro _ _
    have hs : nsum (fun k => cnt (narF T w h (possM T F B) k)) (w * h) < 289 := by
      have : ∀ m, nsum (fun k => cnt (narF T w h (possM T F B) k)) m ≤ 8 * m := by
        intro m
        induction m with
        | zero => exact Nat.le_refl _
        | succ m ih =>
          have := cnt_le _ (hb m)
          show nsum _ m + cnt _ ≤ _
          omega
      have := this (w * h)
      omega
    obtain ⟨m, hm⟩ : ∃ m, w * h = m + 1 := ⟨w * h - 1, by omega⟩
    have hd := (dd_ok m (by omega) _ hs).1
    rw [← hm] at hd
    rw [g_157_13]
    simp only [g_157_0, g_157_1, g_157_2, g_157_5, g_157_6, g_157_9, g_157_10, g_157_11, g_157_12, g_157_14, g_157_15, g_157_18, g_157_21, g_157_22, g_157_23, g_157_26, g_157_27, g_157_28, g_157_31, g_157_32, g_157_33, g_157_36, g_157_39, g_157_40, g_157_41, g_157_42, g_157_45, g_157_46, g_157_47, qOb_some, kr_v, kr_n, qinv_i, qinv_r, qinv_0, Nat.reduceAdd, List.getElem?_cons_zero, List.getElem?_cons_succ, List.set_cons_zero, List.set_cons_succ, List.length_cons, List.length_nil, not_true_eq_false, not_false_eq_true, false_implies, true_implies, and_true, true_and, and_false, false_and, if_true, if_false, forall_const, or_true, true_or, false_or, or_false, i10, Bool.false_eq_true, bI_T, bI_F, I2.1.cls, m_cells I2.1 b4 b5, Int32.le_refl, eq_true hd]
    exact hQ M2 s2 ((f1.km (by omega) (by omega)).trans b1.km) I2
  · intro c _ hc _ ih
    have ih := ih () trivial
    rw [nsum, ← nI_add] at ih
    rw [g_157_13]
    simp only [g_157_0, g_157_1, g_157_2, g_157_5, g_157_6, g_157_9, g_157_10, g_157_11, g_157_12, g_157_14, g_157_15, g_157_18, g_157_21, g_157_22, g_157_23, g_157_26, g_157_27, g_157_28, g_157_31, g_157_32, g_157_33, g_157_36, g_157_39, g_157_40, g_157_41, g_157_42, g_157_45, g_157_46, g_157_47, qOb_some, kr_v, kr_n, qinv_i, qinv_r, qinv_0, Nat.reduceAdd, List.getElem?_cons_zero, List.getElem?_cons_succ, List.set_cons_zero, List.set_cons_succ, List.length_cons, List.length_nil, not_true_eq_false, not_false_eq_true, false_implies, true_implies, and_true, true_and, and_false, false_and, if_true, if_false, forall_const, or_true, true_or, false_or, or_false, i10, Bool.false_eq_true, bI_T, bI_F, I2.1.cls, m_cells I2.1 b4 b5, nI_ge hc (show w * h < 2 ^ 31 by omega), mget I2.1, mo_23, ald_N r (show c < 36 by omega) (show 36 < 2147483648 by decide), v c hc, m_many (hb c), nI_1]
    exact ih
theorem m_roadShare {M : qM} {s : Nat → Int32} {T : TS} {sd w h : Nat} {F : Nat → Option Nat} {B : Nat → Nat} {wo : Nat → Option Nat} {rd fd : Bool} {tl : Nat → Nat} {gs tk n : Nat} {cx cy : Nat → Int32} {ce : Nat → Nat} {ct : Nat → Nat → Nat} {Q : qR → qM → Prop} (hI : InvM M s T sd w h F B wo rd fd tl gs tk n cx cy ce ct) (hS : SOk T sd w h F B wo rd fd tl gs tk n cx cy ce ct)
    (hE : fd = false → ∀ M' s', KM M M' → s' 0 = 1 → InvM M' s' T sd w h F B wo rd fd tl gs tk n cx cy ce ct → Q (.inl (some (.float FP.fconst0))) M')
    (hQ : fd = true → ∀ M' s', KM M M' → s' 0 = 0 → InvM M' s' T sd w h F B wo rd fd tl gs tk n cx cy ce ct → Q (.inl (some (.float (FP.fdiv (FP.i2f (nI (cntB (fun k => roadT T (tl k)) (w * h)))) (FP.i2f (nI (w * h))))))) M') : cl 158 [.ref 101] M Q := by
  have hM := hI.1
  have hD := hS.2.1.1
  have hN := hD.le
  have hp := hD.pos
  obtain ⟨v11, ff, j6, j61⟩ := hI.2.2.2.2.2.1
  have v5 := hI.2.2.2.1.1
  have v6 := hI.2.2.2.1.2.1
  rw [e_158]
  by_cases b : fd = true
  case neg =>
    have v11' := v11.trans (bI_f b)
    have st : g 158 4 [some (.ref 101), some (.int 0), some (.int (nI 0))] [] M 0 0 Q := by
      rw [g_158_4]
      simp only [g_158_0, g_158_1, g_158_2, g_158_3, g_158_5, g_158_6, g_158_9, g_158_10, g_158_13, g_158_14, g_158_17, g_158_18, g_158_21, g_158_24, g_158_25, g_158_26, g_158_27, g_158_30, g_158_31, g_158_32, g_158_35, g_158_38, g_158_39, g_158_42, g_158_43, g_158_44, g_158_45, g_158_48, g_158_51, g_158_52, g_158_53, g_158_56, g_158_59, g_158_60, g_158_63, g_158_64, g_158_67, g_158_70, g_158_71, g_158_72, g_158_73, g_158_76, g_158_77, g_158_80, g_158_81, g_158_82, g_158_83, g_158_86, g_158_87, qOb_some, kr_v, kr_n, qinv_i, qinv_r, qinv_0, Nat.reduceAdd, List.getElem?_cons_zero, List.getElem?_cons_succ, List.set_cons_zero, List.set_cons_succ, List.length_cons, List.length_nil, hM.cls, not_true_eq_false, not_false_eq_true, false_implies, true_implies, and_true, true_and, and_false, false_and, if_true, if_false, forall_const, or_true, true_or, false_or, or_false, i10, Bool.false_eq_true, bI_T, bI_F, mget hM, mo_5, mo_6, v5, v6, pk_mul, nI_ge (show 0 < w * h from hD.pos) (show w * h < 2 ^ 31 by omega), mo_11, v11']
      refine m_go hI (fun M1 k1 f1 I1 => ?_)
      simp only [g_158_0, g_158_1, g_158_2, g_158_3, g_158_5, g_158_6, g_158_9, g_158_10, g_158_13, g_158_14, g_158_17, g_158_18, g_158_21, g_158_24, g_158_25, g_158_26, g_158_27, g_158_30, g_158_31, g_158_32, g_158_35, g_158_38, g_158_39, g_158_42, g_158_43, g_158_44, g_158_45, g_158_48, g_158_51, g_158_52, g_158_53, g_158_56, g_158_59, g_158_60, g_158_63, g_158_64, g_158_67, g_158_70, g_158_71, g_158_72, g_158_73, g_158_76, g_158_77, g_158_80, g_158_81, g_158_82, g_158_83, g_158_86, g_158_87, qOb_some, kr_v, kr_n, qinv_i, qinv_r, qinv_0, Nat.reduceAdd, List.getElem?_cons_zero, List.getElem?_cons_succ, List.set_cons_zero, List.set_cons_succ, List.length_cons, List.length_nil, bI_0, not_true_eq_false, not_false_eq_true, false_implies, true_implies, and_true, true_and, and_false, false_and, if_true, if_false, forall_const, or_true, true_or, false_or, or_false, i10, Bool.false_eq_true, bI_T, bI_F]
      exact hE (by simpa using b) M1 _ k1 upd_s I1
    simp only [g_158_0, g_158_1, g_158_2, g_158_3, g_158_5, g_158_6, g_158_9, g_158_10, g_158_13, g_158_14, g_158_17, g_158_18, g_158_21, g_158_24, g_158_25, g_158_26, g_158_27, g_158_30, g_158_31, g_158_32, g_158_35, g_158_38, g_158_39, g_158_42, g_158_43, g_158_44, g_158_45, g_158_48, g_158_51, g_158_52, g_158_53, g_158_56, g_158_59, g_158_60, g_158_63, g_158_64, g_158_67, g_158_70, g_158_71, g_158_72, g_158_73, g_158_76, g_158_77, g_158_80, g_158_81, g_158_82, g_158_83, g_158_86, g_158_87, qOb_some, kr_v, kr_n, qinv_i, qinv_r, qinv_0, Nat.reduceAdd, List.getElem?_cons_zero, List.getElem?_cons_succ, List.set_cons_zero, List.set_cons_succ, List.length_cons, List.length_nil, not_true_eq_false, not_false_eq_true, false_implies, true_implies, and_true, true_and, and_false, false_and, if_true, if_false, forall_const, or_true, true_or, false_or, or_false, i10, Bool.false_eq_true, bI_T, bI_F]
    exact st
  have v11' := v11.trans (bI_t b)
  have j61 := j61 b
  have htl := (hS.2.2.2.2.1 b).1
  simp only [g_158_0, g_158_1, g_158_2, g_158_3, g_158_5, g_158_6, g_158_9, g_158_10, g_158_13, g_158_14, g_158_17, g_158_18, g_158_21, g_158_24, g_158_25, g_158_26, g_158_27, g_158_30, g_158_31, g_158_32, g_158_35, g_158_38, g_158_39, g_158_42, g_158_43, g_158_44, g_158_45, g_158_48, g_158_51, g_158_52, g_158_53, g_158_56, g_158_59, g_158_60, g_158_63, g_158_64, g_158_67, g_158_70, g_158_71, g_158_72, g_158_73, g_158_76, g_158_77, g_158_80, g_158_81, g_158_82, g_158_83, g_158_86, g_158_87, qOb_some, kr_v, kr_n, qinv_i, qinv_r, qinv_0, Nat.reduceAdd, List.getElem?_cons_zero, List.getElem?_cons_succ, List.set_cons_zero, List.set_cons_succ, List.length_cons, List.length_nil, not_true_eq_false, not_false_eq_true, false_implies, true_implies, and_true, true_and, and_false, false_and, if_true, if_false, forall_const, or_true, true_or, false_or, or_false, i10, Bool.false_eq_true, bI_T, bI_F]
  refine upto (N := w * h) (I := fun _ _ => True) (G := fun c (_ : Unit) => g 158 4 [some (.ref 101), some (.int (nI (cntB (fun k => roadT T (tl k)) c))), some (.int (nI c))] [] M 0 0 Q) ?_ ?_ 0 () (Nat.zero_le _) trivial
  · intro _ _
    have hc := cntB_le (f := fun k => roadT T (tl k)) (n := w * h)
    obtain ⟨m, hm⟩ : ∃ m, w * h = m + 1 := ⟨w * h - 1, by omega⟩
    have hd := (ff_ok m (by omega) (cntB (fun k => roadT T (tl k)) (w * h)) (by omega)).1
    rw [← hm] at hd
    rw [g_158_4]
    simp only [g_158_0, g_158_1, g_158_2, g_158_3, g_158_5, g_158_6, g_158_9, g_158_10, g_158_13, g_158_14, g_158_17, g_158_18, g_158_21, g_158_24, g_158_25, g_158_26, g_158_27, g_158_30, g_158_31, g_158_32, g_158_35, g_158_38, g_158_39, g_158_42, g_158_43, g_158_44, g_158_45, g_158_48, g_158_51, g_158_52, g_158_53, g_158_56, g_158_59, g_158_60, g_158_63, g_158_64, g_158_67, g_158_70, g_158_71, g_158_72, g_158_73, g_158_76, g_158_77, g_158_80, g_158_81, g_158_82, g_158_83, g_158_86, g_158_87, qOb_some, kr_v, kr_n, qinv_i, qinv_r, qinv_0, Nat.reduceAdd, List.getElem?_cons_zero, List.getElem?_cons_succ, List.set_cons_zero, List.set_cons_succ, List.length_cons, List.length_nil, hM.cls, not_true_eq_false, not_false_eq_true, false_implies, true_implies, and_true, true_and, and_false, false_and, if_true, if_false, forall_const, or_true, true_or, false_or, or_false, i10, Bool.false_eq_true, bI_T, bI_F, mget hM, mo_5, mo_6, v5, v6, pk_mul, Int32.le_refl, mo_11, v11']
    refine m_go hI (fun M1 k1 f1 I1 => ?_)
    have v51 := I1.2.2.2.1.1
    have v61 := I1.2.2.2.1.2.1
    simp only [g_158_0, g_158_1, g_158_2, g_158_3, g_158_5, g_158_6, g_158_9, g_158_10, g_158_13, g_158_14, g_158_17, g_158_18, g_158_21, g_158_24, g_158_25, g_158_26, g_158_27, g_158_30, g_158_31, g_158_32, g_158_35, g_158_38, g_158_39, g_158_42, g_158_43, g_158_44, g_158_45, g_158_48, g_158_51, g_158_52, g_158_53, g_158_56, g_158_59, g_158_60, g_158_63, g_158_64, g_158_67, g_158_70, g_158_71, g_158_72, g_158_73, g_158_76, g_158_77, g_158_80, g_158_81, g_158_82, g_158_83, g_158_86, g_158_87, qOb_some, kr_v, kr_n, qinv_i, qinv_r, qinv_0, Nat.reduceAdd, List.getElem?_cons_zero, List.getElem?_cons_succ, List.set_cons_zero, List.set_cons_succ, List.length_cons, List.length_nil, bI_0, not_true_eq_false, not_false_eq_true, false_implies, true_implies, and_true, true_and, and_false, false_and, if_true, if_false, forall_const, or_true, true_or, false_or, or_false, i10, Bool.false_eq_true, bI_T, bI_F, mget I1.1, mo_5, mo_6, v51, v61, pk_mul, eq_true hd]
    exact hQ b M1 _ k1 upd_s I1
  · intro c _ hc _ ih
    have ih := ih () trivial
    rw [cntB] at ih
    rw [g_158_4]
    simp only [g_158_0, g_158_1, g_158_2, g_158_3, g_158_5, g_158_6, g_158_9, g_158_10, g_158_13, g_158_14, g_158_17, g_158_18, g_158_21, g_158_24, g_158_25, g_158_26, g_158_27, g_158_30, g_158_31, g_158_32, g_158_35, g_158_38, g_158_39, g_158_42, g_158_43, g_158_44, g_158_45, g_158_48, g_158_51, g_158_52, g_158_53, g_158_56, g_158_59, g_158_60, g_158_63, g_158_64, g_158_67, g_158_70, g_158_71, g_158_72, g_158_73, g_158_76, g_158_77, g_158_80, g_158_81, g_158_82, g_158_83, g_158_86, g_158_87, qOb_some, kr_v, kr_n, qinv_i, qinv_r, qinv_0, Nat.reduceAdd, List.getElem?_cons_zero, List.getElem?_cons_succ, List.set_cons_zero, List.set_cons_succ, List.length_cons, List.length_nil, hM.cls, not_true_eq_false, not_false_eq_true, false_implies, true_implies, and_true, true_and, and_false, false_and, if_true, if_false, forall_const, or_true, true_or, false_or, or_false, i10, Bool.false_eq_true, bI_T, bI_F, mget hM, mo_5, mo_6, v5, v6, pk_mul, nI_ge hc (show w * h < 2 ^ 31 by omega), mo_11, v11', mo_12, ald_N j6 (show c < 36 by omega) (show 36 < 2147483648 by decide), j61 c hc, m_hasRoad hM hI.2.1 hS.1 (htl c hc), bI_0, nI_1]
    by_cases u : roadT T (tl c) = true
    · simp only [u, if_true] at ih
      simp only [u, not_true_eq_false, not_false_eq_true, false_implies, true_implies, and_true, true_and, and_false, false_and, if_true, if_false, forall_const, or_true, true_or, false_or, or_false, i10, Bool.false_eq_true, bI_T, bI_F, nI_1]
      exact ih
    · simp only [u, if_false, Nat.add_zero] at ih
      simp only [u, not_true_eq_false, not_false_eq_true, false_implies, true_implies, and_true, true_and, and_false, false_and, if_true, if_false, forall_const, or_true, true_or, false_or, or_false, i10, Bool.false_eq_true, bI_T, bI_F, nI_add0]
      exact ih
theorem m_isSound {M : qM} {s : Nat → Int32} {T : TS} {sd w h : Nat} {F : Nat → Option Nat} {B : Nat → Nat} {wo : Nat → Option Nat} {rd fd : Bool} {tl : Nat → Nat} {gs tk n : Nat} {cx cy : Nat → Int32} {ce : Nat → Nat} {ct : Nat → Nat → Nat} {Q : qR → qM → Prop} (hI : InvM M s T sd w h F B wo rd fd tl gs tk n cx cy ce ct) (hQ : ∀ M' s', KM M M' → InvM M' s' T sd w h F B wo rd fd tl gs tk n cx cy ce ct → Q (.inl (some (.int 1))) M') : cl 159 [.ref 101] M Q := by
  obtain ⟨M1, e1, f1, hM1⟩ := put_G 0 0 hI.1 (by decide) rfl ms_0
  rw [e_159]
  simp only [g_159_0, g_159_1, g_159_2, g_159_5, g_159_6, qOb_some, kr_v, kr_n, qinv_i, qinv_r, qinv_0, Nat.reduceAdd, List.getElem?_cons_zero, List.getElem?_cons_succ, List.set_cons_zero, List.set_cons_succ, List.length_cons, List.length_nil, not_true_eq_false, not_false_eq_true, false_implies, true_implies, and_true, true_and, and_false, false_and, if_true, if_false, forall_const, or_true, true_or, false_or, or_false, i10, Bool.false_eq_true, bI_T, bI_F, e1]
  exact hQ M1 _ (f1.km (by omega) (by omega)) (hI.p0 f1 hM1)
