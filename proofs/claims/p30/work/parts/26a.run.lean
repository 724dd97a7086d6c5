/-! the law -/
theorem l_tel : TelAt ((M60 ++ [.inr (11, List.replicate 8 .null)]) ++ [.inl (0, 8, .inl (fun _ => 0))]) T00 (fun _ => none) 0 := by
  have hz := z_chk
  simp only [Bool.and_eq_true, decide_eq_true_eq] at hz
  obtain ⟨z1, z2, z3, z4⟩ := hz
  revert z2 z3 z4
  generalize M60 = M
  intro z2 z3 z4
  have e1 : (M ++ [((.inr (11, List.replicate 8 .null)) : qE)]).length = 102 := by rw [app_len, z2]
  have e2 : ((M ++ [((.inr (11, List.replicate 8 .null)) : qE)]) ++ [((.inl (0, 8, .inl (fun _ => 0))) : qE)]).length = 103 := by rw [app_len, e1]
  have g1 : ((M ++ [((.inr (11, List.replicate 8 .null)) : qE)]) ++ [((.inl (0, 8, .inl (fun _ => 0))) : qE)])[101]? = some (.inr (11, List.replicate 8 .null)) := by
    rw [app_old (by omega), ← z2]
    exact app_new
  have g2 : ((M ++ [((.inr (11, List.replicate 8 .null)) : qE)]) ++ [((.inl (0, 8, .inl (fun _ => 0))) : qE)])[102]? = some (.inl (0, 8, .inl (fun _ => 0))) := by
    rw [← e1]
    exact app_new
  refine ⟨rfl, (bC_eq z4).low (fun b hb => ?_), SOk_00, ⟨by omega, by omega, fun b hb => ?_⟩, e2, ⟨_, g1, rfl, fun t ht => absurd ht (Nat.not_lt_zero _)⟩, ⟨_, g2, fun t ht => absurd ht (Nat.not_lt_zero _)⟩⟩
  · rw [app_old (by omega), app_old (by omega)]
  · by_cases h1 : b = 101
    · subst h1
      exact scp_obj g1 rfl
    · by_cases h2 : b = 102
      · subst h2
        exact scp_arr g2
      · intro e he
        rw [List.getElem?_eq_none (by omega)] at he
        cases he
theorem l_all {L : Nat} {xs : Nat → Int32} {Q : qR → qM → Prop} (hL : L ≤ 260) (hQ : ∀ M, Q (.inl (some (.int 1))) M) : clz (some (L, xs)) 110 [.ref qSCR] [] Q := by
  have hz := z_chk
  simp only [Bool.and_eq_true, decide_eq_true_eq] at hz
  obtain ⟨z1, z2, z3, z4⟩ := hz
  have e8 : Int32.toNatClampNeg 8 = 8 := by decide
  have mk0 : qmk true [some (.ref qSCR), none, none, none, none] [] [] (.inr (9, q_df 9)) = some ([.ref 0], [.inr (9, q_df 9)]) := qmk_of (by decide) rfl (qL_s (qL_0 (qL_0 (qL_0 (qL_0 qL_n))))) qS_n (by decide +kernel)
  have mk1 : qmk true [some (.ref qSCR), some (.ref 0), none, none, none] [] M60 (.inr (11, List.replicate 8 .null)) = some ([.ref 101], M60 ++ [.inr (11, List.replicate 8 .null)]) := by
    have := qmk_of (L := [some (.ref qSCR), some (.ref 0), none, none, none]) (st := []) (M := M60) (e := .inr (11, List.replicate 8 .null)) (by rw [z2]; decide) (by rw [z2]; exact z3) (by rw [z2]; exact qL_s (qL_r (by decide) (qL_0 (qL_0 (qL_0 qL_n))))) qS_n rfl
    rwa [z2] at this
  have e1 : (M60 ++ [((.inr (11, List.replicate 8 .null)) : qE)]).length = 102 := by rw [app_len, z2]
  have c1 : qscM 102 (M60 ++ [((.inr (11, List.replicate 8 .null)) : qE)]) = true := by
    refine List.all_eq_true.mpr (fun e he => ?_)
    rcases List.mem_append.mp he with q | q
    · have := List.all_eq_true.mp z3 e q
      cases e with
      | inl a => rfl
      | inr a =>
        obtain ⟨c, fs⟩ := a
        exact qscS_mono (show 101 ≤ 102 by decide) this
    · rw [List.mem_singleton.mp q]
      rfl
  have mk2 : qmk true [some (.ref qSCR), some (.ref 0), some (.ref 101), none, none] [] (M60 ++ [.inr (11, List.replicate 8 .null)]) (.inl (0, 8, .inl (fun _ => 0))) = some ([.ref 102], (M60 ++ [.inr (11, List.replicate 8 .null)]) ++ [.inl (0, 8, .inl (fun _ => 0))]) := by
    have := qmk_of (L := [some (.ref qSCR), some (.ref 0), some (.ref 101), none, none]) (st := []) (M := M60 ++ [.inr (11, List.replicate 8 .null)]) (e := .inl (0, 8, .inl (fun _ => 0))) (by rw [e1]; decide) (by rw [e1]; exact c1) (by rw [e1]; exact qL_s (qL_r (by decide) (qL_r (by decide) (qL_0 (qL_0 qL_n))))) qS_n rfl
    rwa [e1] at this
  refine (clz_l rfl).mpr ?_
  rw [show qloc 110 [.ref qSCR] = [some (.ref qSCR), none, none, none, none] from rfl]
  simp only [z_110_0, z_110_3, z_110_4, z_110_7, z_110_8, z_110_10, z_110_13, z_110_14, z_110_16, z_110_18, z_110_19, z_110_20, z_110_21, z_110_22, z_110_23, z_110_26, z_110_28, z_110_29, z_110_30, z_110_31, z_110_32, z_110_34, z_110_37, z_110_40, z_110_41, z_110_42, z_110_43, z_110_46, z_110_49, z_110_50, z_110_53, z_110_56, z_110_57, z_110_60, z_110_61, qOb_some, krz_v, krz_n, qinv_i, qinv_r, qinv_0, qinv_l, Nat.reduceAdd, List.getElem?_cons_zero, List.getElem?_cons_succ, List.set_cons_zero, List.set_cons_succ, List.length_cons, List.length_nil, not_true_eq_false, not_false_eq_true, false_implies, true_implies, and_true, true_and, and_false, false_and, if_true, if_false, forall_const, or_true, true_or, false_or, or_false, qOb_eq mk0]
  refine ⟨by decide, by decide, by decide, by decide, by decide, (clz_c rfl).mpr ⟨3000, .inl none, M60, bN_eq z1, ?_⟩⟩
  simp only [z_110_0, z_110_3, z_110_4, z_110_7, z_110_8, z_110_10, z_110_13, z_110_14, z_110_16, z_110_18, z_110_19, z_110_20, z_110_21, z_110_22, z_110_23, z_110_26, z_110_28, z_110_29, z_110_30, z_110_31, z_110_32, z_110_34, z_110_37, z_110_40, z_110_41, z_110_42, z_110_43, z_110_46, z_110_49, z_110_50, z_110_53, z_110_56, z_110_57, z_110_60, z_110_61, qOb_some, krz_v, krz_n, qinv_i, qinv_r, qinv_0, qinv_l, Nat.reduceAdd, List.getElem?_cons_zero, List.getElem?_cons_succ, List.set_cons_zero, List.set_cons_succ, List.length_cons, List.length_nil, not_true_eq_false, not_false_eq_true, false_implies, true_implies, and_true, true_and, and_false, false_and, if_true, if_false, forall_const, or_true, true_or, false_or, or_false, e8, qOb_eq mk1, qOb_eq mk2]
  obtain ⟨M1, hM1⟩ : ∃ M1 : qM, M1 = (M60 ++ [.inr (11, List.replicate 8 .null)] : qM) ++ [.inl (0, 8, .inl (fun _ => 0))] := ⟨_, rfl⟩
  have hT := l_tel
  rw [← hM1] at hT ⊢
  have len1 : M1.length = 103 := by rw [hT.2.2.2.2.1]
  refine ⟨by decide, by decide, by decide, by decide, qL_s (qL_r (by omega) (qL_r (by omega) (qL_r (by omega) (qL_0 qL_n)))), qS_n, w_tells hL hT (fun M2 T wo n n2 n8 hT2 => ?_)⟩
  obtain ⟨hn, I2, S2, L2, len2, E2, O2⟩ := hT2
  subst hn
  have A2 : LawAt M2 T 0 3 3 (fun _ => none) (fun _ => 0) wo false false (fun _ => 0) 0 0 0 (fun _ => 0) (fun _ => 0) (fun _ => 0) (fun _ _ => 0) := ⟨I2, S2, L2, E2, O2, n2⟩
  simp only [z_110_0, z_110_3, z_110_4, z_110_7, z_110_8, z_110_10, z_110_13, z_110_14, z_110_16, z_110_18, z_110_19, z_110_20, z_110_21, z_110_22, z_110_23, z_110_26, z_110_28, z_110_29, z_110_30, z_110_31, z_110_32, z_110_34, z_110_37, z_110_40, z_110_41, z_110_42, z_110_43, z_110_46, z_110_49, z_110_50, z_110_53, z_110_56, z_110_57, z_110_60, z_110_61, qOb_some, krz_v, krz_n, qinv_i, qinv_r, qinv_0, qinv_l, Nat.reduceAdd, List.getElem?_cons_zero, List.getElem?_cons_succ, List.set_cons_zero, List.set_cons_succ, List.length_cons, List.length_nil, not_true_eq_false, not_false_eq_true, false_implies, true_implies, and_true, true_and, and_false, false_and, if_true, if_false, forall_const, or_true, true_or, false_or, or_false]
  refine ⟨by decide, by decide, qL_s (qL_r (by omega) (qL_r (by omega) (qL_r (by omega) (qL_i qL_n)))), qS_n, w_world hL A2 (by omega) (fun M3 sd w h F B rd fd tl gs tk len3 A3 => ?_)⟩
  have l3 := A3.2.2.1.1
  simp only [z_110_0, z_110_3, z_110_4, z_110_7, z_110_8, z_110_10, z_110_13, z_110_14, z_110_16, z_110_18, z_110_19, z_110_20, z_110_21, z_110_22, z_110_23, z_110_26, z_110_28, z_110_29, z_110_30, z_110_31, z_110_32, z_110_34, z_110_37, z_110_40, z_110_41, z_110_42, z_110_43, z_110_46, z_110_49, z_110_50, z_110_53, z_110_56, z_110_57, z_110_60, z_110_61, qOb_some, krz_v, krz_n, qinv_i, qinv_r, qinv_0, qinv_l, Nat.reduceAdd, List.getElem?_cons_zero, List.getElem?_cons_succ, List.set_cons_zero, List.set_cons_succ, List.length_cons, List.length_nil, not_true_eq_false, not_false_eq_true, false_implies, true_implies, and_true, true_and, and_false, false_and, if_true, if_false, forall_const, or_true, true_or, false_or, or_false, i10]
  refine ⟨by decide, by decide, qL_s (qL_r (by omega) (qL_r (by omega) (qL_r (by omega) (qL_i qL_n)))), qS_n, w_chunks hL A3 (by omega) (fun M4 cx cy ce ct A4 => ?_)⟩
  simp only [z_110_0, z_110_3, z_110_4, z_110_7, z_110_8, z_110_10, z_110_13, z_110_14, z_110_16, z_110_18, z_110_19, z_110_20, z_110_21, z_110_22, z_110_23, z_110_26, z_110_28, z_110_29, z_110_30, z_110_31, z_110_32, z_110_34, z_110_37, z_110_40, z_110_41, z_110_42, z_110_43, z_110_46, z_110_49, z_110_50, z_110_53, z_110_56, z_110_57, z_110_60, z_110_61, qOb_some, krz_v, krz_n, qinv_i, qinv_r, qinv_0, qinv_l, Nat.reduceAdd, List.getElem?_cons_zero, List.getElem?_cons_succ, List.set_cons_zero, List.set_cons_succ, List.length_cons, List.length_nil, not_true_eq_false, not_false_eq_true, false_implies, true_implies, and_true, true_and, and_false, false_and, if_true, if_false, forall_const, or_true, true_or, false_or, or_false, i10]
  refine ⟨(HObj.cls A4.1.1).mpr trivial, by decide, by decide, c_isSound A4.1 A4.2.1 (fun M5 _ _ => ?_)⟩
  simp only [z_110_0, z_110_3, z_110_4, z_110_7, z_110_8, z_110_10, z_110_13, z_110_14, z_110_16, z_110_18, z_110_19, z_110_20, z_110_21, z_110_22, z_110_23, z_110_26, z_110_28, z_110_29, z_110_30, z_110_31, z_110_32, z_110_34, z_110_37, z_110_40, z_110_41, z_110_42, z_110_43, z_110_46, z_110_49, z_110_50, z_110_53, z_110_56, z_110_57, z_110_60, z_110_61, qOb_some, krz_v, krz_n, qinv_i, qinv_r, qinv_0, qinv_l, Nat.reduceAdd, List.getElem?_cons_zero, List.getElem?_cons_succ, List.set_cons_zero, List.set_cons_succ, List.length_cons, List.length_nil, not_true_eq_false, not_false_eq_true, false_implies, true_implies, and_true, true_and, and_false, false_and, if_true, if_false, forall_const, or_true, true_or, false_or, or_false, i10]
  exact hQ M5
theorem law_runs (L : Nat) (xs : Nat → Int32) (hL : L ≤ 260) : ∃ (f : Nat) (M' : qM), q_exec f (some (L, xs)) 110 (0, qloc 110 [.ref qSCR], [], [], 0, 0) = some (.inl (some (.int 1)), M') := by
  have key : clz (some (L, xs)) 110 [.ref qSCR] [] (fun r _ => r = .inl (some (.int 1))) := l_all hL (fun _ => rfl)
  obtain ⟨f, r, M', h1, h2⟩ := key
  exact ⟨f, M', h1.trans (by rw [h2])⟩
