/-! the law's wrappers: what a call of the class comes to there -/
theorem qastl_of {M : qM} {o n : Nat} {f : Nat → Int64} {i : Int32} {x : Int64} (h : M[o]? = some (.inl (2, n, .inr (.inl f)))) (hi : qIn i n = true) : qastl M o i x = some (M.set o (.inl (2, n, .inr (.inl (vp_updL f i.toNatClampNeg x))))) := by
  unfold qastl
  rw [h]
  simp [hi]
theorem qastd_of {M : qM} {o n : Nat} {f : Nat → UInt64} {i : Int32} {x : UInt64} (h : M[o]? = some (.inl (3, n, .inr (.inr (.inr (.inl f)))))) (hi : qIn i n = true) : qastd M o i x = some (M.set o (.inl (3, n, .inr (.inr (.inr (.inl (vf_upd f i.toNatClampNeg x))))))) := by
  unfold qastd
  rw [h]
  simp [hi]
theorem kr_e {j pc h p e : Nat} {L : qL} {rest : List Value} {k n : Nat} {Q : qR → qM → Prop} {M' : qM} (hq : q_hnd j pc e = some (h, p)) (hp : p < L.length) (hg : g j h (qset1 L p none) [] M' k n Q) : kr j pc L rest k n Q (.inr e) M' := by
  show match q_hnd j pc e with
    | some (h, p) => p < L.length ∧ g j h (qset1 L p none) [] M' k n Q
    | none => False
  rw [hq]
  exact ⟨hp, hg⟩
def wOut (M : qM) (x : Int64) (Q : qR → qM → Prop) : Prop := ∃ f, M[119]? = some (.inl (2, 1, .inr (.inl f))) ∧ Q (.inl (some (.int 0))) (M.set 119 (.inl (2, 1, .inr (.inl (vp_updL f 0 x)))))
def wE (hn : Nat → Option Int32) (Q : qR → qM → Prop) (e : Nat) (M : qM) : Prop := match hn e with
  | some c => Q (.inl (some (.int c))) M
  | none => False
def wI (hn : Nat → Option Int32) (Q : qR → qM → Prop) : qR → qM → Prop
  | .inl (some (.int v)), M => wOut M v.toInt64 Q
  | .inr e, M => wE hn Q e M
  | _, _ => False
def wB (hn : Nat → Option Int32) (Q : qR → qM → Prop) : qR → qM → Prop
  | .inl (some (.int v)), M => wOut M (if v = 0 then 0 else 1) Q
  | .inr e, M => wE hn Q e M
  | _, _ => False
def wL (hn : Nat → Option Int32) (Q : qR → qM → Prop) : qR → qM → Prop
  | .inl (some (.long v)), M => wOut M v Q
  | .inr e, M => wE hn Q e M
  | _, _ => False
def wF (hn : Nat → Option Int32) (Q : qR → qM → Prop) : qR → qM → Prop
  | .inl (some (.float v)), M => FP.f2d v &&& 0x7fffffffffffffff ≤ 0x7ff0000000000000 ∧ ∃ f, M[120]? = some (.inl (3, 1, .inr (.inr (.inr (.inl f))))) ∧ Q (.inl (some (.int 0))) (M.set 120 (.inl (3, 1, .inr (.inr (.inr (.inl (vf_upd f 0 (FP.f2d v))))))))
  | .inr e, M => wE hn Q e M
  | _, _ => False
def hn_161 : Nat → Option Int32 := fun e => if e = 0 then some 1 else if e = 1 then some 2 else none
theorem w_161 {M : qM} {x1 x2 x3 x4 x5 : Int32} {Q : qR → qM → Prop} (hc : qcls M 0 9 ↔ True) (h : cl 61 [.ref 0, .int x1, .int x2, .int x3, .int x4, .int x5] M (wI hn_161 Q)) : cl 161 [.ref 0, .int x1, .int x2, .int x3, .int x4, .int x5, .ref 119] M Q := by
  rw [e_161]
  simp only [g_161_0, g_161_2, g_161_3, g_161_4, g_161_5, g_161_6, g_161_7, g_161_9, g_161_11, g_161_14, g_161_15, g_161_16, g_161_21, g_161_22, g_161_25, g_161_26, g_161_27, g_161_28, qOb_some, kr_v, kr_n, qinv_i, qinv_r, qinv_0, Nat.reduceAdd, List.getElem?_cons_zero, List.getElem?_cons_succ, List.set_cons_zero, List.set_cons_succ, List.length_cons, List.length_nil, hc, not_true_eq_false, not_false_eq_true, false_implies, true_implies, and_true, true_and, and_false, false_and, if_true, if_false, forall_const, or_true, true_or, false_or, or_false, i10, Bool.false_eq_true, bI_T, bI_F]
  refine cl_mono h (fun r M' hr => ?_)
  rcases r with v | e
  · cases v with
    | none => exact hr.elim
    | some v =>
      cases v with
      | int v =>
        obtain ⟨f, hf, hq⟩ := hr
        rw [kr_v]
        simp only [g_161_0, g_161_2, g_161_3, g_161_4, g_161_5, g_161_6, g_161_7, g_161_9, g_161_11, g_161_14, g_161_15, g_161_16, g_161_21, g_161_22, g_161_25, g_161_26, g_161_27, g_161_28, qOb_some, kr_v, kr_n, qinv_i, qinv_r, qinv_0, Nat.reduceAdd, List.getElem?_cons_zero, List.getElem?_cons_succ, List.set_cons_zero, List.set_cons_succ, List.length_cons, List.length_nil, qastl_of hf (show qIn 0 1 = true by decide), show (0 : Int32).toNatClampNeg = 0 from by decide]
        exact hq
      | _ => exact hr.elim
  · have hr : wE hn_161 Q e M' := hr
    unfold wE hn_161 at hr
    by_cases e0 : e = 0
    · subst e0
      refine kr_e (h := 21) (p := 7) (by decide +kernel) (Nat.le_of_ble_eq_true rfl) ?_
      show g 161 21 [some (.ref 0), some (.int x1), some (.int x2), some (.int x3), some (.int x4), some (.int x5), some (.ref 119), none] [] M' 1 6 Q
      simp only [g_161_0, g_161_2, g_161_3, g_161_4, g_161_5, g_161_6, g_161_7, g_161_9, g_161_11, g_161_14, g_161_15, g_161_16, g_161_21, g_161_22, g_161_25, g_161_26, g_161_27, g_161_28, qOb_some, kr_v, kr_n, qinv_i, qinv_r, qinv_0, Nat.reduceAdd, List.getElem?_cons_zero, List.getElem?_cons_succ, List.set_cons_zero, List.set_cons_succ, List.length_cons, List.length_nil]
      exact hr
    by_cases e1 : e = 1
    · subst e1
      refine kr_e (h := 25) (p := 7) (by decide +kernel) (Nat.le_of_ble_eq_true rfl) ?_
      show g 161 25 [some (.ref 0), some (.int x1), some (.int x2), some (.int x3), some (.int x4), some (.int x5), some (.ref 119), none] [] M' 1 6 Q
      simp only [g_161_0, g_161_2, g_161_3, g_161_4, g_161_5, g_161_6, g_161_7, g_161_9, g_161_11, g_161_14, g_161_15, g_161_16, g_161_21, g_161_22, g_161_25, g_161_26, g_161_27, g_161_28, qOb_some, kr_v, kr_n, qinv_i, qinv_r, qinv_0, Nat.reduceAdd, List.getElem?_cons_zero, List.getElem?_cons_succ, List.set_cons_zero, List.set_cons_succ, List.length_cons, List.length_nil]
      exact hr
    simp only [e0, e1, if_false] at hr
def hn_162 : Nat → Option Int32 := fun e => if e = 0 then some 1 else none
theorem w_162 {M : qM} {x1 : Int32} {Q : qR → qM → Prop} (hc : qcls M 0 9 ↔ True) (h : cl 62 [.ref 0, .int x1] M (wI hn_162 Q)) : cl 162 [.ref 0, .int x1, .ref 119] M Q := by
  rw [e_162]
  simp only [g_162_0, g_162_1, g_162_2, g_162_3, g_162_4, g_162_7, g_162_8, g_162_9, g_162_13, g_162_14, g_162_15, g_162_16, qOb_some, kr_v, kr_n, qinv_i, qinv_r, qinv_0, Nat.reduceAdd, List.getElem?_cons_zero, List.getElem?_cons_succ, List.set_cons_zero, List.set_cons_succ, List.length_cons, List.length_nil, hc, not_true_eq_false, not_false_eq_true, false_implies, true_implies, and_true, true_and, and_false, false_and, if_true, if_false, forall_const, or_true, true_or, false_or, or_false, i10, Bool.false_eq_true, bI_T, bI_F]
  refine cl_mono h (fun r M' hr => ?_)
  rcases r with v | e
  · cases v with
    | none => exact hr.elim
    | some v =>
      cases v with
      | int v =>
        obtain ⟨f, hf, hq⟩ := hr
        rw [kr_v]
        simp only [g_162_0, g_162_1, g_162_2, g_162_3, g_162_4, g_162_7, g_162_8, g_162_9, g_162_13, g_162_14, g_162_15, g_162_16, qOb_some, kr_v, kr_n, qinv_i, qinv_r, qinv_0, Nat.reduceAdd, List.getElem?_cons_zero, List.getElem?_cons_succ, List.set_cons_zero, List.set_cons_succ, List.length_cons, List.length_nil, qastl_of hf (show qIn 0 1 = true by decide), show (0 : Int32).toNatClampNeg = 0 from by decide]
        exact hq
      | _ => exact hr.elim
  · have hr : wE hn_162 Q e M' := hr
    unfold wE hn_162 at hr
    by_cases e0 : e = 0
    · subst e0
      refine kr_e (h := 13) (p := 3) (by decide +kernel) (Nat.le_of_ble_eq_true rfl) ?_
      show g 162 13 [some (.ref 0), some (.int x1), some (.ref 119), none] [] M' 1 6 Q
      simp only [g_162_0, g_162_1, g_162_2, g_162_3, g_162_4, g_162_7, g_162_8, g_162_9, g_162_13, g_162_14, g_162_15, g_162_16, qOb_some, kr_v, kr_n, qinv_i, qinv_r, qinv_0, Nat.reduceAdd, List.getElem?_cons_zero, List.getElem?_cons_succ, List.set_cons_zero, List.set_cons_succ, List.length_cons, List.length_nil]
      exact hr
    simp only [e0, if_false] at hr
def hn_163 : Nat → Option Int32 := fun e => if e = 0 then some 1 else none
theorem w_163 {M : qM} {x1 x2 : Int32} {Q : qR → qM → Prop} (hc : qcls M 0 9 ↔ True) (h : cl 63 [.ref 0, .int x1, .int x2] M (wI hn_163 Q)) : cl 163 [.ref 0, .int x1, .int x2, .ref 119] M Q := by
  rw [e_163]
  simp only [g_163_0, g_163_1, g_163_2, g_163_3, g_163_4, g_163_5, g_163_8, g_163_9, g_163_10, g_163_15, g_163_16, g_163_17, g_163_18, qOb_some, kr_v, kr_n, qinv_i, qinv_r, qinv_0, Nat.reduceAdd, List.getElem?_cons_zero, List.getElem?_cons_succ, List.set_cons_zero, List.set_cons_succ, List.length_cons, List.length_nil, hc, not_true_eq_false, not_false_eq_true, false_implies, true_implies, and_true, true_and, and_false, false_and, if_true, if_false, forall_const, or_true, true_or, false_or, or_false, i10, Bool.false_eq_true, bI_T, bI_F]
  refine cl_mono h (fun r M' hr => ?_)
  rcases r with v | e
  · cases v with
    | none => exact hr.elim
    | some v =>
      cases v with
      | int v =>
        obtain ⟨f, hf, hq⟩ := hr
        rw [kr_v]
        simp only [g_163_0, g_163_1, g_163_2, g_163_3, g_163_4, g_163_5, g_163_8, g_163_9, g_163_10, g_163_15, g_163_16, g_163_17, g_163_18, qOb_some, kr_v, kr_n, qinv_i, qinv_r, qinv_0, Nat.reduceAdd, List.getElem?_cons_zero, List.getElem?_cons_succ, List.set_cons_zero, List.set_cons_succ, List.length_cons, List.length_nil, qastl_of hf (show qIn 0 1 = true by decide), show (0 : Int32).toNatClampNeg = 0 from by decide]
        exact hq
      | _ => exact hr.elim
  · have hr : wE hn_163 Q e M' := hr
    unfold wE hn_163 at hr
    by_cases e0 : e = 0
    · subst e0
      refine kr_e (h := 15) (p := 4) (by decide +kernel) (Nat.le_of_ble_eq_true rfl) ?_
      show g 163 15 [some (.ref 0), some (.int x1), some (.int x2), some (.ref 119), none] [] M' 1 6 Q
      simp only [g_163_0, g_163_1, g_163_2, g_163_3, g_163_4, g_163_5, g_163_8, g_163_9, g_163_10, g_163_15, g_163_16, g_163_17, g_163_18, qOb_some, kr_v, kr_n, qinv_i, qinv_r, qinv_0, Nat.reduceAdd, List.getElem?_cons_zero, List.getElem?_cons_succ, List.set_cons_zero, List.set_cons_succ, List.length_cons, List.length_nil]
      exact hr
    simp only [e0, if_false] at hr
def hn_164 : Nat → Option Int32 := fun e => if e = 2 then some 1 else if e = 3 then some 2 else none
theorem w_164 {M : qM} {x1 x2 : Int32} {Q : qR → qM → Prop} (hc : qcls M 0 9 ↔ True) (h : cl 64 [.ref 0, .int x1, .int x2] M (wI hn_164 Q)) : cl 164 [.ref 0, .int x1, .int x2, .ref 119] M Q := by
  rw [e_164]
  simp only [g_164_0, g_164_1, g_164_2, g_164_3, g_164_4, g_164_5, g_164_8, g_164_9, g_164_10, g_164_15, g_164_16, g_164_19, g_164_20, g_164_21, g_164_22, qOb_some, kr_v, kr_n, qinv_i, qinv_r, qinv_0, Nat.reduceAdd, List.getElem?_cons_zero, List.getElem?_cons_succ, List.set_cons_zero, List.set_cons_succ, List.length_cons, List.length_nil, hc, not_true_eq_false, not_false_eq_true, false_implies, true_implies, and_true, true_and, and_false, false_and, if_true, if_false, forall_const, or_true, true_or, false_or, or_false, i10, Bool.false_eq_true, bI_T, bI_F]
  refine cl_mono h (fun r M' hr => ?_)
  rcases r with v | e
  · cases v with
    | none => exact hr.elim
    | some v =>
      cases v with
      | int v =>
        obtain ⟨f, hf, hq⟩ := hr
        rw [kr_v]
        simp only [g_164_0, g_164_1, g_164_2, g_164_3, g_164_4, g_164_5, g_164_8, g_164_9, g_164_10, g_164_15, g_164_16, g_164_19, g_164_20, g_164_21, g_164_22, qOb_some, kr_v, kr_n, qinv_i, qinv_r, qinv_0, Nat.reduceAdd, List.getElem?_cons_zero, List.getElem?_cons_succ, List.set_cons_zero, List.set_cons_succ, List.length_cons, List.length_nil, qastl_of hf (show qIn 0 1 = true by decide), show (0 : Int32).toNatClampNeg = 0 from by decide]
        exact hq
      | _ => exact hr.elim
  · have hr : wE hn_164 Q e M' := hr
    unfold wE hn_164 at hr
    by_cases e2 : e = 2
    · subst e2
      refine kr_e (h := 15) (p := 4) (by decide +kernel) (Nat.le_of_ble_eq_true rfl) ?_
      show g 164 15 [some (.ref 0), some (.int x1), some (.int x2), some (.ref 119), none] [] M' 1 6 Q
      simp only [g_164_0, g_164_1, g_164_2, g_164_3, g_164_4, g_164_5, g_164_8, g_164_9, g_164_10, g_164_15, g_164_16, g_164_19, g_164_20, g_164_21, g_164_22, qOb_some, kr_v, kr_n, qinv_i, qinv_r, qinv_0, Nat.reduceAdd, List.getElem?_cons_zero, List.getElem?_cons_succ, List.set_cons_zero, List.set_cons_succ, List.length_cons, List.length_nil]
      exact hr
    by_cases e3 : e = 3
    · subst e3
      refine kr_e (h := 19) (p := 4) (by decide +kernel) (Nat.le_of_ble_eq_true rfl) ?_
      show g 164 19 [some (.ref 0), some (.int x1), some (.int x2), some (.ref 119), none] [] M' 1 6 Q
      simp only [g_164_0, g_164_1, g_164_2, g_164_3, g_164_4, g_164_5, g_164_8, g_164_9, g_164_10, g_164_15, g_164_16, g_164_19, g_164_20, g_164_21, g_164_22, qOb_some, kr_v, kr_n, qinv_i, qinv_r, qinv_0, Nat.reduceAdd, List.getElem?_cons_zero, List.getElem?_cons_succ, List.set_cons_zero, List.set_cons_succ, List.length_cons, List.length_nil]
      exact hr
    simp only [e2, e3, if_false] at hr
def hn_165 : Nat → Option Int32 := fun e => if e = 2 then some 1 else if e = 3 then some 2 else none
theorem w_165 {M : qM} {x1 x2 : Int32} {Q : qR → qM → Prop} (hc : qcls M 0 9 ↔ True) (h : cl 65 [.ref 0, .int x1, .int x2] M (wB hn_165 Q)) : cl 165 [.ref 0, .int x1, .int x2, .ref 119] M Q := by
  rw [e_165]
  simp only [g_165_0, g_165_1, g_165_2, g_165_3, g_165_4, g_165_5, g_165_8, g_165_11, g_165_12, g_165_15, g_165_16, g_165_17, g_165_22, g_165_23, g_165_26, g_165_27, g_165_28, g_165_29, qOb_some, kr_v, kr_n, qinv_i, qinv_r, qinv_0, Nat.reduceAdd, List.getElem?_cons_zero, List.getElem?_cons_succ, List.set_cons_zero, List.set_cons_succ, List.length_cons, List.length_nil, hc, not_true_eq_false, not_false_eq_true, false_implies, true_implies, and_true, true_and, and_false, false_and, if_true, if_false, forall_const, or_true, true_or, false_or, or_false, i10, Bool.false_eq_true, bI_T, bI_F]
  refine cl_mono h (fun r M' hr => ?_)
  rcases r with v | e
  · cases v with
    | none => exact hr.elim
    | some v =>
      cases v with
      | int v =>
        obtain ⟨f, hf, hq⟩ := hr
        rw [kr_v]
        by_cases hv : v = 0
        · rw [if_pos hv] at hq
          simp only [g_165_0, g_165_1, g_165_2, g_165_3, g_165_4, g_165_5, g_165_8, g_165_11, g_165_12, g_165_15, g_165_16, g_165_17, g_165_22, g_165_23, g_165_26, g_165_27, g_165_28, g_165_29, qOb_some, kr_v, kr_n, qinv_i, qinv_r, qinv_0, Nat.reduceAdd, List.getElem?_cons_zero, List.getElem?_cons_succ, List.set_cons_zero, List.set_cons_succ, List.length_cons, List.length_nil, eq_true hv, not_true_eq_false, not_false_eq_true, false_implies, true_implies, and_true, true_and, and_false, false_and, if_true, if_false, forall_const, or_true, true_or, false_or, or_false, i10, Bool.false_eq_true, bI_T, bI_F, qastl_of hf (show qIn 0 1 = true by decide), show (0 : Int32).toNatClampNeg = 0 from by decide]
          exact hq
        · rw [if_neg hv] at hq
          simp only [g_165_0, g_165_1, g_165_2, g_165_3, g_165_4, g_165_5, g_165_8, g_165_11, g_165_12, g_165_15, g_165_16, g_165_17, g_165_22, g_165_23, g_165_26, g_165_27, g_165_28, g_165_29, qOb_some, kr_v, kr_n, qinv_i, qinv_r, qinv_0, Nat.reduceAdd, List.getElem?_cons_zero, List.getElem?_cons_succ, List.set_cons_zero, List.set_cons_succ, List.length_cons, List.length_nil, eq_false hv, not_true_eq_false, not_false_eq_true, false_implies, true_implies, and_true, true_and, and_false, false_and, if_true, if_false, forall_const, or_true, true_or, false_or, or_false, i10, Bool.false_eq_true, bI_T, bI_F, qastl_of hf (show qIn 0 1 = true by decide), show (0 : Int32).toNatClampNeg = 0 from by decide]
          exact hq
      | _ => exact hr.elim
  · have hr : wE hn_165 Q e M' := hr
    unfold wE hn_165 at hr
    by_cases e2 : e = 2
    · subst e2
      refine kr_e (h := 22) (p := 4) (by decide +kernel) (Nat.le_of_ble_eq_true rfl) ?_
      show g 165 22 [some (.ref 0), some (.int x1), some (.int x2), some (.ref 119), none] [] M' 1 6 Q
      simp only [g_165_0, g_165_1, g_165_2, g_165_3, g_165_4, g_165_5, g_165_8, g_165_11, g_165_12, g_165_15, g_165_16, g_165_17, g_165_22, g_165_23, g_165_26, g_165_27, g_165_28, g_165_29, qOb_some, kr_v, kr_n, qinv_i, qinv_r, qinv_0, Nat.reduceAdd, List.getElem?_cons_zero, List.getElem?_cons_succ, List.set_cons_zero, List.set_cons_succ, List.length_cons, List.length_nil]
      exact hr
    by_cases e3 : e = 3
    · subst e3
      refine kr_e (h := 26) (p := 4) (by decide +kernel) (Nat.le_of_ble_eq_true rfl) ?_
      show g 165 26 [some (.ref 0), some (.int x1), some (.int x2), some (.ref 119), none] [] M' 1 6 Q
      simp only [g_165_0, g_165_1, g_165_2, g_165_3, g_165_4, g_165_5, g_165_8, g_165_11, g_165_12, g_165_15, g_165_16, g_165_17, g_165_22, g_165_23, g_165_26, g_165_27, g_165_28, g_165_29, qOb_some, kr_v, kr_n, qinv_i, qinv_r, qinv_0, Nat.reduceAdd, List.getElem?_cons_zero, List.getElem?_cons_succ, List.set_cons_zero, List.set_cons_succ, List.length_cons, List.length_nil]
      exact hr
    simp only [e2, e3, if_false] at hr
def hn_166 : Nat → Option Int32 := fun e => if e = 2 then some 1 else none
theorem w_166 {M : qM} {x1 : Int32} {Q : qR → qM → Prop} (hc : qcls M 0 9 ↔ True) (h : cl 66 [.ref 0, .int x1] M (wI hn_166 Q)) : cl 166 [.ref 0, .int x1, .ref 119] M Q := by
  rw [e_166]
  simp only [g_166_0, g_166_1, g_166_2, g_166_3, g_166_4, g_166_7, g_166_8, g_166_9, g_166_13, g_166_14, g_166_15, g_166_16, qOb_some, kr_v, kr_n, qinv_i, qinv_r, qinv_0, Nat.reduceAdd, List.getElem?_cons_zero, List.getElem?_cons_succ, List.set_cons_zero, List.set_cons_succ, List.length_cons, List.length_nil, hc, not_true_eq_false, not_false_eq_true, false_implies, true_implies, and_true, true_and, and_false, false_and, if_true, if_false, forall_const, or_true, true_or, false_or, or_false, i10, Bool.false_eq_true, bI_T, bI_F]
  refine cl_mono h (fun r M' hr => ?_)
  rcases r with v | e
  · cases v with
    | none => exact hr.elim
    | some v =>
      cases v with
      | int v =>
        obtain ⟨f, hf, hq⟩ := hr
        rw [kr_v]
        simp only [g_166_0, g_166_1, g_166_2, g_166_3, g_166_4, g_166_7, g_166_8, g_166_9, g_166_13, g_166_14, g_166_15, g_166_16, qOb_some, kr_v, kr_n, qinv_i, qinv_r, qinv_0, Nat.reduceAdd, List.getElem?_cons_zero, List.getElem?_cons_succ, List.set_cons_zero, List.set_cons_succ, List.length_cons, List.length_nil, qastl_of hf (show qIn 0 1 = true by decide), show (0 : Int32).toNatClampNeg = 0 from by decide]
        exact hq
      | _ => exact hr.elim
  · have hr : wE hn_166 Q e M' := hr
    unfold wE hn_166 at hr
    by_cases e2 : e = 2
    · subst e2
      refine kr_e (h := 13) (p := 3) (by decide +kernel) (Nat.le_of_ble_eq_true rfl) ?_
      show g 166 13 [some (.ref 0), some (.int x1), some (.ref 119), none] [] M' 1 6 Q
      simp only [g_166_0, g_166_1, g_166_2, g_166_3, g_166_4, g_166_7, g_166_8, g_166_9, g_166_13, g_166_14, g_166_15, g_166_16, qOb_some, kr_v, kr_n, qinv_i, qinv_r, qinv_0, Nat.reduceAdd, List.getElem?_cons_zero, List.getElem?_cons_succ, List.set_cons_zero, List.set_cons_succ, List.length_cons, List.length_nil]
      exact hr
    simp only [e2, if_false] at hr
def hn_167 : Nat → Option Int32 := fun e => if e = 0 then some 2 else if e = 3 then some 1 else none
theorem w_167 {M : qM} {x1 x2 : Int32} {Q : qR → qM → Prop} (hc : qcls M 0 9 ↔ True) (h : cl 67 [.ref 0, .int x1, .int x2] M (wI hn_167 Q)) : cl 167 [.ref 0, .int x1, .int x2, .ref 119] M Q := by
  rw [e_167]
  simp only [g_167_0, g_167_1, g_167_2, g_167_3, g_167_4, g_167_5, g_167_8, g_167_9, g_167_10, g_167_15, g_167_16, g_167_19, g_167_20, g_167_21, g_167_22, qOb_some, kr_v, kr_n, qinv_i, qinv_r, qinv_0, Nat.reduceAdd, List.getElem?_cons_zero, List.getElem?_cons_succ, List.set_cons_zero, List.set_cons_succ, List.length_cons, List.length_nil, hc, not_true_eq_false, not_false_eq_true, false_implies, true_implies, and_true, true_and, and_false, false_and, if_true, if_false, forall_const, or_true, true_or, false_or, or_false, i10, Bool.false_eq_true, bI_T, bI_F]
  refine cl_mono h (fun r M' hr => ?_)
  rcases r with v | e
  · cases v with
    | none => exact hr.elim
    | some v =>
      cases v with
      | int v =>
        obtain ⟨f, hf, hq⟩ := hr
        rw [kr_v]
        simp only [g_167_0, g_167_1, g_167_2, g_167_3, g_167_4, g_167_5, g_167_8, g_167_9, g_167_10, g_167_15, g_167_16, g_167_19, g_167_20, g_167_21, g_167_22, qOb_some, kr_v, kr_n, qinv_i, qinv_r, qinv_0, Nat.reduceAdd, List.getElem?_cons_zero, List.getElem?_cons_succ, List.set_cons_zero, List.set_cons_succ, List.length_cons, List.length_nil, qastl_of hf (show qIn 0 1 = true by decide), show (0 : Int32).toNatClampNeg = 0 from by decide]
        exact hq
      | _ => exact hr.elim
  · have hr : wE hn_167 Q e M' := hr
    unfold wE hn_167 at hr
    by_cases e0 : e = 0
    · subst e0
      refine kr_e (h := 19) (p := 4) (by decide +kernel) (Nat.le_of_ble_eq_true rfl) ?_
      show g 167 19 [some (.ref 0), some (.int x1), some (.int x2), some (.ref 119), none] [] M' 1 6 Q
      simp only [g_167_0, g_167_1, g_167_2, g_167_3, g_167_4, g_167_5, g_167_8, g_167_9, g_167_10, g_167_15, g_167_16, g_167_19, g_167_20, g_167_21, g_167_22, qOb_some, kr_v, kr_n, qinv_i, qinv_r, qinv_0, Nat.reduceAdd, List.getElem?_cons_zero, List.getElem?_cons_succ, List.set_cons_zero, List.set_cons_succ, List.length_cons, List.length_nil]
      exact hr
    by_cases e3 : e = 3
    · subst e3
      refine kr_e (h := 15) (p := 4) (by decide +kernel) (Nat.le_of_ble_eq_true rfl) ?_
      show g 167 15 [some (.ref 0), some (.int x1), some (.int x2), some (.ref 119), none] [] M' 1 6 Q
      simp only [g_167_0, g_167_1, g_167_2, g_167_3, g_167_4, g_167_5, g_167_8, g_167_9, g_167_10, g_167_15, g_167_16, g_167_19, g_167_20, g_167_21, g_167_22, qOb_some, kr_v, kr_n, qinv_i, qinv_r, qinv_0, Nat.reduceAdd, List.getElem?_cons_zero, List.getElem?_cons_succ, List.set_cons_zero, List.set_cons_succ, List.length_cons, List.length_nil]
      exact hr
    simp only [e0, e3, if_false] at hr
def hn_168 : Nat → Option Int32 := fun e => if e = 0 then some 2 else if e = 3 then some 1 else none
theorem w_168 {M : qM} {x1 x2 x3 : Int32} {Q : qR → qM → Prop} (hc : qcls M 0 9 ↔ True) (h : cl 69 [.ref 0, .int x1, .int x2, .int x3] M (wB hn_168 Q)) : cl 168 [.ref 0, .int x1, .int x2, .int x3, .ref 119] M Q := by
  rw [e_168]
  simp only [g_168_0, g_168_2, g_168_3, g_168_4, g_168_5, g_168_6, g_168_7, g_168_10, g_168_13, g_168_14, g_168_17, g_168_18, g_168_19, g_168_24, g_168_25, g_168_28, g_168_29, g_168_30, g_168_31, qOb_some, kr_v, kr_n, qinv_i, qinv_r, qinv_0, Nat.reduceAdd, List.getElem?_cons_zero, List.getElem?_cons_succ, List.set_cons_zero, List.set_cons_succ, List.length_cons, List.length_nil, hc, not_true_eq_false, not_false_eq_true, false_implies, true_implies, and_true, true_and, and_false, false_and, if_true, if_false, forall_const, or_true, true_or, false_or, or_false, i10, Bool.false_eq_true, bI_T, bI_F]
  refine cl_mono h (fun r M' hr => ?_)
  rcases r with v | e
  · cases v with
    | none => exact hr.elim
    | some v =>
      cases v with
      | int v =>
        obtain ⟨f, hf, hq⟩ := hr
        rw [kr_v]
        by_cases hv : v = 0
        · rw [if_pos hv] at hq
          simp only [g_168_0, g_168_2, g_168_3, g_168_4, g_168_5, g_168_6, g_168_7, g_168_10, g_168_13, g_168_14, g_168_17, g_168_18, g_168_19, g_168_24, g_168_25, g_168_28, g_168_29, g_168_30, g_168_31, qOb_some, kr_v, kr_n, qinv_i, qinv_r, qinv_0, Nat.reduceAdd, List.getElem?_cons_zero, List.getElem?_cons_succ, List.set_cons_zero, List.set_cons_succ, List.length_cons, List.length_nil, eq_true hv, not_true_eq_false, not_false_eq_true, false_implies, true_implies, and_true, true_and, and_false, false_and, if_true, if_false, forall_const, or_true, true_or, false_or, or_false, i10, Bool.false_eq_true, bI_T, bI_F, qastl_of hf (show qIn 0 1 = true by decide), show (0 : Int32).toNatClampNeg = 0 from by decide]
          exact hq
        · rw [if_neg hv] at hq
          simp only [g_168_0, g_168_2, g_168_3, g_168_4, g_168_5, g_168_6, g_168_7, g_168_10, g_168_13, g_168_14, g_168_17, g_168_18, g_168_19, g_168_24, g_168_25, g_168_28, g_168_29, g_168_30, g_168_31, qOb_some, kr_v, kr_n, qinv_i, qinv_r, qinv_0, Nat.reduceAdd, List.getElem?_cons_zero, List.getElem?_cons_succ, List.set_cons_zero, List.set_cons_succ, List.length_cons, List.length_nil, eq_false hv, not_true_eq_false, not_false_eq_true, false_implies, true_implies, and_true, true_and, and_false, false_and, if_true, if_false, forall_const, or_true, true_or, false_or, or_false, i10, Bool.false_eq_true, bI_T, bI_F, qastl_of hf (show qIn 0 1 = true by decide), show (0 : Int32).toNatClampNeg = 0 from by decide]
          exact hq
      | _ => exact hr.elim
  · have hr : wE hn_168 Q e M' := hr
    unfold wE hn_168 at hr
    by_cases e0 : e = 0
    · subst e0
      refine kr_e (h := 28) (p := 5) (by decide +kernel) (Nat.le_of_ble_eq_true rfl) ?_
      show g 168 28 [some (.ref 0), some (.int x1), some (.int x2), some (.int x3), some (.ref 119), none] [] M' 1 6 Q
      simp only [g_168_0, g_168_2, g_168_3, g_168_4, g_168_5, g_168_6, g_168_7, g_168_10, g_168_13, g_168_14, g_168_17, g_168_18, g_168_19, g_168_24, g_168_25, g_168_28, g_168_29, g_168_30, g_168_31, qOb_some, kr_v, kr_n, qinv_i, qinv_r, qinv_0, Nat.reduceAdd, List.getElem?_cons_zero, List.getElem?_cons_succ, List.set_cons_zero, List.set_cons_succ, List.length_cons, List.length_nil]
      exact hr
    by_cases e3 : e = 3
    · subst e3
      refine kr_e (h := 24) (p := 5) (by decide +kernel) (Nat.le_of_ble_eq_true rfl) ?_
      show g 168 24 [some (.ref 0), some (.int x1), some (.int x2), some (.int x3), some (.ref 119), none] [] M' 1 6 Q
      simp only [g_168_0, g_168_2, g_168_3, g_168_4, g_168_5, g_168_6, g_168_7, g_168_10, g_168_13, g_168_14, g_168_17, g_168_18, g_168_19, g_168_24, g_168_25, g_168_28, g_168_29, g_168_30, g_168_31, qOb_some, kr_v, kr_n, qinv_i, qinv_r, qinv_0, Nat.reduceAdd, List.getElem?_cons_zero, List.getElem?_cons_succ, List.set_cons_zero, List.set_cons_succ, List.length_cons, List.length_nil]
      exact hr
    simp only [e0, e3, if_false] at hr
def hn_169 : Nat → Option Int32 := fun e => if e = 2 then some 1 else none
theorem w_169 {M : qM} {x1 : Int32} {Q : qR → qM → Prop} (hc : qcls M 0 9 ↔ True) (h : cl 70 [.ref 0, .int x1] M (wI hn_169 Q)) : cl 169 [.ref 0, .int x1, .ref 119] M Q := by
  rw [e_169]
  simp only [g_169_0, g_169_1, g_169_2, g_169_3, g_169_4, g_169_7, g_169_8, g_169_9, g_169_13, g_169_14, g_169_15, g_169_16, qOb_some, kr_v, kr_n, qinv_i, qinv_r, qinv_0, Nat.reduceAdd, List.getElem?_cons_zero, List.getElem?_cons_succ, List.set_cons_zero, List.set_cons_succ, List.length_cons, List.length_nil, hc, not_true_eq_false, not_false_eq_true, false_implies, true_implies, and_true, true_and, and_false, false_and, if_true, if_false, forall_const, or_true, true_or, false_or, or_false, i10, Bool.false_eq_true, bI_T, bI_F]
  refine cl_mono h (fun r M' hr => ?_)
  rcases r with v | e
  · cases v with
    | none => exact hr.elim
    | some v =>
      cases v with
      | int v =>
        obtain ⟨f, hf, hq⟩ := hr
        rw [kr_v]
        simp only [g_169_0, g_169_1, g_169_2, g_169_3, g_169_4, g_169_7, g_169_8, g_169_9, g_169_13, g_169_14, g_169_15, g_169_16, qOb_some, kr_v, kr_n, qinv_i, qinv_r, qinv_0, Nat.reduceAdd, List.getElem?_cons_zero, List.getElem?_cons_succ, List.set_cons_zero, List.set_cons_succ, List.length_cons, List.length_nil, qastl_of hf (show qIn 0 1 = true by decide), show (0 : Int32).toNatClampNeg = 0 from by decide]
        exact hq
      | _ => exact hr.elim
  · have hr : wE hn_169 Q e M' := hr
    unfold wE hn_169 at hr
    by_cases e2 : e = 2
    · subst e2
      refine kr_e (h := 13) (p := 3) (by decide +kernel) (Nat.le_of_ble_eq_true rfl) ?_
      show g 169 13 [some (.ref 0), some (.int x1), some (.ref 119), none] [] M' 1 6 Q
      simp only [g_169_0, g_169_1, g_169_2, g_169_3, g_169_4, g_169_7, g_169_8, g_169_9, g_169_13, g_169_14, g_169_15, g_169_16, qOb_some, kr_v, kr_n, qinv_i, qinv_r, qinv_0, Nat.reduceAdd, List.getElem?_cons_zero, List.getElem?_cons_succ, List.set_cons_zero, List.set_cons_succ, List.length_cons, List.length_nil]
      exact hr
    simp only [e2, if_false] at hr
def hn_170 : Nat → Option Int32 := fun e => if e = 2 then some 1 else none
theorem w_170 {M : qM} {x1 : Int32} {Q : qR → qM → Prop} (hc : qcls M 0 9 ↔ True) (h : cl 71 [.ref 0, .int x1] M (wI hn_170 Q)) : cl 170 [.ref 0, .int x1, .ref 119] M Q := by
  rw [e_170]
  simp only [g_170_0, g_170_1, g_170_2, g_170_3, g_170_4, g_170_7, g_170_8, g_170_9, g_170_13, g_170_14, g_170_15, g_170_16, qOb_some, kr_v, kr_n, qinv_i, qinv_r, qinv_0, Nat.reduceAdd, List.getElem?_cons_zero, List.getElem?_cons_succ, List.set_cons_zero, List.set_cons_succ, List.length_cons, List.length_nil, hc, not_true_eq_false, not_false_eq_true, false_implies, true_implies, and_true, true_and, and_false, false_and, if_true, if_false, forall_const, or_true, true_or, false_or, or_false, i10, Bool.false_eq_true, bI_T, bI_F]
  refine cl_mono h (fun r M' hr => ?_)
  rcases r with v | e
  · cases v with
    | none => exact hr.elim
    | some v =>
      cases v with
      | int v =>
        obtain ⟨f, hf, hq⟩ := hr
        rw [kr_v]
        simp only [g_170_0, g_170_1, g_170_2, g_170_3, g_170_4, g_170_7, g_170_8, g_170_9, g_170_13, g_170_14, g_170_15, g_170_16, qOb_some, kr_v, kr_n, qinv_i, qinv_r, qinv_0, Nat.reduceAdd, List.getElem?_cons_zero, List.getElem?_cons_succ, List.set_cons_zero, List.set_cons_succ, List.length_cons, List.length_nil, qastl_of hf (show qIn 0 1 = true by decide), show (0 : Int32).toNatClampNeg = 0 from by decide]
        exact hq
      | _ => exact hr.elim
  · have hr : wE hn_170 Q e M' := hr
    unfold wE hn_170 at hr
    by_cases e2 : e = 2
    · subst e2
      refine kr_e (h := 13) (p := 3) (by decide +kernel) (Nat.le_of_ble_eq_true rfl) ?_
      show g 170 13 [some (.ref 0), some (.int x1), some (.ref 119), none] [] M' 1 6 Q
      simp only [g_170_0, g_170_1, g_170_2, g_170_3, g_170_4, g_170_7, g_170_8, g_170_9, g_170_13, g_170_14, g_170_15, g_170_16, qOb_some, kr_v, kr_n, qinv_i, qinv_r, qinv_0, Nat.reduceAdd, List.getElem?_cons_zero, List.getElem?_cons_succ, List.set_cons_zero, List.set_cons_succ, List.length_cons, List.length_nil]
      exact hr
    simp only [e2, if_false] at hr
def hn_171 : Nat → Option Int32 := fun e => if e = 0 then some 1 else if e = 1 then some 2 else none
theorem w_171 {M : qM} {x1 : Int32} {Q : qR → qM → Prop} (hc : qcls M 0 9 ↔ True) (h : cl 72 [.ref 0, .int x1] M (wI hn_171 Q)) : cl 171 [.ref 0, .int x1, .ref 119] M Q := by
  rw [e_171]
  simp only [g_171_0, g_171_1, g_171_2, g_171_3, g_171_4, g_171_7, g_171_8, g_171_9, g_171_13, g_171_14, g_171_16, g_171_17, g_171_18, g_171_19, qOb_some, kr_v, kr_n, qinv_i, qinv_r, qinv_0, Nat.reduceAdd, List.getElem?_cons_zero, List.getElem?_cons_succ, List.set_cons_zero, List.set_cons_succ, List.length_cons, List.length_nil, hc, not_true_eq_false, not_false_eq_true, false_implies, true_implies, and_true, true_and, and_false, false_and, if_true, if_false, forall_const, or_true, true_or, false_or, or_false, i10, Bool.false_eq_true, bI_T, bI_F]
  refine cl_mono h (fun r M' hr => ?_)
  rcases r with v | e
  · cases v with
    | none => exact hr.elim
    | some v =>
      cases v with
      | int v =>
        obtain ⟨f, hf, hq⟩ := hr
        rw [kr_v]
        simp only [g_171_0, g_171_1, g_171_2, g_171_3, g_171_4, g_171_7, g_171_8, g_171_9, g_171_13, g_171_14, g_171_16, g_171_17, g_171_18, g_171_19, qOb_some, kr_v, kr_n, qinv_i, qinv_r, qinv_0, Nat.reduceAdd, List.getElem?_cons_zero, List.getElem?_cons_succ, List.set_cons_zero, List.set_cons_succ, List.length_cons, List.length_nil, qastl_of hf (show qIn 0 1 = true by decide), show (0 : Int32).toNatClampNeg = 0 from by decide]
        exact hq
      | _ => exact hr.elim
  · have hr : wE hn_171 Q e M' := hr
    unfold wE hn_171 at hr
    by_cases e0 : e = 0
    · subst e0
      refine kr_e (h := 13) (p := 3) (by decide +kernel) (Nat.le_of_ble_eq_true rfl) ?_
      show g 171 13 [some (.ref 0), some (.int x1), some (.ref 119), none] [] M' 1 6 Q
      simp only [g_171_0, g_171_1, g_171_2, g_171_3, g_171_4, g_171_7, g_171_8, g_171_9, g_171_13, g_171_14, g_171_16, g_171_17, g_171_18, g_171_19, qOb_some, kr_v, kr_n, qinv_i, qinv_r, qinv_0, Nat.reduceAdd, List.getElem?_cons_zero, List.getElem?_cons_succ, List.set_cons_zero, List.set_cons_succ, List.length_cons, List.length_nil]
      exact hr
    by_cases e1 : e = 1
    · subst e1
      refine kr_e (h := 16) (p := 3) (by decide +kernel) (Nat.le_of_ble_eq_true rfl) ?_
      show g 171 16 [some (.ref 0), some (.int x1), some (.ref 119), none] [] M' 1 6 Q
      simp only [g_171_0, g_171_1, g_171_2, g_171_3, g_171_4, g_171_7, g_171_8, g_171_9, g_171_13, g_171_14, g_171_16, g_171_17, g_171_18, g_171_19, qOb_some, kr_v, kr_n, qinv_i, qinv_r, qinv_0, Nat.reduceAdd, List.getElem?_cons_zero, List.getElem?_cons_succ, List.set_cons_zero, List.set_cons_succ, List.length_cons, List.length_nil]
      exact hr
    simp only [e0, e1, if_false] at hr
def hn_172 : Nat → Option Int32 := fun e => if e = 1 then some 2 else if e = 2 then some 1 else none
theorem w_172 {M : qM} {x1 : Int32} {Q : qR → qM → Prop} (hc : qcls M 0 9 ↔ True) (h : cl 74 [.ref 0, .int x1] M (wI hn_172 Q)) : cl 172 [.ref 0, .int x1, .ref 119] M Q := by
  rw [e_172]
  simp only [g_172_0, g_172_1, g_172_2, g_172_3, g_172_4, g_172_7, g_172_8, g_172_9, g_172_13, g_172_14, g_172_16, g_172_17, g_172_18, g_172_19, qOb_some, kr_v, kr_n, qinv_i, qinv_r, qinv_0, Nat.reduceAdd, List.getElem?_cons_zero, List.getElem?_cons_succ, List.set_cons_zero, List.set_cons_succ, List.length_cons, List.length_nil, hc, not_true_eq_false, not_false_eq_true, false_implies, true_implies, and_true, true_and, and_false, false_and, if_true, if_false, forall_const, or_true, true_or, false_or, or_false, i10, Bool.false_eq_true, bI_T, bI_F]
  refine cl_mono h (fun r M' hr => ?_)
  rcases r with v | e
  · cases v with
    | none => exact hr.elim
    | some v =>
      cases v with
      | int v =>
        obtain ⟨f, hf, hq⟩ := hr
        rw [kr_v]
        simp only [g_172_0, g_172_1, g_172_2, g_172_3, g_172_4, g_172_7, g_172_8, g_172_9, g_172_13, g_172_14, g_172_16, g_172_17, g_172_18, g_172_19, qOb_some, kr_v, kr_n, qinv_i, qinv_r, qinv_0, Nat.reduceAdd, List.getElem?_cons_zero, List.getElem?_cons_succ, List.set_cons_zero, List.set_cons_succ, List.length_cons, List.length_nil, qastl_of hf (show qIn 0 1 = true by decide), show (0 : Int32).toNatClampNeg = 0 from by decide]
        exact hq
      | _ => exact hr.elim
  · have hr : wE hn_172 Q e M' := hr
    unfold wE hn_172 at hr
    by_cases e1 : e = 1
    · subst e1
      refine kr_e (h := 16) (p := 3) (by decide +kernel) (Nat.le_of_ble_eq_true rfl) ?_
      show g 172 16 [some (.ref 0), some (.int x1), some (.ref 119), none] [] M' 1 6 Q
      simp only [g_172_0, g_172_1, g_172_2, g_172_3, g_172_4, g_172_7, g_172_8, g_172_9, g_172_13, g_172_14, g_172_16, g_172_17, g_172_18, g_172_19, qOb_some, kr_v, kr_n, qinv_i, qinv_r, qinv_0, Nat.reduceAdd, List.getElem?_cons_zero, List.getElem?_cons_succ, List.set_cons_zero, List.set_cons_succ, List.length_cons, List.length_nil]
      exact hr
    by_cases e2 : e = 2
    · subst e2
      refine kr_e (h := 13) (p := 3) (by decide +kernel) (Nat.le_of_ble_eq_true rfl) ?_
      show g 172 13 [some (.ref 0), some (.int x1), some (.ref 119), none] [] M' 1 6 Q
      simp only [g_172_0, g_172_1, g_172_2, g_172_3, g_172_4, g_172_7, g_172_8, g_172_9, g_172_13, g_172_14, g_172_16, g_172_17, g_172_18, g_172_19, qOb_some, kr_v, kr_n, qinv_i, qinv_r, qinv_0, Nat.reduceAdd, List.getElem?_cons_zero, List.getElem?_cons_succ, List.set_cons_zero, List.set_cons_succ, List.length_cons, List.length_nil]
      exact hr
    simp only [e1, e2, if_false] at hr
def hn_173 : Nat → Option Int32 := fun e => if e = 4 then some 1 else none
theorem w_173 {M : qM} {Q : qR → qM → Prop} (hc : qcls M 0 9 ↔ True) (h : cl 77 [.ref 0] M (wI hn_173 Q)) : cl 173 [.ref 0, .ref 119] M Q := by
  rw [e_173]
  simp only [g_173_0, g_173_1, g_173_2, g_173_3, g_173_6, g_173_7, g_173_8, g_173_12, g_173_13, g_173_14, g_173_15, qOb_some, kr_v, kr_n, qinv_i, qinv_r, qinv_0, Nat.reduceAdd, List.getElem?_cons_zero, List.getElem?_cons_succ, List.set_cons_zero, List.set_cons_succ, List.length_cons, List.length_nil, hc, not_true_eq_false, not_false_eq_true, false_implies, true_implies, and_true, true_and, and_false, false_and, if_true, if_false, forall_const, or_true, true_or, false_or, or_false, i10, Bool.false_eq_true, bI_T, bI_F]
  refine cl_mono h (fun r M' hr => ?_)
  rcases r with v | e
  · cases v with
    | none => exact hr.elim
    | some v =>
      cases v with
      | int v =>
        obtain ⟨f, hf, hq⟩ := hr
        rw [kr_v]
        simp only [g_173_0, g_173_1, g_173_2, g_173_3, g_173_6, g_173_7, g_173_8, g_173_12, g_173_13, g_173_14, g_173_15, qOb_some, kr_v, kr_n, qinv_i, qinv_r, qinv_0, Nat.reduceAdd, List.getElem?_cons_zero, List.getElem?_cons_succ, List.set_cons_zero, List.set_cons_succ, List.length_cons, List.length_nil, qastl_of hf (show qIn 0 1 = true by decide), show (0 : Int32).toNatClampNeg = 0 from by decide]
        exact hq
      | _ => exact hr.elim
  · have hr : wE hn_173 Q e M' := hr
    unfold wE hn_173 at hr
    by_cases e4 : e = 4
    · subst e4
      refine kr_e (h := 12) (p := 2) (by decide +kernel) (Nat.le_of_ble_eq_true rfl) ?_
      show g 173 12 [some (.ref 0), some (.ref 119), none] [] M' 1 6 Q
      simp only [g_173_0, g_173_1, g_173_2, g_173_3, g_173_6, g_173_7, g_173_8, g_173_12, g_173_13, g_173_14, g_173_15, qOb_some, kr_v, kr_n, qinv_i, qinv_r, qinv_0, Nat.reduceAdd, List.getElem?_cons_zero, List.getElem?_cons_succ, List.set_cons_zero, List.set_cons_succ, List.length_cons, List.length_nil]
      exact hr
    simp only [e4, if_false] at hr
def hn_174 : Nat → Option Int32 := fun e => if e = 1 then some 1 else none
theorem w_174 {M : qM} {Q : qR → qM → Prop} (hc : qcls M 0 9 ↔ True) (h : cl 78 [.ref 0] M (wI hn_174 Q)) : cl 174 [.ref 0, .ref 119] M Q := by
  rw [e_174]
  simp only [g_174_0, g_174_1, g_174_2, g_174_3, g_174_6, g_174_7, g_174_8, g_174_12, g_174_13, g_174_14, g_174_15, qOb_some, kr_v, kr_n, qinv_i, qinv_r, qinv_0, Nat.reduceAdd, List.getElem?_cons_zero, List.getElem?_cons_succ, List.set_cons_zero, List.set_cons_succ, List.length_cons, List.length_nil, hc, not_true_eq_false, not_false_eq_true, false_implies, true_implies, and_true, true_and, and_false, false_and, if_true, if_false, forall_const, or_true, true_or, false_or, or_false, i10, Bool.false_eq_true, bI_T, bI_F]
  refine cl_mono h (fun r M' hr => ?_)
  rcases r with v | e
  · cases v with
    | none => exact hr.elim
    | some v =>
      cases v with
      | int v =>
        obtain ⟨f, hf, hq⟩ := hr
        rw [kr_v]
        simp only [g_174_0, g_174_1, g_174_2, g_174_3, g_174_6, g_174_7, g_174_8, g_174_12, g_174_13, g_174_14, g_174_15, qOb_some, kr_v, kr_n, qinv_i, qinv_r, qinv_0, Nat.reduceAdd, List.getElem?_cons_zero, List.getElem?_cons_succ, List.set_cons_zero, List.set_cons_succ, List.length_cons, List.length_nil, qastl_of hf (show qIn 0 1 = true by decide), show (0 : Int32).toNatClampNeg = 0 from by decide]
        exact hq
      | _ => exact hr.elim
  · have hr : wE hn_174 Q e M' := hr
    unfold wE hn_174 at hr
    by_cases e1 : e = 1
    · subst e1
      refine kr_e (h := 12) (p := 2) (by decide +kernel) (Nat.le_of_ble_eq_true rfl) ?_
      show g 174 12 [some (.ref 0), some (.ref 119), none] [] M' 1 6 Q
      simp only [g_174_0, g_174_1, g_174_2, g_174_3, g_174_6, g_174_7, g_174_8, g_174_12, g_174_13, g_174_14, g_174_15, qOb_some, kr_v, kr_n, qinv_i, qinv_r, qinv_0, Nat.reduceAdd, List.getElem?_cons_zero, List.getElem?_cons_succ, List.set_cons_zero, List.set_cons_succ, List.length_cons, List.length_nil]
      exact hr
    simp only [e1, if_false] at hr
def hn_175 : Nat → Option Int32 := fun e => if e = 0 then some 1 else if e = 1 then some 2 else none
theorem w_175 {M : qM} {x1 x2 : Int32} {Q : qR → qM → Prop} (hc : qcls M 0 9 ↔ True) (h : cl 79 [.ref 0, .int x1, .int x2] M (wI hn_175 Q)) : cl 175 [.ref 0, .int x1, .int x2, .ref 119] M Q := by
  rw [e_175]
  simp only [g_175_0, g_175_1, g_175_2, g_175_3, g_175_4, g_175_5, g_175_8, g_175_9, g_175_10, g_175_15, g_175_16, g_175_19, g_175_20, g_175_21, g_175_22, qOb_some, kr_v, kr_n, qinv_i, qinv_r, qinv_0, Nat.reduceAdd, List.getElem?_cons_zero, List.getElem?_cons_succ, List.set_cons_zero, List.set_cons_succ, List.length_cons, List.length_nil, hc, not_true_eq_false, not_false_eq_true, false_implies, true_implies, and_true, true_and, and_false, false_and, if_true, if_false, forall_const, or_true, true_or, false_or, or_false, i10, Bool.false_eq_true, bI_T, bI_F]
  refine cl_mono h (fun r M' hr => ?_)
  rcases r with v | e
  · cases v with
    | none => exact hr.elim
    | some v =>
      cases v with
      | int v =>
        obtain ⟨f, hf, hq⟩ := hr
        rw [kr_v]
        simp only [g_175_0, g_175_1, g_175_2, g_175_3, g_175_4, g_175_5, g_175_8, g_175_9, g_175_10, g_175_15, g_175_16, g_175_19, g_175_20, g_175_21, g_175_22, qOb_some, kr_v, kr_n, qinv_i, qinv_r, qinv_0, Nat.reduceAdd, List.getElem?_cons_zero, List.getElem?_cons_succ, List.set_cons_zero, List.set_cons_succ, List.length_cons, List.length_nil, qastl_of hf (show qIn 0 1 = true by decide), show (0 : Int32).toNatClampNeg = 0 from by decide]
        exact hq
      | _ => exact hr.elim
  · have hr : wE hn_175 Q e M' := hr
    unfold wE hn_175 at hr
    by_cases e0 : e = 0
    · subst e0
      refine kr_e (h := 15) (p := 4) (by decide +kernel) (Nat.le_of_ble_eq_true rfl) ?_
      show g 175 15 [some (.ref 0), some (.int x1), some (.int x2), some (.ref 119), none] [] M' 1 6 Q
      simp only [g_175_0, g_175_1, g_175_2, g_175_3, g_175_4, g_175_5, g_175_8, g_175_9, g_175_10, g_175_15, g_175_16, g_175_19, g_175_20, g_175_21, g_175_22, qOb_some, kr_v, kr_n, qinv_i, qinv_r, qinv_0, Nat.reduceAdd, List.getElem?_cons_zero, List.getElem?_cons_succ, List.set_cons_zero, List.set_cons_succ, List.length_cons, List.length_nil]
      exact hr
    by_cases e1 : e = 1
    · subst e1
      refine kr_e (h := 19) (p := 4) (by decide +kernel) (Nat.le_of_ble_eq_true rfl) ?_
      show g 175 19 [some (.ref 0), some (.int x1), some (.int x2), some (.ref 119), none] [] M' 1 6 Q
      simp only [g_175_0, g_175_1, g_175_2, g_175_3, g_175_4, g_175_5, g_175_8, g_175_9, g_175_10, g_175_15, g_175_16, g_175_19, g_175_20, g_175_21, g_175_22, qOb_some, kr_v, kr_n, qinv_i, qinv_r, qinv_0, Nat.reduceAdd, List.getElem?_cons_zero, List.getElem?_cons_succ, List.set_cons_zero, List.set_cons_succ, List.length_cons, List.length_nil]
      exact hr
    simp only [e0, e1, if_false] at hr
def hn_176 : Nat → Option Int32 := fun e => if e = 0 then some 1 else if e = 2 then some 3 else if e = 3 then some 2 else none
theorem w_176 {M : qM} {x1 x2 x3 : Int32} {Q : qR → qM → Prop} (hc : qcls M 0 9 ↔ True) (h : cl 80 [.ref 0, .int x1, .int x2, .int x3] M (wI hn_176 Q)) : cl 176 [.ref 0, .int x1, .int x2, .int x3, .ref 119] M Q := by
  rw [e_176]
  simp only [g_176_0, g_176_2, g_176_3, g_176_4, g_176_5, g_176_6, g_176_7, g_176_10, g_176_11, g_176_12, g_176_17, g_176_18, g_176_21, g_176_22, g_176_25, g_176_26, g_176_27, g_176_28, qOb_some, kr_v, kr_n, qinv_i, qinv_r, qinv_0, Nat.reduceAdd, List.getElem?_cons_zero, List.getElem?_cons_succ, List.set_cons_zero, List.set_cons_succ, List.length_cons, List.length_nil, hc, not_true_eq_false, not_false_eq_true, false_implies, true_implies, and_true, true_and, and_false, false_and, if_true, if_false, forall_const, or_true, true_or, false_or, or_false, i10, Bool.false_eq_true, bI_T, bI_F]
  refine cl_mono h (fun r M' hr => ?_)
  rcases r with v | e
  · cases v with
    | none => exact hr.elim
    | some v =>
      cases v with
      | int v =>
        obtain ⟨f, hf, hq⟩ := hr
        rw [kr_v]
        simp only [g_176_0, g_176_2, g_176_3, g_176_4, g_176_5, g_176_6, g_176_7, g_176_10, g_176_11, g_176_12, g_176_17, g_176_18, g_176_21, g_176_22, g_176_25, g_176_26, g_176_27, g_176_28, qOb_some, kr_v, kr_n, qinv_i, qinv_r, qinv_0, Nat.reduceAdd, List.getElem?_cons_zero, List.getElem?_cons_succ, List.set_cons_zero, List.set_cons_succ, List.length_cons, List.length_nil, qastl_of hf (show qIn 0 1 = true by decide), show (0 : Int32).toNatClampNeg = 0 from by decide]
        exact hq
      | _ => exact hr.elim
  · have hr : wE hn_176 Q e M' := hr
    unfold wE hn_176 at hr
    by_cases e0 : e = 0
    · subst e0
      refine kr_e (h := 17) (p := 5) (by decide +kernel) (Nat.le_of_ble_eq_true rfl) ?_
      show g 176 17 [some (.ref 0), some (.int x1), some (.int x2), some (.int x3), some (.ref 119), none] [] M' 1 6 Q
      simp only [g_176_0, g_176_2, g_176_3, g_176_4, g_176_5, g_176_6, g_176_7, g_176_10, g_176_11, g_176_12, g_176_17, g_176_18, g_176_21, g_176_22, g_176_25, g_176_26, g_176_27, g_176_28, qOb_some, kr_v, kr_n, qinv_i, qinv_r, qinv_0, Nat.reduceAdd, List.getElem?_cons_zero, List.getElem?_cons_succ, List.set_cons_zero, List.set_cons_succ, List.length_cons, List.length_nil]
      exact hr
    by_cases e2 : e = 2
    · subst e2
      refine kr_e (h := 25) (p := 5) (by decide +kernel) (Nat.le_of_ble_eq_true rfl) ?_
      show g 176 25 [some (.ref 0), some (.int x1), some (.int x2), some (.int x3), some (.ref 119), none] [] M' 1 6 Q
      simp only [g_176_0, g_176_2, g_176_3, g_176_4, g_176_5, g_176_6, g_176_7, g_176_10, g_176_11, g_176_12, g_176_17, g_176_18, g_176_21, g_176_22, g_176_25, g_176_26, g_176_27, g_176_28, qOb_some, kr_v, kr_n, qinv_i, qinv_r, qinv_0, Nat.reduceAdd, List.getElem?_cons_zero, List.getElem?_cons_succ, List.set_cons_zero, List.set_cons_succ, List.length_cons, List.length_nil]
      exact hr
    by_cases e3 : e = 3
    · subst e3
      refine kr_e (h := 21) (p := 5) (by decide +kernel) (Nat.le_of_ble_eq_true rfl) ?_
      show g 176 21 [some (.ref 0), some (.int x1), some (.int x2), some (.int x3), some (.ref 119), none] [] M' 1 6 Q
      simp only [g_176_0, g_176_2, g_176_3, g_176_4, g_176_5, g_176_6, g_176_7, g_176_10, g_176_11, g_176_12, g_176_17, g_176_18, g_176_21, g_176_22, g_176_25, g_176_26, g_176_27, g_176_28, qOb_some, kr_v, kr_n, qinv_i, qinv_r, qinv_0, Nat.reduceAdd, List.getElem?_cons_zero, List.getElem?_cons_succ, List.set_cons_zero, List.set_cons_succ, List.length_cons, List.length_nil]
      exact hr
    simp only [e0, e2, e3, if_false] at hr
def hn_177 : Nat → Option Int32 := fun e => if e = 0 then some 1 else none
theorem w_177 {M : qM} {x1 x2 x3 x4 : Int32} {Q : qR → qM → Prop} (hc : qcls M 0 9 ↔ True) (h : cl 81 [.ref 0, .int x1, .int x2, .int x3, .int x4] M (wI hn_177 Q)) : cl 177 [.ref 0, .int x1, .int x2, .int x3, .int x4, .ref 119] M Q := by
  rw [e_177]
  simp only [g_177_0, g_177_2, g_177_3, g_177_4, g_177_5, g_177_6, g_177_7, g_177_9, g_177_12, g_177_13, g_177_14, g_177_19, g_177_20, g_177_21, g_177_22, qOb_some, kr_v, kr_n, qinv_i, qinv_r, qinv_0, Nat.reduceAdd, List.getElem?_cons_zero, List.getElem?_cons_succ, List.set_cons_zero, List.set_cons_succ, List.length_cons, List.length_nil, hc, not_true_eq_false, not_false_eq_true, false_implies, true_implies, and_true, true_and, and_false, false_and, if_true, if_false, forall_const, or_true, true_or, false_or, or_false, i10, Bool.false_eq_true, bI_T, bI_F]
  refine cl_mono h (fun r M' hr => ?_)
  rcases r with v | e
  · cases v with
    | none => exact hr.elim
    | some v =>
      cases v with
      | int v =>
        obtain ⟨f, hf, hq⟩ := hr
        rw [kr_v]
        simp only [g_177_0, g_177_2, g_177_3, g_177_4, g_177_5, g_177_6, g_177_7, g_177_9, g_177_12, g_177_13, g_177_14, g_177_19, g_177_20, g_177_21, g_177_22, qOb_some, kr_v, kr_n, qinv_i, qinv_r, qinv_0, Nat.reduceAdd, List.getElem?_cons_zero, List.getElem?_cons_succ, List.set_cons_zero, List.set_cons_succ, List.length_cons, List.length_nil, qastl_of hf (show qIn 0 1 = true by decide), show (0 : Int32).toNatClampNeg = 0 from by decide]
        exact hq
      | _ => exact hr.elim
  · have hr : wE hn_177 Q e M' := hr
    unfold wE hn_177 at hr
    by_cases e0 : e = 0
    · subst e0
      refine kr_e (h := 19) (p := 6) (by decide +kernel) (Nat.le_of_ble_eq_true rfl) ?_
      show g 177 19 [some (.ref 0), some (.int x1), some (.int x2), some (.int x3), some (.int x4), some (.ref 119), none] [] M' 1 6 Q
      simp only [g_177_0, g_177_2, g_177_3, g_177_4, g_177_5, g_177_6, g_177_7, g_177_9, g_177_12, g_177_13, g_177_14, g_177_19, g_177_20, g_177_21, g_177_22, qOb_some, kr_v, kr_n, qinv_i, qinv_r, qinv_0, Nat.reduceAdd, List.getElem?_cons_zero, List.getElem?_cons_succ, List.set_cons_zero, List.set_cons_succ, List.length_cons, List.length_nil]
      exact hr
    simp only [e0, if_false] at hr
def hn_178 : Nat → Option Int32 := fun e => if e = 1 then some 1 else none
theorem w_178 {M : qM} {Q : qR → qM → Prop} (hc : qcls M 0 9 ↔ True) (h : cl 84 [.ref 0] M (wL hn_178 Q)) : cl 178 [.ref 0, .ref 119] M Q := by
  rw [e_178]
  simp only [g_178_0, g_178_1, g_178_2, g_178_3, g_178_6, g_178_7, g_178_11, g_178_12, g_178_13, g_178_14, qOb_some, kr_v, kr_n, qinv_i, qinv_r, qinv_0, Nat.reduceAdd, List.getElem?_cons_zero, List.getElem?_cons_succ, List.set_cons_zero, List.set_cons_succ, List.length_cons, List.length_nil, hc, not_true_eq_false, not_false_eq_true, false_implies, true_implies, and_true, true_and, and_false, false_and, if_true, if_false, forall_const, or_true, true_or, false_or, or_false, i10, Bool.false_eq_true, bI_T, bI_F]
  refine cl_mono h (fun r M' hr => ?_)
  rcases r with v | e
  · cases v with
    | none => exact hr.elim
    | some v =>
      cases v with
      | long v =>
        obtain ⟨f, hf, hq⟩ := hr
        rw [kr_v]
        simp only [g_178_0, g_178_1, g_178_2, g_178_3, g_178_6, g_178_7, g_178_11, g_178_12, g_178_13, g_178_14, qOb_some, kr_v, kr_n, qinv_i, qinv_r, qinv_0, Nat.reduceAdd, List.getElem?_cons_zero, List.getElem?_cons_succ, List.set_cons_zero, List.set_cons_succ, List.length_cons, List.length_nil, qastl_of hf (show qIn 0 1 = true by decide), show (0 : Int32).toNatClampNeg = 0 from by decide]
        exact hq
      | _ => exact hr.elim
  · have hr : wE hn_178 Q e M' := hr
    unfold wE hn_178 at hr
    by_cases e1 : e = 1
    · subst e1
      refine kr_e (h := 11) (p := 2) (by decide +kernel) (Nat.le_of_ble_eq_true rfl) ?_
      show g 178 11 [some (.ref 0), some (.ref 119), none] [] M' 1 6 Q
      simp only [g_178_0, g_178_1, g_178_2, g_178_3, g_178_6, g_178_7, g_178_11, g_178_12, g_178_13, g_178_14, qOb_some, kr_v, kr_n, qinv_i, qinv_r, qinv_0, Nat.reduceAdd, List.getElem?_cons_zero, List.getElem?_cons_succ, List.set_cons_zero, List.set_cons_succ, List.length_cons, List.length_nil]
      exact hr
    simp only [e1, if_false] at hr
def hn_179 : Nat → Option Int32 := fun e => if e = 1 then some 1 else none
theorem w_179 {M : qM} {Q : qR → qM → Prop} (hc : qcls M 0 9 ↔ True) (h : cl 86 [.ref 0] M (wF hn_179 Q)) : cl 179 [.ref 0, .ref 120] M Q := by
  rw [e_179]
  simp only [g_179_0, g_179_1, g_179_2, g_179_3, g_179_6, g_179_7, g_179_8, g_179_12, g_179_13, g_179_14, g_179_15, qOb_some, kr_v, kr_n, qinv_i, qinv_r, qinv_0, Nat.reduceAdd, List.getElem?_cons_zero, List.getElem?_cons_succ, List.set_cons_zero, List.set_cons_succ, List.length_cons, List.length_nil, hc, not_true_eq_false, not_false_eq_true, false_implies, true_implies, and_true, true_and, and_false, false_and, if_true, if_false, forall_const, or_true, true_or, false_or, or_false, i10, Bool.false_eq_true, bI_T, bI_F]
  refine cl_mono h (fun r M' hr => ?_)
  rcases r with v | e
  · cases v with
    | none => exact hr.elim
    | some v =>
      cases v with
      | float v =>
        obtain ⟨hx, f, hf, hq⟩ := hr
        rw [kr_v]
        simp only [g_179_0, g_179_1, g_179_2, g_179_3, g_179_6, g_179_7, g_179_8, g_179_12, g_179_13, g_179_14, g_179_15, qOb_some, kr_v, kr_n, qinv_i, qinv_r, qinv_0, Nat.reduceAdd, List.getElem?_cons_zero, List.getElem?_cons_succ, List.set_cons_zero, List.set_cons_succ, List.length_cons, List.length_nil, eq_true hx, not_true_eq_false, not_false_eq_true, false_implies, true_implies, and_true, true_and, and_false, false_and, if_true, if_false, forall_const, or_true, true_or, false_or, or_false, i10, Bool.false_eq_true, bI_T, bI_F, qastd_of hf (show qIn 0 1 = true by decide), show (0 : Int32).toNatClampNeg = 0 from by decide]
        exact hq
      | _ => exact hr.elim
  · have hr : wE hn_179 Q e M' := hr
    unfold wE hn_179 at hr
    by_cases e1 : e = 1
    · subst e1
      refine kr_e (h := 12) (p := 2) (by decide +kernel) (Nat.le_of_ble_eq_true rfl) ?_
      show g 179 12 [some (.ref 0), some (.ref 120), none] [] M' 1 6 Q
      simp only [g_179_0, g_179_1, g_179_2, g_179_3, g_179_6, g_179_7, g_179_8, g_179_12, g_179_13, g_179_14, g_179_15, qOb_some, kr_v, kr_n, qinv_i, qinv_r, qinv_0, Nat.reduceAdd, List.getElem?_cons_zero, List.getElem?_cons_succ, List.set_cons_zero, List.set_cons_succ, List.length_cons, List.length_nil]
      exact hr
    simp only [e1, if_false] at hr
