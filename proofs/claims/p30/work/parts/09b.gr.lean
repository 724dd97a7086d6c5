/-! more forms of the judgement's rows -/
theorem g_goi {j pc k n pc' k' n' : Nat} {L L' : qL} {st st' : List Value} {M M' : qM} {x : qX} {Q : qR → qM → Prop} {v v' : Int32} (hc : q_code j pc = some x) (hk : q_kd x.1 = 0) (ht : q_isn x.1 = false) (hs : q_step none j x (pc, L, st, M, k, n) = some (pc', L', .int v :: st', M', k', n')) (hv : v = v') : g j pc L st M k n Q ↔ g j pc' L' (.int v' :: st') M' k' n' Q := by
  subst hv
  exact g_go hc hk ht hs
theorem g_brn {j pc k n t : Nat} {L : qL} {st st' : List Value} {M : qM} {x : qX} {Q : qR → qM → Prop} {cnd : Prop} {dc : Decidable cnd} (hc : q_code j pc = some x) (hk : q_kd x.1 = 0) (ht : q_isn x.1 = false) (hs : q_step none j x (pc, L, st, M, k, n) = some (if decide (¬ cnd) = true then t else pc + 3, L, st', M, k, n)) : g j pc L st M k n Q ↔ ((cnd → g j (pc + 3) L st' M k n Q) ∧ (¬ cnd → g j t L st' M k n Q)) := by
  refine (g_go hc hk ht hs).trans ?_
  by_cases h : cnd
  · simp [h]
  · simp [h]
def qcls (M : qM) (o ci : Nat) : Prop := (match M[o]? with
  | some (.inr (c, _)) => decide (c = ci)
  | _ => false) = true
theorem qcls_of {M : qM} {o ci : Nat} {fs : List Value} (h : M[o]? = some (.inr (ci, fs))) : qcls M o ci ↔ True := by
  unfold qcls
  rw [h]
  simp
theorem qget_of {M : qM} {o ci k : Nat} {fs : List Value} (h : M[o]? = some (.inr (ci, fs))) : qget M o ci k = fs[k]? := by
  unfold qget
  rw [h]
  simp
theorem qput_of {M : qM} {o ci k : Nat} {fs : List Value} {v : Value} (h : M[o]? = some (.inr (ci, fs))) : qput M o ci k v = if k < fs.length ∧ q_fit (q_ty ci k) v = true then some (M.set o (.inr (ci, fs.set k v))) else none := by
  unfold qput
  rw [h]
  simp
theorem g_cls {j pc a c1 c2 : Nat} {L : qL} {st as rest : List Value} {M : qM} {x : qX} {Q : qR → qM → Prop} (hc : q_code j pc = some x) (hk : q_kd x.1 = 1) (hcl : q_call x st = some (a, as, rest)) (ha : a < 900) (h0 : q_al a = false) (hr : q_rcv M x.2.2.2.2 a as = true) (e1 : q_mc a = c1) (e2 : q_ms a = c2) (hk2 : c1 ≤ q_mc j) (hn2 : c2 ≤ q_ms j) (hl : (qexp as).length ≤ q_mL a) :
    g j pc L st M 0 0 Q ↔ cl a as M (kr j pc L rest c1 c2 Q) := by
  subst e1; subst e2
  rw [g_cl hc hk hcl ha h0 (by omega) (by omega) hl, Nat.zero_add, Nat.zero_add]
  exact ⟨fun h => h.2, fun h => ⟨hr, h⟩⟩
theorem g_clv {j pc a c1 c2 o ci : Nat} {L : qL} {st as rest : List Value} {M : qM} {x : qX} {Q : qR → qM → Prop} (hc : q_code j pc = some x) (hk : q_kd x.1 = 1) (hcl : q_call x st = some (a, .ref o :: as, rest)) (ha : a < 900) (h0 : q_al a = false) (hx : x.2.2.2.2 = 0) (hci : q_oc a = ci) (e1 : q_mc a = c1) (e2 : q_ms a = c2) (hk2 : c1 ≤ q_mc j) (hn2 : c2 ≤ q_ms j) (hl : (qexp (.ref o :: as)).length ≤ q_mL a) :
    g j pc L st M 0 0 Q ↔ (qcls M o ci ∧ cl a (.ref o :: as) M (kr j pc L rest c1 c2 Q)) := by
  subst e1; subst e2; subst hci
  rw [g_cl hc hk hcl ha h0 (by omega) (by omega) hl, Nat.zero_add, Nat.zero_add, hx]
  rfl
theorem g_divD {j pc k n pc' : Nat} {L : qL} {st : List Value} {M : qM} {x : qX} {Q : qR → qM → Prop} {a b : Int32} (hc : q_code j pc = some x) (hk : q_kd x.1 = 0) (ht : q_isn x.1 = false) (hs : q_step none j x (pc, L, .int b :: .int a :: st, M, k, n) = ((if b = 0 then none else some (Value.int (a / b))).map (fun v => v :: st)).map (fun s => (pc', L, s, M, k, n))) : g j pc L (.int b :: .int a :: st) M k n Q ↔ (¬ b = 0 ∧ g j pc' L (.int (a / b) :: st) M k n Q) := by
  refine (qG_step hc hk (Or.inl ht)).trans ?_
  rw [hs]
  by_cases h : b = 0
  · simp only [h, if_true, not_true_eq_false, false_and, iff_false]
    rintro ⟨F, h1, -⟩
    cases h1
  · simp only [h, if_false, not_false_eq_true, true_and, Option.map_some]
    exact qOb_some
theorem g_divR {j pc k n pc' : Nat} {L : qL} {st : List Value} {M : qM} {x : qX} {Q : qR → qM → Prop} {a b : Int32} (hc : q_code j pc = some x) (hk : q_kd x.1 = 0) (ht : q_isn x.1 = false) (hs : q_step none j x (pc, L, .int b :: .int a :: st, M, k, n) = ((if b = 0 then none else some (Value.int (a - a / b * b))).map (fun v => v :: st)).map (fun s => (pc', L, s, M, k, n))) : g j pc L (.int b :: .int a :: st) M k n Q ↔ (¬ b = 0 ∧ g j pc' L (.int (a - a / b * b) :: st) M k n Q) := by
  refine (qG_step hc hk (Or.inl ht)).trans ?_
  rw [hs]
  by_cases h : b = 0
  · simp only [h, if_true, not_true_eq_false, false_and, iff_false]
    rintro ⟨F, h1, -⟩
    cases h1
  · simp only [h, if_false, not_false_eq_true, true_and, Option.map_some]
    exact qOb_some
theorem g_fp {j pc k n pc' : Nat} {L : qL} {st st' : List Value} {M : qM} {x : qX} {Q : qR → qM → Prop} {cnd : Prop} {dc : Decidable cnd} {v : Value} (hc : q_code j pc = some x) (hk : q_kd x.1 = 0) (ht : q_isn x.1 = false) (hs : q_step none j x (pc, L, st, M, k, n) = ((if cnd then some v else none).map (fun v => v :: st')).map (fun s => (pc', L, s, M, k, n))) : g j pc L st M k n Q ↔ (cnd ∧ g j pc' L (v :: st') M k n Q) := by
  refine (qG_step hc hk (Or.inl ht)).trans ?_
  rw [hs]
  by_cases h : cnd
  · simp only [h, if_true, true_and, Option.map_some]
    exact qOb_some
  · simp only [h, if_false, false_and, iff_false]
    rintro ⟨F, h1, -⟩
    cases h1
