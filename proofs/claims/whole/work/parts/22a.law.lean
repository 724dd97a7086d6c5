/-! the law's own code as a judgement -/
def gL (N : Nat) (xs : Nat → Int32) (pc : Nat) (L : qL) (st : List Value) (M : qM) (k n : Nat) (Q : qR → qM → Prop) : Prop := qG (some (N, xs)) 180 (pc, L, st, M, k, n) Q
def krL (N : Nat) (xs : Nat → Int32) (pc : Nat) (L : qL) (rest : List Value) (k n : Nat) (Q : qR → qM → Prop) : qR → qM → Prop := fun r M' => match r with
  | .inl v => gL N xs (pc + 3) L (v.toList ++ rest) M' k n Q
  | .inr e0 => match q_hnd 180 pc e0 with
    | some (h, p) => p < L.length ∧ gL N xs h (qset1 L p none) [] M' k n Q
    | none => False
theorem krL_v {N : Nat} {xs : Nat → Int32} {pc : Nat} {L : qL} {rest : List Value} {k n : Nat} {Q : qR → qM → Prop} {v : Value} {M' : qM} : krL N xs pc L rest k n Q (.inl (some v)) M' ↔ gL N xs (pc + 3) L (v :: rest) M' k n Q := Iff.rfl
theorem krL_n {N : Nat} {xs : Nat → Int32} {pc : Nat} {L : qL} {rest : List Value} {k n : Nat} {Q : qR → qM → Prop} {M' : qM} : krL N xs pc L rest k n Q (.inl none) M' ↔ gL N xs (pc + 3) L rest M' k n Q := Iff.rfl

theorem gL_go {N : Nat} {xs : Nat → Int32} {pc k n pc' k' n' : Nat} {L L' : qL} {st st' : List Value} {M M' : qM} {x : qX} {Q : qR → qM → Prop} (hc : q_code 180 pc = some x) (hk : q_kd x.1 = 0) (ht : q_isn x.1 = false) (hs : q_step (some (N, xs)) 180 x (pc, L, st, M, k, n) = some (pc', L', st', M', k', n')) : gL N xs pc L st M k n Q ↔ gL N xs pc' L' st' M' k' n' Q :=
  (qG_step hc hk (Or.inl ht)).trans (qOb_eq hs)

theorem gL_op {α : Type} {N : Nat} {xs : Nat → Int32} {pc k n : Nat} {L : qL} {st : List Value} {M : qM} {x : qX} {Q : qR → qM → Prop} {o : Option α} {fF : α → qF} (hc : q_code 180 pc = some x) (hk : q_kd x.1 = 0) (ht : q_isn x.1 = false) (hs : q_step (some (N, xs)) 180 x (pc, L, st, M, k, n) = o.map fF) : gL N xs pc L st M k n Q ↔ qOb o (fun v => qG (some (N, xs)) 180 (fF v) Q) := by
  refine (qG_step hc hk (Or.inl ht)).trans ?_
  rw [hs]
  exact qOb_map

theorem gL_br {N : Nat} {xs : Nat → Int32} {pc k n t : Nat} {L : qL} {st st' : List Value} {M : qM} {x : qX} {Q : qR → qM → Prop} {cnd : Prop} {dc : Decidable cnd} (hc : q_code 180 pc = some x) (hk : q_kd x.1 = 0) (ht : q_isn x.1 = false) (hs : q_step (some (N, xs)) 180 x (pc, L, st, M, k, n) = some (if decide cnd = true then t else pc + 3, L, st', M, k, n)) : gL N xs pc L st M k n Q ↔ ((cnd → gL N xs t L st' M k n Q) ∧ (¬ cnd → gL N xs (pc + 3) L st' M k n Q)) := by
  refine (gL_go hc hk ht hs).trans ?_
  by_cases h : cnd
  · simp [h]
  · simp [h]

theorem gL_cl {N : Nat} {xs : Nat → Int32} {pc k n a : Nat} {L : qL} {st as rest : List Value} {M : qM} {x : qX} {Q : qR → qM → Prop} (hc : q_code 180 pc = some x) (hk : q_kd x.1 = 1) (hcl : q_call x st = some (a, as, rest)) (ha : a < 900) (h0 : q_al a = false) (hk2 : k + q_mc a ≤ q_mc 180) (hn2 : n + q_ms a ≤ q_ms 180) (hl : (qexp as).length ≤ q_mL a) :
    gL N xs pc L st M k n Q ↔ (q_rcv M x.2.2.2.2 a as = true ∧ cl a as M (krL N xs pc L rest (k + q_mc a) (n + q_ms a) Q)) := by
  have key : ∀ f, q_exec (f + 1) (some (N, xs)) 180 (pc, L, st, M, k, n) = if q_rcv M x.2.2.2.2 a as = true then (match q_exec f none a (0, qloc a as, [], M, 0, 0) with
      | none => none
      | some (.inl v, M') => q_exec f (some (N, xs)) 180 (pc + 3, L, v.toList ++ rest, M', k + q_mc a, n + q_ms a)
      | some (.inr e, M') => match q_hnd 180 pc e with
        | none => none
        | some (h, p) => if p < L.length then q_exec f (some (N, xs)) 180 (h, qset1 L p none, [], M', k + q_mc a, n + q_ms a) else none) else none := by
    intro f
    rw [q_execc hc hk]
    simp only [hcl]
    rw [if_neg (Nat.not_le.mpr ha)]
    by_cases hr : q_rcv M x.2.2.2.2 a as = true
    · rw [if_pos ⟨hr, hk2, hn2, (fun q => by rw [h0] at q; cases q), hl⟩, if_pos hr]
      try rfl
    · rw [if_neg (fun q => hr q.1), if_neg hr]
      try rfl
  constructor
  · rintro ⟨f, r, M', h1, h2⟩
    cases f with
    | zero => exact absurd (show (none : Option (qR × qM)) = some (r, M') from h1) (fun q => by cases q)
    | succ f =>
      rw [key] at h1
      by_cases hr : q_rcv M x.2.2.2.2 a as = true
      · rw [if_pos hr] at h1
        refine ⟨hr, ?_⟩
        cases hcal : q_exec f none a (0, qloc a as, [], M, 0, 0) with
        | none => rw [hcal] at h1; cases h1
        | some y =>
          obtain ⟨r0, M1⟩ := y
          rw [hcal] at h1
          refine ⟨f, r0, M1, hcal, ?_⟩
          cases r0 with
          | inl v => exact ⟨f, r, M', h1, h2⟩
          | inr e0 =>
            simp only at h1
            show match q_hnd 180 pc e0 with
              | some (h, p) => p < L.length ∧ gL N xs h (qset1 L p none) [] M1 (k + q_mc a) (n + q_ms a) Q
              | none => False
            cases hh : q_hnd 180 pc e0 with
            | none => rw [hh] at h1; cases h1
            | some y =>
              obtain ⟨h9, p9⟩ := y
              rw [hh] at h1
              simp only at h1 ⊢
              split at h1
              · rename_i hp9
                exact ⟨hp9, f, r, M', h1, h2⟩
              · cases h1
      · rw [if_neg hr] at h1
        cases h1
  · rintro ⟨hr, f1, r0, M1, h1, h2⟩
    cases r0 with
    | inl v =>
      obtain ⟨f2, r, M', h3, h4⟩ := h2
      refine ⟨max f1 f2 + 1, r, M', ?_, h4⟩
      rw [key, if_pos hr, q_mono (Nat.le_max_left f1 f2) h1]
      exact q_mono (Nat.le_max_right f1 f2) h3
    | inr e0 =>
      have h2 : match q_hnd 180 pc e0 with
        | some (h, p) => p < L.length ∧ gL N xs h (qset1 L p none) [] M1 (k + q_mc a) (n + q_ms a) Q
        | none => False := h2
      cases hh : q_hnd 180 pc e0 with
      | none => rw [hh] at h2; exact h2.elim
      | some y =>
        obtain ⟨h9, p9⟩ := y
        rw [hh] at h2
        obtain ⟨hp9, f2, r, M', h3, h4⟩ := h2
        refine ⟨max f1 f2 + 1, r, M', ?_, h4⟩
        rw [key, if_pos hr, q_mono (Nat.le_max_left f1 f2) h1]
        simp only [hh]
        rw [if_pos hp9]
        exact q_mono (Nat.le_max_right f1 f2) h3

theorem gL_rt {N : Nat} {xs : Nat → Int32} {pc k n : Nat} {L : qL} {st : List Value} {M : qM} {x : qX} {Q : qR → qM → Prop} {v : Option Value} (hc : q_code 180 pc = some x) (hk : q_kd x.1 = 2) (hr : q_ret 180 x.1 st = some v) : gL N xs pc L st M k n Q ↔ Q (.inl v) M := by
  have key : ∀ f, q_exec (f + 1) (some (N, xs)) 180 (pc, L, st, M, k, n) = some (.inl v, M) := by
    intro f
    rw [q_execr hc hk]
    simp only [hr]
  constructor
  · rintro ⟨f, r, M', h1, h2⟩
    cases f with
    | zero => exact absurd (show (none : Option (qR × qM)) = some (r, M') from h1) (fun q => by cases q)
    | succ f =>
      rw [key] at h1
      cases h1
      exact h2
  · intro h
    exact ⟨1, _, _, key 0, h⟩

theorem gL_rti {N : Nat} {xs : Nat → Int32} {pc k n : Nat} {L : qL} {st : List Value} {M : qM} {x : qX} {Q : qR → qM → Prop} {cnd : Prop} {dc : Decidable cnd} {v : Option Value} (hc : q_code 180 pc = some x) (hk : q_kd x.1 = 2) (hr : q_ret 180 x.1 st = if cnd then some v else none) : gL N xs pc L st M k n Q ↔ (cnd ∧ Q (.inl v) M) := by
  by_cases h : cnd
  · rw [if_pos h] at hr
    rw [gL_rt hc hk hr]
    simp [h]
  · rw [if_neg h] at hr
    simp only [h, false_and, iff_false]
    rintro ⟨f, r, M', h1, h2⟩
    cases f with
    | zero => exact absurd (show (none : Option (qR × qM)) = some (r, M') from h1) (fun q => by cases q)
    | succ f =>
      rw [q_execr hc hk] at h1
      simp only [hr] at h1
      cases h1

theorem gL_goi {N : Nat} {xs : Nat → Int32} {pc k n pc' k' n' : Nat} {L L' : qL} {st st' : List Value} {M M' : qM} {x : qX} {Q : qR → qM → Prop} {v v' : Int32} (hc : q_code 180 pc = some x) (hk : q_kd x.1 = 0) (ht : q_isn x.1 = false) (hs : q_step (some (N, xs)) 180 x (pc, L, st, M, k, n) = some (pc', L', .int v :: st', M', k', n')) (hv : v = v') : gL N xs pc L st M k n Q ↔ gL N xs pc' L' (.int v' :: st') M' k' n' Q := by
  subst hv
  exact gL_go hc hk ht hs

theorem gL_brn {N : Nat} {xs : Nat → Int32} {pc k n t : Nat} {L : qL} {st st' : List Value} {M : qM} {x : qX} {Q : qR → qM → Prop} {cnd : Prop} {dc : Decidable cnd} (hc : q_code 180 pc = some x) (hk : q_kd x.1 = 0) (ht : q_isn x.1 = false) (hs : q_step (some (N, xs)) 180 x (pc, L, st, M, k, n) = some (if decide (¬ cnd) = true then t else pc + 3, L, st', M, k, n)) : gL N xs pc L st M k n Q ↔ ((cnd → gL N xs (pc + 3) L st' M k n Q) ∧ (¬ cnd → gL N xs t L st' M k n Q)) := by
  refine (gL_go hc hk ht hs).trans ?_
  by_cases h : cnd
  · simp [h]
  · simp [h]

theorem gL_fp {N : Nat} {xs : Nat → Int32} {pc k n pc' : Nat} {L : qL} {st st' : List Value} {M : qM} {x : qX} {Q : qR → qM → Prop} {cnd : Prop} {dc : Decidable cnd} {v : Value} (hc : q_code 180 pc = some x) (hk : q_kd x.1 = 0) (ht : q_isn x.1 = false) (hs : q_step (some (N, xs)) 180 x (pc, L, st, M, k, n) = ((if cnd then some v else none).map (fun v => v :: st')).map (fun s => (pc', L, s, M, k, n))) : gL N xs pc L st M k n Q ↔ (cnd ∧ gL N xs pc' L (v :: st') M k n Q) := by
  refine (qG_step hc hk (Or.inl ht)).trans ?_
  rw [hs]
  by_cases h : cnd
  · simp only [h, if_true, true_and, Option.map_some]
    exact qOb_some
  · simp only [h, if_false, false_and, iff_false]
    rintro ⟨F, h1, -⟩
    cases h1

theorem gL_cls {N : Nat} {xs : Nat → Int32} {pc a c1 c2 k n : Nat} {L : qL} {st as rest : List Value} {M : qM} {x : qX} {Q : qR → qM → Prop} (hc : q_code 180 pc = some x) (hk : q_kd x.1 = 1) (hcl : q_call x st = some (a, as, rest)) (ha : a < 900) (h0 : q_al a = false) (hr : q_rcv M x.2.2.2.2 a as = true) (e1 : q_mc a = c1) (e2 : q_ms a = c2) (hk2 : k + c1 ≤ q_mc 180) (hn2 : n + c2 ≤ q_ms 180) (hl : (qexp as).length ≤ q_mL a) :
    gL N xs pc L st M k n Q ↔ cl a as M (krL N xs pc L rest (k + c1) (n + c2) Q) := by
  subst e1; subst e2
  rw [gL_cl hc hk hcl ha h0 hk2 hn2 hl]
  exact ⟨fun h => h.2, fun h => ⟨hr, h⟩⟩
theorem gL_clv {N : Nat} {xs : Nat → Int32} {pc a c1 c2 o ci k n : Nat} {L : qL} {st as rest : List Value} {M : qM} {x : qX} {Q : qR → qM → Prop} (hc : q_code 180 pc = some x) (hk : q_kd x.1 = 1) (hcl : q_call x st = some (a, .ref o :: as, rest)) (ha : a < 900) (h0 : q_al a = false) (hx : x.2.2.2.2 = 0) (hci : q_oc a = ci) (e1 : q_mc a = c1) (e2 : q_ms a = c2) (hk2 : k + c1 ≤ q_mc 180) (hn2 : n + c2 ≤ q_ms 180) (hl : (qexp (.ref o :: as)).length ≤ q_mL a) :
    gL N xs pc L st M k n Q ↔ (qcls M o ci ∧ cl a (.ref o :: as) M (krL N xs pc L rest (k + c1) (n + c2) Q)) := by
  subst e1; subst e2; subst hci
  rw [gL_cl hc hk hcl ha h0 hk2 hn2 hl, hx]
  rfl
