/-! the law's own methods: a judgement with the script -/
def gz (Z : qScr) (j pc : Nat) (L : qL) (st : List Value) (M : qM) (k n : Nat) (Q : qR → qM → Prop) : Prop := qG Z j (pc, L, st, M, k, n) Q
def clz (Z : qScr) (a : Nat) (as : List Value) (M : qM) (Q : qR → qM → Prop) : Prop := qG (q_scp a Z) a (0, qloc a as, [], M, 0, 0) Q
theorem clz_c {Z : qScr} {a : Nat} {as : List Value} {M : qM} {Q : qR → qM → Prop} (h : q_sc a = false) : clz Z a as M Q ↔ cl a as M Q := by
  unfold clz cl g q_scp
  rw [if_neg (by rw [h]; decide)]
theorem clz_l {Z : qScr} {a : Nat} {as : List Value} {M : qM} {Q : qR → qM → Prop} (h : q_sc a = true) : clz Z a as M Q ↔ gz Z a 0 (qloc a as) [] M 0 0 Q := by
  unfold clz gz q_scp
  rw [if_pos h]
theorem clz_iff {Z : qScr} {a : Nat} {as : List Value} {r : qR} {M M' : qM} (h : ∀ Q : qR → qM → Prop, Q r M' → clz Z a as M Q) {Q : qR → qM → Prop} : clz Z a as M Q ↔ Q r M' := qG_iff h
def krz (Z : qScr) (j pc : Nat) (L : qL) (rest : List Value) (k n : Nat) (Q : qR → qM → Prop) : qR → qM → Prop := fun r M' => match r with
  | .inl v => gz Z j (pc + 3) L (v.toList ++ rest) M' k n Q
  | .inr e0 => match q_hnd j pc e0 with
    | some (h, p) => p < L.length ∧ gz Z j h (qset1 L p none) [] M' k n Q
    | none => False
theorem krz_v {Z : qScr} {j pc : Nat} {L : qL} {rest : List Value} {k n : Nat} {Q : qR → qM → Prop} {v : Value} {M' : qM} : krz Z j pc L rest k n Q (.inl (some v)) M' ↔ gz Z j (pc + 3) L (v :: rest) M' k n Q := Iff.rfl
theorem krz_n {Z : qScr} {j pc : Nat} {L : qL} {rest : List Value} {k n : Nat} {Q : qR → qM → Prop} {M' : qM} : krz Z j pc L rest k n Q (.inl none) M' ↔ gz Z j (pc + 3) L rest M' k n Q := Iff.rfl
theorem krz_x {Z : qScr} {L : qL} {rest : List Value} {k n : Nat} {Q : qR → qM → Prop} {M' : qM} : krz Z 107 4 L rest k n Q (.inr 3) M' ↔ (4 < L.length ∧ gz Z 107 10 (qset1 L 4 none) [] M' k n Q) := by
  show (match q_hnd 107 4 3 with
    | some (h, p) => p < L.length ∧ gz Z 107 h (qset1 L p none) [] M' k n Q
    | none => False) ↔ _
  rw [show q_hnd 107 4 3 = some (10, 4) by decide +kernel]
theorem z_go {Z : qScr} {j pc k n pc' k' n' : Nat} {L L' : qL} {st st' : List Value} {M M' : qM} {x : qX} {Q : qR → qM → Prop} (hc : q_code j pc = some x) (hk : q_kd x.1 = 0) (ht : q_isn x.1 = false) (hs : q_step Z j x (pc, L, st, M, k, n) = some (pc', L', st', M', k', n')) : gz Z j pc L st M k n Q ↔ gz Z j pc' L' st' M' k' n' Q :=
  (qG_step hc hk (Or.inl ht)).trans (qOb_eq hs)
theorem z_op {α : Type} {Z : qScr} {j pc k n : Nat} {L : qL} {st : List Value} {M : qM} {x : qX} {Q : qR → qM → Prop} {o : Option α} {fF : α → qF} (hc : q_code j pc = some x) (hk : q_kd x.1 = 0) (ht : q_isn x.1 = false) (hs : q_step Z j x (pc, L, st, M, k, n) = o.map fF) : gz Z j pc L st M k n Q ↔ qOb o (fun v => qG Z j (fF v) Q) := by
  refine (qG_step hc hk (Or.inl ht)).trans ?_
  rw [hs]
  exact qOb_map
theorem z_br {Z : qScr} {j pc k n t : Nat} {L : qL} {st st' : List Value} {M : qM} {x : qX} {Q : qR → qM → Prop} {cnd : Prop} {dc : Decidable cnd} (hc : q_code j pc = some x) (hk : q_kd x.1 = 0) (ht : q_isn x.1 = false) (hs : q_step Z j x (pc, L, st, M, k, n) = some (if decide cnd = true then t else pc + 3, L, st', M, k, n)) : gz Z j pc L st M k n Q ↔ ((cnd → gz Z j t L st' M k n Q) ∧ (¬ cnd → gz Z j (pc + 3) L st' M k n Q)) := by
  refine (z_go hc hk ht hs).trans ?_
  by_cases h : cnd
  · simp [h]
  · simp [h]
theorem z_rt {Z : qScr} {j pc k n : Nat} {L : qL} {st : List Value} {M : qM} {x : qX} {Q : qR → qM → Prop} {v : Option Value} (hc : q_code j pc = some x) (hk : q_kd x.1 = 2) (hr : q_ret j x.1 st = some v) : gz Z j pc L st M k n Q ↔ Q (.inl v) M := by
  have key : ∀ f, q_exec (f + 1) Z j (pc, L, st, M, k, n) = some (.inl v, M) := by
    intro f
    rw [q_execr hc hk]
    simp only [hr]
  constructor
  · rintro ⟨f, r, M', h1, h2⟩
    cases f with
    | zero => exact absurd (show (none : Option (qR × qM)) = some (r, M') from h1) (fun q => by cases q)
    | succ f =>
      rw [key] at h1
      cases h1
      exact h2
  · intro h
    exact ⟨1, _, _, key 0, h⟩
theorem z_rti {Z : qScr} {j pc k n : Nat} {L : qL} {st : List Value} {M : qM} {x : qX} {Q : qR → qM → Prop} {cnd : Prop} {dc : Decidable cnd} {v : Option Value} (hc : q_code j pc = some x) (hk : q_kd x.1 = 2) (hr : q_ret j x.1 st = if cnd then some v else none) : gz Z j pc L st M k n Q ↔ (cnd ∧ Q (.inl v) M) := by
  by_cases h : cnd
  · rw [if_pos h] at hr
    rw [z_rt hc hk hr]
    simp [h]
  · rw [if_neg h] at hr
    simp only [h, false_and, iff_false]
    rintro ⟨f, r, M', h1, h2⟩
    cases f with
    | zero => exact absurd (show (none : Option (qR × qM)) = some (r, M') from h1) (fun q => by cases q)
    | succ f =>
      rw [q_execr hc hk] at h1
      simp only [hr] at h1
      cases h1
theorem z_goi {Z : qScr} {j pc k n pc' k' n' : Nat} {L L' : qL} {st st' : List Value} {M M' : qM} {x : qX} {Q : qR → qM → Prop} {v v' : Int32} (hc : q_code j pc = some x) (hk : q_kd x.1 = 0) (ht : q_isn x.1 = false) (hs : q_step Z j x (pc, L, st, M, k, n) = some (pc', L', .int v :: st', M', k', n')) (hv : v = v') : gz Z j pc L st M k n Q ↔ gz Z j pc' L' (.int v' :: st') M' k' n' Q := by
  subst hv
  exact z_go hc hk ht hs
theorem z_brn {Z : qScr} {j pc k n t : Nat} {L : qL} {st st' : List Value} {M : qM} {x : qX} {Q : qR → qM → Prop} {cnd : Prop} {dc : Decidable cnd} (hc : q_code j pc = some x) (hk : q_kd x.1 = 0) (ht : q_isn x.1 = false) (hs : q_step Z j x (pc, L, st, M, k, n) = some (if decide (¬ cnd) = true then t else pc + 3, L, st', M, k, n)) : gz Z j pc L st M k n Q ↔ ((cnd → gz Z j (pc + 3) L st' M k n Q) ∧ (¬ cnd → gz Z j t L st' M k n Q)) := by
  refine (z_go hc hk ht hs).trans ?_
  by_cases h : cnd
  · simp [h]
  · simp [h]
theorem z_fp {Z : qScr} {j pc k n pc' : Nat} {L : qL} {st st' : List Value} {M : qM} {x : qX} {Q : qR → qM → Prop} {cnd : Prop} {dc : Decidable cnd} {v : Value} (hc : q_code j pc = some x) (hk : q_kd x.1 = 0) (ht : q_isn x.1 = false) (hs : q_step Z j x (pc, L, st, M, k, n) = ((if cnd then some v else none).map (fun v => v :: st')).map (fun s => (pc', L, s, M, k, n))) : gz Z j pc L st M k n Q ↔ (cnd ∧ gz Z j pc' L (v :: st') M k n Q) := by
  refine (qG_step hc hk (Or.inl ht)).trans ?_
  rw [hs]
  by_cases h : cnd
  · simp only [h, if_true, true_and, Option.map_some]
    exact qOb_some
  · simp only [h, if_false, false_and, iff_false]
    rintro ⟨F, h1, -⟩
    cases h1
theorem z_divD {Z : qScr} {j pc k n pc' : Nat} {L : qL} {st : List Value} {M : qM} {x : qX} {Q : qR → qM → Prop} {a b : Int32} (hc : q_code j pc = some x) (hk : q_kd x.1 = 0) (ht : q_isn x.1 = false) (hs : q_step Z j x (pc, L, .int b :: .int a :: st, M, k, n) = ((if b = 0 then none else some (Value.int (a / b))).map (fun v => v :: st)).map (fun s => (pc', L, s, M, k, n))) : gz Z j pc L (.int b :: .int a :: st) M k n Q ↔ (¬ b = 0 ∧ gz Z j pc' L (.int (a / b) :: st) M k n Q) := by
  refine (qG_step hc hk (Or.inl ht)).trans ?_
  rw [hs]
  by_cases h : b = 0
  · simp only [h, if_true, not_true_eq_false, false_and, iff_false]
    rintro ⟨F, h1, -⟩
    cases h1
  · simp only [h, if_false, not_false_eq_true, true_and, Option.map_some]
    exact qOb_some
theorem z_divR {Z : qScr} {j pc k n pc' : Nat} {L : qL} {st : List Value} {M : qM} {x : qX} {Q : qR → qM → Prop} {a b : Int32} (hc : q_code j pc = some x) (hk : q_kd x.1 = 0) (ht : q_isn x.1 = false) (hs : q_step Z j x (pc, L, .int b :: .int a :: st, M, k, n) = ((if b = 0 then none else some (Value.int (a - a / b * b))).map (fun v => v :: st)).map (fun s => (pc', L, s, M, k, n))) : gz Z j pc L (.int b :: .int a :: st) M k n Q ↔ (¬ b = 0 ∧ gz Z j pc' L (.int (a - a / b * b) :: st) M k n Q) := by
  refine (qG_step hc hk (Or.inl ht)).trans ?_
  rw [hs]
  by_cases h : b = 0
  · simp only [h, if_true, not_true_eq_false, false_and, iff_false]
    rintro ⟨F, h1, -⟩
    cases h1
  · simp only [h, if_false, not_false_eq_true, true_and, Option.map_some]
    exact qOb_some
theorem z_if {α : Type} {Z : qScr} {j pc k n : Nat} {L : qL} {st : List Value} {M : qM} {x : qX} {Q : qR → qM → Prop} {cnd : Prop} {dc : Decidable cnd} {o : Option α} {fF : α → qF} (hc : q_code j pc = some x) (hk : q_kd x.1 = 0) (ht : q_isn x.1 = false ∨ x.2.2.1 < 1000) (hs : q_step Z j x (pc, L, st, M, k, n) = if cnd then o.map fF else none) : gz Z j pc L st M k n Q ↔ (cnd ∧ qOb o (fun v => qG Z j (fF v) Q)) := by
  refine (qG_step hc hk ht).trans ?_
  rw [hs]
  by_cases h : cnd
  · simp only [h, if_true, true_and]
    exact qOb_map
  · simp only [h, if_false, false_and, iff_false]
    rintro ⟨F, h1, -⟩
    cases h1
theorem z_cl {Z : qScr} {j pc k n a : Nat} {L : qL} {st as rest : List Value} {M : qM} {x : qX} {Q : qR → qM → Prop} (hc : q_code j pc = some x) (hk : q_kd x.1 = 1) (hcl : q_call x st = some (a, as, rest)) (ha : a < 900) (hl : (qexp as).length ≤ q_mL a) :
    gz Z j pc L st M k n Q ↔ ((q_rcv M x.2.2.2.2 a as = true ∧ k + q_mc a ≤ q_mc j ∧ n + q_ms a ≤ q_ms j ∧ (q_al a = true → q_al j = true ∧ qscL M.length L = true ∧ qscS M.length rest = true)) ∧ clz Z a as M (krz Z j pc L rest (k + q_mc a) (n + q_ms a) Q)) := by
  have key : ∀ f, (q_rcv M x.2.2.2.2 a as = true ∧ k + q_mc a ≤ q_mc j ∧ n + q_ms a ≤ q_ms j ∧ (q_al a = true → q_al j = true ∧ qscL M.length L = true ∧ qscS M.length rest = true)) → q_exec (f + 1) Z j (pc, L, st, M, k, n) = (match q_exec f (q_scp a Z) a (0, qloc a as, [], M, 0, 0) with
      | none => none
      | some (.inl v, M') => q_exec f Z j (pc + 3, L, v.toList ++ rest, M', k + q_mc a, n + q_ms a)
      | some (.inr e, M') => match q_hnd j pc e with
        | none => none
        | some (h, p) => if p < L.length then q_exec f Z j (h, qset1 L p none, [], M', k + q_mc a, n + q_ms a) else none) := by
    rintro f ⟨h1, h2, h3, h4⟩
    rw [q_execc hc hk]
    simp only [hcl]
    rw [if_neg (Nat.not_le.mpr ha), if_pos ⟨h1, h2, h3, h4, hl⟩]
    try rfl
  have key2 : ∀ f, ¬ (q_rcv M x.2.2.2.2 a as = true ∧ k + q_mc a ≤ q_mc j ∧ n + q_ms a ≤ q_ms j ∧ (q_al a = true → q_al j = true ∧ qscL M.length L = true ∧ qscS M.length rest = true)) → q_exec (f + 1) Z j (pc, L, st, M, k, n) = none := by
    intro f hn
    rw [q_execc hc hk]
    simp only [hcl]
    rw [if_neg (Nat.not_le.mpr ha), if_neg (fun q => hn ⟨q.1, q.2.1, q.2.2.1, q.2.2.2.1⟩)]
  constructor
  · rintro ⟨f, r, M', h1, h2⟩
    cases f with
    | zero => exact absurd (show (none : Option (qR × qM)) = some (r, M') from h1) (fun q => by cases q)
    | succ f =>
      by_cases hr : (q_rcv M x.2.2.2.2 a as = true ∧ k + q_mc a ≤ q_mc j ∧ n + q_ms a ≤ q_ms j ∧ (q_al a = true → q_al j = true ∧ qscL M.length L = true ∧ qscS M.length rest = true))
      · refine ⟨hr, ?_⟩
        rw [key f hr] at h1
        cases hcal : q_exec f (q_scp a Z) a (0, qloc a as, [], M, 0, 0) with
        | none => rw [hcal] at h1; cases h1
        | some y =>
          obtain ⟨r0, M1⟩ := y
          rw [hcal] at h1
          refine ⟨f, r0, M1, hcal, ?_⟩
          cases r0 with
          | inl v => exact ⟨f, r, M', h1, h2⟩
          | inr e0 =>
            simp only at h1
            show match q_hnd j pc e0 with
              | some (h, p) => p < L.length ∧ gz Z j h (qset1 L p none) [] M1 (k + q_mc a) (n + q_ms a) Q
              | none => False
            cases hh : q_hnd j pc e0 with
            | none => rw [hh] at h1; cases h1
            | some y =>
              obtain ⟨h9, p9⟩ := y
              rw [hh] at h1
              simp only at h1 ⊢
              split at h1
              · rename_i hp9
                exact ⟨hp9, f, r, M', h1, h2⟩
              · cases h1
      · rw [key2 f hr] at h1
        cases h1
  · rintro ⟨hr, f1, r0, M1, h1, h2⟩
    cases r0 with
    | inl v =>
      obtain ⟨f2, r, M', h3, h4⟩ := h2
      refine ⟨max f1 f2 + 1, r, M', ?_, h4⟩
      rw [key _ hr, q_mono (Nat.le_max_left f1 f2) h1]
      exact q_mono (Nat.le_max_right f1 f2) h3
    | inr e0 =>
      have h2 : match q_hnd j pc e0 with
        | some (h, p) => p < L.length ∧ gz Z j h (qset1 L p none) [] M1 (k + q_mc a) (n + q_ms a) Q
        | none => False := h2
      cases hh : q_hnd j pc e0 with
      | none => rw [hh] at h2; exact h2.elim
      | some y =>
        obtain ⟨h9, p9⟩ := y
        rw [hh] at h2
        obtain ⟨hp9, f2, r, M', h3, h4⟩ := h2
        refine ⟨max f1 f2 + 1, r, M', ?_, h4⟩
        rw [key _ hr, q_mono (Nat.le_max_left f1 f2) h1]
        simp only [hh]
        rw [if_pos hp9]
        exact q_mono (Nat.le_max_right f1 f2) h3
theorem z_cls {Z : qScr} {j pc a c1 c2 m1 m2 k n : Nat} {L : qL} {st as rest : List Value} {M : qM} {x : qX} {Q : qR → qM → Prop} (hc : q_code j pc = some x) (hk : q_kd x.1 = 1) (hcl : q_call x st = some (a, as, rest)) (ha : a < 900) (h0 : q_al a = false) (hr : q_rcv M x.2.2.2.2 a as = true) (e1 : q_mc a = c1) (e2 : q_ms a = c2) (e3 : q_mc j = m1) (e4 : q_ms j = m2) (hl : (qexp as).length ≤ q_mL a) :
    gz Z j pc L st M k n Q ↔ (k + c1 ≤ m1 ∧ n + c2 ≤ m2 ∧ clz Z a as M (krz Z j pc L rest (k + c1) (n + c2) Q)) := by
  subst e1; subst e2; subst e3; subst e4
  rw [z_cl hc hk hcl ha hl]
  constructor
  · rintro ⟨⟨-, h2, h3, -⟩, h⟩
    exact ⟨h2, h3, h⟩
  · rintro ⟨h2, h3, h⟩
    exact ⟨⟨hr, h2, h3, fun q => by rw [h0] at q; cases q⟩, h⟩
theorem z_clA {Z : qScr} {j pc a c1 c2 m1 m2 k n : Nat} {L : qL} {st as rest : List Value} {M : qM} {x : qX} {Q : qR → qM → Prop} (hc : q_code j pc = some x) (hk : q_kd x.1 = 1) (hcl : q_call x st = some (a, as, rest)) (ha : a < 900) (h0 : q_al a = true) (hj : q_al j = true) (hr : q_rcv M x.2.2.2.2 a as = true) (e1 : q_mc a = c1) (e2 : q_ms a = c2) (e3 : q_mc j = m1) (e4 : q_ms j = m2) (hl : (qexp as).length ≤ q_mL a) :
    gz Z j pc L st M k n Q ↔ (k + c1 ≤ m1 ∧ n + c2 ≤ m2 ∧ qscL M.length L = true ∧ qscS M.length rest = true ∧ clz Z a as M (krz Z j pc L rest (k + c1) (n + c2) Q)) := by
  subst e1; subst e2; subst e3; subst e4
  rw [z_cl hc hk hcl ha hl]
  constructor
  · rintro ⟨⟨-, h2, h3, h4⟩, h⟩
    exact ⟨h2, h3, (h4 h0).2.1, (h4 h0).2.2, h⟩
  · rintro ⟨h2, h3, h4, h5, h⟩
    exact ⟨⟨hr, h2, h3, fun _ => ⟨hj, h4, h5⟩⟩, h⟩
theorem z_clv {Z : qScr} {j pc a c1 c2 m1 m2 o ci k n : Nat} {L : qL} {st as rest : List Value} {M : qM} {x : qX} {Q : qR → qM → Prop} (hc : q_code j pc = some x) (hk : q_kd x.1 = 1) (hcl : q_call x st = some (a, .ref o :: as, rest)) (ha : a < 900) (h0 : q_al a = false) (hs : q_sc a = false) (hx : x.2.2.2.2 = 0) (hci : q_oc a = ci) (e1 : q_mc a = c1) (e2 : q_ms a = c2) (e3 : q_mc j = m1) (e4 : q_ms j = m2) (hl : (qexp (.ref o :: as)).length ≤ q_mL a) :
    gz Z j pc L st M k n Q ↔ (qcls M o ci ∧ k + c1 ≤ m1 ∧ n + c2 ≤ m2 ∧ cl a (.ref o :: as) M (krz Z j pc L rest (k + c1) (n + c2) Q)) := by
  subst e1; subst e2; subst e3; subst e4; subst hci
  rw [z_cl hc hk hcl ha hl, hx, clz_c hs]
  constructor
  · rintro ⟨⟨h1, h2, h3, -⟩, h⟩
    exact ⟨h1, h2, h3, h⟩
  · rintro ⟨h1, h2, h3, h⟩
    exact ⟨⟨h1, h2, h3, fun q => by rw [h0] at q; cases q⟩, h⟩
