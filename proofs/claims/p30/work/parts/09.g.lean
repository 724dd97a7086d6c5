/-! the small machine's runs as a judgement: from a frame, it ends so that Q -/
theorem q_execc {f j : Nat} {scr : qScr} {F : qF} {x : qX} (hcode : q_code j F.1 = some x) (hkd : q_kd x.1 = 1) :
    q_exec (f + 1) scr j F = (match q_call x F.2.2.1 with
        | none => none
        | some (a, args, rest) => if 900 ≤ a then (match q_lib a args with
            | none => none
            | some r => q_exec f scr j (F.1 + 3, F.2.1, r ++ rest, F.2.2.2.1, F.2.2.2.2.1, F.2.2.2.2.2))
          else if q_rcv F.2.2.2.1 x.2.2.2.2 a args = true ∧ F.2.2.2.2.1 + q_mc a ≤ q_mc j ∧ F.2.2.2.2.2 + q_ms a ≤ q_ms j ∧ (q_al a = true → q_al j = true ∧ qscL F.2.2.2.1.length F.2.1 = true ∧ qscS F.2.2.2.1.length rest = true) ∧ (qexp args).length ≤ q_mL a then
            match q_exec f (q_scp a scr) a (0, qloc a args, [], F.2.2.2.1, 0, 0) with
            | none => none
            | some (.inl v, M') => q_exec f scr j (F.1 + 3, F.2.1, v.toList ++ rest, M', F.2.2.2.2.1 + q_mc a, F.2.2.2.2.2 + q_ms a)
            | some (.inr e, M') => match q_hnd j F.1 e with
              | none => none
              | some (h, p) => if p < F.2.1.length then q_exec f scr j (h, qset1 F.2.1 p none, [], M', F.2.2.2.2.1 + q_mc a, F.2.2.2.2.2 + q_ms a) else none
          else none) := by
  rw [q_exec]
  simp only [hcode, hkd]
  rfl
theorem q_execr {f j : Nat} {scr : qScr} {F : qF} {x : qX} (hcode : q_code j F.1 = some x) (hkd : q_kd x.1 = 2) :
    q_exec (f + 1) scr j F = (match q_ret j x.1 F.2.2.1 with
        | none => none
        | some v => some (.inl v, F.2.2.2.1)) := by
  rw [q_exec]
  simp only [hcode, hkd]
  rfl
theorem q_kd3 (i : Instr) : q_kd i = 0 ∨ q_kd i = 1 ∨ q_kd i = 2 := by
  unfold q_kd
  split <;> simp
theorem q_mono1 : ∀ (f : Nat) (scr : qScr) (j : Nat) (F : qF) (z : qR × qM), q_exec f scr j F = some z → q_exec (f + 1) scr j F = some z := by
  intro f
  induction f with
  | zero =>
    intro scr j F z h
    exact absurd (show (none : Option (qR × qM)) = some z from h) (fun q => by cases q)
  | succ f ih =>
    intro scr j F z h
    cases hc : q_code j F.1 with
    | none =>
      rw [q_exec] at h
      simp only [hc] at h
      cases h
    | some x =>
      rcases q_kd3 x.1 with hk | hk | hk
      · obtain ⟨pc, L, st, M, k, n⟩ := F
        rw [q_exec0 hc hk] at h ⊢
        by_cases hth : 1000 ≤ x.2.2.1 ∧ x.2.2.1 < 1005 ∧ q_isn x.1 = true
        · rw [if_pos hth] at h ⊢
          exact h
        · rw [if_neg hth] at h ⊢
          cases hs : q_step scr j x (pc, L, st, M, k, n) with
          | none => rw [hs] at h; cases h
          | some F' =>
            rw [hs] at h
            exact ih _ _ _ _ h
      · rw [q_execc hc hk] at h ⊢
        cases hcl : q_call x F.2.2.1 with
        | none => rw [hcl] at h; cases h
        | some y =>
          obtain ⟨a, as, rest⟩ := y
          rw [hcl] at h
          simp only at h ⊢
          by_cases ha : 900 ≤ a
          · rw [if_pos ha] at h ⊢
            cases hl : q_lib a as with
            | none => rw [hl] at h; cases h
            | some r =>
              rw [hl] at h
              exact ih _ _ _ _ h
          · rw [if_neg ha] at h ⊢
            obtain ⟨hg, h⟩ : (q_rcv F.2.2.2.1 x.2.2.2.2 a as = true ∧ F.2.2.2.2.1 + q_mc a ≤ q_mc j ∧ F.2.2.2.2.2 + q_ms a ≤ q_ms j ∧ (q_al a = true → q_al j = true ∧ qscL F.2.2.2.1.length F.2.1 = true ∧ qscS F.2.2.2.1.length rest = true) ∧ (qexp as).length ≤ q_mL a) ∧ (match q_exec f (q_scp a scr) a (0, qloc a as, [], F.2.2.2.1, 0, 0) with
              | none => none
              | some (.inl v, M') => q_exec f scr j (F.1 + 3, F.2.1, v.toList ++ rest, M', F.2.2.2.2.1 + q_mc a, F.2.2.2.2.2 + q_ms a)
              | some (.inr e, M') => match q_hnd j F.1 e with
                | none => none
                | some (h, p) => if p < F.2.1.length then q_exec f scr j (h, qset1 F.2.1 p none, [], M', F.2.2.2.2.1 + q_mc a, F.2.2.2.2.2 + q_ms a) else none) = some z := by
              by_cases hg : q_rcv F.2.2.2.1 x.2.2.2.2 a as = true ∧ F.2.2.2.2.1 + q_mc a ≤ q_mc j ∧ F.2.2.2.2.2 + q_ms a ≤ q_ms j ∧ (q_al a = true → q_al j = true ∧ qscL F.2.2.2.1.length F.2.1 = true ∧ qscS F.2.2.2.1.length rest = true) ∧ (qexp as).length ≤ q_mL a
              · rw [if_pos hg] at h
                exact ⟨hg, h⟩
              · rw [if_neg hg] at h
                cases h
            rw [if_pos hg]
            cases hcal : q_exec f (q_scp a scr) a (0, qloc a as, [], F.2.2.2.1, 0, 0) with
            | none => rw [hcal] at h; cases h
            | some y =>
              have hcal2 := ih _ _ _ _ hcal
              obtain ⟨r0, M1⟩ := y
              rw [hcal] at h
              rw [hcal2]
              cases r0 with
              | inl v => exact ih _ _ _ _ h
              | inr e0 =>
                simp only at h ⊢
                cases hh : q_hnd j F.1 e0 with
                | none => rw [hh] at h; cases h
                | some y =>
                  obtain ⟨h9, p9⟩ := y
                  rw [hh] at h
                  simp only at h ⊢
                  by_cases hp9 : p9 < F.2.1.length
                  · rw [if_pos hp9] at h ⊢
                    exact ih _ _ _ _ h
                  · rw [if_neg hp9] at h
                    cases h
      · rw [q_execr hc hk] at h ⊢
        exact h
theorem q_mono {f f' : Nat} (hf : f ≤ f') {scr : qScr} {j : Nat} {F : qF} {z : qR × qM} (h : q_exec f scr j F = some z) : q_exec f' scr j F = some z := by
  induction hf with
  | refl => exact h
  | step _ ih => exact q_mono1 _ _ _ _ _ ih
theorem q_det {f f' : Nat} {scr : qScr} {j : Nat} {F : qF} {z z' : qR × qM} (h : q_exec f scr j F = some z) (h' : q_exec f' scr j F = some z') : z = z' := by
  have h1 := q_mono (Nat.le_max_left f f') h
  have h2 := q_mono (Nat.le_max_right f f') h'
  exact Option.some.inj (h1.symm.trans h2)
def qG (scr : qScr) (j : Nat) (F : qF) (Q : qR → qM → Prop) : Prop := ∃ (f : Nat) (r : qR) (M' : qM), q_exec f scr j F = some (r, M') ∧ Q r M'
/-- methods but the law -/
def g (j pc : Nat) (L : qL) (st : List Value) (M : qM) (k n : Nat) (Q : qR → qM → Prop) : Prop := qG none j (pc, L, st, M, k, n) Q
/-- a call -/
def cl (a : Nat) (as : List Value) (M : qM) (Q : qR → qM → Prop) : Prop := g a 0 (qloc a as) [] M 0 0 Q
def qOb {α : Type} (o : Option α) (K : α → Prop) : Prop := ∃ v, o = some v ∧ K v
theorem qOb_some {α : Type} {v : α} {K : α → Prop} : qOb (some v) K ↔ K v := ⟨fun ⟨w, h1, h2⟩ => by cases h1; exact h2, fun h => ⟨v, rfl, h⟩⟩
theorem qOb_eq {α : Type} {o : Option α} {v : α} {K : α → Prop} (h : o = some v) : qOb o K ↔ K v := by rw [h]; exact qOb_some
theorem qG_mono {scr : qScr} {j : Nat} {F : qF} {Q Q' : qR → qM → Prop} (h : qG scr j F Q) (hq : ∀ r M', Q r M' → Q' r M') : qG scr j F Q' := by
  obtain ⟨f, r, M', h1, h2⟩ := h
  exact ⟨f, r, M', h1, hq r M' h2⟩
theorem cl_mono {a : Nat} {as : List Value} {M : qM} {Q Q' : qR → qM → Prop} (h : cl a as M Q) (hq : ∀ r M', Q r M' → Q' r M') : cl a as M Q' := qG_mono h hq
theorem g_mono {j pc : Nat} {L : qL} {st : List Value} {M : qM} {k n : Nat} {Q Q' : qR → qM → Prop} (h : g j pc L st M k n Q) (hq : ∀ r M', Q r M' → Q' r M') : g j pc L st M k n Q' := qG_mono h hq
theorem qG_step {scr : qScr} {j pc k n : Nat} {L : qL} {st : List Value} {M : qM} {x : qX} {Q : qR → qM → Prop} (hc : q_code j pc = some x) (hk : q_kd x.1 = 0) (ht : q_isn x.1 = false ∨ x.2.2.1 < 1000) : qG scr j (pc, L, st, M, k, n) Q ↔ qOb (q_step scr j x (pc, L, st, M, k, n)) (fun F => qG scr j F Q) := by
  have hnt : ¬ (1000 ≤ x.2.2.1 ∧ x.2.2.1 < 1005 ∧ q_isn x.1 = true) := by
    rintro ⟨h1, h2, h3⟩
    rcases ht with ht | ht
    · rw [ht] at h3; cases h3
    · omega
  constructor
  · rintro ⟨f, r, M', h1, h2⟩
    cases f with
    | zero => exact absurd (show (none : Option (qR × qM)) = some (r, M') from h1) (fun q => by cases q)
    | succ f =>
      rw [q_exec0 hc hk, if_neg hnt] at h1
      cases hs : q_step scr j x (pc, L, st, M, k, n) with
      | none => rw [hs] at h1; cases h1
      | some F' =>
        rw [hs] at h1
        exact ⟨F', rfl, f, r, M', h1, h2⟩
  · rintro ⟨F', hs, f, r, M', h1, h2⟩
    refine ⟨f + 1, r, M', ?_, h2⟩
    rw [q_exec0 hc hk, if_neg hnt, hs]
    exact h1
theorem g_go {j pc k n pc' k' n' : Nat} {L L' : qL} {st st' : List Value} {M M' : qM} {x : qX} {Q : qR → qM → Prop} (hc : q_code j pc = some x) (hk : q_kd x.1 = 0) (ht : q_isn x.1 = false) (hs : q_step none j x (pc, L, st, M, k, n) = some (pc', L', st', M', k', n')) : g j pc L st M k n Q ↔ g j pc' L' st' M' k' n' Q :=
  (qG_step hc hk (Or.inl ht)).trans (qOb_eq hs)
theorem qOb_map {α β : Type} {o : Option α} {f : α → β} {K : β → Prop} : qOb (o.map f) K ↔ qOb o (fun v => K (f v)) := by
  cases o with
  | none =>
    constructor
    · rintro ⟨v, h, -⟩
      cases h
    · rintro ⟨v, h, -⟩
      cases h
  | some v => rw [Option.map_some, qOb_some, qOb_some]
theorem g_op {α : Type} {j pc k n : Nat} {L : qL} {st : List Value} {M : qM} {x : qX} {Q : qR → qM → Prop} {o : Option α} {fF : α → qF} (hc : q_code j pc = some x) (hk : q_kd x.1 = 0) (ht : q_isn x.1 = false) (hs : q_step none j x (pc, L, st, M, k, n) = o.map fF) : g j pc L st M k n Q ↔ qOb o (fun v => qG none j (fF v) Q) := by
  refine (qG_step hc hk (Or.inl ht)).trans ?_
  rw [hs]
  exact qOb_map
theorem g_br {j pc k n t : Nat} {L : qL} {st st' : List Value} {M : qM} {x : qX} {Q : qR → qM → Prop} {cnd : Prop} {dc : Decidable cnd} (hc : q_code j pc = some x) (hk : q_kd x.1 = 0) (ht : q_isn x.1 = false) (hs : q_step none j x (pc, L, st, M, k, n) = some (if decide cnd = true then t else pc + 3, L, st', M, k, n)) : g j pc L st M k n Q ↔ ((cnd → g j t L st' M k n Q) ∧ (¬ cnd → g j (pc + 3) L st' M k n Q)) := by
  refine (g_go hc hk ht hs).trans ?_
  by_cases h : cnd
  · simp [h]
  · simp [h]
theorem g_if {j pc k n pc' : Nat} {L L' : qL} {st st' : List Value} {M : qM} {x : qX} {Q : qR → qM → Prop} {cnd : Prop} {dc : Decidable cnd} (hc : q_code j pc = some x) (hk : q_kd x.1 = 0) (ht : q_isn x.1 = false) (hs : q_step none j x (pc, L, st, M, k, n) = ((if cnd then none else some st').map (fun s => (pc', L', s, M, k, n)))) : g j pc L st M k n Q ↔ (¬ cnd ∧ g j pc' L' st' M k n Q) := by
  refine (qG_step hc hk (Or.inl ht)).trans ?_
  rw [hs]
  by_cases h : cnd
  · simp only [h, if_true, not_true_eq_false, false_and, iff_false]
    rintro ⟨F, h1, -⟩
    cases h1
  · simp only [h, if_false, not_false_eq_true, true_and, Option.map_some]
    exact qOb_some
/-- what goes on behind a call -/
def kr (j pc : Nat) (L : qL) (rest : List Value) (k n : Nat) (Q : qR → qM → Prop) : qR → qM → Prop := fun r M' => match r with
  | .inl v => g j (pc + 3) L (v.toList ++ rest) M' k n Q
  | .inr e0 => match q_hnd j pc e0 with
    | some (h, p) => p < L.length ∧ g j h (qset1 L p none) [] M' k n Q
    | none => False
theorem kr_v {j pc : Nat} {L : qL} {rest : List Value} {k n : Nat} {Q : qR → qM → Prop} {v : Value} {M' : qM} : kr j pc L rest k n Q (.inl (some v)) M' ↔ g j (pc + 3) L (v :: rest) M' k n Q := Iff.rfl
theorem kr_n {j pc : Nat} {L : qL} {rest : List Value} {k n : Nat} {Q : qR → qM → Prop} {M' : qM} : kr j pc L rest k n Q (.inl none) M' ↔ g j (pc + 3) L rest M' k n Q := Iff.rfl
theorem q_scp_none {a : Nat} : q_scp a none = none := by
  unfold q_scp
  split <;> rfl
theorem g_cl {j pc k n a : Nat} {L : qL} {st as rest : List Value} {M : qM} {x : qX} {Q : qR → qM → Prop} (hc : q_code j pc = some x) (hk : q_kd x.1 = 1) (hcl : q_call x st = some (a, as, rest)) (ha : a < 900) (h0 : q_al a = false) (hk2 : k + q_mc a ≤ q_mc j) (hn2 : n + q_ms a ≤ q_ms j) (hl : (qexp as).length ≤ q_mL a) :
    g j pc L st M k n Q ↔ (q_rcv M x.2.2.2.2 a as = true ∧ cl a as M (kr j pc L rest (k + q_mc a) (n + q_ms a) Q)) := by
  have key : ∀ f, q_exec (f + 1) none j (pc, L, st, M, k, n) = if q_rcv M x.2.2.2.2 a as = true then (match q_exec f none a (0, qloc a as, [], M, 0, 0) with
      | none => none
      | some (.inl v, M') => q_exec f none j (pc + 3, L, v.toList ++ rest, M', k + q_mc a, n + q_ms a)
      | some (.inr e, M') => match q_hnd j pc e with
        | none => none
        | some (h, p) => if p < L.length then q_exec f none j (h, qset1 L p none, [], M', k + q_mc a, n + q_ms a) else none) else none := by
    intro f
    rw [q_execc hc hk]
    simp only [hcl, q_scp_none]
    rw [if_neg (Nat.not_le.mpr ha)]
    by_cases hr : q_rcv M x.2.2.2.2 a as = true
    · rw [if_pos ⟨hr, hk2, hn2, (fun q => by rw [h0] at q; cases q), hl⟩, if_pos hr]
    · rw [if_neg (fun q => hr q.1), if_neg hr]
  constructor
  · rintro ⟨f, r, M', h1, h2⟩
    cases f with
    | zero => exact absurd (show (none : Option (qR × qM)) = some (r, M') from h1) (fun q => by cases q)
    | succ f =>
      rw [key] at h1
      by_cases hr : q_rcv M x.2.2.2.2 a as = true
      · rw [if_pos hr] at h1
        refine ⟨hr, ?_⟩
        cases hcal : q_exec f none a (0, qloc a as, [], M, 0, 0) with
        | none => rw [hcal] at h1; cases h1
        | some y =>
          obtain ⟨r0, M1⟩ := y
          rw [hcal] at h1
          refine ⟨f, r0, M1, hcal, ?_⟩
          cases r0 with
          | inl v => exact ⟨f, r, M', h1, h2⟩
          | inr e0 =>
            simp only at h1
            show match q_hnd j pc e0 with
              | some (h, p) => p < L.length ∧ g j h (qset1 L p none) [] M1 (k + q_mc a) (n + q_ms a) Q
              | none => False
            cases hh : q_hnd j pc e0 with
            | none => rw [hh] at h1; cases h1
            | some y =>
              obtain ⟨h9, p9⟩ := y
              rw [hh] at h1
              simp only at h1 ⊢
              split at h1
              · rename_i hp9
                exact ⟨hp9, f, r, M', h1, h2⟩
              · cases h1
      · rw [if_neg hr] at h1
        cases h1
  · rintro ⟨hr, f1, r0, M1, h1, h2⟩
    cases r0 with
    | inl v =>
      obtain ⟨f2, r, M', h3, h4⟩ := h2
      refine ⟨max f1 f2 + 1, r, M', ?_, h4⟩
      rw [key, if_pos hr, q_mono (Nat.le_max_left f1 f2) h1]
      exact q_mono (Nat.le_max_right f1 f2) h3
    | inr e0 =>
      have h2 : match q_hnd j pc e0 with
        | some (h, p) => p < L.length ∧ g j h (qset1 L p none) [] M1 (k + q_mc a) (n + q_ms a) Q
        | none => False := h2
      cases hh : q_hnd j pc e0 with
      | none => rw [hh] at h2; exact h2.elim
      | some y =>
        obtain ⟨h9, p9⟩ := y
        rw [hh] at h2
        obtain ⟨hp9, f2, r, M', h3, h4⟩ := h2
        refine ⟨max f1 f2 + 1, r, M', ?_, h4⟩
        rw [key, if_pos hr, q_mono (Nat.le_max_left f1 f2) h1]
        simp only [hh]
        rw [if_pos hp9]
        exact q_mono (Nat.le_max_right f1 f2) h3
theorem g_rt {j pc k n : Nat} {L : qL} {st : List Value} {M : qM} {x : qX} {Q : qR → qM → Prop} {v : Option Value} (hc : q_code j pc = some x) (hk : q_kd x.1 = 2) (hr : q_ret j x.1 st = some v) : g j pc L st M k n Q ↔ Q (.inl v) M := by
  have key : ∀ f, q_exec (f + 1) none j (pc, L, st, M, k, n) = some (.inl v, M) := by
    intro f
    rw [q_execr hc hk]
    simp only [hr]
  constructor
  · rintro ⟨f, r, M', h1, h2⟩
    cases f with
    | zero => exact absurd (show (none : Option (qR × qM)) = some (r, M') from h1) (fun q => by cases q)
    | succ f =>
      rw [key] at h1
      cases h1
      exact h2
  · intro h
    exact ⟨1, _, _, key 0, h⟩
theorem g_rti {j pc k n : Nat} {L : qL} {st : List Value} {M : qM} {x : qX} {Q : qR → qM → Prop} {cnd : Prop} {dc : Decidable cnd} {v : Option Value} (hc : q_code j pc = some x) (hk : q_kd x.1 = 2) (hr : q_ret j x.1 st = if cnd then some v else none) : g j pc L st M k n Q ↔ (cnd ∧ Q (.inl v) M) := by
  by_cases h : cnd
  · rw [if_pos h] at hr
    rw [g_rt hc hk hr]
    simp [h]
  · rw [if_neg h] at hr
    simp only [h, false_and, iff_false]
    rintro ⟨f, r, M', h1, h2⟩
    cases f with
    | zero => exact absurd (show (none : Option (qR × qM)) = some (r, M') from h1) (fun q => by cases q)
    | succ f =>
      rw [q_execr hc hk] at h1
      simp only [hr] at h1
      cases h1
theorem g_th {j pc e0 : Nat} {L : qL} {M : qM} {x : qX} {Q : qR → qM → Prop} (hc : q_code j pc = some x) (hk : q_kd x.1 = 0) (hi : q_isn x.1 = true) (ha : x.2.2.1 = 1000 + e0) (he : e0 < 5) (h1 : 1 ≤ q_mc j) (h2 : 6 ≤ q_ms j) : g j pc L [] M 0 0 Q ↔ Q (.inr e0) M := by
  have key : ∀ f, q_exec (f + 1) none j (pc, L, [], M, 0, 0) = some (.inr e0, M) := by
    intro f
    rw [q_exec0 hc hk, if_pos ⟨by omega, by omega, hi⟩, if_pos ⟨by omega, by omega, by simp⟩, ha, Nat.add_sub_cancel_left]
  constructor
  · rintro ⟨f, r, M', h1, h2⟩
    cases f with
    | zero => exact absurd (show (none : Option (qR × qM)) = some (r, M') from h1) (fun q => by cases q)
    | succ f =>
      rw [key] at h1
      cases h1
      exact h2
  · intro h
    exact ⟨1, _, _, key 0, h⟩
theorem qinv_i {x : Int32} : qinv (some (.int x)) = some (.int x) := rfl
theorem qinv_r {x : Nat} : qinv (some (.ref x)) = some (.ref x) := rfl
theorem qinv_0 : qinv none = none := rfl
theorem qinv_l {x : Int64} : qinv (some (.long x)) = none := rfl
theorem qinv_d {x : UInt64} : qinv (some (.double x)) = none := rfl
theorem qinv_f {x : UInt32} : qinv (some (.float x)) = some (.float x) := rfl
