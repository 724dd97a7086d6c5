/-! what is made, and one step altogether -/
theorem q_nw_spec {oc idx a : Nat} (h : q_isnw oc idx a = true) : a < 10 ∧ Cond.classLink (q_rn oc) idx (q_rn a) ∈ q_GW := by
  obtain ⟨q, hq, h1⟩ := List.any_eq_true.mp h
  simp only [Bool.and_eq_true, beq_iff_eq] at h1
  have h2 := List.all_eq_true.mp q_nw_ok q hq
  simp only [Bool.and_eq_true, decide_eq_true_eq] at h2
  obtain ⟨e1, e2, e3⟩ := h1
  rw [e1, e2, e3] at h2
  exact ⟨h2.1, q_wat_in h2.2⟩
theorem q_ct_spec {oc idx a : Nat} (h : q_isct oc idx a = true) : Cond.constant (q_rn oc) idx (Int32.ofNat a) ∈ q_GW := by
  obtain ⟨q, hq, h1⟩ := List.any_eq_true.mp h
  simp only [Bool.and_eq_true, beq_iff_eq] at h1
  have h2 := List.all_eq_true.mp q_ct_ok q hq
  obtain ⟨e1, e2, e3⟩ := h1
  rw [e1, e2, e3] at h2
  exact q_wat_in h2
theorem q_df_no : ∀ ci, ci < 10 → (q_df ci).all (fun v => decide (q_kind v ≠ 4)) = true := by decide +kernel
theorem q_df_qt {ci : Nat} (h : ci < 10) (ad : Nat → Nat) : (q_df ci).map (qt ad) = q_df ci := by
  have h1 := List.all_eq_true.mp (q_df_no ci h)
  have : ∀ v ∈ q_df ci, qt ad v = v := by
    intro v hv
    have h2 := h1 v hv
    cases v <;> first | rfl | exact absurd h2 (by simp [q_kind])
  rw [List.map_congr_left this]
  exact List.map_id' _
def qadd (ad : Nat → Nat) (n q : Nat) : Nat → Nat := fun k => if k = n then q else ad k
theorem qadd_ag {ad : Nat → Nat} {n q : Nat} (h : n < qSCR) : qAg n ad (qadd ad n q) := by
  intro k hk
  unfold qadd
  rw [if_neg]
  rcases hk with hk | hk <;> omega
theorem qtE_ag {CA : Nat → ClassId} {n : Nat} {ad ad' : Nat → Nat} (h : qAg n ad ad') {e : qE} (he : qscM n [e] = true) : qtE CA ad' e = qtE CA ad e := by
  cases e with
  | inl a => rfl
  | inr b =>
    obtain ⟨ci, fs⟩ := b
    have h1 : qscS n fs = true := by simpa [qscM] using he
    unfold qtE
    by_cases hc : ci = 11
    · simp only [hc, if_true]
      have e : qop ad' fs = qop ad fs := by
        funext k
        unfold qop
        cases hk : fs[k]? with
        | none => rfl
        | some v =>
          cases v with
          | ref a =>
            have h2 := List.all_eq_true.mp h1 (.ref a) (List.mem_of_getElem? hk)
            have h3 := qt_ag h (v := .ref a) h2
            simp only [qt, Value.ref.injEq] at h3
            simp only [h3]
          | _ => rfl
      rw [e]
    · simp only [hc, if_false]
      rw [qtS_ag h h1]
theorem qscM_at {n : Nat} {M : qM} (h : qscM n M = true) {k : Nat} {e : qE} (he : M[k]? = some e) : qscM n [e] = true := by
  have h1 := List.all_eq_true.mp h e (List.mem_of_getElem? he)
  simp only [qscM, List.all_cons, List.all_nil, Bool.and_true]
  exact h1
theorem qW_push {CA : Nat → ClassId} {ad ad' : Nat → Nat} {M : qM} {e : qE} (h : qAg M.length ad ad') (hs : qscM M.length M = true) : qW CA ad' (M ++ [e]) = qW CA ad M ++ [(ad' M.length, qtE CA ad' e)] := by
  apply List.ext_getElem?
  intro i
  rw [qW_get]
  rcases Nat.lt_trichotomy i M.length with h1 | h1 | h1
  · rw [List.getElem?_append_left h1, List.getElem?_append_left (by rw [qW_len]; exact h1), qW_get]
    cases hM : M[i]? with
    | none => rfl
    | some x =>
      simp only [Option.map_some]
      rw [h i (Or.inl h1), qtE_ag h (qscM_at hs hM)]
  · subst h1
    rw [List.getElem?_append_right (Nat.le_refl _), List.getElem?_append_right (by rw [qW_len]; exact Nat.le_refl _), qW_len]
    simp
  · rw [List.getElem?_append_right (by omega), List.getElem?_append_right (by rw [qW_len]; omega), qW_len]
    rw [List.getElem?_eq_none (by simp; omega), List.getElem?_eq_none (by simp; omega)]
    rfl
theorem qmk_inv {al : Bool} {L : qL} {st st' : List Value} {M M' : qM} {e : qE} (h : qmk al L st M e = some (st', M')) : al = true ∧ M.length < qSCR ∧ qscM M.length M = true ∧ qscL M.length L = true ∧ qscS M.length st = true ∧ qscM M.length [e] = true ∧ st' = .ref M.length :: st ∧ M' = M ++ [e] := by
  unfold qmk at h
  obtain ⟨⟨h1, h2, h3, h4, h5, h6⟩, h7⟩ := qif_some h
  cases h7
  exact ⟨h1, h2, h3, h4, h5, h6, rfl, rfl⟩
section QS3
variable {p : Program} {l : Launch} {e : Env} {R : Room} {s : State} {m : MethodId} {args : Array Value} {below : List Frame} {meth : Method} {c : Code} {H : Heap} {locs : List Loc} {cells slots : Nat} {Q : State → Prop}
variable {pc j : Nat} {ls : Array Slot} {ad : Nat → Nat} {Ts : List Cond} {CA : Nat → ClassId} {D : va_G} {A : Nat → Prop} {M : qM}
theorem qs_new (C : qCx p l s m args meth c R j Ts CA D A) (hP : va_P D q_cl (qW CA ad M) H) (hD : va_D A (qW CA ad M)) (hS : va_S A s.heap H locs) {idx a nL : Nat} {L : qL} {st st' : List Value} {M' : qM} (h : qmk (q_al j) L st M (.inr (a, q_df a)) = some (st', M')) (hl : qLs ad ls nL L)
    (hk : q_isnw (q_oc j) idx a = true) (hc : cells + 1 ≤ q_mc j) (hn : slots + q_N a ≤ q_ms j) (hd : decode (q_b j) pc = .ok (.new idx, 3))
    (k : ∀ (ad' : Nat → Nat) (H1 : Heap), qAg M.length ad ad' → va_P D q_cl (qW CA ad' M') H1 → va_D A (qW CA ad' M') → va_S A s.heap H1 locs → qLs ad' ls nL L → W p l e R s m args below meth c H1 locs (cells + 1) (slots + q_N a) Q (F0 m (pc + 3) ls (List.map (qt ad') st'))) : W p l e R s m args below meth c H locs cells slots Q (F0 m pc ls (List.map (qt ad) st)) := by
  obtain ⟨⟨hx, hb, -, hown⟩, ⟨hts, hgw⟩, -, ⟨-, -, hr1, hr2⟩, ⟨-, hK, hA, hX⟩⟩ := C
  obtain ⟨-, h2, h3, h4, h5, h6, rfl, rfl⟩ := qmk_inv h
  obtain ⟨h7, h8⟩ := q_nw_spec hk
  obtain ⟨w1, w2, w3⟩ := q_cws h7
  refine va_new hx hb hts (fun w hw => hgw w (w1 w hw)) (q_ty a) (q_ty_ok a h7) hown (hts _ (hgw _ h8)) (hts _ (hgw _ w2)) (hts _ (hgw _ w3)) hK hP hD hS hA (q_cl_at a h7) (q_df_ok a h7) (by rw [hr1]; exact hc) (by rw [hr2]; exact hn) hd (fun q H1 g1 g2 g3 => ?_)
  have ha := qadd_ag (ad := ad) (q := q) h2
  have eW : qW CA (qadd ad M.length q) (M ++ [.inr (a, q_df a)]) = qW CA ad M ++ [(q, .inr (a, q_df a))] := by
    rw [qW_push ha h3, show qadd ad M.length q M.length = q by simp [qadd]]
    rw [qtE_o h7, q_df_qt h7]
  have := k (qadd ad M.length q) H1 ha (by rw [eW]; exact g1) (by rw [eW]; exact g2) g3 (hl.ag ha h4)
  rw [List.map_cons, qtS_ag ha h5] at this
  simpa [qt, qadd] using this
theorem q_at_inv {t : ArrayType} {u : Nat} {g : Nat → vp_A} (h : q_at t = some (u, g)) : ∃ ty, newarray.typeOf t = ty ∧ (qTy CA)[u]? = some (CA u, ty) ∧ (∀ (n : Nat) (cA : ClassId), vp_cell cA (g n) = arrV cA n (fun _ => defaultValue ty)) ∧ Cond.arrayClass ty ∈ q_GW ∧ componentBytes ty ≤ 8 := by
  obtain ⟨a1, a2⟩ := q_arr
  cases t
  case int => cases (show some (0, _) = some (u, g) from h); exact ⟨.int, rfl, rfl, fun _ _ => rfl, q_wat_in a1, by decide⟩
  case char => cases (show some (1, _) = some (u, g) from h); exact ⟨.char, rfl, rfl, fun _ _ => rfl, q_wat_in a2, by decide⟩
  all_goals exact absurd (show (none : Option (Nat × (Nat → vp_A))) = some (u, g) from h) (fun q => by cases q)
theorem qs_newa (C : qCx p l s m args meth c R j Ts CA D A) (hP : va_P D q_cl (qW CA ad M) H) (hD : va_D A (qW CA ad M)) (hS : va_S A s.heap H locs) {t : ArrayType} {u nL : Nat} {g : Nat → vp_A} {y : Int32} {L : qL} {st st' : List Value} {M' : qM} (ht : q_at t = some (u, g)) (hy : 0 ≤ y) (hy2 : y.toNatClampNeg ≤ 10000) (h : qmk (q_al j) L st M (.inl (u, g y.toNatClampNeg)) = some (st', M')) (hl : qLs ad ls nL L)
    (hc : cells + 1 ≤ q_mc j) (hn : slots + y.toNatClampNeg ≤ q_ms j) (hd : decode (q_b j) pc = .ok (.newarray t, 2))
    (k : ∀ (ad' : Nat → Nat) (H1 : Heap), qAg M.length ad ad' → va_P D q_cl (qW CA ad' M') H1 → va_D A (qW CA ad' M') → va_S A s.heap H1 locs → qLs ad' ls nL L → W p l e R s m args below meth c H1 locs (cells + 1) (slots + y.toNatClampNeg) Q (F0 m (pc + 2) ls (List.map (qt ad') st'))) : W p l e R s m args below meth c H locs cells slots Q (F0 m pc ls (List.map (qt ad) (.int y :: st))) := by
  obtain ⟨⟨hx, hb, -, hown⟩, ⟨hts, hgw⟩, -, ⟨-, -, hr1, hr2⟩, ⟨-, hK, hA, hX⟩⟩ := C
  obtain ⟨-, h2, h3, h4, h5, h6, rfl, rfl⟩ := qmk_inv h
  obtain ⟨ty, t1, t2, t3, t4, t5⟩ := q_at_inv (CA := CA) ht
  refine va_newa hx hb (by rw [t1]; exact hts _ (hgw _ t4)) t1 hK hP hD hS hA (a0 := g y.toNatClampNeg) (N' := y.toNatClampNeg) (t3 _) (by exact Int32.not_lt.mpr hy) rfl (by
      have : y.toNatClampNeg * componentBytes ty ≤ 10000 * 8 := Nat.mul_le_mul hy2 t5
      omega) (by rw [hr1]; exact hc) (by rw [hr2]; exact hn) hd (fun q cA H1 g0 g1 g2 g3 => ?_)
  have hcA : cA = CA u := by
    have e1 := (g0.2 3 (cA, ty) rfl).2
    have e2 := (hK.2 u (CA u, ty) t2).2
    subst t1
    cases t
    all_goals first
      | exact Option.some.inj ((show s.vm.findClass _ = some cA from e1).symm.trans (show s.vm.findClass _ = some (CA u) from e2))
  subst hcA
  have ha := qadd_ag (ad := ad) (q := q) h2
  have eW : qW CA (qadd ad M.length q) (M ++ [.inl (u, g y.toNatClampNeg)]) = qW CA ad M ++ [(q, .inl (CA u, g y.toNatClampNeg))] := by
    rw [qW_push ha h3, show qadd ad M.length q M.length = q by simp [qadd]]
    rfl
  have := k (qadd ad M.length q) H1 ha (by rw [eW]; exact g1) (by rw [eW]; exact g2) g3 (hl.ag ha h4)
  rw [List.map_cons, qtS_ag ha h5] at this
  simpa [qt, qadd] using this
/-- the plain rest of q_step -/
def q_gen (i : Instr) (len a : Nat) (F : qF) : Option qF := match F with
  | (pc, L, st, M, k, n) => match q_ld i with
    | some (kd, p) => (qdoLd kd p L st).map (fun s => (pc + len, L, s, M, k, n))
    | none => match q_sto i with
      | some (kd, p) => (qdoSt kd p L st).map (fun s => (pc + len, s.1, s.2, M, k, n))
      | none => match q_br i st with
        | some (t, r) => some (if t = true then a else pc + 3, L, r, M, k, n)
        | none => (q_pl i st).map (fun s => (pc + len, L, s, M, k, n))
theorem q_br_off {i : Instr} {st : List Value} {z : Bool × List Value} (h : q_br i st = some z) {len a b c9 : Nat} (hc : q_chk j pc (i, len, a, b, c9) = true) : len = 3 ∧ (pc : Int) + q_off i = (a : Int) := by
  unfold q_chk at hc
  simp only [Bool.and_eq_true, decide_eq_true_eq] at hc
  cases i
  case goto => simpa [q_off] using hc.2
  case ifCond => simpa [q_off] using hc.2
  case if_icmp => simpa [q_off] using hc.2
  all_goals exact absurd (show (none : Option (Bool × List Value)) = some z from h) (fun q => by cases q)
def q_nb (i : Instr) : Bool := match i with
  | .anewarray _ => false
  | .multianewarray _ _ => false
  | .getfield _ => false
  | .putfield _ => false
  | .new _ => false
  | .invokevirtual _ => false
  | .invokestatic _ => false
  | .invokespecial _ => false
  | .ldc _ => false
  | .ldc_w _ => false
  | .goto _ => false
  | .ifCond _ _ => false
  | .if_icmp _ _ => false
  | .tableswitch _ _ _ _ => false
  | _ => true
theorem q_chk_len {i : Instr} (hi : q_nb i = true) {len a b c9 : Nat} (hc : q_chk j pc (i, len, a, b, c9) = true) : len = q_len i := by
  unfold q_chk at hc
  simp only [Bool.and_eq_true, decide_eq_true_eq] at hc
  cases i
  case getfield => exact absurd hi (by simp [q_nb])
  case putfield => exact absurd hi (by simp [q_nb])
  case new => exact absurd hi (by simp [q_nb])
  case invokevirtual => exact absurd hi (by simp [q_nb])
  case invokestatic => exact absurd hi (by simp [q_nb])
  case invokespecial => exact absurd hi (by simp [q_nb])
  case ldc => exact absurd hi (by simp [q_nb])
  case ldc_w => exact absurd hi (by simp [q_nb])
  case goto => exact absurd hi (by simp [q_nb])
  case ifCond => exact absurd hi (by simp [q_nb])
  case if_icmp => exact absurd hi (by simp [q_nb])
  case tableswitch => exact absurd hi (by simp [q_nb])
  case anewarray => exact absurd hi (by simp [q_nb])
  case multianewarray => exact absurd hi (by simp [q_nb])
  all_goals exact of_decide_eq_true (show decide (len = _) = true from hc.2)
theorem q_chk_dec {x : qX} (hc : q_chk j pc x = true) : decode (q_b j) pc = .ok (x.1, x.2.1) := by
  obtain ⟨i, len, a, b, c9⟩ := x
  unfold q_chk at hc
  simp only [Bool.and_eq_true, decide_eq_true_eq] at hc
  exact hc.1
theorem q_ld_nb {i : Instr} {z : Nat × Nat} (h : q_ld i = some z) : q_nb i = true := by
  cases i <;> first | rfl | exact absurd (show (none : Option (Nat × Nat)) = some z from h) (fun q => by cases q)
theorem q_sto_nb {i : Instr} {z : Nat × Nat} (h : q_sto i = some z) : q_nb i = true := by
  cases i <;> first | rfl | exact absurd (show (none : Option (Nat × Nat)) = some z from h) (fun q => by cases q)
theorem q_pl_nb {i : Instr} {st : List Value} {z : List Value} (h : q_pl i st = some z) : q_nb i = true := by
  cases i <;> first | rfl | exact absurd (show (none : Option (List Value)) = some z from h) (fun q => by cases q)
theorem qs_gen (C : qCx p l s m args meth c R j Ts CA D A) {i : Instr} {len a b c9 k n nL : Nat} {L : qL} {st : List Value} {F' : qF} (hc : q_chk j pc (i, len, a, b, c9) = true) (h : q_gen i len a (pc, L, st, M, k, n) = some F') (hl : qLs ad ls nL L)
    (kk : ∀ ls', F'.2.2.2 = (M, k, n) → qLs ad ls' nL F'.2.1 → W p l e R s m args below meth c H locs cells slots Q (F0 m F'.1 ls' (List.map (qt ad) F'.2.2.1))) : W p l e R s m args below meth c H locs cells slots Q (F0 m pc ls (List.map (qt ad) st)) := by
  obtain ⟨⟨hx, hb, -, -⟩, -, -, -, -⟩ := C
  have hd := q_chk_dec hc
  unfold q_gen at h
  simp only at h hd
  split at h
  · rename_i kd q hld
    obtain ⟨st', h1, rfl⟩ := Option.map_eq_some_iff.mp h
    have hlen := q_chk_len (q_ld_nb hld) hc
    subst hlen
    exact qs_ld hx hb hld h1 hl hd (kk ls rfl hl)
  · split at h
    · rename_i kd q hst
      obtain ⟨⟨L', st'⟩, h1, rfl⟩ := Option.map_eq_some_iff.mp h
      have hlen := q_chk_len (q_sto_nb hst) hc
      subst hlen
      exact qs_st hx hb hst h1 hl hd (fun ls' hl' => kk ls' rfl hl')
    · split at h
      · rename_i t r hbr
        cases h
        obtain ⟨h1, h2⟩ := q_br_off hbr hc
        subst h1
        exact qs_br hx hb hbr hd h2 (kk ls rfl hl)
      · obtain ⟨st', h1, rfl⟩ := Option.map_eq_some_iff.mp h
        have hlen := q_chk_len (q_pl_nb h1) hc
        subst hlen
        exact qs_pl hx hb h1 hd (kk ls rfl hl)
end QS3
