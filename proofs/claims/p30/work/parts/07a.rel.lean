/-! how the small machine's things lie in the machine's -/
def qt (ad : Nat → Nat) (v : Value) : Value := match v with
  | .ref a => .ref (ad a)
  | v => v
/-- what a row of references refers to -/
def qop (ad : Nat → Nat) (fs : List Value) (k : Nat) : Option Nat := match fs[k]? with
  | some (.ref a) => some (ad a)
  | _ => none
def qtE (CA : Nat → ClassId) (ad : Nat → Nat) (e : qE) : va_E := match e with
  | .inl (t, a) => .inl (CA t, a)
  | .inr (ci, fs) => if ci = 11 then .inl (CA 2, fs.length, .inr (.inr (.inr (.inr (qop ad fs))))) else .inr (ci, fs.map (qt ad))
theorem qtE_o {CA : Nat → ClassId} {ad : Nat → Nat} {ci : Nat} {fs : List Value} (h : ci < 10) : qtE CA ad (.inr (ci, fs)) = .inr (ci, fs.map (qt ad)) := if_neg (by omega)
theorem qtE_r {CA : Nat → ClassId} {ad : Nat → Nat} {fs : List Value} : qtE CA ad (.inr (11, fs)) = .inl (CA 2, fs.length, .inr (.inr (.inr (.inr (qop ad fs))))) := rfl
def qW (CA : Nat → ClassId) (ad : Nat → Nat) (M : qM) : va_W := M.zipIdx.map (fun p => (ad p.2, qtE CA ad p.1))
theorem qt_cat (ad : Nat → Nat) (v : Value) : (qt ad v).category = v.category := by cases v <;> rfl
theorem qcs_map (ad : Nat → Nat) (st : List Value) : ((st.map (qt ad)).map fun v => v.category).sum = q_cts st := by
  unfold q_cts
  rw [List.map_map]
  have : ((fun v : Value => v.category) ∘ qt ad) = (fun v => v.category) := funext (fun v => qt_cat ad v)
  rw [this]
theorem qt_int (ad : Nat → Nat) (x : Int32) : qt ad (.int x) = .int x := rfl
theorem qW_get (CA : Nat → ClassId) (ad : Nat → Nat) (M : qM) (k : Nat) : (qW CA ad M)[k]? = M[k]?.map (fun e => (ad k, qtE CA ad e)) := by
  simp only [qW, List.getElem?_map, List.getElem?_zipIdx, Option.map_map]
  cases M[k]? <;> simp
theorem qW_at {CA : Nat → ClassId} {ad : Nat → Nat} {M : qM} {k : Nat} {e : qE} (h : M[k]? = some e) : (qW CA ad M)[k]? = some (ad k, qtE CA ad e) := by
  rw [qW_get, h]; rfl
theorem qW_set {CA : Nat → ClassId} {ad : Nat → Nat} {M : qM} {k : Nat} {e : qE} : (qW CA ad M).set k (ad k, qtE CA ad e) = qW CA ad (M.set k e) := by
  apply List.ext_getElem?
  intro i
  rw [qW_get, List.getElem?_set, List.getElem?_set, qW_get]
  have hl : (qW CA ad M).length = M.length := by simp [qW]
  by_cases h : k = i
  · subst h
    simp only [if_true, hl]
    by_cases h2 : k < M.length <;> simp [h2]
  · simp only [if_neg h]
theorem qW_len (CA : Nat → ClassId) (ad : Nat → Nat) (M : qM) : (qW CA ad M).length = M.length := by simp [qW]
/-- two namings of the cells agree below n, and at the script -/
def qAg (n : Nat) (ad ad' : Nat → Nat) : Prop := ∀ k, k < n ∨ k = qSCR → ad' k = ad k
theorem qAg.rf {n : Nat} {ad : Nat → Nat} : qAg n ad ad := fun _ _ => rfl
theorem qAg.tr {n n2 : Nat} {a b c : Nat → Nat} (h : qAg n a b) (h2 : qAg n2 b c) (hn : n ≤ n2) : qAg n a c := fun k hk => (h2 k (hk.elim (fun q => Or.inl (by omega)) Or.inr)).trans (h k hk)
theorem qt_ag {n : Nat} {ad ad' : Nat → Nat} (h : qAg n ad ad') {v : Value} (hv : qscV n v = true) : qt ad' v = qt ad v := by
  cases v with
  | ref a =>
    simp only [qscV, Bool.or_eq_true, decide_eq_true_eq] at hv
    simp only [qt]
    rw [h a hv]
  | _ => rfl
theorem qtS_ag {n : Nat} {ad ad' : Nat → Nat} (h : qAg n ad ad') : ∀ {st : List Value}, qscS n st = true → st.map (qt ad') = st.map (qt ad)
  | [], _ => rfl
  | v :: st, hv => by
    simp only [qscS, List.all_cons, Bool.and_eq_true] at hv
    simp only [List.map_cons]
    rw [qt_ag h hv.1, qtS_ag h (st := st) hv.2]
/-- the known places of the locals -/
def ql (ad : Nat → Nat) (L : qL) : List (Nat × Value) := L.zipIdx.filterMap (fun p => p.1.map (fun v => (p.2, qt ad v)))
theorem ql_mem {ad : Nat → Nat} {L : qL} {i : Nat} {w : Value} : (i, w) ∈ ql ad L ↔ ∃ v, L[i]? = some (some v) ∧ w = qt ad v := by
  simp only [ql, List.mem_filterMap, Option.map_eq_some_iff, Prod.mk.injEq]
  constructor
  · rintro ⟨⟨o, j⟩, hm, v, ho, h1, h2⟩
    have h3 := List.mk_mem_zipIdx_iff_getElem?.mp hm
    simp only at ho h1
    subst h1
    subst ho
    exact ⟨v, h3, h2.symm⟩
  · rintro ⟨v, hv, rfl⟩
    refine ⟨(some v, i), ?_, v, rfl, rfl, rfl⟩
    rw [List.mk_mem_zipIdx_iff_getElem?]
    exact hv
def qLs (ad : Nat → Nat) (ls : Array Slot) (nL : Nat) (L : qL) : Prop := L.length = nL ∧ lv_has ls nL (ql ad L)
theorem lv_mono {ls : Array Slot} {nL : Nat} {l l' : List (Nat × Value)} (h : lv_has ls nL l) (hs : ∀ q ∈ l', q ∈ l) : lv_has ls nL l' := ⟨h.1, h.2.1, fun q hq => h.2.2 q (hs q hq)⟩
theorem qLs.ld {ad : Nat → Nat} {ls : Array Slot} {nL : Nat} {L : qL} (h : qLs ad ls nL L) {i : Nat} {v : Value} (hv : L[i]? = some (some v)) : ls[i]? = some (.val (qt ad v)) := h.2.2.2 (i, qt ad v) (ql_mem.mpr ⟨v, hv, rfl⟩)
theorem qLs.ag {ad ad' : Nat → Nat} {ls : Array Slot} {nL n : Nat} {L : qL} (h : qLs ad ls nL L) (ha : qAg n ad ad') (hL : qscL n L = true) : qLs ad' ls nL L := by
  refine ⟨h.1, lv_mono h.2 ?_⟩
  rintro ⟨i, w⟩ hq
  obtain ⟨v, hv, rfl⟩ := ql_mem.mp hq
  refine ql_mem.mpr ⟨v, hv, ?_⟩
  have h1 := List.all_eq_true.mp hL (some v) (List.mem_of_getElem? hv)
  exact qt_ag ha h1
theorem qinvL_len (L : qL) (n : Nat) : (qinvL L n).length = L.length := by
  unfold qinvL
  split
  · rfl
  · split <;> simp
theorem qinvL_get {L : qL} {n i : Nat} {v : Value} (h : (qinvL L n)[i]? = some (some v)) : L[i]? = some (some v) ∧ ¬ (i + 1 = n ∧ v.category = 2) := by
  unfold qinvL at h
  split at h
  · exact ⟨h, by omega⟩
  · rename_i m
    split at h
    · rename_i o ho
      rw [List.getElem?_set] at h
      by_cases hmi : m = i
      · subst hmi
        rw [if_pos rfl] at h
        split at h
        · simp only [Option.some.injEq] at h
          unfold qinv at h
          split at h
          · rename_i w
            split at h
            · rename_i hc
              simp only [Option.some.injEq] at h
              subst h
              simp only [qcat1, beq_iff_eq] at hc
              exact ⟨ho, by omega⟩
            · cases h
          · cases h
        · cases h
      · rw [if_neg hmi] at h
        exact ⟨h, by omega⟩
    · rename_i ho
      refine ⟨h, ?_⟩
      rintro ⟨h1, -⟩
      have : i = m := by omega
      subst this
      rw [ho] at h
      cases h
theorem qset1_len (L : qL) (n : Nat) (o : Option Value) : (qset1 L n o).length = L.length := by simp [qset1, qinvL_len]
theorem qset2_len (L : qL) (n : Nat) (o : Option Value) : (qset2 L n o).length = L.length := by simp [qset2, qinvL_len]
theorem qLs.st1 {ad : Nat → Nat} {ls ls' : Array Slot} {nL n : Nat} {L : qL} {w : Value} (h : qLs ad ls nL L) (v : Option Value) (hv : ∀ x, v = some x → w = qt ad x)
    (h2 : lv_has ls' nL ((n, w) :: (ql ad L).filter (fun q => !(q.1 == n) && !(q.1 + 1 == n && q.2.category == 2)))) : qLs ad ls' nL (qset1 L n v) := by
  refine ⟨(qset1_len L n v).trans h.1, lv_mono h2 ?_⟩
  rintro ⟨i, u⟩ hq
  obtain ⟨x, hx, rfl⟩ := ql_mem.mp hq
  unfold qset1 at hx
  rw [List.getElem?_set] at hx
  by_cases hni : n = i
  · subst hni
    rw [if_pos rfl] at hx
    split at hx
    · simp only [Option.some.injEq] at hx
      rw [hv x hx]
      exact List.mem_cons_self
    · cases hx
  · rw [if_neg hni] at hx
    obtain ⟨h3, h4⟩ := qinvL_get hx
    refine List.mem_cons_of_mem _ (List.mem_filter.mpr ⟨ql_mem.mpr ⟨x, h3, rfl⟩, ?_⟩)
    simp only [qt_cat, Bool.and_eq_true, Bool.not_eq_true', beq_eq_false_iff_ne, ne_eq, Bool.and_eq_false_iff, beq_eq_false_iff_ne]
    refine ⟨fun q => hni q.symm, ?_⟩
    by_cases h5 : i + 1 = n
    · exact Or.inr (fun q => h4 ⟨h5, q⟩)
    · exact Or.inl h5
theorem qLs.st2 {ad : Nat → Nat} {ls ls' : Array Slot} {nL n : Nat} {L : qL} {w v : Value} (h : qLs ad ls nL L) (hv : w = qt ad v)
    (h2 : lv_has ls' nL ((n, w) :: (ql ad L).filter (fun q => !(q.1 == n) && (!(q.1 == n + 1) && !(q.1 + 1 == n && q.2.category == 2))))) : qLs ad ls' nL (qset2 L n (some v)) := by
  refine ⟨(qset2_len L n _).trans h.1, lv_mono h2 ?_⟩
  rintro ⟨i, u⟩ hq
  obtain ⟨x, hx, rfl⟩ := ql_mem.mp hq
  unfold qset2 at hx
  rw [List.getElem?_set] at hx
  by_cases hn1 : n + 1 = i
  · rw [if_pos hn1] at hx
    split at hx <;> cases hx
  · rw [if_neg hn1, List.getElem?_set] at hx
    by_cases hni : n = i
    · subst hni
      rw [if_pos rfl] at hx
      split at hx
      · simp only [Option.some.injEq] at hx
        rw [hv, hx]
        exact List.mem_cons_self
      · cases hx
    · rw [if_neg hni] at hx
      obtain ⟨h3, h4⟩ := qinvL_get hx
      refine List.mem_cons_of_mem _ (List.mem_filter.mpr ⟨ql_mem.mpr ⟨x, h3, rfl⟩, ?_⟩)
      simp only [qt_cat, Bool.and_eq_true, Bool.not_eq_true', beq_eq_false_iff_ne, ne_eq, Bool.and_eq_false_iff, beq_eq_false_iff_ne]
      refine ⟨fun q => hni q.symm, fun q => hn1 q.symm, ?_⟩
      by_cases h5 : i + 1 = n
      · exact Or.inr (fun q => h4 ⟨h5, q⟩)
      · exact Or.inl h5
/-- the entry's locals -/
theorem qexp_get : ∀ (vs : List Value) (i k : Nat) (v : Value), (qexp vs)[k]? = some (some v) → (i + k, v) ∈ lv_args i vs
  | [], i, k, v, h => by simp [qexp] at h
  | w :: vs, i, k, v, h => by
    unfold qexp at h
    unfold lv_args
    split at h
    · rename_i hc
      simp only [qcat1, beq_iff_eq] at hc
      rw [if_neg (by omega)]
      cases k with
      | zero =>
        simp only [List.getElem?_cons_zero, Option.some.injEq] at h
        subst h
        exact List.mem_cons_self
      | succ k =>
        rw [List.getElem?_cons_succ] at h
        have := qexp_get vs (i + 1) k v h
        rw [show i + (k + 1) = i + 1 + k by omega]
        exact List.mem_cons_of_mem _ this
    · rename_i hc
      have hc2 : w.category = 2 := by
        have := lv_cat w
        simp only [qcat1, beq_iff_eq] at hc
        omega
      rw [if_pos hc2]
      cases k with
      | zero =>
        simp only [List.getElem?_cons_zero, Option.some.injEq] at h
        subst h
        exact List.mem_cons_self
      | succ k =>
        rw [List.getElem?_cons_succ] at h
        cases k with
        | zero => simp at h
        | succ k =>
          rw [List.getElem?_cons_succ] at h
          have := qexp_get vs (i + 2) k v h
          rw [show i + (k + 1 + 1) = i + 2 + k by omega]
          exact List.mem_cons_of_mem _ this
theorem lv_args_map (ad : Nat → Nat) : ∀ (vs : List Value) (i : Nat), lv_args i (vs.map (qt ad)) = (lv_args i vs).map (fun q => (q.1, qt ad q.2))
  | [], _ => rfl
  | v :: vs, i => by
    simp only [List.map_cons, lv_args, qt_cat]
    split <;> rw [lv_args_map ad vs]
theorem qexp_len : ∀ (ad : Nat → Nat) (vs : List Value), (lg_sl (vs.map (qt ad))).length = (qexp vs).length
  | _, [] => rfl
  | ad, v :: vs => by
    have ih := qexp_len ad vs
    have e : lg_sl ((v :: vs).map (qt ad)) = (if (qt ad v).category = 2 then [.val (qt ad v), .second] else [.val (qt ad v)]) ++ lg_sl (vs.map (qt ad)) := rfl
    rw [e]
    unfold qexp
    rcases lv_cat v with h | h
    · rw [qt_cat, if_neg (by omega), if_pos (by simp [qcat1, h])]
      simp [ih]
    · rw [qt_cat, if_pos h, if_neg (by simp [qcat1, h])]
      simp [ih]
theorem qloc_ok {ad : Nat → Nat} {j : Nat} {vs : List Value} (h : (qexp vs).length ≤ q_mL j) :
    qLs ad ((lg_sl (vs.map (qt ad)) ++ List.replicate (q_mL j - (lg_sl (vs.map (qt ad))).length) Slot.unset).toArray) (q_mL j) (qloc j vs) := by
  refine ⟨by simp only [qloc, List.length_append, List.length_replicate]; omega, lv_mono (lv_entry (vs.map (qt ad)) (n := q_mL j) (by rw [qexp_len]; exact h)) ?_⟩
  rintro ⟨i, u⟩ hq
  obtain ⟨x, hx, rfl⟩ := ql_mem.mp hq
  unfold qloc at hx
  have h1 : (qexp vs)[i]? = some (some x) := by
    by_cases hi : i < (qexp vs).length
    · rwa [List.getElem?_append_left hi] at hx
    · rw [List.getElem?_append_right (by omega), List.getElem?_replicate] at hx
      split at hx <;> cases hx
  have h2 := qexp_get vs 0 i x h1
  rw [Nat.zero_add] at h2
  rw [lv_args_map]
  exact List.mem_map.mpr ⟨(i, x), h2, rfl⟩
