/-! the context of a body, and the steps that touch the heap -/
def qTy (CA : Nat → ClassId) : List (ClassId × FieldType) := [(CA 0, .int), (CA 1, .char), (CA 2, .array .int)]
def qXB (A : Nat → Prop) (U : State) (H : Heap) : Prop := vx_Zq Bundle.tN "UNASSIGNED_STACK" Bundle.steD A U H ∧ vx_Zq Bundle.tN "SUPPRESSED_SENTINEL" Bundle.listD A U H ∧ (∀ w ∈ q_NW, va_Nw w U) ∧ (∀ q ∈ q_NC, va_Nc q.1 q.2 U) ∧ (∀ q ∈ q_ST, ∃ a, vk_R (q_rn 9) q.1 q.2 a U) ∧ va_Nw (.arrayOver (.array .int)) U
theorem q_AO_warm {s U : State} (hW : s.WarmedH U.vm) (h : va_Nw (.arrayOver (.array .int)) s) : va_Nw (.arrayOver (.array .int)) U := by
  have hvm := hW.alike
  obtain ⟨comp, c, k, h1, h2, h3, h4, h5⟩ := arrayOverA_spec h
  obtain ⟨k', hk', he⟩ := hvm.2.2 _ _ h3
  have hi : (U.vm.classes.findIdx? fun (x : Class) => match x.kind with | .array component _ => component == comp | _ => false) = some c := by
    rw [hvm.findIdx?_eq _ (fun _ => rfl)]
    exact h2
  have hkind : k'.kind = .array comp (.array .int) := by rw [he]; exact h4
  have f1 : U.vm.findClass (FieldType.array .int).toString = some comp := by rw [hvm.findClass]; exact h1
  have f2 : U.vm.findClass ("[" ++ (FieldType.array .int).toString) = some c := by rw [hvm.findClass]; exact h5
  unfold va_Nw Cond.before Cond.holds
  simp only [Cond.value]
  rw [f1, Option.bind_some]
  refine (congrArg (fun o : Option Nat => (o.bind (fun c => (U.vm.classes[c]?).map fun (k : Class) => match k.kind with | .array _ ty => decide (ty = FieldType.array .int) && decide (U.vm.findClass ("[" ++ (FieldType.array .int).toString) = some c) | _ => false) == some true)) hi).trans ?_
  simp [hk', hkind, f2]
theorem q_nw_warm {w : Cond} (hk : q_nk w = true) {s U : State} (hW : s.WarmedH U.vm) (h : va_Nw w s) : va_Nw w U := by
  cases w
  case fieldLinkNest => exact va_Nw.warmF hW h
  case methodLinkNest => exact va_Nw.warmM hW h
  case castable => exact va_Nw.warmC hW h
  case declares => exact va_Nw.warmD hW h
  all_goals exact absurd (show false = true from hk) (by decide)
theorem qXB.warm {A : Nat → Prop} {s U : State} {H : Heap} (hW : s.WarmedH U.vm) (h : qXB A s H) : qXB A U H := by
  obtain ⟨h1, h2, h3, h4, h5, h6⟩ := h
  refine ⟨vx_Zq.moved hW.alike h1, vx_Zq.moved hW.alike h2, fun w hw => q_nw_warm (List.all_eq_true.mp q_NW_nk w hw) hW (h3 w hw), fun q hq => va_Nc.moved hW.alike (h4 q hq), fun q hq => ?_, q_AO_warm hW h6⟩
  obtain ⟨a, ha⟩ := h5 q hq
  exact ⟨a, vk_R.warm hW ha⟩
theorem qXB.kept {A : Nat → Prop} {U : State} {H H1 : Heap} (h : qXB A U H) (hq : ∀ a : Nat, a < H.size → ¬ A a → H1[a]? = H[a]?) : qXB A U H1 := ⟨vx_Zq.kept h.1 hq, vx_Zq.kept h.2.1 hq, h.2.2⟩
theorem qXB.narrow {A B : Nat → Prop} {U : State} {H : Heap} (h : qXB A U H) (hAB : ∀ q, B q → A q) : qXB B U H := ⟨vx_Zq.narrow h.1 hAB, vx_Zq.narrow h.2.1 hAB, h.2.2⟩
def qScr_ok (scr : qScr) (A : Nat → Prop) (ad : Nat → Nat) (s : State) : Prop := match scr with
  | none => True
  | some (L, xs) => va_X (ad qSCR) L xs s s.heap ∧ ad qSCR < s.heap.size ∧ ¬ A (ad qSCR) ∧ L < 2147483648
theorem qScr_ok.ag {scr : qScr} {A : Nat → Prop} {ad ad' : Nat → Nat} {s : State} {n : Nat} (h : qScr_ok scr A ad s) (ha : qAg n ad ad') : qScr_ok scr A ad' s := by
  cases scr with
  | none => exact trivial
  | some z =>
    obtain ⟨L, xs⟩ := z
    have e : ad' qSCR = ad qSCR := ha qSCR (Or.inr rfl)
    unfold qScr_ok at h ⊢
    simp only [e]
    exact h
theorem qScr_ok.sub {scr : qScr} {A B : Nat → Prop} {ad : Nat → Nat} {s U : State} (h : qScr_ok scr A ad s) (hW : s.vm.Alike U.vm) (hsz : s.heap.size ≤ U.heap.size) (hq : ∀ a : Nat, a < s.heap.size → ¬ A a → U.heap[a]? = s.heap[a]?) (hB : ∀ q, B q → A q) : qScr_ok scr B ad U := by
  cases scr with
  | none => exact trivial
  | some z =>
    obtain ⟨L, xs⟩ := z
    unfold qScr_ok at h ⊢
    obtain ⟨h1, h2, h3, h4⟩ := h
    exact ⟨va_X.moved hW (h1.kept (hq _ h2 h3)), Nat.lt_of_lt_of_le h2 hsz, fun q => h3 (hB _ q), h4⟩
/-- what holds throughout a body of method j -/
def qCx (p : Program) (l : Launch) (s : State) (m : MethodId) (args : Array Value) (meth : Method) (c : Code) (R : Room) (j : Nat) (Ts : List Cond) (CA : Nat → ClassId) (D : va_G) (A : Nat → Prop) : Prop :=
  (p.tables.exec = Jvm.exec ∧ c.code = q_b j ∧ c.maxLocals = q_mL j ∧ s.vm.findClass (q_rn (q_oc j)) = some m.cls) ∧ ((∀ w ∈ Ts, w.before args s = true) ∧ (∀ w ∈ q_GW, w ∈ Ts)) ∧
  (meth.sig.returnType = q_rt j ∧ meth.locks = false ∧ ((q_y j).name = "<init>" → meth.name = "<init>") ∧ (q_oc j = 9 ∨ q_hh j ≠ [] → c.exceptionTable.toList = tableOf (q_hh j))) ∧ (R.frames = q_fr j ∧ R.locals = q_lo j ∧ R.cells = q_mc j ∧ R.slots = q_ms j) ∧
  (l.stackTraces = false ∧ va_K D q_cl (qTy CA) s ∧ (∀ q, s.heap.size ≤ q → A q) ∧ qXB A s s.heap)
theorem q_fl_spec {oc idx a b : Nat} (h : q_isfl oc idx a b = true) : b < q_N a ∧ a < 10 ∧ Cond.fieldLink (q_rn oc) idx (q_T a b).1 (q_T a b).2.1 (q_T a b).2.2.1 ∈ q_GW := by
  obtain ⟨q, hq, h1⟩ := List.any_eq_true.mp h
  simp only [Bool.and_eq_true, beq_iff_eq] at h1
  have h2 := List.all_eq_true.mp q_fl_ok q hq
  simp only [Bool.and_eq_true, decide_eq_true_eq] at h2
  obtain ⟨e1, e2, e3, e4⟩ := h1
  rw [e1, e2, e3, e4] at h2
  exact ⟨h2.1.1, h2.1.2, q_wat_in h2.2⟩
theorem q_fn_nw : ∀ q ∈ q_fn, Cond.fieldLinkNest (q_rn q.1) q.2.1 (q_T q.2.2.1 q.2.2.2).1 (q_T q.2.2.1 q.2.2.2).2.1 (q_T q.2.2.1 q.2.2.2).2.2.1 "Tilehold" ∈ q_NW := by decide +kernel
theorem q_fn_spec {oc idx a b : Nat} (h : (oc, idx, a, b) ∈ q_fn) : b < q_N a ∧ a < 10 ∧ Cond.fieldLinkNest (q_rn oc) idx (q_T a b).1 (q_T a b).2.1 (q_T a b).2.2.1 "Tilehold" ∈ q_NW := by
  have h2 := List.all_eq_true.mp q_fn_ok _ h
  simp only [Bool.and_eq_true, decide_eq_true_eq] at h2
  exact ⟨h2.1, h2.2, q_fn_nw _ h⟩
theorem q_cws {ci : Nat} (h : ci < 10) : (∀ w ∈ u_ws (q_rn ci) (q_T ci) (q_N ci), w ∈ q_GW) ∧ Cond.instantiable (q_rn ci) (q_N ci) ∈ q_GW ∧ Cond.initialized (q_rn ci) ∈ q_GW := by
  have h1 := List.all_eq_true.mp q_cw_ok ci (List.mem_range.mpr h)
  cases h2 : q_cw[ci]? with
  | none => rw [h2] at h1; cases h1
  | some z =>
    obtain ⟨a, b, l⟩ := z
    rw [h2] at h1
    simp only [Bool.and_eq_true] at h1
    refine ⟨fun w hw => ?_, q_wat_in h1.1.1, q_wat_in h1.1.2⟩
    obtain ⟨k, hk, rfl⟩ := List.mem_map.mp hw
    have h3 := List.all_eq_true.mp h1.2 k hk
    cases h4 : l[k]? with
    | none => rw [h4] at h3; cases h3
    | some i => rw [h4] at h3; exact q_wat_in h3
theorem q_fit_spec {ty : FieldType} {v : Value} (h : q_fit ty v = true) (ad : Nat → Nat) : narrow ty (qt ad v) = qt ad v ∧ fits ty (qt ad v) = true := by
  cases ty <;> cases v
  case int.int x => exact ⟨rfl, rfl⟩
  case boolean.int x =>
    have h : (decide (x = 0) || decide (x = 1)) = true := h
    simp only [Bool.or_eq_true, decide_eq_true_eq] at h
    rcases h with rfl | rfl <;> exact ⟨rfl, rfl⟩
  case object.ref => exact ⟨rfl, rfl⟩
  case array.ref => exact ⟨rfl, rfl⟩
  all_goals exact absurd (show false = true from h) (by decide)
theorem qIn_spec {i : Int32} {n : Nat} (h : qIn i n = true) : vp_in i n := by
  unfold qIn at h
  simp only [Bool.and_eq_true, decide_eq_true_eq] at h
  exact vp_in_iff.mpr h
theorem qget_inv {M : qM} {o ci k : Nat} {v : Value} (h : qget M o ci k = some v) : ∃ fs, M[o]? = some (.inr (ci, fs)) ∧ fs[k]? = some v := by
  unfold qget at h
  split at h
  · rename_i c fs hM
    by_cases hc : c = ci
    · subst hc
      rw [if_pos rfl] at h
      exact ⟨fs, hM, h⟩
    · rw [if_neg hc] at h
      cases h
  · cases h
theorem qput_inv {M M' : qM} {o ci k : Nat} {v : Value} (h : qput M o ci k v = some M') : ∃ fs, M[o]? = some (.inr (ci, fs)) ∧ k < fs.length ∧ q_fit (q_ty ci k) v = true ∧ M' = M.set o (.inr (ci, fs.set k v)) := by
  unfold qput at h
  split at h
  · rename_i c fs hM
    obtain ⟨⟨h1, h2, h3⟩, h4⟩ := qif_some h
    subst h1
    exact ⟨fs, hM, h2, h3, h4.symm⟩
  · cases h
section QS2
variable {p : Program} {l : Launch} {e : Env} {R : Room} {s : State} {m : MethodId} {args : Array Value} {below : List Frame} {meth : Method} {c : Code} {H : Heap} {locs : List Loc} {cells slots : Nat} {Q : State → Prop}
variable {pc j : Nat} {ls : Array Slot} {ad : Nat → Nat} {Ts : List Cond} {CA : Nat → ClassId} {D : va_G} {A : Nat → Prop} {M : qM}
theorem qW_ob {o a : Nat} {fs : List Value} (hM : M[o]? = some (.inr (a, fs))) (h : a < 10) : (qW CA ad M)[o]? = some (ad o, .inr (a, fs.map (qt ad))) := by
  rw [qW_at hM, qtE_o h]
theorem qs_get (C : qCx p l s m args meth c R j Ts CA D A) (hP : va_P D q_cl (qW CA ad M) H) {idx o a b z : Nat} {v : Value} {r : List Value} (h : qget M o a b = some v) (hd : decode (q_b j) pc = .ok (.getfield idx, 3))
    (hk : (z = 0 ∧ q_isfl (q_oc j) idx a b = true) ∨ (z = 1 ∧ (q_oc j, idx, a, b) ∈ q_fn))
    (k : W p l e R s m args below meth c H locs cells slots Q (F0 m (pc + 3) ls (List.map (qt ad) (v :: r)))) : W p l e R s m args below meth c H locs cells slots Q (F0 m pc ls (List.map (qt ad) (.ref o :: r))) := by
  obtain ⟨⟨hx, hb, -, hown⟩, ⟨hts, hgw⟩, -, -, ⟨-, hK, -, hX⟩⟩ := C
  obtain ⟨fs, hM, hv⟩ := qget_inv h
  have hv' : (fs.map (qt ad))[b]? = some (qt ad v) := by rw [List.getElem?_map, hv]; rfl
  rcases hk with ⟨-, hk⟩ | ⟨-, hk⟩
  · obtain ⟨h1, h2, h3⟩ := q_fl_spec hk
    exact va_get hx hb hts (fun w hw => hgw w ((q_cws h2).1 w hw)) hown hK hP o (qW_ob hM h2) (q_cl_at a h2) b h1 (hts _ (hgw _ h3)) (fun _ h9 => h9) hv' hd k
  · obtain ⟨h1, h2, h3⟩ := q_fn_spec hk
    exact va_getN hx hb hts (fun w hw => hgw w ((q_cws h2).1 w hw)) hown hK hP o (qW_ob hM h2) (q_cl_at a h2) b h1 (va_Nw.use rfl (hX.2.2.1 _ h3)) (fun _ h9 => h9) hv' hd k
theorem qs_put (C : qCx p l s m args meth c R j Ts CA D A) (hP : va_P D q_cl (qW CA ad M) H) (hD : va_D A (qW CA ad M)) (hS : va_S A s.heap H locs) {idx o a b z : Nat} {v : Value} {r : List Value} {M' : qM} (h : qput M o a b v = some M') (hd : decode (q_b j) pc = .ok (.putfield idx, 3))
    (hk : (z = 0 ∧ q_isfl (q_oc j) idx a b = true ∧ (q_T a b).2.2.2 = false) ∨ (z = 1 ∧ (q_oc j, idx, a, b) ∈ q_fn ∧ (q_T a b).2.2.2 = false) ∨ (z = 2 ∧ q_isfl (q_oc j) idx a b = true ∧ (q_T a b).2.2.2 = true ∧ (q_y j).name = "<init>" ∧ (q_T a b).1 = q_rn (q_oc j)))
    (k : ∀ (H1 : Heap) (locs1 : List Loc), va_P D q_cl (qW CA ad M') H1 → va_D A (qW CA ad M') → va_S A s.heap H1 locs1 → W p l e R s m args below meth c H1 locs1 cells slots Q (F0 m (pc + 3) ls (List.map (qt ad) r))) : W p l e R s m args below meth c H locs cells slots Q (F0 m pc ls (List.map (qt ad) (v :: .ref o :: r))) := by
  obtain ⟨⟨hx, hb, -, hown⟩, ⟨hts, hgw⟩, ⟨-, -, hnm, -⟩, -, ⟨-, hK, -, hX⟩⟩ := C
  obtain ⟨fs, hM, hl, hf, rfl⟩ := qput_inv h
  obtain ⟨f1, f2⟩ := q_fit_spec hf ad
  have hl' : b < (fs.map (qt ad)).length := by rw [List.length_map]; exact hl
  have h2a : a < 10 := by
    rcases hk with ⟨-, hk, -⟩ | ⟨-, hk, -⟩ | ⟨-, hk, -⟩
    · exact (q_fl_spec hk).2.1
    · exact (q_fn_spec hk).2.1
    · exact (q_fl_spec hk).2.1
  have hee : (qW CA ad M).set o (ad o, .inr (a, (fs.map (qt ad)).set b (qt ad v))) = qW CA ad (M.set o (.inr (a, fs.set b v))) := by
    rw [← qW_set, ← List.map_set, qtE_o h2a]
  have k' : ∀ (H1 : Heap) (locs1 : List Loc), va_P D q_cl ((qW CA ad M).set o (ad o, .inr (a, (fs.map (qt ad)).set b (qt ad v)))) H1 → va_D A ((qW CA ad M).set o (ad o, .inr (a, (fs.map (qt ad)).set b (qt ad v)))) → va_S A s.heap H1 locs1 → W p l e R s m args below meth c H1 locs1 cells slots Q (F0 m (pc + 3) ls (List.map (qt ad) r)) := by
    rw [hee]; exact k
  rcases hk with ⟨-, hk, hfin⟩ | ⟨-, hk, hfin⟩ | ⟨-, hk, hfin, hin, hdc⟩
  · obtain ⟨h1, h2, h3⟩ := q_fl_spec hk
    exact va_put hx hb hts (fun w hw => hgw w ((q_cws h2).1 w hw)) (q_ty a) (q_ty_ok a h2) (q_nm_ok a h2) hown hK hP hD hS o (qW_ob hM h2) (q_cl_at a h2) b h1 (hts _ (hgw _ h3)) (fun _ h9 => h9) hfin (q_ty_ok a h2 b h1) f1 f2 hl' hd k'
  · obtain ⟨h1, h2, h3⟩ := q_fn_spec hk
    exact va_putN hx hb hts (fun w hw => hgw w ((q_cws h2).1 w hw)) (q_ty a) (q_ty_ok a h2) (q_nm_ok a h2) hown hK hP hD hS o (qW_ob hM h2) (q_cl_at a h2) b h1 (va_Nw.use rfl (hX.2.2.1 _ h3)) (fun _ h9 => h9) hfin (q_ty_ok a h2 b h1) f1 f2 hl' hd k'
  · obtain ⟨h1, h2, h3⟩ := q_fl_spec hk
    exact va_putF hx hb hts (fun w hw => hgw w ((q_cws h2).1 w hw)) (q_ty a) (q_ty_ok a h2) (q_nm_ok a h2) hown hK hP hD hS o (qW_ob hM h2) (q_cl_at a h2) b h1 (hts _ (hgw _ h3)) (fun _ h9 => h9) hfin (hnm hin) hdc (q_ty_ok a h2 b h1) f1 f2 hl' hd k'
theorem qald_inv {scr : qScr} {o t : Nat} {i : Int32} {v : Value} (h : qald scr M o t i = some v) :
    (∃ n f, M[o]? = some (.inl (t, n, .inl f)) ∧ (t = 0 ∨ t = 1) ∧ qIn i n = true ∧ v = .int (f i.toNatClampNeg)) ∨
    (∃ L xs, scr = some (L, xs) ∧ o = qSCR ∧ t = 0 ∧ qIn i L = true ∧ v = .int (xs i.toNatClampNeg)) := by
  unfold qald at h
  split at h
  · rename_i u n f hM
    obtain ⟨⟨h1, h2, h3⟩, h4⟩ := qif_some h
    subst h1
    exact Or.inl ⟨n, f, hM, h2, h3, h4.symm⟩
  · cases h
  · split at h
    · rename_i L xs
      obtain ⟨⟨h1, h2, h3⟩, h4⟩ := qif_some h
      exact Or.inr ⟨L, xs, rfl, h1, h2, h3, h4.symm⟩
    · cases h
theorem qs_iald (C : qCx p l s m args meth c R j Ts CA D A) (hP : va_P D q_cl (qW CA ad M) H) (hS : va_S A s.heap H locs) {scr : qScr} (hscr : qScr_ok scr A ad s) {o : Nat} {i : Int32} {v : Value} {r : List Value} (h : qald scr M o 0 i = some v) (hd : decode (q_b j) pc = .ok (.iaload, 1))
    (k : W p l e R s m args below meth c H locs cells slots Q (F0 m (pc + 1) ls (List.map (qt ad) (v :: r)))) : W p l e R s m args below meth c H locs cells slots Q (F0 m pc ls (List.map (qt ad) (.int i :: .ref o :: r))) := by
  obtain ⟨⟨hx, hb, -, hown⟩, ⟨hts, hgw⟩, -, -, ⟨-, hK, -, hX⟩⟩ := C
  rcases qald_inv h with ⟨n, f, hM, -, hi, rfl⟩ | ⟨L, xs, rfl, rfl, -, hi, rfl⟩
  · exact va_iald hx hb hK hP o 0 (qW_at hM) rfl (qIn_spec hi) hd k
  · exact va_sld hx hb hscr.1 hscr.2.1 hscr.2.2.1 hS (qIn_spec hi) hd k
theorem qs_cald (C : qCx p l s m args meth c R j Ts CA D A) (hP : va_P D q_cl (qW CA ad M) H) {o : Nat} {i : Int32} {v : Value} {r : List Value} (h : qald none M o 1 i = some v) (hd : decode (q_b j) pc = .ok (.caload, 1))
    (k : W p l e R s m args below meth c H locs cells slots Q (F0 m (pc + 1) ls (List.map (qt ad) (v :: r)))) : W p l e R s m args below meth c H locs cells slots Q (F0 m pc ls (List.map (qt ad) (.int i :: .ref o :: r))) := by
  obtain ⟨⟨hx, hb, -, hown⟩, ⟨hts, hgw⟩, -, -, ⟨-, hK, -, hX⟩⟩ := C
  rcases qald_inv h with ⟨n, f, hM, -, hi, rfl⟩ | ⟨L, xs, hq, -⟩
  · exact va_cald hx hb hK hP o 1 (qW_at hM) rfl (qIn_spec hi) hd k
  · cases hq
theorem q_char {x : Int32} (h0 : 0 ≤ x) (h1 : x ≤ 65535) : vp_nar .char x = x := by
  rw [vp_nar_char]
  have a0 : (0 : Int) ≤ x.toInt := by simpa using Int32.le_iff_toInt_le.mp h0
  have a1 : x.toInt ≤ 65535 := by simpa using Int32.le_iff_toInt_le.mp h1
  apply Int32.toInt_inj.mp
  have e : x.toUInt32.toNat = x.toInt.toNat := by
    have := x.toBitVec.toInt_eq_toNat_cond
    have h2 : x.toInt = x.toBitVec.toInt := rfl
    have h3 : x.toUInt32.toNat = x.toBitVec.toNat := rfl
    rw [h2] at a0 a1 ⊢
    rw [h3]
    have h4 := x.toBitVec.isLt
    split at this <;> omega
  have e2 : x.toUInt32.toUInt16.toUInt32 = x.toUInt32 := by
    apply UInt32.toNat_inj.mp
    simp only [UInt16.toNat_toUInt32, UInt32.toNat_toUInt16]
    rw [e]
    omega
  rw [e2]
  rfl
theorem qasti_inv {o t : Nat} {i x : Int32} {M' : qM} (h : qasti M o t i x = some M') : ∃ n f, M[o]? = some (.inl (t, n, .inl f)) ∧ (t = 0 ∨ (t = 1 ∧ 0 ≤ x ∧ x ≤ 65535)) ∧ qIn i n = true ∧ M' = M.set o (.inl (t, n, .inl (upd f i.toNatClampNeg x))) := by
  unfold qasti at h
  split at h
  · rename_i u n f hM
    obtain ⟨⟨h1, h2, h3⟩, h4⟩ := qif_some h
    subst h1
    exact ⟨n, f, hM, h2, h3, h4.symm⟩
  · cases h
theorem qs_iast (C : qCx p l s m args meth c R j Ts CA D A) (hP : va_P D q_cl (qW CA ad M) H) (hD : va_D A (qW CA ad M)) (hS : va_S A s.heap H locs) {o : Nat} {i x : Int32} {r : List Value} {M' : qM} (h : qasti M o 0 i x = some M') (hd : decode (q_b j) pc = .ok (.iastore, 1))
    (k : ∀ (H1 : Heap) (locs1 : List Loc), va_P D q_cl (qW CA ad M') H1 → va_D A (qW CA ad M') → va_S A s.heap H1 locs1 → W p l e R s m args below meth c H1 locs1 cells slots Q (F0 m (pc + 1) ls (List.map (qt ad) r))) : W p l e R s m args below meth c H locs cells slots Q (F0 m pc ls (List.map (qt ad) (.int x :: .int i :: .ref o :: r))) := by
  obtain ⟨⟨hx, hb, -, hown⟩, ⟨hts, hgw⟩, -, -, ⟨-, hK, -, hX⟩⟩ := C
  obtain ⟨n, f, hM, -, hi, rfl⟩ := qasti_inv h
  refine va_iast hx hb hK hP hD hS o 0 (qW_at hM) rfl (qIn_spec hi) hd (fun H1 locs1 h1 h2 h3 => ?_)
  rw [show ((ad o, Sum.inl (CA 0, n, Sum.inl (upd f i.toNatClampNeg x))) : Nat × va_E) = (ad o, qtE CA ad (.inl (0, n, .inl (upd f i.toNatClampNeg x)))) from rfl, qW_set] at h1 h2
  exact k H1 locs1 h1 h2 h3
theorem qs_cast (C : qCx p l s m args meth c R j Ts CA D A) (hP : va_P D q_cl (qW CA ad M) H) (hD : va_D A (qW CA ad M)) (hS : va_S A s.heap H locs) {o : Nat} {i x : Int32} {r : List Value} {M' : qM} (h : qasti M o 1 i x = some M') (hd : decode (q_b j) pc = .ok (.castore, 1))
    (k : ∀ (H1 : Heap) (locs1 : List Loc), va_P D q_cl (qW CA ad M') H1 → va_D A (qW CA ad M') → va_S A s.heap H1 locs1 → W p l e R s m args below meth c H1 locs1 cells slots Q (F0 m (pc + 1) ls (List.map (qt ad) r))) : W p l e R s m args below meth c H locs cells slots Q (F0 m pc ls (List.map (qt ad) (.int x :: .int i :: .ref o :: r))) := by
  obtain ⟨⟨hx, hb, -, hown⟩, ⟨hts, hgw⟩, -, -, ⟨-, hK, -, hX⟩⟩ := C
  obtain ⟨n, f, hM, h5, hi, rfl⟩ := qasti_inv h
  rcases h5 with h5 | ⟨-, h5, h6⟩
  · cases h5
  refine va_cast hx hb hK hP hD hS o 1 (qW_at hM) rfl (qIn_spec hi) hd (fun H1 locs1 h1 h2 h3 => ?_)
  rw [q_char h5 h6] at h1 h2
  rw [show ((ad o, Sum.inl (CA 1, n, Sum.inl (upd f i.toNatClampNeg x))) : Nat × va_E) = (ad o, qtE CA ad (.inl (1, n, .inl (upd f i.toNatClampNeg x)))) from rfl, qW_set] at h1 h2
  exact k H1 locs1 h1 h2 h3
theorem qs_len (C : qCx p l s m args meth c R j Ts CA D A) (hP : va_P D q_cl (qW CA ad M) H) (hS : va_S A s.heap H locs) {scr : qScr} (hscr : qScr_ok scr A ad s) {o : Nat} {v : Int32} {r : List Value} (h : qlen scr M o = some v) (hd : decode (q_b j) pc = .ok (.arraylength, 1))
    (k : W p l e R s m args below meth c H locs cells slots Q (F0 m (pc + 1) ls (List.map (qt ad) (.int v :: r)))) : W p l e R s m args below meth c H locs cells slots Q (F0 m pc ls (List.map (qt ad) (.ref o :: r))) := by
  obtain ⟨⟨hx, hb, -, hown⟩, ⟨hts, hgw⟩, -, -, ⟨-, hK, -, hX⟩⟩ := C
  unfold qlen at h
  split at h
  · rename_i u n f hM
    obtain ⟨h1, h4⟩ := qif_some h
    subst h4
    have ht : ∃ ty, (qTy CA)[u]? = some (CA u, ty) := by
      rcases (show u = 0 ∨ u = 1 by omega) with rfl | rfl <;> exact ⟨_, rfl⟩
    obtain ⟨ty, ht⟩ := ht
    exact va_alen hx hb hK hP o u (qW_at hM) ht rfl hd k
  · cases h
  · split at h
    · rename_i L xs
      obtain ⟨h1, h4⟩ := qif_some h
      subst h1
      subst h4
      exact va_slen hx hb hscr.1 hscr.2.1 hscr.2.2.1 hS hd k
    · cases h
end QS2
