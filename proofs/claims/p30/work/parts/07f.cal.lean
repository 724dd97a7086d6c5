/-! calls, ends, and the whole of it -/
def q_rchk (j : Nat) (i : Instr) : Bool := match i with
  | .return_ => decide (q_rt j = none)
  | .lreturn => decide (q_rt j = some .long)
  | .freturn => decide (q_rt j = some .float)
  | .dreturn => decide (q_rt j = some .double)
  | _ => true
theorem q_rchk_all : ((List.range 111).all (fun j => (q_codes.getD j []).all (fun q => q_rchk j q.2.1))) = true := by decide +kernel
theorem q_code_mem {j pc : Nat} {x : qX} (h : q_code j pc = some x) : (pc, x) ∈ q_codes.getD j [] := by
  unfold q_code at h
  generalize q_codes.getD j [] = l at h
  induction l with
  | nil => cases h
  | cons a l ih =>
    obtain ⟨a1, a2⟩ := a
    rw [List.lookup_cons] at h
    by_cases hp : pc = a1
    · subst hp
      simp at h
      subst h
      exact List.mem_cons_self
    · have : (pc == a1) = false := by simpa using hp
      rw [this] at h
      exact List.mem_cons_of_mem _ (ih h)
theorem q_rchk_at {j pc : Nat} {x : qX} (h : q_code j pc = some x) : q_rchk j x.1 = true :=
  List.all_eq_true.mp (List.all_eq_true.mp q_rchk_all j (List.mem_range.mpr (q_ok h).2)) (pc, x) (q_code_mem h)
theorem q_hh_inst : ∀ a, a < 110 → q_mt a ≠ 1 → q_hh a = [] := by decide +kernel
theorem q_iv3 : (q_iv.all (fun q => decide (q.2.2.2.1 = 3 → q_hh q.2.2.1 = []))) = true := by decide +kernel
def q_ws (j : Nat) : List Cond := q_word j :: q_GW
def q_rm (j : Nat) : Room := { frames := q_fr j, cells := q_mc j, slots := q_ms j, locals := q_lo j }
theorem q_m_spec {a : Nat} (h : a < 110) : q_word a ∈ q_GW ∧ Cond.initialized (q_y a).cls ∈ q_GW ∧ (q_y a).cls = q_rn (q_oc a) ∧ plainName (q_y a).cls = true ∧ (q_y a).cls ≠ "java/lang/invoke/MethodHandle" ∧ (q_y a).cls ≠ "java/lang/invoke/VarHandle" ∧ (parseMethodDescriptor (q_y a).desc).map (fun d => d.parameters.length) = some (q_np a) ∧
    (q_mt a = 1 → Cond.static (q_y a) ∈ q_GW) ∧ (q_mt a = 2 → Cond.instanceMethod (q_y a) ∈ q_GW ∧ (q_y a).name = "<init>" ∧ q_rt a = none) ∧ (q_mt a = 0 → Cond.instanceMethod (q_y a) ∈ q_GW ∧ Cond.selects (q_y a).cls (q_y a) (q_y a) ∈ q_GW) := by
  have h1 := q_mok a h
  unfold q_mokB at h1
  unfold q_mt
  cases hm : q_mw[a]? with
  | none => rw [hm] at h1; cases h1
  | some z =>
    obtain ⟨c, i, t, w, sl⟩ := z
    rw [hm] at h1
    simp only [Bool.and_eq_true, decide_eq_true_eq] at h1
    obtain ⟨g1, g2, g3, g4, g5, g6, g7, g8⟩ := h1
    refine ⟨q_wat_in g1, q_wat_in g2, g3, g4, g5, g6, g7, fun q => ?_, fun q => ?_, fun q => ?_⟩
    · simp only at q
      subst q
      exact q_wat_in g8
    · simp only at q
      subst q
      simp only [Bool.and_eq_true, decide_eq_true_eq] at g8
      exact ⟨q_wat_in g8.1.1, g8.1.2, g8.2⟩
    · simp only at q
      subst q
      simp only [Bool.and_eq_true] at g8
      exact ⟨q_wat_in g8.1, q_wat_in g8.2⟩
theorem q_GW_good {w : Cond} (h : w ∈ q_GW) : w ∈ lw_tbl ∧ goodWord w = true := List.mem_filter.mp h
theorem q_good {Ts : List Cond} (hgw : ∀ w ∈ q_GW, w ∈ Ts) {a : Nat} (ha : a < 110) : GoodIn Ts (q_ws a) := by
  intro w hw
  have h1 : w ∈ q_GW := by
    rcases List.mem_cons.mp hw with rfl | h
    · exact (q_m_spec ha).1
    · exact h
  exact ⟨hgw w h1, good_of_word (q_GW_good h1).2⟩
theorem q_iv_spec {oc idx a c : Nat} (h : q_isiv oc idx a c = true) : ∃ i, q_ivB (oc, idx, a, c, i) = true ∧ (c = 3 → q_hh a = []) := by
  obtain ⟨q, hq, h1⟩ := List.any_eq_true.mp h
  simp only [Bool.and_eq_true, beq_iff_eq] at h1
  have h2 := List.all_eq_true.mp q_iv_ok q hq
  have h3 := of_decide_eq_true (List.all_eq_true.mp q_iv3 q hq)
  obtain ⟨oc', idx', a', c', i⟩ := q
  obtain ⟨e1, e2, e3, e4⟩ := h1
  simp only at e1 e2 e3 e4 h3
  subst e1; subst e2; subst e3; subst e4
  exact ⟨i, h2, h3⟩
theorem q_iv_nest : (q_iv.all (fun q => decide ((q.2.2.2.1 = 3 ∨ q.2.2.2.1 = 5) → Cond.methodLinkNest (q_rn q.1) q.2.1 (q_y q.2.2.1) "Tilehold" ∈ q_NW))) = true := by decide +kernel
theorem q_iv_nw {oc idx a c : Nat} (h : q_isiv oc idx a c = true) (hc : c = 3 ∨ c = 5) : Cond.methodLinkNest (q_rn oc) idx (q_y a) "Tilehold" ∈ q_NW := by
  obtain ⟨q, hq, h1⟩ := List.any_eq_true.mp h
  simp only [Bool.and_eq_true, beq_iff_eq] at h1
  have h3 := of_decide_eq_true (List.all_eq_true.mp q_iv_nest q hq)
  obtain ⟨oc', idx', a', c', i⟩ := q
  obtain ⟨e1, e2, e3, e4⟩ := h1
  simp only at e1 e2 e3 e4 h3
  subst e1; subst e2; subst e3; subst e4
  exact h3 hc
theorem q_cat_sum : ∀ (st : List Value), (st.map fun v => v.category).sum ≤ 2 * st.length
  | [] => by simp
  | v :: st => by
    have := q_cat_sum st
    have := lv_cat v
    simp only [List.map_cons, List.sum_cons, List.length_cons]
    omega
/-- a callee's start, its end, its throw -/
def qPc (scr : qScr) (CA : Nat → ClassId) (D : va_G) (ad : Nat → Nat) (M : qM) (args : List Value) (sz : Nat) : Array Value → State → Prop := va_Pc (args.map (qt ad)) (fun U => U.heap.size = sz ∧ va_P D q_cl (qW CA ad M) U.heap ∧ va_K D q_cl (qTy CA) U ∧ va_D (fun _ => True) (qW CA ad M) ∧ qXB (va_A (qW CA ad M) sz) U U.heap ∧ qScr_ok scr (va_A (qW CA ad M) sz) ad U)
def qEnd (CA : Nat → ClassId) (D : va_G) (j : Nat) (ad : Nat → Nat) (M M' : qM) (sz : Nat) (ad' : Nat → Nat) (H : Heap) : Prop := qAg M.length ad ad' ∧ (q_al j = false → ad' = ad) ∧ M.length ≤ M'.length ∧ va_P D q_cl (qW CA ad' M') H ∧ va_D (va_A (qW CA ad M) sz) (qW CA ad' M')
def qQc (CA : Nat → ClassId) (D : va_G) (j : Nat) (ad : Nat → Nat) (M M' : qM) (sz : Nat) (r : qR) : Array Value → State → Outcome → State → Prop := fun _ st oc t => (∃ (v : Option Value) (ad' : Nat → Nat), r = .inl v ∧ oc = .returned (v.map (qt ad')) ∧ qEnd CA D j ad M M' sz ad' t.heap) ∧ va_F (va_A (qW CA ad M) sz) st t
def qXC (CA : Nat → ClassId) (D : va_G) (j : Nat) (ad : Nat → Nat) (M M' : qM) (sz : Nat) (r : qR) : String → State → State → Prop := fun E st t => (∃ (e9 : Nat) (ad' : Nat → Nat), r = .inr e9 ∧ E = q_x e9 ∧ qEnd CA D j ad M M' sz ad' t.heap) ∧ va_F (va_A (qW CA ad M) sz) st t
def qMt (l : Launch) (scr : qScr) (j : Nat) (CA : Nat → ClassId) (D : va_G) (ad : Nat → Nat) (M M' : qM) (args : List Value) (sz : Nat) (r : qR) : Prop :=
  vx_Met l (q_y j) (q_ws j) (q_rm j) (qPc scr CA D ad M args sz) (qQc CA D j ad M M' sz r) (qXC CA D j ad M M' sz r) (q_mc j) (q_ms j) (va_A (qW CA ad M) sz)
theorem qPc_blind {scr : qScr} {CA : Nat → ClassId} {D : va_G} {ad : Nat → Nat} {M : qM} {args : List Value} {sz : Nat} : FrameBlind (qPc scr CA D ad M args sz) := by
  intro a U g mk h
  obtain ⟨h1, h2, h3, h4, h5, h6, h7⟩ := h
  exact ⟨h1, h2, h3, va_K.moved (u := U) (U := U.calling g mk a) (Vm.Alike.refl U.vm) h4, h5, qXB.warm (s := U) (U := U.calling g mk a) (State.WarmedH.refl U) h6, h7.sub (U := U.calling g mk a) (Vm.Alike.refl U.vm) (Nat.le_refl _) (fun _ _ _ => rfl) (fun _ q => q)⟩
section QC
variable {p : Program} {l : Launch} {e : Env} {R : Room} {s : State} {m : MethodId} {args : Array Value} {below : List Frame} {meth : Method} {c : Code} {H : Heap} {locs : List Loc} {cells slots : Nat} {Q : State → Prop}
variable {pc j : Nat} {ls : Array Slot} {ad : Nat → Nat} {Ts : List Cond} {CA : Nat → ClassId} {D : va_G} {A : Nat → Prop} {M M' : qM} {a : Nat} {r : qR}
theorem qA_sub (hD : va_D A (qW CA ad M)) (hA : ∀ q, s.heap.size ≤ q → A q) (hS : va_S A s.heap H locs) : ∀ q, va_A (qW CA ad M) H.size q → A q := by
  intro q h
  rcases h with ⟨k, e9, h⟩ | h
  · exact hD.2 k (q, e9) h
  · exact hA q (Nat.le_trans hS.1 h)
theorem qPc_at (C : qCx p l s m args meth c R j Ts CA D A) (hP : va_P D q_cl (qW CA ad M) H) (hD : va_D A (qW CA ad M)) (hS : va_S A s.heap H locs) {scr : qScr} (hscr : qScr_ok scr A ad s) (as : List Value) : ∀ U : State, U.heap = H → s.WarmedH U.vm → qPc scr CA D ad M as H.size (as.map (qt ad)).toArray U := by
  obtain ⟨-, -, -, -, ⟨-, hK, hA, hX⟩⟩ := C
  intro U hU hW
  refine ⟨rfl, by rw [hU], by rw [hU]; exact hP, va_K.moved hW.alike hK, hD.weaken (fun _ _ _ _ => trivial), ?_, ?_⟩
  · rw [hU]
    exact ((hX.kept hS.2.1).warm hW).narrow (qA_sub hD hA hS)
  · exact hscr.sub hW.alike (by rw [hU]; exact hS.1) (by rw [hU]; exact hS.2.1) (qA_sub hD hA hS)
theorem q_bud_spec (h : q_bud j a = true) : q_fr a + 1 ≤ q_fr j ∧ 8 + (q_mL a + 11) + q_lo a ≤ q_lo j := by
  simpa [q_bud] using h
theorem q_word_code (h : q_hh a = []) : q_word a = .code (q_y a) (q_b a) (q_mL a) (q_rt a) := by
  unfold q_word
  rw [if_pos h]
/-- the call, as the kit runs it -/
theorem q_run (C : qCx p l s m args meth c R j Ts CA D A) {i : Instr} {len b c9 : Nat} {as : List Value} {rest st0 : List Value} (hc : q_chk j pc (i, len, a, b, c9) = true) (hi : q_kd i = 1) (ha : a < 900) {scr : qScr} (hscr : qScr_ok scr A ad s) (hM : qMt l scr a CA D ad M M' as H.size r)
    (hP : va_P D q_cl (qW CA ad M) H) (hD : va_D A (qW CA ad M)) (hS : va_S A s.heap H locs) (hl : ls.size = q_mL j) (hlen : as.length = b) (hst : st0 = (as.map (qt ad)).reverse ++ rest) (hrest : (rest.map fun v => v.category).sum ≤ 8) (hrcv : q_rcv M c9 a as = true)
    (hk : cells + q_mc a ≤ q_mc j) (hn : slots + q_ms a ≤ q_ms j) :
    vx_Run p l e R s m args below meth c H locs cells slots (q_mc a) (q_ms a) (F0 m pc ls st0) rest (qQc CA D a ad M M' H.size r (as.map (qt ad)).toArray) (qXC CA D a ad M M' H.size r) (va_A (qW CA ad M) H.size) := by
  have hPc := qPc_at C hP hD hS hscr as
  obtain ⟨⟨hx, hb, hml, hown⟩, ⟨hts, hgw⟩, -, ⟨hr1, hr2, hr3, hr4⟩, ⟨-, hK, hA, hX⟩⟩ := C
  have hd := q_chk_dec hc
  unfold q_chk at hc
  simp only [Bool.and_eq_true, decide_eq_true_eq] at hc hd
  obtain ⟨-, hc⟩ := hc
  have hS9 : CallFix p m c (q_b j) (q_mL j) s args Ts (q_rn (q_oc j)) := ⟨hx, hb, hml, hown, hts⟩
  have hroom : 2 * (F0 m pc ls st0).monitorRoom + (rest.map fun v => v.category).sum ≤ 8 := lv_room hrest
  have hf9 : cells + q_mc a ≤ R.cells ∧ slots + q_ms a ≤ R.slots := by rw [hr3, hr4]; exact ⟨hk, hn⟩
  have goR : ∀ {a9 : Nat}, q_bud j a9 = true → (q_rm a9).frames + 1 ≤ R.frames ∧ 8 + (q_mL a9 + 11) + (q_rm a9).locals ≤ R.locals := by
    intro a9 h
    rw [hr1, hr2]
    exact q_bud_spec h
  cases i
  case invokevirtual idx =>
    simp only [Bool.and_eq_true, decide_eq_true_eq] at hc
    obtain ⟨rfl, hv, rfl, hb9, hbud⟩ := hc
    obtain ⟨i9, h1, -⟩ := q_iv_spec hv
    simp only [q_ivB, Bool.and_eq_true, decide_eq_true_eq] at h1
    obtain ⟨⟨⟨h2, h3⟩, h4⟩, h11⟩ := h1
    obtain ⟨m1, m2, m3, m4, m5, m6, m7, -, -, m8⟩ := q_m_spec h2
    obtain ⟨m9, m10⟩ := m8 h3
    have hw := q_word_code (q_hh_inst a h2 (by rw [h3]; decide))
    have cb : CallB R s args (q_rn (q_oc j)) idx (q_y a) (q_b a) (q_mL a) (q_rt a) (q_ws a) (q_rm a) (q_mc a) (q_ms a) (q_np a) :=
      callB_of (ws' := q_GW) (q_np a) hts (q_good hgw h2) (by unfold q_ws; rw [hw]) rfl rfl (hts _ (hgw _ m2)) (hts _ (hgw _ (q_wat_in h4))) ⟨m5, m6, m7⟩ (goR hbud)
    have cw : CallW R s args (q_rn (q_oc j)) (q_y a).cls idx (q_y a) (q_b a) (q_mL a) (q_rt a) (q_ws a) (q_rm a) (q_mc a) (q_ms a) (q_np a) := ⟨cb, hts _ (hgw _ m9), hts _ (hgw _ m10)⟩
    unfold q_rcv at hrcv
    simp only at hrcv
    split at hrcv
    · rename_i o as'
      split at hrcv
      · rename_i ci fs hM9
        have hci := of_decide_eq_true hrcv
        subst hci
        have hrc := va_recv hK hP (q0 := o) (a := ad o) (ci := q_oc a) (fs := fs.map (qt ad)) (q_cl_at _ h11) (qW_ob hM9 h11)
        simp only [m3.symm] at hrc
        exact vx_runV hS9 hM cw (b := ad o) (As := as'.map (qt ad)) ⟨qPc_blind, hrc, hPc⟩ rfl (by simp at hlen ⊢; omega) hl (by rw [hst]; simp [qt]) hroom hd hf9
      · cases hrcv
    · cases hrcv
  case invokestatic idx =>
    simp only [Bool.and_eq_true, Bool.or_eq_true, decide_eq_true_eq] at hc
    obtain ⟨rfl, hv, hc⟩ := hc
    rcases hc with ⟨hc9, hb9, hbud⟩ | ⟨hc9, -⟩
    · obtain ⟨i9, h1, hh3⟩ := q_iv_spec hv
      rcases hc9 with rfl | rfl
      · simp only [q_ivB, Bool.and_eq_true, decide_eq_true_eq] at h1
        obtain ⟨⟨h2, h3⟩, h4⟩ := h1
        obtain ⟨m1, m2, m3, m4, m5, m6, m7, m8, -⟩ := q_m_spec h2
        by_cases hh : q_hh a = []
        · have hw := q_word_code hh
          have cb : CallB R s args (q_rn (q_oc j)) idx (q_y a) (q_b a) (q_mL a) (q_rt a) (q_ws a) (q_rm a) (q_mc a) (q_ms a) (q_np a) :=
            callB_of (ws' := q_GW) (q_np a) hts (q_good hgw h2) (by unfold q_ws; rw [hw]) rfl rfl (hts _ (hgw _ m2)) (hts _ (hgw _ (q_wat_in h4))) ⟨m5, m6, m7⟩ (goR hbud)
          exact vx_runS hS9 hM ⟨cb, hts _ (hgw _ (m8 h3))⟩ ⟨qPc_blind, hPc⟩ rfl (by simp; omega) hl hst hroom hd hf9
        · have hw : q_word a = .codeWith (q_y a) (q_b a) (q_mL a) (q_rt a) (q_hh a) := by
            unfold q_word
            rw [if_neg hh]
          have hG := q_good hgw h2
          have hcm : Cond.codeWith (q_y a) (q_b a) (q_mL a) (q_rt a) (q_hh a) ∈ q_ws a := by
            unfold q_ws
            rw [hw]
            exact List.mem_cons_self
          have cw : vx_CSW R s args (q_rn (q_oc j)) idx (q_y a) (q_b a) (q_mL a) (q_rt a) (q_hh a) (q_ws a) (q_rm a) (q_mc a) (q_ms a) (q_np a) := by
            refine ⟨⟨rfl, rfl, (goR hbud).1, (goR hbud).2, pay_in hts hG, hcm⟩, hts _ (hG _ hcm).1, hts _ (hgw _ m2), ⟨m5, m6⟩, fun sig h => ?_, hts _ (hgw _ (q_wat_in h4)), hts _ (hgw _ (m8 h3))⟩
            have h2 := m7
            rw [h] at h2
            exact (Option.some.inj h2).symm
          exact vx_runSX hS9 hM cw ⟨qPc_blind, hPc⟩ rfl (by simp; omega) hl hst hroom hd hf9
      · have hh := hh3 rfl
        have hnw := q_iv_nw hv (Or.inl rfl)
        simp only [q_ivB, Bool.and_eq_true, decide_eq_true_eq] at h1
        obtain ⟨h2, h3⟩ := h1
        obtain ⟨m1, m2, m3, m4, m5, m6, m7, m8, -⟩ := q_m_spec h2
        have hw := q_word_code hh
        have cn := va_cnB (R := R) (s := s) (args := args) (ws' := q_GW) (rm := q_rm a) (q_np a) hts (q_good hgw h2) (by unfold q_ws; rw [hw]) rfl rfl (hX.2.2.1 _ hnw) (hts _ (hgw _ m2)) ⟨m5, m6, m7⟩ (goR hbud)
        exact vx_runSN hS9 hM ⟨cn, hts _ (hgw _ (m8 h3)), trivial⟩ ⟨qPc_blind, hPc⟩ rfl (by simp; omega) hl hst hroom hd hf9
    · obtain ⟨i9, h1, -⟩ := q_iv_spec hv
      subst hc9
      simp only [q_ivB, Bool.and_eq_true, decide_eq_true_eq] at h1
      omega
  case invokespecial idx =>
    simp only [Bool.and_eq_true, Bool.or_eq_true, decide_eq_true_eq] at hc
    obtain ⟨rfl, hv, hc⟩ := hc
    rcases hc with ⟨hc9, hb9, hbud⟩ | ⟨hc9, -⟩
    · obtain ⟨i9, h1, -⟩ := q_iv_spec hv
      have hcase : q_mt a = 2 ∧ a < 110 := by
        rcases hc9 with rfl | rfl <;> simp only [q_ivB, Bool.and_eq_true, decide_eq_true_eq] at h1
        · exact ⟨h1.1.2, h1.1.1⟩
        · exact ⟨h1.2, h1.1⟩
      obtain ⟨h3, h2⟩ := hcase
      obtain ⟨m1, m2, m3, m4, m5, m6, m7, -, m8, -⟩ := q_m_spec h2
      obtain ⟨m9, m10, m11⟩ := m8 h3
      have hw := q_word_code (q_hh_inst a h2 (by rw [h3]; decide))
      rw [m11] at hw
      have hrc : ∃ o as', as = .ref o :: as' := by
        unfold q_rcv at hrcv
        rcases hc9 with rfl | rfl
        · simp only at hrcv
          split at hrcv
          · exact ⟨_, _, rfl⟩
          · cases hrcv
        · simp only at hrcv
          split at hrcv
          · exact ⟨_, _, rfl⟩
          · cases hrcv
      obtain ⟨o, as', rfl⟩ := hrc
      rcases hc9 with rfl | rfl
      · simp only [q_ivB, Bool.and_eq_true, decide_eq_true_eq] at h1
        obtain ⟨-, h4⟩ := h1
        have cb : CallB R s args (q_rn (q_oc j)) idx (q_y a) (q_b a) (q_mL a) none (q_ws a) (q_rm a) (q_mc a) (q_ms a) (q_np a) :=
          callB_of (ws' := q_GW) (q_np a) hts (q_good hgw h2) (by unfold q_ws; rw [hw]) rfl rfl (hts _ (hgw _ m2)) (hts _ (hgw _ (q_wat_in h4))) ⟨m5, m6, m7⟩ (goR hbud)
        exact vx_runI hS9 hM ⟨cb, m10, hts _ (hgw _ m9)⟩ (b := ad o) (As := as'.map (qt ad)) ⟨qPc_blind, hPc⟩ rfl (by simp at hlen ⊢; omega) hl (by rw [hst]; simp [qt]) hroom hd hf9
      · have hnw := q_iv_nw hv (Or.inr rfl)
        have cn := va_cnB (R := R) (s := s) (args := args) (bytes := q_b a) (maxL := q_mL a) (ret := none) (ws' := q_GW) (rm := q_rm a) (q_np a) hts (q_good hgw h2) (by unfold q_ws; rw [hw]) rfl rfl (hX.2.2.1 _ hnw) (hts _ (hgw _ m2)) ⟨m5, m6, m7⟩ (goR hbud)
        exact vx_runIN hS9 hM ⟨cn, m10, hts _ (hgw _ m9)⟩ (b := ad o) (As := as'.map (qt ad)) ⟨qPc_blind, hPc⟩ rfl (by simp at hlen ⊢; omega) hl (by rw [hst]; simp [qt]) hroom hd hf9
    · obtain ⟨i9, h1, -⟩ := q_iv_spec hv
      subst hc9
      simp only [q_ivB, Bool.and_eq_true, decide_eq_true_eq] at h1
      omega
  all_goals exact absurd hi (by simp [q_kd])
end QC
