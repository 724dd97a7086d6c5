/-! THE CLAIM OUT OF ONE WALK OF THE LAW'S BODY. Your part is whole_start (and what it stands on); all else here is the same for every law, but numbers. -/
def R_law : String := "TileholdLaw"
def lw_P (b : Addr) (xs : List Int32) (args : Array Value) (s : State) : Prop := args = #[.ref b] ∧ s.IntsAt b xs ∧ xs.length ≤ 260 ∧ (Jvm.Cond.and given_1 narrow_1).before args s = true
/-- what a walk over the start with the record d0 says of its end, said of the start itself -/
theorem lw_closed {s t : State} {o : Outcome} {d0 : Drawn} {L : List Loc} {k n : Nat} (hd0 : s.drawn.sameBut d0 lw_cs) (hv : ∃ v, o = .returned v) (hW : (s.setDrawn d0).WarmedH t.vm) (hs : (s.setDrawn d0).sameButNew ({ t with vm := s.vm } : State) L k n) : State.butDraws s t lw_cs (fun t1 => Framed s o t1 L k n) := by
  have h2 : t.drawn = d0 := congrArg State.drawn hs.1
  refine ⟨⟨hv, hW, State.sameButNew.setDrawn hs s.drawn⟩, ?_, by decide⟩
  rw [h2]
  exact hd0
def lw_Q (_ : Array Value) (s : State) (o : Outcome) (t : State) : Prop := o = .returned (some (.int 1)) ∧ State.butDraws s t lw_cs (fun t1 => Framed s o t1 [] 600086 7301442)
def lw_Z (below : List Frame) (a : Array Value) (s : State) : State → Prop := fun t => ∃ o, t.status = .running ∧ Ended t below o ∧ lw_Q a s o t
/-- the law's own end, with 1 on the stack, nothing written that was there before, its room as the claim has it; d0: the record of draws at this point (at the entry s.drawn: begin with 'refine W.base ?_' and 'have hd0 := Drawn.sameBut.refl s.drawn lw_cs') -/
theorem lw_ret {p : Program} {l : Launch} {e : Env} {s : State} {m : MethodId} {below : List Frame} {meth : Method} {c : Code} {b : Nat} {d0 : Drawn} (hd0 : s.drawn.sameBut d0 lw_cs) (hx : p.tables.exec = Jvm.exec) (hb : c.code = code) (hr : meth.sig.returnType = ret) (hlocks : meth.locks = false) {pc : Nat} {H : Heap} {ls : Array Slot} (hdg : decode code pc = .ok (.ireturn, 1)) : W p l e room_1 (s.setDrawn d0) m #[Value.ref b] below meth c H [] 600086 7301442 (lw_Z below #[Value.ref b] s) (F0 m pc ls [.int 1]) := by
  intro T hT X
  obtain ⟨fs, hret, hrun, hended, hW, hframe⟩ := X.leave (v := some (.int 1)) (hlocks := hlocks) (fun h => by rw [hr] at h; cases h)
  have hmeth' : T.vm.method? m = some meth := X.method'
  refine ⟨T.setFrames fs, ?_, .returned (some (.int 1)), hrun, hended, rfl, lw_closed hd0 ⟨_, rfl⟩ hW hframe⟩
  jvm_step X.here [X.here.top, hx, hb, hdg, hmeth', hr, ret, narrow_b1]
  (try refine ⟨rfl, ?_⟩); (try refine ⟨rfl, ?_⟩)
  first | (intro acts; rw [hret _ acts rfl rfl rfl]) | rw [hret _ _ rfl rfl rfl]
  exact Steps.refl _
/-- what holds at the law's entry: the machine, the code, the tables' words (any of lw_tbl by 'hts w (by decide +kernel)'), the script of L ints xs at the cell b, what the Statement gives of the start (any of its parts by flat_of_before) -/
def lw_At (p : Program) (s : State) (m : MethodId) (meth : Method) (c : Code) (b L : Nat) (xs : Nat → Int32) : Prop :=
  p.tables.exec = Jvm.exec ∧ c.code = code ∧ meth.sig.returnType = ret ∧ c.maxLocals = 5 ∧ s.vm.findClass R_law = some m.cls ∧ (∀ w ∈ lw_tbl, w.before #[Value.ref b] s = true) ∧ va_X b L xs s s.heap ∧ b < s.heap.size ∧ meth.locks = false ∧ (Jvm.Cond.and given_1 narrow_1).before #[Value.ref b] s = true
/-! the law's start, for the small machine -/
def q_given : List Cond := flatC (Jvm.Cond.and given_1 narrow_1)
theorem q_gv1 : (Cond.isRef (.static Bundle.tN "UNASSIGNED_STACK" Bundle.steD)) ∈ q_given ∧ (Cond.isRef (.static Bundle.tN "SUPPRESSED_SENTINEL" Bundle.listD)) ∈ q_given := by decide +kernel
theorem q_gv2 : ∀ q ∈ q_NC, Cond.not (.castable q.1 q.2) ∈ q_given := by decide +kernel
theorem q_gv3 : ∀ q ∈ q_ST, Cond.exactly (.string (q_rn 9) q.1) "java/lang/String" ∈ q_given := by decide +kernel
theorem q_gv4 : ∀ q ∈ q_ST, Cond.stringRef (q_rn 9) q.1 q.2 ∈ lw_tbl := by decide +kernel
theorem q_gv5 : (Cond.laysStatic Bundle.tN "UNASSIGNED_STACK" Bundle.steD) ∈ lw_tbl ∧ (Cond.laysStatic Bundle.tN "SUPPRESSED_SENTINEL" Bundle.listD) ∈ lw_tbl ∧ (Cond.initialized Bundle.tN) ∈ lw_tbl := by decide +kernel
theorem q_code110 : q_b 110 = code ∧ q_mL 110 = 5 ∧ q_rt 110 = ret ∧ q_rn (q_oc 110) = R_law ∧ q_hh 110 = [] ∧ q_fr 110 = room_1.frames ∧ q_lo 110 = room_1.locals ∧ q_mc 110 = room_1.cells ∧ q_ms 110 = room_1.slots := ⟨rfl, rfl, rfl, rfl, rfl, rfl, rfl, rfl, rfl⟩
theorem q_retl {x : qX} {pc : Nat} {v : Value} (hc : q_code 110 pc = some x) (hk : q_kd x.1 = 2) (hr : q_ret 110 x.1 [v] = some (some v)) (hv : v = .int 1) : decode code pc = .ok (.ireturn, 1) := by
  have hd := q_chk_dec (q_ok hc).1
  have hlen := (q_ok hc).1
  obtain ⟨i, len, a, b, c9⟩ := x
  subst hv
  simp only at hk hr hd
  cases i
  case ireturn =>
    have hl9 : len = 1 := q_chk_len (by rfl) hlen
    subst hl9
    exact hd
  case return_ => exact absurd hr (by simp [q_ret])
  case lreturn => exact absurd hr (by simp [q_ret])
  case freturn => exact absurd hr (by simp [q_ret])
  case dreturn => exact absurd hr (by simp [q_ret])
  all_goals exact absurd hk (by simp [q_kd])
set_option maxHeartbeats 4000000 in
theorem q_start {p : Program} {e : Env} {s : State} {m : MethodId} {below : List Frame} {meth : Method} {c : Code} (l : Launch) (hflags : l.flags = flags0) {b L : Nat} {xs : Nat → Int32} (hL : L ≤ 260) (C0 : lw_At p s m meth c b L xs)
    (hrun : ∃ (f : Nat) (M' : qM), q_exec f (some (L, xs)) 110 (0, qloc 110 [.ref qSCR], [], [], 0, 0) = some (.inl (some (.int 1)), M')) : W p l e room_1 s m #[Value.ref b] below meth c s.heap [] 0 0 (lw_Z below #[Value.ref b] s) (entryFrame m ([Value.ref b] : List Value).toArray 5) := by
  obtain ⟨hx, hb, hr, hml, hown, hts, hX, hbl, hlocks, hgv⟩ := C0
  obtain ⟨f, M', hrun⟩ := hrun
  have hs := flat_of_before _ hgv
  have hgw : ∀ w ∈ q_GW, w ∈ lw_tbl := fun w h => (q_GW_good h).1
  have hU : ∀ ci : Nat, ∃ z : ClassId × (Nat → Nat), ci < 10 → u_Kn s (q_rn ci) (q_T ci) (q_N ci) z.1 z.2 := by
    intro ci
    by_cases h : ci < 10
    · obtain ⟨w1, w2, -⟩ := q_cws h
      obtain ⟨cC, iS, hk⟩ := u_known (n := q_N ci) hts (fun w hw => hgw w (w1 w hw)) (hts _ (hgw _ w2))
      exact ⟨(cC, iS), fun _ => hk⟩
    · exact ⟨(0, fun _ => 0), fun q => absurd q h⟩
  obtain ⟨F, hF⟩ := Classical.axiomOfChoice hU
  obtain ⟨w1, w2⟩ := q_arr
  have hArr : ∀ ty : FieldType, (∀ C, ty ≠ .object C) → Cond.arrayClass ty ∈ q_GW → ∃ cA : ClassId, ArrOfT s cA ty ∧ va_RA s cA ty := by
    intro ty hty h
    obtain ⟨cA, kA, comp, h1, h2, h3⟩ := Cond.arrayClass_spec (hts _ (hgw _ h))
    refine ⟨cA, fun n z => ⟨fun k h => (by cases h), kA, h2, comp, h3⟩, ?_⟩
    cases ty <;> first | exact h1 | exact absurd rfl (hty _)
  obtain ⟨c0, a0⟩ := hArr .int (fun _ h => by cases h) (q_wat_in w1)
  obtain ⟨c1, a1⟩ := hArr .char (fun _ h => by cases h) (q_wat_in w2)
  have hAOw : (Cond.arrayOver (.array .int)).before #[Value.ref b] s = true := hts _ q_AO_in
  obtain ⟨comp2, c2, kA2, g1, g2, g3, g4, g5⟩ := arrayOverA_spec hAOw
  have a2 : ArrOfT s c2 (.array .int) ∧ va_RA s c2 (.array .int) := ⟨fun n z => ⟨fun k h => (by cases h), kA2, g3, comp2, g4⟩, g5⟩
  let CA : Nat → ClassId := fun t => if t = 0 then c0 else if t = 1 then c1 else c2
  have hK : va_K (fun ci => (F ci).1, fun ci => (F ci).2) q_cl (qTy CA) s := by
    refine ⟨fun ci q hq => ?_, fun k q hq => ?_⟩
    · have hci : ci < 10 := (List.getElem?_eq_some_iff.mp hq).1
      rw [q_cl_at ci hci] at hq
      cases hq
      exact hF ci hci
    · match k, hq with
      | 0, hq => cases hq; exact a0
      | 1, hq => cases hq; exact a1
      | 2, hq => cases hq; exact a2
      | k + 3, hq => simp [qTy] at hq
  have hXB : qXB (fun q : Nat => s.heap.size ≤ q) s s.heap := by
    refine ⟨vx_Zqof (hts _ q_gv5.1) (hts _ q_gv5.2.2) (hs _ q_gv1.1) (fun a h => Nat.not_le.mpr h), vx_Zqof (hts _ q_gv5.2.1) (hts _ q_gv5.2.2) (hs _ q_gv1.2) (fun a h => Nat.not_le.mpr h), fun w hw => ?_, fun q hq => ?_, fun q hq => ?_, hAOw⟩
    · exact va_Nw.of (q_nk_ot (List.all_eq_true.mp q_NW_nk w hw)) (hts _ (q_NW_in w hw))
    · exact va_Nc.of (hs _ (q_gv2 q hq))
    · obtain ⟨a, -, -, -, h1, -⟩ := Cond.exactly_spec (args := #[Value.ref b]) (first := s) (o := none) (s := s) (idx := []) (hs _ (q_gv3 q hq))
      exact ⟨a, vk_R.of (A := #[Value.ref b]) (hts _ (q_gv4 q hq)) h1⟩
  obtain ⟨e1, e2, e3, e4, e5, e6, e7, e8, e9⟩ := q_code110
  have hst : l.stackTraces = false := by
    unfold Launch.stackTraces
    rw [hflags]
    decide +kernel
  have C : qCx p l s m #[Value.ref b] meth c room_1 110 lw_tbl CA (fun ci => (F ci).1, fun ci => (F ci).2) (fun q : Nat => s.heap.size ≤ q) :=
    ⟨⟨hx, by rw [hb, e1], by rw [hml, e2], by rw [e4]; exact hown⟩, ⟨hts, hgw⟩, ⟨by rw [hr, e3], hlocks, fun hq => absurd hq (by decide +kernel), fun hq => absurd hq (by decide +kernel)⟩, ⟨e6.symm, e7.symm, e8.symm, e9.symm⟩, ⟨hst, hK, fun q h => h, hXB⟩⟩
  rw [lg_entry_eq]
  have hl := qloc_ok (ad := fun _ => b) (j := 110) (vs := [.ref qSCR]) (by decide)
  refine q_all f (some (L, xs)) 110 0 0 0 (qloc 110 [.ref qSCR]) [] [] _ M' hrun p l e room_1 s m #[Value.ref b] below meth c lw_tbl CA _ _ C (fun _ => b) s.heap [] _ _ ⟨hX, hbl, Nat.not_le.mpr hbl, by omega⟩ (fun k q h => by simp [qW] at h) ⟨fun i j p q h => by simp [qW] at h, fun k q h => by simp [qW] at h⟩ va_S.rf hl (Nat.zero_le _) (Nat.zero_le _) ?_ ?_
  · intro v pc' x ad' H' locs' ls' k' n' hr9 hcode hkd hret h1 h2 h3 h4 h5 h6 h7 h8
    cases hr9
    refine va_forget (fun q hq => h6.2.2 q hq) ?_
    refine W.widen (k := 600086) (n := 7301442) h7 h8 ?_
    refine W.base ?_
    exact lw_ret (Drawn.sameBut.refl s.drawn lw_cs) hx hb hr hlocks (q_retl hcode hkd hret rfl)
  · intro e9 pc' idx x st' ad' H' locs' ls' k' n' hr9
    cases hr9
