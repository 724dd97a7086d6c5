/-! four rows of nine ints, and the row of them: the machine's own instruction -/
def mnI (cI : ClassId) : Cell := { cls := cI, slots := Array.replicate 9 (.int 0), vm := .none }
def mnO (cA : ClassId) : Cell := { cls := cA, slots := Array.replicate 4 .null, vm := .none }
/-- one row more, at the place i -/
def mnN (cI : ClassId) (h : Nat) (o : Cell) (i : Nat) (U : State) : State := (U.pushCell (mnI cI)).setCell h (o.setSlot i (.ref U.heap.size))
theorem mnN_f {cI : ClassId} {h : Nat} {o : Cell} {i : Nat} {U : State} (ho : U.heap[h]? = some o) : (mnN cI h o i U).heap.size = U.heap.size + 1 ∧ (mnN cI h o i U).heap[h]? = some (o.setSlot i (.ref U.heap.size)) ∧ (mnN cI h o i U).heap[U.heap.size]? = some (mnI cI) ∧ (∀ q : Nat, q < U.heap.size → q ≠ h → (mnN cI h o i U).heap[q]? = U.heap[q]?) ∧ (mnN cI h o i U).vm = U.vm ∧ (mnN cI h o i U).slotsUsed = U.slotsUsed + 9 := by
  have hlt : h < U.heap.size := (Array.getElem?_eq_some_iff.mp ho).1
  have hc : (U.pushCell (mnI cI)).heap[h]? = some o := by rw [State.heap_pushCell_of_lt (h := hlt)]; exact ho
  refine ⟨?_, State.heap_setCell_self hc, ?_, fun q hq hn => ?_, by simp [mnN], ?_⟩
  · simp [mnN, State.setCell]
  · show ((U.pushCell (mnI cI)).setCell h _).heap[U.heap.size]? = _
    rw [State.heap_setCell_other (show h ≠ U.heap.size by omega)]
    exact State.heap_pushCell_size _ _
  · show ((U.pushCell (mnI cI)).setCell h _).heap[q]? = _
    rw [State.heap_setCell_other (show h ≠ q from fun z => hn z.symm), State.heap_pushCell_of_lt (h := hq)]
  · simp [mnN, mnI]
theorem mnN_top {cI : ClassId} {h : Nat} {o : Cell} {i : Nat} {U : State} {f : JFrame} : mnN cI h o i (U.setTop f) = (mnN cI h o i U).setTop f := by
  simp only [mnN, State.heap_setTop, State.pushCell_setTop, State.setCell_setTop]
theorem mn_fits {t : FieldType} (h : t.isReference = true) (v : Value) (hv : v = .null ∨ ∃ a, v = .ref a) : fits t v = true := by
  rcases hv with rfl | ⟨a, rfl⟩ <;> cases t <;> simp [FieldType.isReference] at h <;> rfl
section MN
variable {E : CtlPost} {e : Env} {d : Bool} {acts : List Action} {s : State}
theorem mn_new {c comp : ClassId} {k : Class} {ty : FieldType} {len : Nat} {init : Value} (hk : s.vm.classes[c]? = some k) (hkind : k.kind = .array comp ty) (hl : ¬ len > e.platform.arrayLengthLimit) (hh : ¬ len * componentBytes ty > e.platform.maxHeapBytes) (hfit : fits ty init = true)
    (h1 : s.heap.size < e.platform.maxCells) (h2 : s.slotsUsed + len ≤ e.platform.maxSlots) {Q : Addr → Pre} (hq : ∀ a, Q s.heap.size d a (s.pushCell { cls := c, slots := Array.replicate len init, vm := .none })) : wp (Jvm.newArray c len init) Q E e d acts s := by
  have hfits : ∀ i v, (Array.replicate len init)[i]? = some v → s.fitsSlot c .none i v = true := by
    intro i v hv
    simp only [Array.getElem?_replicate] at hv
    split at hv
    · cases hv
      simp [State.fitsSlot, State.slotType?, hk, hkind, hfit]
    · cases hv
  simp only [Jvm.newArray, Jvm.arrayFits, wp_bind', W.ask, W.ite, hl, if_false, wp_pure', W.theClass, hk, hkind, hh, W.alloc, W.stop, Option.some.injEq, exists_eq_left', Array.size_replicate]
  rw [if_neg (by omega)]
  exact ⟨h1, h2, hfits, hq _⟩
/-- a row of nine ints is made -/
theorem mn_row {cI cc : ClassId} {kI : Class} (hkI : s.vm.classes[cI]? = some kI) (hkindI : kI.kind = .array cc .int) (hl : ¬ 9 > e.platform.arrayLengthLimit) (hh : ¬ 9 * componentBytes .int > e.platform.maxHeapBytes) (h1 : s.heap.size < e.platform.maxCells) (h2 : s.slotsUsed + 9 ≤ e.platform.maxSlots)
    {K : Addr → Pre} (hq : ∀ a', K s.heap.size d a' (s.pushCell (mnI cI))) : wp (multianewarray.make cI [9]) K E e d acts s := by
  rw [multianewarray.make]
  simp only [wp_bind', W.ite, show ¬ (9 : Int32) < 0 by decide, if_false, wp_pure', W.theClass, hkI, hkindI, Option.some.injEq, exists_eq_left', show (9 : Int32).toNatClampNeg = 9 by decide]
  exact mn_new hkI hkindI hl hh rfl h1 h2 hq
/-- and written into the outer row -/
theorem mn_wr {cA cI : ClassId} {kA : Class} {h i : Nat} {o : Cell} (hkA : s.vm.classes[cA]? = some kA) (hkindA : kA.kind = .array cI (.array .int)) (ho : s.heap[h]? = some o) (ho1 : o.cls = cA) (ho2 : o.vm = .none) (ho3 : o.slots.size = 4) (hi : i < 4)
    {Q : Unit → Pre} (hq : ∀ d' a', Q () d' a' (mnN cI h o i s)) : wp (Jvm.writeLoc h i (.ref s.heap.size)) Q E e d acts (s.pushCell (mnI cI)) := by
  have hlt : h < s.heap.size := (Array.getElem?_eq_some_iff.mp ho).1
  rw [W.writeLoc]
  refine ⟨o, by rw [State.heap_pushCell_of_lt (h := hlt)]; exact ho, by rw [ho2]; simp, by rw [ho3]; exact hi, ?_, hq _ _⟩
  rw [ho1, ho2]
  simp [State.fitsSlot, State.slotType?, hkA, hkindA, mn_fits (t := .array .int) rfl _ (Or.inr ⟨_, rfl⟩)]
end MN
section MNW
variable {p : Program} {l : Launch} {e : Env} {R : Room} {s : State} {m : MethodId} {args : Array Value} {below : List Frame} {meth : Method} {c : Code} {H : Heap} {locs : List Loc} {cells slots : Nat} {Q : State → Prop}
variable {cc : ByteArray} {pc : Nat} {ls : Array Slot} {rest : List Value}
theorem mnN_s {T : State} (X : Stand p l e R s m args below meth c T locs cells slots) (cI : ClassId) {h : Nat} {o : Cell} (i : Nat) (ho : T.heap[h]? = some o) : Stand p l e R s m args below meth c (mnN cI h o i T) (locs ++ [⟨h, i⟩]) (cells + 1) (slots + 9) := by
  have hlt : h < T.heap.size := (Array.getElem?_eq_some_iff.mp ho).1
  have X1 := X.pushed (mnI cI)
  have e9 : (mnI cI).slots.size = 9 := by simp [mnI]
  rw [e9] at X1
  exact X1.stored (by rw [State.heap_pushCell_of_lt (h := hlt)]; exact ho) i _
set_option maxHeartbeats 4000000 in
theorem W_mna4 (hexec : p.tables.exec = Jvm.exec) (hb : c.code = cc) {own : String} {index : Nat} {cA cI c9 : ClassId} {kA kI : Class} (hown : s.vm.findClass own = some m.cls) (hclink : (Cond.classLink own index "[[I").before args s = true) (fA : s.vm.findClass "[[I" = some cA)
    (hkA : s.vm.classes[cA]? = some kA) (hkindA : kA.kind = .array cI (.array .int)) (hkI : s.vm.classes[cI]? = some kI) (hkindI : kI.kind = .array c9 .int) (hcells : cells + 5 ≤ R.cells) (hslots : slots + 40 ≤ R.slots) (hdg : decode cc pc = .ok (.multianewarray index 2, 4))
    (kk : ∀ H' : Heap, H'.size = H.size + 5 → (∀ q : Nat, q < H.size → H'[q]? = H[q]?) → H'[H.size]? = some (arrV cA 4 (fun j => va_rf (if j < 4 then some (H.size + 1 + j) else none))) → (∀ j, j < 4 → H'[H.size + 1 + j]? = some (arrV cI 9 (fun _ => .int 0))) → W p l e R s m args below meth c H' (locs ++ [⟨H.size, 0⟩, ⟨H.size, 1⟩, ⟨H.size, 2⟩, ⟨H.size, 3⟩]) (cells + 5) (slots + 40) Q (F0 m (pc + 4) ls (.ref H.size :: rest))) : W p l e R s m args below meth c H locs cells slots Q (F0 m pc ls (.int 9 :: .int 4 :: rest)) := by
  intro T hT X
  subst hT; subst hb
  have hpl : e.platform.magicAccessors = ({} : Platform).magicAccessors := by rw [X.admits.platform]
  obtain ⟨c0, hfc0, hcl⟩ := Cond.classLink_spec hown hclink e.platform hpl
  cases fA.symm.trans hfc0
  obtain ⟨hg₁, hwarm₁, hready₁⟩ := State.classEntry (e := e) X.warmed hcl
  generalize T.vm.noted m.cls index (.cls cA) = vm₁ at hg₁ hwarm₁ hready₁
  have hal : s.vm.Alike vm₁ := hwarm₁.alike
  obtain ⟨kA₁, hkA₁, heA⟩ := hal.2.2 _ _ hkA
  obtain ⟨kI₁, hkI₁, heI⟩ := hal.2.2 _ _ hkI
  have hkindA₁ : kA₁.kind = .array cI (.array .int) := by rw [heA]; exact hkindA
  have hkindI₁ : kI₁.kind = .array c9 .int := by rw [heI]; exact hkindI
  have X₁ := X.noted hwarm₁
  obtain ⟨hr1, hr2⟩ := X.roomAbove hcells hslots
  have hl1 : ¬ 4 > e.platform.arrayLengthLimit := by rw [Launch.admits_arrayLengthLimit X.admits]; omega
  have hh1 : ¬ 4 * componentBytes (.array .int) > e.platform.maxHeapBytes := by
    rw [Launch.admits_maxHeapBytes X.admits]; show ¬ 4 * 4 > 536870912; omega
  have hl2 : ¬ 9 > e.platform.arrayLengthLimit := by rw [Launch.admits_arrayLengthLimit X.admits]; omega
  have hh2 : ¬ 9 * componentBytes .int > e.platform.maxHeapBytes := by
    rw [Launch.admits_maxHeapBytes X.admits]; show ¬ 9 * 4 > 536870912; omega
  have b0 : (T.setVm vm₁).heap = T.heap := rfl
  obtain ⟨U0, hU0⟩ : ∃ U0, U0 = (T.setVm vm₁).pushCell (mnO cA) := ⟨_, rfl⟩
  have X0 : Stand p l e R s m args below meth c U0 locs (cells + 1) (slots + 4) := by
    have h := X₁.pushed (mnO cA)
    rw [show (mnO cA).slots.size = 4 by simp [mnO]] at h
    rw [hU0]
    exact h
  have s0 : U0.heap.size = T.heap.size + 1 := by rw [hU0]; simp
  have g0 : U0.heap[T.heap.size]? = some (mnO cA) := by rw [hU0]; exact State.heap_pushCell_size _ _
  have q0 : ∀ q : Nat, q < T.heap.size → U0.heap[q]? = T.heap[q]? := fun q hq => by rw [hU0]; exact State.heap_pushCell_of_lt _ _ hq
  have v0 : U0.vm = vm₁ := by rw [hU0]; rfl
  have u0 : U0.slotsUsed = T.slotsUsed + 4 := by rw [hU0]; simp [mnO]
  obtain ⟨o0, ho0⟩ : ∃ o0, o0 = mnO cA := ⟨_, rfl⟩
  rw [← ho0] at g0
  obtain ⟨s1, g1, n1, q1, v1, u1⟩ := mnN_f (cI := cI) (i := 0) g0
  have X1 := mnN_s X0 cI 0 g0
  obtain ⟨o1, ho1⟩ : ∃ o1, o1 = o0.setSlot 0 (.ref U0.heap.size) := ⟨_, rfl⟩
  obtain ⟨U1, hU1⟩ : ∃ U1, U1 = mnN cI T.heap.size o0 0 U0 := ⟨_, rfl⟩
  rw [← ho1, ← hU1] at g1
  rw [← hU1] at s1 n1 q1 v1 u1 X1
  obtain ⟨s2, g2, n2, q2, v2, u2⟩ := mnN_f (cI := cI) (i := 1) g1
  have X2 := mnN_s X1 cI 1 g1
  obtain ⟨o2, ho2⟩ : ∃ o2, o2 = o1.setSlot 1 (.ref U1.heap.size) := ⟨_, rfl⟩
  obtain ⟨U2, hU2⟩ : ∃ U2, U2 = mnN cI T.heap.size o1 1 U1 := ⟨_, rfl⟩
  rw [← ho2, ← hU2] at g2
  rw [← hU2] at s2 n2 q2 v2 u2 X2
  obtain ⟨s3, g3, n3, q3, v3, u3⟩ := mnN_f (cI := cI) (i := 2) g2
  have X3 := mnN_s X2 cI 2 g2
  obtain ⟨o3, ho3⟩ : ∃ o3, o3 = o2.setSlot 2 (.ref U2.heap.size) := ⟨_, rfl⟩
  obtain ⟨U3, hU3⟩ : ∃ U3, U3 = mnN cI T.heap.size o2 2 U2 := ⟨_, rfl⟩
  rw [← ho3, ← hU3] at g3
  rw [← hU3] at s3 n3 q3 v3 u3 X3
  obtain ⟨s4, g4, n4, q4, v4, u4⟩ := mnN_f (cI := cI) (i := 3) g3
  have X4 := mnN_s X3 cI 3 g3
  obtain ⟨U4, hU4⟩ : ∃ U4, U4 = mnN cI T.heap.size o3 3 U3 := ⟨_, rfl⟩
  rw [← hU4] at g4
  rw [← hU4] at s4 n4 q4 v4 u4 X4
  have eo : o3.setSlot 3 (.ref U3.heap.size) = arrV cA 4 (fun j => va_rf (if j < 4 then some (T.heap.size + 1 + j) else none)) := by
    rw [ho3, ho2, ho1, ho0, mnO, arrV_new, arrV_store, arrV_store, arrV_store, arrV_store, s3, s2, s1, s0]
    refine congrArg (arrV cA 4) (funext fun j => ?_)
    match j with
    | 0 => simp [updV, va_rf]
    | 1 => simp [updV, va_rf]
    | 2 => simp [updV, va_rf]
    | 3 => simp [updV, va_rf]
    | j + 4 =>
      have h : ∀ i, i < 4 → ¬ j + 4 = i := fun i hi => by omega
      rw [if_neg (by omega)]
      simp [updV, va_rf, h 3 (by decide), h 2 (by decide), h 1 (by decide)]
  have X5 : Stand p l e R s m args below meth c U4 (locs ++ [⟨T.heap.size, 0⟩, ⟨T.heap.size, 1⟩, ⟨T.heap.size, 2⟩, ⟨T.heap.size, 3⟩]) (cells + 5) (slots + 40) := by
    simpa [List.append_assoc, Nat.add_assoc] using X4
  have eI : mnI cI = arrV cI 9 (fun _ => .int 0) := arrV_new cI 9 (.int 0)
  obtain ⟨t', a1, b1⟩ := kk U4.heap (by omega) (fun q hq => by
    rw [q4 q (by omega) (by omega), q3 q (by omega) (by omega), q2 q (by omega) (by omega), q1 q (by omega) (by omega)]
    exact q0 q hq) (by rw [g4, eo]) (fun j hj => by
    rw [← eI]
    match j, hj with
    | 0, _ =>
      rw [show T.heap.size + 1 + 0 = U0.heap.size by omega, q4 _ (by omega) (by omega), q3 _ (by omega) (by omega), q2 _ (by omega) (by omega)]
      exact n1
    | 1, _ =>
      rw [show T.heap.size + 1 + 1 = U1.heap.size by omega, q4 _ (by omega) (by omega), q3 _ (by omega) (by omega)]
      exact n2
    | 2, _ =>
      rw [show T.heap.size + 1 + 2 = U2.heap.size by omega, q4 _ (by omega) (by omega)]
      exact n3
    | 3, _ =>
      rw [show T.heap.size + 1 + 3 = U3.heap.size by omega]
      exact n4) U4 rfl X5
  refine ⟨t', ?_, b1⟩
  have z0 : o0.cls = cA ∧ o0.vm = .none ∧ o0.slots.size = 4 := by rw [ho0]; exact ⟨rfl, rfl, by simp [mnO]⟩
  have z1 : o1.cls = cA ∧ o1.vm = .none ∧ o1.slots.size = 4 := by rw [ho1]; exact ⟨z0.1, z0.2.1, by simp [Cell.setSlot, z0.2.2]⟩
  have z2 : o2.cls = cA ∧ o2.vm = .none ∧ o2.slots.size = 4 := by rw [ho2]; exact ⟨z1.1, z1.2.1, by simp [Cell.setSlot, z1.2.2]⟩
  have z3 : o3.cls = cA ∧ o3.vm = .none ∧ o3.slots.size = 4 := by rw [ho3]; exact ⟨z2.1, z2.2.1, by simp [Cell.setSlot, z2.2.2]⟩
  jvm_step X.here [hexec, hdg]
  simp only [multianewarray.sem, wp_bind', W.resolveClassAt_links (State.method?_setTop (F0 m pc ls (.int 9 :: .int 4 :: rest)) X.here.top) hg₁]
  rw [W.popN, if_neg (by decide)]
  refine ⟨F0 m pc ls (.int 9 :: .int 4 :: rest), State.topJava?_setTop' (s := T.setVm vm₁) _ X.here.top, [.int 4, .int 9], rest, rfl, rfl, ?_⟩
  simp only [List.mapM_cons, List.mapM_nil, wp_bind', wp_pure']
  have eS : ((T.setTop (F0 m pc ls (.int 9 :: .int 4 :: rest))).setVm vm₁).setTop { method := m, pc := pc, locals := ls, stack := rest, locked := none } = (T.setVm vm₁).setTop { method := m, pc := pc, locals := ls, stack := rest, locked := none } := by
    show ((T.setVm vm₁).setTop (F0 m pc ls (.int 9 :: .int 4 :: rest))).setTop _ = _
    rw [State.setTop_setTop]
  rw [eS, multianewarray.make]
  simp only [wp_bind', W.ite, show ¬ (4 : Int32) < 0 by decide, if_false, wp_pure', W.theClass]
  refine ⟨kA₁, hkA₁, ?_⟩
  simp only [hkindA₁, show ((4 : Int32) == 0) = false by decide, Bool.false_eq_true, if_false, wp_bind', wp_pure', show (4 : Int32).toNatClampNeg = 4 by decide]
  refine mn_new (k := kA₁) hkA₁ hkindA₁ hl1 hh1 rfl (by show T.heap.size < _; omega) (by show T.slotsUsed + 4 ≤ _; omega) (fun a => ?_)
  have eP : ((T.setVm vm₁).setTop { method := m, pc := pc, locals := ls, stack := rest, locked := none }).pushCell { cls := cA, slots := Array.replicate 4 .null, vm := .none } = U0.setTop { method := m, pc := pc, locals := ls, stack := rest, locked := none } := by
    rw [hU0, State.pushCell_setTop]
    rfl
  rw [eP]
  simp only [State.heap_setTop, b0]
  rw [wp_bind', Std.Legacy.Range.forIn_eq_forIn_range']
  rw [show List.range' ([:4] : Std.Legacy.Range).start ([:4] : Std.Legacy.Range).size ([:4] : Std.Legacy.Range).step = [0, 1, 2, 3] by decide]
  simp only [List.forIn_cons, List.forIn_nil, wp_bind', wp_pure']
  have top : ∀ U : State, (U.setTop { method := m, pc := pc, locals := ls, stack := rest, locked := none }).heap = U.heap := fun U => State.heap_setTop _ _
  have vms : ∀ U : State, (U.setTop { method := m, pc := pc, locals := ls, stack := rest, locked := none }).vm = U.vm := fun U => by simp
  have slt : ∀ U : State, (U.setTop { method := m, pc := pc, locals := ls, stack := rest, locked := none }).slotsUsed = U.slotsUsed := fun U => by simp
  refine mn_row (kI := kI₁) (by rw [vms, v0]; exact hkI₁) hkindI₁ hl2 hh2 (by rw [top]; omega) (by rw [slt]; omega) (fun a' => ?_)
  rw [wp_bind']
  refine mn_wr (kA := kA₁) (cA := cA) (by rw [vms, v0]; exact hkA₁) hkindA₁ (by rw [top]; exact g0) z0.1 z0.2.1 z0.2.2 (by decide) (fun d' a' => ?_)
  rw [wp_pure', mnN_top, ← hU1]
  simp only [wp_bind', wp_pure']
  refine mn_row (kI := kI₁) (by rw [vms, v1, v0]; exact hkI₁) hkindI₁ hl2 hh2 (by rw [top]; omega) (by rw [slt]; omega) (fun a' => ?_)
  rw [wp_bind']
  refine mn_wr (kA := kA₁) (cA := cA) (by rw [vms, v1, v0]; exact hkA₁) hkindA₁ (by rw [top]; exact g1) z1.1 z1.2.1 z1.2.2 (by decide) (fun d' a' => ?_)
  rw [wp_pure', mnN_top, ← hU2]
  simp only [wp_bind', wp_pure']
  refine mn_row (kI := kI₁) (by rw [vms, v2, v1, v0]; exact hkI₁) hkindI₁ hl2 hh2 (by rw [top]; omega) (by rw [slt]; omega) (fun a' => ?_)
  rw [wp_bind']
  refine mn_wr (kA := kA₁) (cA := cA) (by rw [vms, v2, v1, v0]; exact hkA₁) hkindA₁ (by rw [top]; exact g2) z2.1 z2.2.1 z2.2.2 (by decide) (fun d' a' => ?_)
  rw [wp_pure', mnN_top, ← hU3]
  simp only [wp_bind', wp_pure']
  refine mn_row (kI := kI₁) (by rw [vms, v3, v2, v1, v0]; exact hkI₁) hkindI₁ hl2 hh2 (by rw [top]; omega) (by rw [slt]; omega) (fun a' => ?_)
  rw [wp_bind']
  refine mn_wr (kA := kA₁) (cA := cA) (by rw [vms, v3, v2, v1, v0]; exact hkA₁) hkindA₁ (by rw [top]; exact g3) z3.1 z3.2.1 z3.2.2 (by decide) (fun d' a' => ?_)
  rw [wp_pure', mnN_top, ← hU4]
  simp only [wp_pure', wp_bind', W.mark, W.pushRef, State.topJava?_setTop' _ X5.here.top, Option.some.injEq, exists_eq_left', State.setTop_setTop]
  intro acts
  simp [jvm, X5.here.top]
  exact a1
end MNW
