section
-- ===== PART A: goes FIRST, ahead of the names: the tables' words, and 'selects' of the private methods out of them =====
/-- a private method of a class that the tables say can be made, by its rows of tables_1 -/
def lw_okq (q : MethodName × Nat) : Prop := (q.1.cls ≠ "java/lang/invoke/MethodHandle" ∧ q.1.cls ≠ "java/lang/invoke/VarHandle") ∧ Cond.instantiable q.1.cls q.2 ∈ tables_1 ∧ Cond.privateMethod q.1 ∈ tables_1 ∧ Cond.instanceMethod q.1 ∈ tables_1
theorem lw_p0 : lw_okq (⟨"Tilehold$Placing", "seePiece", "(I)V"⟩, 6) := ⟨⟨by decide +kernel, by decide +kernel⟩, List.mem_of_getElem? (i := 161) (by decide +kernel), List.mem_of_getElem? (i := 365) (by decide +kernel), List.mem_of_getElem? (i := 366) (by decide +kernel)⟩
theorem lw_p1 : lw_okq (⟨"Tilehold", "areBothWaysSame", "()Z"⟩, 12) := ⟨⟨by decide +kernel, by decide +kernel⟩, List.mem_of_getElem? (i := 22) (by decide +kernel), List.mem_of_getElem? (i := 371) (by decide +kernel), List.mem_of_getElem? (i := 372) (by decide +kernel)⟩
theorem lw_p2 : lw_okq (⟨"Tilehold$Narrowing", "narrowBeside", "(II)V"⟩, 6) := ⟨⟨by decide +kernel, by decide +kernel⟩, List.mem_of_getElem? (i := 122) (by decide +kernel), List.mem_of_getElem? (i := 399) (by decide +kernel), List.mem_of_getElem? (i := 400) (by decide +kernel)⟩
theorem lw_p3 : lw_okq (⟨"Tilehold$Narrowing", "takeUnfitting", "(I)Z"⟩, 6) := ⟨⟨by decide +kernel, by decide +kernel⟩, List.mem_of_getElem? (i := 122) (by decide +kernel), List.mem_of_getElem? (i := 415) (by decide +kernel), List.mem_of_getElem? (i := 416) (by decide +kernel)⟩
theorem lw_p4 : lw_okq (⟨"Tilehold$Narrowing", "hasFittingNeighbours", "(II)Z"⟩, 6) := ⟨⟨by decide +kernel, by decide +kernel⟩, List.mem_of_getElem? (i := 122) (by decide +kernel), List.mem_of_getElem? (i := 422) (by decide +kernel), List.mem_of_getElem? (i := 423) (by decide +kernel)⟩
theorem lw_p5 : lw_okq (⟨"Tilehold", "areNearChunksSame", "()Z"⟩, 12) := ⟨⟨by decide +kernel, by decide +kernel⟩, List.mem_of_getElem? (i := 22) (by decide +kernel), List.mem_of_getElem? (i := 429) (by decide +kernel), List.mem_of_getElem? (i := 430) (by decide +kernel)⟩
theorem lw_p6 : lw_okq (⟨"Tilehold", "putChunkIntoFilling", "(II)V"⟩, 12) := ⟨⟨by decide +kernel, by decide +kernel⟩, List.mem_of_getElem? (i := 22) (by decide +kernel), List.mem_of_getElem? (i := 436) (by decide +kernel), List.mem_of_getElem? (i := 437) (by decide +kernel)⟩
theorem lw_p7 : lw_okq (⟨"Tilehold", "possibleInChunk", "(III)I"⟩, 12) := ⟨⟨by decide +kernel, by decide +kernel⟩, List.mem_of_getElem? (i := 22) (by decide +kernel), List.mem_of_getElem? (i := 440) (by decide +kernel), List.mem_of_getElem? (i := 441) (by decide +kernel)⟩
theorem lw_p8 : lw_okq (⟨"Tilehold", "edgeColour", "(IIII)I"⟩, 12) := ⟨⟨by decide +kernel, by decide +kernel⟩, List.mem_of_getElem? (i := 22) (by decide +kernel), List.mem_of_getElem? (i := 447) (by decide +kernel), List.mem_of_getElem? (i := 448) (by decide +kernel)⟩
theorem lw_p9 : lw_okq (⟨"Tilehold", "chunkState", "(II)I"⟩, 12) := ⟨⟨by decide +kernel, by decide +kernel⟩, List.mem_of_getElem? (i := 22) (by decide +kernel), List.mem_of_getElem? (i := 457) (by decide +kernel), List.mem_of_getElem? (i := 458) (by decide +kernel)⟩
theorem lw_p10 : lw_okq (⟨"Tilehold$Filling", "hasGoneWrong", "()Z"⟩, 13) := ⟨⟨by decide +kernel, by decide +kernel⟩, List.mem_of_getElem? (i := 151) (by decide +kernel), List.mem_of_getElem? (i := 467) (by decide +kernel), List.mem_of_getElem? (i := 468) (by decide +kernel)⟩
theorem lw_p11 : lw_okq (⟨"Tilehold$Filling", "cellWithFewest", "()I"⟩, 13) := ⟨⟨by decide +kernel, by decide +kernel⟩, List.mem_of_getElem? (i := 151) (by decide +kernel), List.mem_of_getElem? (i := 487) (by decide +kernel), List.mem_of_getElem? (i := 488) (by decide +kernel)⟩
theorem lw_p12 : lw_okq (⟨"Tilehold$Filling", "placeTiles", "()V"⟩, 13) := ⟨⟨by decide +kernel, by decide +kernel⟩, List.mem_of_getElem? (i := 151) (by decide +kernel), List.mem_of_getElem? (i := 491) (by decide +kernel), List.mem_of_getElem? (i := 492) (by decide +kernel)⟩
theorem lw_p13 : lw_okq (⟨"Tilehold$Filling", "guess", "(I)V"⟩, 13) := ⟨⟨by decide +kernel, by decide +kernel⟩, List.mem_of_getElem? (i := 151) (by decide +kernel), List.mem_of_getElem? (i := 495) (by decide +kernel), List.mem_of_getElem? (i := 496) (by decide +kernel)⟩
theorem lw_p14 : lw_okq (⟨"Tilehold$Filling", "takeBack", "()V"⟩, 13) := ⟨⟨by decide +kernel, by decide +kernel⟩, List.mem_of_getElem? (i := 151) (by decide +kernel), List.mem_of_getElem? (i := 508) (by decide +kernel), List.mem_of_getElem? (i := 509) (by decide +kernel)⟩
theorem lw_p15 : lw_okq (⟨"java/lang/Throwable", "fillInStackTrace", "(I)Ljava/lang/Throwable;"⟩, 6) := ⟨⟨by decide +kernel, by decide +kernel⟩, List.mem_of_getElem? (i := 583) (by decide +kernel), List.mem_of_getElem? (i := 581) (by decide +kernel), List.mem_of_getElem? (i := 582) (by decide +kernel)⟩
def lw_privs_1 : List (MethodName × Nat) := [(⟨"Tilehold$Placing", "seePiece", "(I)V"⟩, 6), (⟨"Tilehold", "areBothWaysSame", "()Z"⟩, 12), (⟨"Tilehold$Narrowing", "narrowBeside", "(II)V"⟩, 6), (⟨"Tilehold$Narrowing", "takeUnfitting", "(I)Z"⟩, 6), (⟨"Tilehold$Narrowing", "hasFittingNeighbours", "(II)Z"⟩, 6), (⟨"Tilehold", "areNearChunksSame", "()Z"⟩, 12), (⟨"Tilehold", "putChunkIntoFilling", "(II)V"⟩, 12), (⟨"Tilehold", "possibleInChunk", "(III)I"⟩, 12), (⟨"Tilehold", "edgeColour", "(IIII)I"⟩, 12), (⟨"Tilehold", "chunkState", "(II)I"⟩, 12), (⟨"Tilehold$Filling", "hasGoneWrong", "()Z"⟩, 13), (⟨"Tilehold$Filling", "cellWithFewest", "()I"⟩, 13), (⟨"Tilehold$Filling", "placeTiles", "()V"⟩, 13), (⟨"Tilehold$Filling", "guess", "(I)V"⟩, 13), (⟨"Tilehold$Filling", "takeBack", "()V"⟩, 13), (⟨"java/lang/Throwable", "fillInStackTrace", "(I)Ljava/lang/Throwable;"⟩, 6)]
theorem lw_r1 : ∀ q ∈ lw_privs_1, lw_okq q := List.forall_mem_cons.mpr ⟨lw_p0, List.forall_mem_cons.mpr ⟨lw_p1, List.forall_mem_cons.mpr ⟨lw_p2, List.forall_mem_cons.mpr ⟨lw_p3, List.forall_mem_cons.mpr ⟨lw_p4, List.forall_mem_cons.mpr ⟨lw_p5, List.forall_mem_cons.mpr ⟨lw_p6, List.forall_mem_cons.mpr ⟨lw_p7, List.forall_mem_cons.mpr ⟨lw_p8, List.forall_mem_cons.mpr ⟨lw_p9, List.forall_mem_cons.mpr ⟨lw_p10, List.forall_mem_cons.mpr ⟨lw_p11, List.forall_mem_cons.mpr ⟨lw_p12, List.forall_mem_cons.mpr ⟨lw_p13, List.forall_mem_cons.mpr ⟨lw_p14, List.forall_mem_cons.mpr ⟨lw_p15, fun _ h => absurd h List.not_mem_nil⟩⟩⟩⟩⟩⟩⟩⟩⟩⟩⟩⟩⟩⟩⟩⟩
theorem lw_p16 : lw_okq (⟨"Tilehold$Tiles", "paint", "(III)V"⟩, 4) := ⟨⟨by decide +kernel, by decide +kernel⟩, List.mem_of_getElem? (i := 30) (by decide +kernel), List.mem_of_getElem? (i := 638) (by decide +kernel), List.mem_of_getElem? (i := 639) (by decide +kernel)⟩
theorem lw_p17 : lw_okq (⟨"Tilehold", "isWay", "(I)Z"⟩, 12) := ⟨⟨by decide +kernel, by decide +kernel⟩, List.mem_of_getElem? (i := 22) (by decide +kernel), List.mem_of_getElem? (i := 729) (by decide +kernel), List.mem_of_getElem? (i := 730) (by decide +kernel)⟩
def lw_privs_2 : List (MethodName × Nat) := [(⟨"Tilehold$Tiles", "paint", "(III)V"⟩, 4), (⟨"Tilehold", "isWay", "(I)Z"⟩, 12)]
theorem lw_r2 : ∀ q ∈ lw_privs_2, lw_okq q := List.forall_mem_cons.mpr ⟨lw_p16, List.forall_mem_cons.mpr ⟨lw_p17, fun _ h => absurd h List.not_mem_nil⟩⟩
def lw_privs : List (MethodName × Nat) := lw_privs_1 ++ (lw_privs_2)
def lw_tbl : List Cond := k2_sels lw_privs ++ tables_1
theorem lw_privs_ok : ∀ q ∈ lw_privs, lw_okq q := by
  show ∀ q ∈ lw_privs_1 ++ (lw_privs_2), lw_okq q
  exact List.forall_mem_append.mpr ⟨lw_r1, lw_r2⟩
/-- the streams that the claim lets the run draw from -/
abbrev lw_cs : List Choice := [Jvm.Choice.named "NaN.bits"]
theorem lw_bits : nanBits ∈ lw_cs := by first | decide | exact List.mem_cons_self | simp [lw_cs, nanBits]
end
section
/-! ===== BEGIN words of one list among another's, by their places ===== -/
theorem goodIn_r {big : List Cond} (ws : List Cond) (ps : List Nat) (hp : ws = ps.filterMap (fun i => big[i]?)) (h : ws.all goodWord = true) : GoodIn big ws := by
  intro w hw
  have h1 := List.all_eq_true.mp h w hw
  rw [hp] at hw
  obtain ⟨i, -, hi⟩ := List.mem_filterMap.mp hw
  have hm : w ∈ big := by first | exact List.mem_of_getElem? hi | exact List.getElem?_mem hi
  exact ⟨hm, good_of_word h1⟩
theorem goodIn_app {big a b : List Cond} (ha : GoodIn big a) (hb : GoodIn big b) : GoodIn big (a ++ b) := fun w h => (List.mem_append.mp h).elim (ha w) (hb w)
theorem goodIn_ca {big a b : List Cond} {c : Cond} (ha : GoodIn big (c :: a)) (hb : GoodIn big b) : GoodIn big (c :: (a ++ b)) := fun w h => (List.mem_cons.mp h).elim (fun e => ha w (List.mem_cons.mpr (Or.inl e))) (fun h => (List.mem_append.mp h).elim (fun h => ha w (List.mem_cons.mpr (Or.inr h))) (hb w))
theorem goodIn_sub {big ws : List Cond} (hm : ∀ w ∈ ws, w ∈ big) (h : ws.all goodWord = true) : GoodIn big ws := fun w hw => ⟨hm w hw, good_of_word (List.all_eq_true.mp h w hw)⟩
/-! ===== END ===== -/


/-! ===== BEGIN exceptions that leave a method, and their catching by the caller (launches without stack traces) ===== -/
section VXA
/-! The laws vx_back, vx_callV, vx_callS, vx_callSW, vx_throw0, vx_throwS follow proofs of the library, with one case more: JvmDerived/Free/Laws.lean (Back.of_free), Shelf42/LK1.lean (callV, callS), Shelf/KitTraced.lean (throwNew0V, throwNewS). -/
/-- where a method has thrown q: the class by its name, the cell, what was written, the world -/
def vx_T (XC : String → State → State → Prop) (st : State) (q : Addr) (t : State) (mc ms : Nat) (free : Addr → Prop) : Prop :=
  ∃ (E : String) (ce : Cell) (L : List Loc), XC E st t ∧ t.heap[q]? = some ce ∧ ce.vm = .none ∧ st.vm.findClass E = some ce.cls ∧ st.WarmedH t.vm ∧ st.sameButNew ({ t with vm := st.vm } : State) L mc ms ∧ ∀ z ∈ L, free z.base
def vx_Q (Qc : Array Value → State → Outcome → State → Prop) (XC : String → State → State → Prop) (mc ms : Nat) (free : Addr → Prop) : Array Value → State → Outcome → State → Prop := fun a st o t =>
  (Qc a st o t ∧ ∃ L, FrameEnd st o t L mc ms ∧ ∀ q ∈ L, free q.base) ∨ ∃ q, o = .threw q ∧ vx_T XC st q t mc ms free
/-- a callee that returns or throws -/
def vx_Met (l : Launch) (y : MethodName) (ws : List Cond) (rm : Room) (Pc : Array Value → State → Prop) (Qc : Array Value → State → Outcome → State → Prop) (XC : String → State → State → Prop) (mc ms : Nat) (free : Addr → Prop) : Prop :=
  MetFree l y (headSpec ws rm) Pc (fun _ _ _ _ _ => True) (vx_Q Qc XC mc ms free)
def vx_Post (XC : String → State → State → Prop) (mc ms : Nat) (free : Addr → Prop) : Pt → Array Value → Addr → Pt → Prop := fun A a q B =>
  ∃ (g : JFrame) (mk : MethodId) (t : State) (L : List Loc) (E : String) (ce : Cell), B.U.heap = t.heap ∧ B.U.vm = t.vm ∧ XC E (A.U.calling g mk a) t ∧ t.heap[q]? = some ce ∧ ce.vm = .none ∧ A.U.vm.findClass E = some ce.cls ∧ B.locs = A.locs ++ L ∧ (∀ z ∈ L, free z.base) ∧ B.cells = A.cells + mc ∧ B.slots = A.slots + ms
def vx_Back (l : Launch) (R : Room) (p : Program) (e : Env) (below : List Frame) (s : State) (sargs : Array Value) (y : MethodName) (len W9 : Nat)
    (Pre : Pt → Array Value → Prop) (Post : Pt → Array Value → Option Value → Pt → Prop) (PostX : Pt → Array Value → Addr → Pt → Prop) : Prop :=
  ∀ (m : MethodId) (meth : Method) (c : Code) (A : Pt) (g : JFrame) (ig : Instr) (mk : MethodId) (a : Array Value),
    Stand p l e R s m sargs below meth c A.U A.locs A.cells A.slots → g.method = m → g.locals.size = c.maxLocals → decode c.code g.pc = .ok (ig, len) →
    2 * g.monitorRoom + (g.stack.map fun v => v.category).sum ≤ W9 → A.U.methodNamed? y = some mk → Pre A a →
    (∃ (v : Option Value) (B : Pt), Stand p l e R s m sargs below meth c B.U B.locs B.cells B.slots ∧ Post A a v B ∧
      Steps p.tables e below (doInvoke e (A.U.setTop g) [] mk a).1 (B.U.setTop { g with pc := g.pc + len, stack := v.toList ++ g.stack })) ∨
    (∃ (q : Addr) (B : Pt), Stand p l e R s m sargs below meth c B.U B.locs B.cells B.slots ∧ PostX A a q B ∧
      Steps p.tables e below (doInvoke e (A.U.setTop g) [] mk a).1 ((B.U.setTop g).pushFrame (.throwing q)))
section Payer
variable {l : Launch} {R : Room} {p : Program} {e : Env} {below : List Frame} {s : State} {sargs : Array Value} {y : MethodName} {len W9 : Nat}
theorem vx_back {ws : List Cond} {rm : Room} {Pc : Array Value → State → Prop} {Qc : Array Value → State → Outcome → State → Prop} {XC : String → State → State → Prop} {mc ms : Nat} {free : Addr → Prop} {bytes : ByteArray} {maxL : Nat} {ret : Option FieldType}
    (hM : vx_Met l y ws rm Pc Qc XC mc ms free) (hblind : FrameBlind Pc) (hrc : rm.cells = mc) (hrs : rm.slots = ms)
    (hframes : rm.frames + 1 ≤ R.frames) (hlocals : W9 + (maxL + 11) + rm.locals ≤ R.locals)
    (hws : ∀ w ∈ ws, ∀ a' U, s.WarmedH U.vm → w.before a' U = true) (hcode : Cond.code y bytes maxL ret ∈ ws) (hinit : ∀ a' U, s.WarmedH U.vm → (Cond.initialized y.cls).before a' U = true) :
    vx_Back l R p e below s sargs y len W9 (PreOf R mc ms Pc) (PostOf Qc mc ms free) (vx_Post XC mc ms free) := by
  intro m meth c A g ig mk a X hg hsize hdg hW hn hp
  have h1 : (headSpec ws rm).pre.before a A.U = true := atoms_intro fun w hw => hws w hw _ _ X.warmed
  have h2 : (Cond.code y bytes maxL ret).before a A.U = true := hws _ hcode _ _ X.warmed
  have h3 : (Cond.initialized y.cls).before a A.U = true := hinit _ _ X.warmed
  have h4 : A.cells + (headSpec ws rm).room.cells ≤ R.cells := by rw [show (headSpec ws rm).room.cells = mc from hrc]; exact hp.1
  have h5 : A.slots + (headSpec ws rm).room.slots ≤ R.slots := by rw [show (headSpec ws rm).room.slots = ms from hrs]; exact hp.2.1
  have hPc : Pc a (A.U.calling g mk a) := hblind _ _ _ _ hp.2.2
  obtain ⟨U, Ls, c0, s0⟩ := A
  dsimp only [Pt.U, Pt.locs, Pt.cells, Pt.slots] at h1 h2 h3 h4 h5 X hn hPc ⊢
  obtain ⟨methY, cY, hmY, hcY, -, hlY, -, -, -, -⟩ := Cond.code_spec hn h2
  obtain ⟨kY, hkY, -⟩ := className_of_methodNamed hn
  have hinitY : kY.init = .initialized := Cond.initialized_spec (findClass_of_methodNamed hn) hkY h3
  have h : At U g.method c below := by rw [hg]; exact X.here
  have hlocals9 : W9 + (maxL + 11) + (headSpec ws rm).room.locals ≤ R.locals := hlocals
  have happ : (headSpec ws rm).appliesLoose y e.platform (U.calling g mk a) = true :=
    Spec.appliesLoose_calling (g := g) h hdg hn hkY hinitY
      (X.room_calling (g := g) (R' := (headSpec ws rm).room) hsize hmY hcY hframes (by rw [hlY]; omega) h4 h5) h1
  obtain ⟨mid, hmid⟩ := h.above
  have hfr : (U.setTop g).frames = (.java g :: mid) ++ below := by rw [State.frames_setTop' g h.top, hmid]; rfl
  obtain ⟨o, s₂, hsteps, -, hend, hq⟩ := Steps.callFree hM p X.admits X.cas X.clock (acts := []) hfr happ hPc trivial
  have hq' : vx_Q Qc XC mc ms free a (U.calling g mk a) o s₂ := hq
  rw [State.frames_setTop' g h.top] at hend
  obtain ⟨g₀, hg0⟩ := Option.isSome_iff_exists.mp h.top
  obtain ⟨r, hr⟩ := State.topJava?_eq_some.mp hg0
  have hr' : (({ U with heap := s₂.heap, slotsUsed := s₂.slotsUsed } : State).setVm s₂.vm).frames = .java g₀ :: r := hr
  rcases hq' with ⟨hqc, L, hfe, hL⟩ | ⟨q, rfl, E, ce, L, hx, hce, hcv, hcl, hW₂, hsm, hL⟩
  · obtain ⟨⟨v, rfl⟩, hW₂, e2, q2, q3, q4, q5, q6⟩ := id hfe
    have e3 : s₂ = ({ (U.calling g mk a).setFrames s₂.frames with heap := s₂.heap, slotsUsed := s₂.slotsUsed } : State).setVm s₂.vm := by
      have : s₂ = ({ s₂ with vm := (U.calling g mk a).vm } : State).setVm s₂.vm := rfl
      rw [e2] at this
      exact this
    obtain ⟨c₂, i₂, len₂, hc₂, hd₂, hf₂⟩ := hend
    have hW' : U.WarmedH s₂.vm := hW₂
    have hcc : c₂ = c := by
      have h1 : s₂.code? g.method = U.code? g.method := by
        rw [State.code?_eq, State.code?_eq, hW'.alike.method?]
      exact Option.some.inj (hc₂.symm.trans (h1.trans h.code))
    subst hcc
    have hlen : len₂ = len := by rw [hdg] at hd₂; cases hd₂; rfl
    subst hlen
    have hs₂ : s₂ = (({ U with heap := s₂.heap, slotsUsed := s₂.slotsUsed } : State).setVm s₂.vm).setTop { g with pc := g.pc + len₂, stack := v.toList ++ g.stack } := by
      refine e3.trans ?_
      rw [hf₂, State.calling_eq h.top, State.setFrames_setFrames, State.setTop_of_frames _ hr', hr]
      rfl
    have hsame : U.sameButNew ({ U with heap := s₂.heap, slotsUsed := s₂.slotsUsed } : State) L mc ms := by
      refine ⟨?_, q2, q3, q4, q5, q6⟩
      obtain ⟨t, ht, -⟩ := State.frames_cons hr
      show ({ U with heap := s₂.heap, slotsUsed := s₂.slotsUsed } : State) = { U.setFrames U.frames with heap := s₂.heap, slotsUsed := s₂.slotsUsed }
      rw [State.setFrames_self ht]
    subst hg
    refine Or.inl ⟨v, ⟨(({ U with heap := s₂.heap, slotsUsed := s₂.slotsUsed } : State).setVm s₂.vm), Ls ++ L, c0 + mc, s0 + ms⟩,
      ⟨X.admits, X.cas, X.clock, X.frames, X.room, X.hears, X.method, X.code, (X.here.setHeapUsed s₂.heap s₂.slotsUsed).setVm hW'.alike, X.tail, State.WarmedH.trans X.warmed hW', X.limits, X.bytes, X.same.trans (hsame.setVm s.vm)⟩,
      ⟨g, mk, s₂, L, rfl, rfl, hqc, rfl, hL, rfl, rfl⟩, ?_⟩
    show Steps p.tables e below _ ((({ U with heap := s₂.heap, slotsUsed := s₂.slotsUsed } : State).setVm s₂.vm).setTop { g with pc := g.pc + len₂, stack := v.toList ++ g.stack })
    rw [← hs₂]
    exact hsteps
  · obtain ⟨e2, q2, q3, q4, q5, q6⟩ := id hsm
    have e3 : s₂ = ({ (U.calling g mk a).setFrames s₂.frames with heap := s₂.heap, slotsUsed := s₂.slotsUsed } : State).setVm s₂.vm := by
      have : s₂ = ({ s₂ with vm := (U.calling g mk a).vm } : State).setVm s₂.vm := rfl
      rw [e2] at this
      exact this
    have hf₂ : s₂.frames = .throwing q :: .java g :: U.frames.tail := hend
    have hW' : U.WarmedH s₂.vm := hW₂
    have hs₂ : s₂ = ((({ U with heap := s₂.heap, slotsUsed := s₂.slotsUsed } : State).setVm s₂.vm).setTop g).pushFrame (.throwing q) := by
      refine e3.trans ?_
      rw [hf₂, State.calling_eq h.top, State.setFrames_setFrames, State.pushFrame, State.frames_setTop _ hr', State.setTop_of_frames _ hr', State.setFrames_setFrames, hr]
      rfl
    have hsame : U.sameButNew ({ U with heap := s₂.heap, slotsUsed := s₂.slotsUsed } : State) L mc ms := by
      refine ⟨?_, q2, q3, q4, q5, q6⟩
      obtain ⟨t, ht, -⟩ := State.frames_cons hr
      show ({ U with heap := s₂.heap, slotsUsed := s₂.slotsUsed } : State) = { U.setFrames U.frames with heap := s₂.heap, slotsUsed := s₂.slotsUsed }
      rw [State.setFrames_self ht]
    subst hg
    refine Or.inr ⟨q, ⟨(({ U with heap := s₂.heap, slotsUsed := s₂.slotsUsed } : State).setVm s₂.vm), Ls ++ L, c0 + mc, s0 + ms⟩,
      ⟨X.admits, X.cas, X.clock, X.frames, X.room, X.hears, X.method, X.code, (X.here.setHeapUsed s₂.heap s₂.slotsUsed).setVm hW'.alike, X.tail, State.WarmedH.trans X.warmed hW', X.limits, X.bytes, X.same.trans (hsame.setVm s.vm)⟩,
      ⟨g, mk, s₂, L, E, ce, rfl, rfl, hx, hce, hcv, hcl, rfl, hL, rfl, rfl⟩, ?_⟩
    show Steps p.tables e below _ (((({ U with heap := s₂.heap, slotsUsed := s₂.slotsUsed } : State).setVm s₂.vm).setTop g).pushFrame (.throwing q))
    rw [← hs₂]
    exact hsteps
end Payer
section Calls
variable {p : Program} {l : Launch} {e : Env} {R : Room} {s : State} {m : MethodId} {args : Array Value} {below : List Frame} {meth : Method} {c : Code} {T : State} {locs : List Loc} {cells slots : Nat}
theorem vx_callV (X : Stand p l e R s m args below meth c T locs cells slots) (hexec : p.tables.exec = Jvm.exec) {own C : String} {index : Nat} {y : MethodName} {bytes : ByteArray} {maxL : Nat} {ret : Option FieldType}
    (hown : s.vm.findClass own = some m.cls) (hlink : (Cond.methodLink own index y).before args s = true) (hinst : (Cond.instanceMethod y).before args s = true) (hsel : (Cond.selects C y y).before args s = true)
    (hcode : (Cond.code y bytes maxL ret).before args s = true) (hy : y.cls ≠ "java/lang/invoke/MethodHandle" ∧ y.cls ≠ "java/lang/invoke/VarHandle")
    {W9 : Nat} {Pre : Pt → Array Value → Prop} {Post : Pt → Array Value → Option Value → Pt → Prop} {PostX : Pt → Array Value → Addr → Pt → Prop} (hK : vx_Back l R p e below s args y 3 W9 Pre Post PostX)
    {b : Addr} {cellB : Cell} (hcell : T.heap[b]? = some cellB) (hobj : cellB.vm.isStatics = false) (hcls : s.vm.findClass C = some cellB.cls)
    {g : JFrame} (hg : g.method = m) (hsize : g.locals.size = c.maxLocals) {argsL rest : List Value} (hlen : ∀ sig, parseMethodDescriptor y.desc = some sig → argsL.length = sig.parameters.length)
    (hstack : g.stack = argsL.reverse ++ .ref b :: rest) (hW : 2 * g.monitorRoom + (rest.map fun v => v.category).sum ≤ W9) (hdg : decode c.code g.pc = .ok (.invokevirtual index, 3))
    (hpre : ∀ vm₁, s.WarmedH vm₁ → Pre ⟨T.setVm vm₁, locs, cells, slots⟩ (Value.ref b :: argsL).toArray) :
    (∃ (v : Option Value) (vm₁ : Vm) (B : Pt), s.WarmedH vm₁ ∧ Stand p l e R s m args below meth c B.U B.locs B.cells B.slots ∧ Post ⟨T.setVm vm₁, locs, cells, slots⟩ (Value.ref b :: argsL).toArray v B ∧
      ∀ target, Steps p.tables e below (B.U.setTop { g with pc := g.pc + 3, stack := v.toList ++ rest }) target → Steps p.tables e below (T.setTop g) target) ∨
    (∃ (q : Addr) (vm₁ : Vm) (B : Pt), s.WarmedH vm₁ ∧ Stand p l e R s m args below meth c B.U B.locs B.cells B.slots ∧ PostX ⟨T.setVm vm₁, locs, cells, slots⟩ (Value.ref b :: argsL).toArray q B ∧
      Steps p.tables e below (T.setTop g) ((B.U.setTop { g with stack := rest }).pushFrame (.throwing q))) := by
  obtain ⟨mk, methM, hnamed, hmethM, hstM, habM⟩ := Cond.instanceMethod_spec hinst
  obtain ⟨methM', cM, hmethM', -, -, -, -, -, -, hsigM⟩ := Cond.code_spec hnamed hcode
  cases hmethM.symm.trans hmethM'
  obtain ⟨c2, r2, m2, q1, q2, q3, q4, kP, hkP, hkPi⟩ := Cond.selects_spec hsel
  cases hcls.symm.trans q1
  cases (State.methodFound?_of_named hnamed hy).symm.trans q2
  cases hnamed.symm.trans q3
  have hselP : selectMethod e.platform s.vm cellB.cls mk = .method mk := by rw [Launch.admits_selectMethod X.admits]; exact q4
  obtain ⟨vm₁, X₁, hstep₁⟩ := X.invokevirtual hexec hown hlink hnamed hmethM hstM hkP hkPi hy (a := b) (cell := cellB) hcell
    (fun z h => by rw [h] at hobj; cases hobj) hselP hmethM habM hkP hkPi (g := g) hg (argsL := argsL) (rest := rest) (hlen _ hsigM) hstack hdg
  rcases hK m meth c ⟨T.setVm vm₁, locs, cells, slots⟩ { g with stack := rest } (.invokevirtual index) mk (Value.ref b :: argsL).toArray X₁ hg hsize hdg hW (X₁.named hnamed) (hpre vm₁ X₁.warmed) with ⟨v, B, X', hpost, hsteps⟩ | ⟨q, B, X', hpost, hsteps⟩
  · exact Or.inl ⟨v, vm₁, B, X₁.warmed, X', hpost, fun target h => hstep₁ _ fun acts => by rw [doInvoke_state]; exact hsteps.trans h⟩
  · exact Or.inr ⟨q, vm₁, B, X₁.warmed, X', hpost, hstep₁ _ fun acts => by rw [doInvoke_state]; exact hsteps⟩
theorem vx_callS (X : Stand p l e R s m args below meth c T locs cells slots) (hexec : p.tables.exec = Jvm.exec) {own : String} {index : Nat} {y : MethodName} {bytes : ByteArray} {maxL : Nat} {ret : Option FieldType}
    (hown : s.vm.findClass own = some m.cls) (hlink : (Cond.methodLink own index y).before args s = true) (hstat : (Cond.static y).before args s = true) (hinit : (Cond.initialized y.cls).before args s = true)
    (hcode : (Cond.code y bytes maxL ret).before args s = true) (hy : y.cls ≠ "java/lang/invoke/MethodHandle" ∧ y.cls ≠ "java/lang/invoke/VarHandle")
    {W9 : Nat} {Pre : Pt → Array Value → Prop} {Post : Pt → Array Value → Option Value → Pt → Prop} {PostX : Pt → Array Value → Addr → Pt → Prop} (hK : vx_Back l R p e below s args y 3 W9 Pre Post PostX)
    {g : JFrame} (hg : g.method = m) (hsize : g.locals.size = c.maxLocals) {argsL rest : List Value} (hlen : ∀ sig, parseMethodDescriptor y.desc = some sig → argsL.length = sig.parameters.length)
    (hstack : g.stack = argsL.reverse ++ rest) (hW : 2 * g.monitorRoom + (rest.map fun v => v.category).sum ≤ W9) (hdg : decode c.code g.pc = .ok (.invokestatic index, 3))
    (hpre : ∀ vm₁, s.WarmedH vm₁ → Pre ⟨T.setVm vm₁, locs, cells, slots⟩ argsL.toArray) :
    (∃ (v : Option Value) (vm₁ : Vm) (B : Pt), s.WarmedH vm₁ ∧ Stand p l e R s m args below meth c B.U B.locs B.cells B.slots ∧ Post ⟨T.setVm vm₁, locs, cells, slots⟩ argsL.toArray v B ∧
      ∀ target, Steps p.tables e below (B.U.setTop { g with pc := g.pc + 3, stack := v.toList ++ rest }) target → Steps p.tables e below (T.setTop g) target) ∨
    (∃ (q : Addr) (vm₁ : Vm) (B : Pt), s.WarmedH vm₁ ∧ Stand p l e R s m args below meth c B.U B.locs B.cells B.slots ∧ PostX ⟨T.setVm vm₁, locs, cells, slots⟩ argsL.toArray q B ∧
      Steps p.tables e below (T.setTop g) ((B.U.setTop { g with stack := rest }).pushFrame (.throwing q))) := by
  obtain ⟨mk, hnamed⟩ := Cond.code_named hcode
  obtain ⟨methM, cM, hmethM, -, -, -, -, -, -, hsigM⟩ := Cond.code_spec hnamed hcode
  have hstatic : methM.isStatic = true := Cond.static_spec hnamed hmethM hstat
  obtain ⟨kP, hkP, -⟩ := className_of_methodNamed hnamed
  have hinitP : kP.init = .initialized := Cond.initialized_spec (findClass_of_methodNamed hnamed) hkP hinit
  obtain ⟨vm₁, X₁, hstep₁⟩ := X.invokestatic hexec hown hlink hnamed hmethM hstatic hkP hinitP hy (g := g) hg (argsL := argsL) (rest := rest) (hlen _ hsigM) hstack hdg
  rcases hK m meth c ⟨T.setVm vm₁, locs, cells, slots⟩ { g with stack := rest } (.invokestatic index) mk argsL.toArray X₁ hg hsize hdg hW (X₁.named hnamed) (hpre vm₁ X₁.warmed) with ⟨v, B, X', hpost, hsteps⟩ | ⟨q, B, X', hpost, hsteps⟩
  · exact Or.inl ⟨v, vm₁, B, X₁.warmed, X', hpost, fun target h => hstep₁ _ fun acts => by rw [doInvoke_state]; exact hsteps.trans h⟩
  · exact Or.inr ⟨q, vm₁, B, X₁.warmed, X', hpost, hstep₁ _ fun acts => by rw [doInvoke_state]; exact hsteps⟩
end Calls
theorem vx_cls {s : State} {T : State} {vm₁ : Vm} {E : String} {k : ClassId} (hW : s.WarmedH vm₁) (h : (T.setVm vm₁).vm.findClass E = some k) : s.vm.findClass E = some k := by
  have h1 : vm₁.findClass E = some k := h
  rw [hW.alike.findClass] at h1
  exact h1
/-- the method's frame g, with q thrown over it -/
def vx_W (p : Program) (l : Launch) (e : Env) (R : Room) (s : State) (m : MethodId) (args : Array Value) (below : List Frame) (meth : Method) (c : Code) (H : Heap) (locs : List Loc) (cells slots : Nat) (Q : State → Prop) (g : JFrame) (q : Addr) : Prop :=
  ∀ T : State, T.heap = H → Stand p l e R s m args below meth c T locs cells slots → ∃ t, Steps p.tables e below ((T.setTop g).pushFrame (.throwing q)) t ∧ Q t
def vx_Run (p : Program) (l : Launch) (e : Env) (R : Room) (s : State) (m : MethodId) (args : Array Value) (below : List Frame) (meth : Method) (c : Code) (H : Heap) (locs : List Loc) (cells slots mc ms : Nat) (g : JFrame) (rest : List Value) (Qa : State → Outcome → State → Prop) (XC : String → State → State → Prop) (free : Addr → Prop) : Prop :=
  ∀ T : State, T.heap = H → Stand p l e R s m args below meth c T locs cells slots →
    (∃ (v : Option Value) (st₀ t T' : State) (L : List Loc), st₀.heap = H ∧ Stand p l e R s m args below meth c T' (locs ++ L) (cells + mc) (slots + ms) ∧ (∀ q ∈ L, free q.base) ∧ T'.heap = t.heap ∧ T'.vm = t.vm ∧ Qa st₀ (.returned v) t ∧
      Goes p e below T g T' { g with pc := g.pc + 3, stack := v.toList ++ rest }) ∨
    (∃ (q : Addr) (st₀ t T' : State) (L : List Loc) (E : String) (ce : Cell), st₀.heap = H ∧ Stand p l e R s m args below meth c T' (locs ++ L) (cells + mc) (slots + ms) ∧ (∀ z ∈ L, free z.base) ∧ T'.heap = t.heap ∧ T'.vm = t.vm ∧ XC E st₀ t ∧ t.heap[q]? = some ce ∧ ce.vm = .none ∧ s.vm.findClass E = some ce.cls ∧
      Steps p.tables e below (T.setTop g) ((T'.setTop { g with stack := rest }).pushFrame (.throwing q)))
def vx_X {S : Type} (px : S → Prop) (B : String → S → State → Prop) (A : Nat → Prop) : String → State → State → Prop := fun E st t => ∃ u : S, px u ∧ B E u t ∧ va_F A st t
section Runs
variable {p : Program} {l : Launch} {e : Env} {R : Room} {s : State} {m : MethodId} {args : Array Value} {below : List Frame} {meth : Method} {c : Code} {H : Heap} {locs : List Loc} {cells slots : Nat}
variable {y : MethodName} {bytes cc : ByteArray} {maxL nL mc ms n index : Nat} {ret : Option FieldType} {ws : List Cond} {rm : Room} {Pc : Array Value → State → Prop} {Qc : Array Value → State → Outcome → State → Prop} {XC : String → State → State → Prop} {free : Addr → Prop} {Ts : List Cond} {own C : String} {b : Addr} {As rest : List Value} {g : JFrame}
theorem vx_callBack (cb : CallB R s args own index y bytes maxL ret ws rm mc ms n) (hM : vx_Met l y ws rm Pc Qc XC mc ms free) (hbl : FrameBlind Pc) : vx_Back l R p e below s args y 3 8 (PreOf R mc ms Pc) (PostOf Qc mc ms free) (vx_Post XC mc ms free) := by
  obtain ⟨hrc, hrs, hfr, hlo, hws, hcw, -, hini, -⟩ := cb
  exact vx_back (bytes := bytes) (maxL := maxL) (ret := ret) hM hbl hrc hrs hfr hlo hws hcw (fun a' U hW => word_at hW (Or.inl (by first | rfl | simp [Cond.onTables, Cond.keeps, Cond.steady])) hini)
theorem vx_runV (S : CallFix p m c cc nL s args Ts own) (hM : vx_Met l y ws rm Pc Qc XC mc ms free) (cw : CallW R s args own C index y bytes maxL ret ws rm mc ms n) (hp : PreV s H C b Pc As)
    (hg : g.method = m) (hn : As.length = n) (hsize : g.locals.size = nL) (hstack : g.stack = As.reverse ++ .ref b :: rest) (hW : 2 * g.monitorRoom + (rest.map fun v => v.category).sum ≤ 8) (hdg : decode cc g.pc = .ok (.invokevirtual index, 3)) (hf : cells + mc ≤ R.cells ∧ slots + ms ≤ R.slots) :
    vx_Run p l e R s m args below meth c H locs cells slots mc ms g rest (Qc (Value.ref b :: As).toArray) XC free := by
  have hK : vx_Back l R p e below s args y 3 8 (PreOf R mc ms Pc) (PostOf Qc mc ms free) (vx_Post XC mc ms free) := vx_callBack cw.1 hM hp.1
  obtain ⟨⟨-, -, -, -, -, -, hcode, -, hy, hlen, hl⟩, hin, hse⟩ := cw
  obtain ⟨hx, hb, hml, ho, -⟩ := S
  obtain ⟨-, ⟨cellB, hcB, hoB, hclB⟩, hPc⟩ := hp
  intro T hT X
  rcases vx_callV X hx (C := C) (bytes := bytes) (maxL := maxL) (ret := ret) ho hl hin hse hcode hy hK (by rw [hT]; exact hcB) hoB hclB hg (hsize.trans hml.symm) (argsL := As) (rest := rest) (fun sig h => hn.trans (hlen sig h)) hstack hW (by rw [hb]; exact hdg)
    (fun vm₁ hW₁ => ⟨hf.1, hf.2, hPc (T.setVm vm₁) hT hW₁⟩) with ⟨v, vm₁, ⟨U', l2, c2, s2⟩, hW₁, X', ⟨g', mk, t, L, e1, e2, hq, h1, hL, h2, h3⟩, st⟩ | ⟨q, vm₁, ⟨U', l2, c2, s2⟩, hW₁, X', ⟨g', mk, t, L, E, ce, e1, e2, hq, hce, hcv, hcl, h1, hL, h2, h3⟩, st⟩
  · dsimp only [Pt.U, Pt.locs, Pt.cells, Pt.slots] at X' e1 e2 h1 h2 h3 st
    subst h1; subst h2; subst h3
    exact Or.inl ⟨v, (T.setVm vm₁).calling g' mk (Value.ref b :: As).toArray, t, U', L, hT, X', hL, e1, e2, hq, st⟩
  · dsimp only [Pt.U, Pt.locs, Pt.cells, Pt.slots] at X' e1 e2 h1 h2 h3 st hcl
    subst h1; subst h2; subst h3
    exact Or.inr ⟨q, (T.setVm vm₁).calling g' mk (Value.ref b :: As).toArray, t, U', L, E, ce, hT, X', hL, e1, e2, hq, hce, hcv, vx_cls hW₁ hcl, st⟩
theorem vx_runS (S : CallFix p m c cc nL s args Ts own) (hM : vx_Met l y ws rm Pc Qc XC mc ms free) (cw : CallB R s args own index y bytes maxL ret ws rm mc ms n ∧ (Cond.static y).before args s = true) (hp : PreS s H Pc As)
    (hg : g.method = m) (hn : As.length = n) (hsize : g.locals.size = nL) (hstack : g.stack = As.reverse ++ rest) (hW : 2 * g.monitorRoom + (rest.map fun v => v.category).sum ≤ 8) (hdg : decode cc g.pc = .ok (.invokestatic index, 3)) (hf : cells + mc ≤ R.cells ∧ slots + ms ≤ R.slots) :
    vx_Run p l e R s m args below meth c H locs cells slots mc ms g rest (Qc As.toArray) XC free := by
  have hK : vx_Back l R p e below s args y 3 8 (PreOf R mc ms Pc) (PostOf Qc mc ms free) (vx_Post XC mc ms free) := vx_callBack cw.1 hM hp.1
  obtain ⟨⟨-, -, -, -, -, -, hcode, hini, hy, hlen, hl⟩, hstt⟩ := cw
  obtain ⟨hx, hb, hml, ho, -⟩ := S
  intro T hT X
  rcases vx_callS X hx (bytes := bytes) (maxL := maxL) (ret := ret) ho hl hstt hini hcode hy hK hg (hsize.trans hml.symm) (argsL := As) (rest := rest) (fun sig h => hn.trans (hlen sig h)) hstack hW (by rw [hb]; exact hdg)
    (fun vm₁ hW₁ => ⟨hf.1, hf.2, hp.2 (T.setVm vm₁) hT hW₁⟩) with ⟨v, vm₁, ⟨U', l2, c2, s2⟩, hW₁, X', ⟨g', mk, t, L, e1, e2, hq, h1, hL, h2, h3⟩, st⟩ | ⟨q, vm₁, ⟨U', l2, c2, s2⟩, hW₁, X', ⟨g', mk, t, L, E, ce, e1, e2, hq, hce, hcv, hcl, h1, hL, h2, h3⟩, st⟩
  · dsimp only [Pt.U, Pt.locs, Pt.cells, Pt.slots] at X' e1 e2 h1 h2 h3 st
    subst h1; subst h2; subst h3
    exact Or.inl ⟨v, (T.setVm vm₁).calling g' mk As.toArray, t, U', L, hT, X', hL, e1, e2, hq, st⟩
  · dsimp only [Pt.U, Pt.locs, Pt.cells, Pt.slots] at X' e1 e2 h1 h2 h3 st hcl
    subst h1; subst h2; subst h3
    exact Or.inr ⟨q, (T.setVm vm₁).calling g' mk As.toArray, t, U', L, E, ce, hT, X', hL, e1, e2, hq, hce, hcv, vx_cls hW₁ hcl, st⟩
end Runs
section Rows
variable {p : Program} {l : Launch} {e : Env} {R : Room} {s : State} {m : MethodId} {args : Array Value} {below : List Frame} {meth : Method} {c : Code} {H : Heap} {locs : List Loc} {cells slots : Nat} {Q : State → Prop}
variable {mc ms : Nat} {free : Addr → Prop} {A0 A1 : Nat → Prop} {H0 : Heap} {a : Array Value} {pc : Nat} {ls : Array Slot} {st0 rest : List Value}
theorem vx_keep {st₀ t T' : State} {L : List Loc} (h0 : st₀.heap = H) (e1 : T'.heap = t.heap) (hS : va_S A0 H0 H locs) (hA : ∀ q, q < H.size → A1 q → A0 q) (hf : ∀ q, free q → A0 q) (hL : ∀ q ∈ L, free q.base) (hF : va_F A1 st₀ t) :
    H.size ≤ T'.heap.size ∧ (∀ q : Nat, q < H.size → ¬ A1 q → T'.heap[q]? = H[q]?) ∧ va_S A0 H0 T'.heap (locs ++ L) := by
  obtain ⟨hz, hk⟩ := hF
  rw [h0] at hz hk
  exact ⟨by rw [e1]; exact hz, fun q h1 h2 => by rw [e1]; exact hk q h1 h2,
    ⟨Nat.le_trans hS.1 (by rw [e1]; exact hz), fun q h1 h2 => by rw [e1, hk q (Nat.lt_of_lt_of_le h1 hS.1) (fun z => h2 (hA q (Nat.lt_of_lt_of_le h1 hS.1) z))]; exact hS.2.1 q h1 h2, fun q hq => by
      rcases List.mem_append.mp hq with h | h
      · exact hS.2.2 q h
      · exact hf _ (hL q h)⟩⟩
theorem vx_calli {S SX : Type} {post : Int32 → S → Prop} {px : SX → Prop} {B : S → State → Prop} {BX : String → SX → State → Prop} {AX : Nat → Prop} (hr : vx_Run p l e R s m args below meth c H locs cells slots mc ms (F0 m pc ls st0) rest (va_Qi post B A1 a) (vx_X px BX AX) free) (hS : va_S A0 H0 H locs) (hA : ∀ q, q < H.size → A1 q → A0 q) (hf : ∀ q, free q → A0 q) (hAX : ∀ q, q < H.size → AX q → A0 q)
    (kx : ∀ (E : String) (ce : Cell) (q9 : Addr) (u : SX) (t : State) (H1 : Heap) (locs1 : List Loc), t.heap = H1 → s.vm.Alike t.vm → px u → BX E u t → H.size ≤ H1.size → (∀ q : Nat, q < H.size → ¬ AX q → H1[q]? = H[q]?) → va_S A0 H0 H1 locs1 → H1[q9]? = some ce → ce.vm = .none → s.vm.findClass E = some ce.cls → vx_W p l e R s m args below meth c H1 locs1 (cells + mc) (slots + ms) Q (F0 m pc ls rest) q9)
    (kk : ∀ (r : Int32) (u : S) (t : State) (H1 : Heap) (locs1 : List Loc), t.heap = H1 → s.vm.Alike t.vm → post r u → B u t → H.size ≤ H1.size → (∀ q : Nat, q < H.size → ¬ A1 q → H1[q]? = H[q]?) → va_S A0 H0 H1 locs1 → W p l e R s m args below meth c H1 locs1 (cells + mc) (slots + ms) Q (F0 m (pc + 3) ls (.int r :: rest))) : W p l e R s m args below meth c H locs cells slots Q (F0 m pc ls st0) := by
  intro T hT X
  rcases hr T hT X with ⟨v, st₀, t, T', L, h0, X', hL, e1, e2, ⟨⟨r, u, hv, hp, hb⟩, hF⟩, st⟩ | ⟨q, st₀, t, T', L, E, ce, h0, X', hL, e1, e2, ⟨u, hp, hb, hF⟩, hce, hcv, hcl, st⟩
  · cases hv
    obtain ⟨k1, k2, k3⟩ := vx_keep h0 e1 hS hA hf hL hF
    obtain ⟨t2, a1, b1⟩ := kk r u t T'.heap (locs ++ L) e1.symm (by rw [← e2]; exact X'.warmed.alike) hp hb k1 k2 k3 T' rfl X'
    exact ⟨t2, st t2 a1, b1⟩
  · obtain ⟨k1, k2, k3⟩ := vx_keep h0 e1 hS hAX hf hL hF
    obtain ⟨t2, a1, b1⟩ := kx E ce q u t T'.heap (locs ++ L) e1.symm (by rw [← e2]; exact X'.warmed.alike) hp hb k1 k2 k3 (by rw [e1]; exact hce) hcv hcl T' rfl X'
    exact ⟨t2, st.trans a1, b1⟩
theorem vx_calll {S SX : Type} {post : Int64 → S → Prop} {px : SX → Prop} {B : S → State → Prop} {BX : String → SX → State → Prop} {AX : Nat → Prop} (hr : vx_Run p l e R s m args below meth c H locs cells slots mc ms (F0 m pc ls st0) rest (va_Ql post B A1 a) (vx_X px BX AX) free) (hS : va_S A0 H0 H locs) (hA : ∀ q, q < H.size → A1 q → A0 q) (hf : ∀ q, free q → A0 q) (hAX : ∀ q, q < H.size → AX q → A0 q)
    (kx : ∀ (E : String) (ce : Cell) (q9 : Addr) (u : SX) (t : State) (H1 : Heap) (locs1 : List Loc), t.heap = H1 → s.vm.Alike t.vm → px u → BX E u t → H.size ≤ H1.size → (∀ q : Nat, q < H.size → ¬ AX q → H1[q]? = H[q]?) → va_S A0 H0 H1 locs1 → H1[q9]? = some ce → ce.vm = .none → s.vm.findClass E = some ce.cls → vx_W p l e R s m args below meth c H1 locs1 (cells + mc) (slots + ms) Q (F0 m pc ls rest) q9)
    (kk : ∀ (r : Int64) (u : S) (t : State) (H1 : Heap) (locs1 : List Loc), t.heap = H1 → s.vm.Alike t.vm → post r u → B u t → H.size ≤ H1.size → (∀ q : Nat, q < H.size → ¬ A1 q → H1[q]? = H[q]?) → va_S A0 H0 H1 locs1 → W p l e R s m args below meth c H1 locs1 (cells + mc) (slots + ms) Q (F0 m (pc + 3) ls (.long r :: rest))) : W p l e R s m args below meth c H locs cells slots Q (F0 m pc ls st0) := by
  intro T hT X
  rcases hr T hT X with ⟨v, st₀, t, T', L, h0, X', hL, e1, e2, ⟨⟨r, u, hv, hp, hb⟩, hF⟩, st⟩ | ⟨q, st₀, t, T', L, E, ce, h0, X', hL, e1, e2, ⟨u, hp, hb, hF⟩, hce, hcv, hcl, st⟩
  · cases hv
    obtain ⟨k1, k2, k3⟩ := vx_keep h0 e1 hS hA hf hL hF
    obtain ⟨t2, a1, b1⟩ := kk r u t T'.heap (locs ++ L) e1.symm (by rw [← e2]; exact X'.warmed.alike) hp hb k1 k2 k3 T' rfl X'
    exact ⟨t2, st t2 a1, b1⟩
  · obtain ⟨k1, k2, k3⟩ := vx_keep h0 e1 hS hAX hf hL hF
    obtain ⟨t2, a1, b1⟩ := kx E ce q u t T'.heap (locs ++ L) e1.symm (by rw [← e2]; exact X'.warmed.alike) hp hb k1 k2 k3 (by rw [e1]; exact hce) hcv hcl T' rfl X'
    exact ⟨t2, st.trans a1, b1⟩
theorem vx_callf {S SX : Type} {post : UInt32 → S → Prop} {px : SX → Prop} {B : S → State → Prop} {BX : String → SX → State → Prop} {AX : Nat → Prop} (hr : vx_Run p l e R s m args below meth c H locs cells slots mc ms (F0 m pc ls st0) rest (va_Qf post B A1 a) (vx_X px BX AX) free) (hS : va_S A0 H0 H locs) (hA : ∀ q, q < H.size → A1 q → A0 q) (hf : ∀ q, free q → A0 q) (hAX : ∀ q, q < H.size → AX q → A0 q)
    (kx : ∀ (E : String) (ce : Cell) (q9 : Addr) (u : SX) (t : State) (H1 : Heap) (locs1 : List Loc), t.heap = H1 → s.vm.Alike t.vm → px u → BX E u t → H.size ≤ H1.size → (∀ q : Nat, q < H.size → ¬ AX q → H1[q]? = H[q]?) → va_S A0 H0 H1 locs1 → H1[q9]? = some ce → ce.vm = .none → s.vm.findClass E = some ce.cls → vx_W p l e R s m args below meth c H1 locs1 (cells + mc) (slots + ms) Q (F0 m pc ls rest) q9)
    (kk : ∀ (r : UInt32) (u : S) (t : State) (H1 : Heap) (locs1 : List Loc), t.heap = H1 → s.vm.Alike t.vm → post r u → B u t → H.size ≤ H1.size → (∀ q : Nat, q < H.size → ¬ A1 q → H1[q]? = H[q]?) → va_S A0 H0 H1 locs1 → W p l e R s m args below meth c H1 locs1 (cells + mc) (slots + ms) Q (F0 m (pc + 3) ls (.float r :: rest))) : W p l e R s m args below meth c H locs cells slots Q (F0 m pc ls st0) := by
  intro T hT X
  rcases hr T hT X with ⟨v, st₀, t, T', L, h0, X', hL, e1, e2, ⟨⟨r, u, hv, hp, hb⟩, hF⟩, st⟩ | ⟨q, st₀, t, T', L, E, ce, h0, X', hL, e1, e2, ⟨u, hp, hb, hF⟩, hce, hcv, hcl, st⟩
  · cases hv
    obtain ⟨k1, k2, k3⟩ := vx_keep h0 e1 hS hA hf hL hF
    obtain ⟨t2, a1, b1⟩ := kk r u t T'.heap (locs ++ L) e1.symm (by rw [← e2]; exact X'.warmed.alike) hp hb k1 k2 k3 T' rfl X'
    exact ⟨t2, st t2 a1, b1⟩
  · obtain ⟨k1, k2, k3⟩ := vx_keep h0 e1 hS hAX hf hL hF
    obtain ⟨t2, a1, b1⟩ := kx E ce q u t T'.heap (locs ++ L) e1.symm (by rw [← e2]; exact X'.warmed.alike) hp hb k1 k2 k3 (by rw [e1]; exact hce) hcv hcl T' rfl X'
    exact ⟨t2, st.trans a1, b1⟩
theorem vx_calld {S SX : Type} {post : UInt64 → S → Prop} {px : SX → Prop} {B : S → State → Prop} {BX : String → SX → State → Prop} {AX : Nat → Prop} (hr : vx_Run p l e R s m args below meth c H locs cells slots mc ms (F0 m pc ls st0) rest (va_Qd post B A1 a) (vx_X px BX AX) free) (hS : va_S A0 H0 H locs) (hA : ∀ q, q < H.size → A1 q → A0 q) (hf : ∀ q, free q → A0 q) (hAX : ∀ q, q < H.size → AX q → A0 q)
    (kx : ∀ (E : String) (ce : Cell) (q9 : Addr) (u : SX) (t : State) (H1 : Heap) (locs1 : List Loc), t.heap = H1 → s.vm.Alike t.vm → px u → BX E u t → H.size ≤ H1.size → (∀ q : Nat, q < H.size → ¬ AX q → H1[q]? = H[q]?) → va_S A0 H0 H1 locs1 → H1[q9]? = some ce → ce.vm = .none → s.vm.findClass E = some ce.cls → vx_W p l e R s m args below meth c H1 locs1 (cells + mc) (slots + ms) Q (F0 m pc ls rest) q9)
    (kk : ∀ (r : UInt64) (u : S) (t : State) (H1 : Heap) (locs1 : List Loc), t.heap = H1 → s.vm.Alike t.vm → post r u → B u t → H.size ≤ H1.size → (∀ q : Nat, q < H.size → ¬ A1 q → H1[q]? = H[q]?) → va_S A0 H0 H1 locs1 → W p l e R s m args below meth c H1 locs1 (cells + mc) (slots + ms) Q (F0 m (pc + 3) ls (.double r :: rest))) : W p l e R s m args below meth c H locs cells slots Q (F0 m pc ls st0) := by
  intro T hT X
  rcases hr T hT X with ⟨v, st₀, t, T', L, h0, X', hL, e1, e2, ⟨⟨r, u, hv, hp, hb⟩, hF⟩, st⟩ | ⟨q, st₀, t, T', L, E, ce, h0, X', hL, e1, e2, ⟨u, hp, hb, hF⟩, hce, hcv, hcl, st⟩
  · cases hv
    obtain ⟨k1, k2, k3⟩ := vx_keep h0 e1 hS hA hf hL hF
    obtain ⟨t2, a1, b1⟩ := kk r u t T'.heap (locs ++ L) e1.symm (by rw [← e2]; exact X'.warmed.alike) hp hb k1 k2 k3 T' rfl X'
    exact ⟨t2, st t2 a1, b1⟩
  · obtain ⟨k1, k2, k3⟩ := vx_keep h0 e1 hS hAX hf hL hF
    obtain ⟨t2, a1, b1⟩ := kx E ce q u t T'.heap (locs ++ L) e1.symm (by rw [← e2]; exact X'.warmed.alike) hp hb k1 k2 k3 (by rw [e1]; exact hce) hcv hcl T' rfl X'
    exact ⟨t2, st.trans a1, b1⟩
theorem vx_callv {S SX : Type} {post : S → Prop} {px : SX → Prop} {B : S → State → Prop} {BX : String → SX → State → Prop} {AX : Nat → Prop} (hr : vx_Run p l e R s m args below meth c H locs cells slots mc ms (F0 m pc ls st0) rest (va_Qv post B A1 a) (vx_X px BX AX) free) (hS : va_S A0 H0 H locs) (hA : ∀ q, q < H.size → A1 q → A0 q) (hf : ∀ q, free q → A0 q) (hAX : ∀ q, q < H.size → AX q → A0 q)
    (kx : ∀ (E : String) (ce : Cell) (q9 : Addr) (u : SX) (t : State) (H1 : Heap) (locs1 : List Loc), t.heap = H1 → s.vm.Alike t.vm → px u → BX E u t → H.size ≤ H1.size → (∀ q : Nat, q < H.size → ¬ AX q → H1[q]? = H[q]?) → va_S A0 H0 H1 locs1 → H1[q9]? = some ce → ce.vm = .none → s.vm.findClass E = some ce.cls → vx_W p l e R s m args below meth c H1 locs1 (cells + mc) (slots + ms) Q (F0 m pc ls rest) q9)
    (kk : ∀ (u : S) (t : State) (H1 : Heap) (locs1 : List Loc), t.heap = H1 → s.vm.Alike t.vm → post u → B u t → H.size ≤ H1.size → (∀ q : Nat, q < H.size → ¬ A1 q → H1[q]? = H[q]?) → va_S A0 H0 H1 locs1 → W p l e R s m args below meth c H1 locs1 (cells + mc) (slots + ms) Q (F0 m (pc + 3) ls (rest))) : W p l e R s m args below meth c H locs cells slots Q (F0 m pc ls st0) := by
  intro T hT X
  rcases hr T hT X with ⟨v, st₀, t, T', L, h0, X', hL, e1, e2, ⟨⟨u, hv, hp, hb⟩, hF⟩, st⟩ | ⟨q, st₀, t, T', L, E, ce, h0, X', hL, e1, e2, ⟨u, hp, hb, hF⟩, hce, hcv, hcl, st⟩
  · cases hv
    obtain ⟨k1, k2, k3⟩ := vx_keep h0 e1 hS hA hf hL hF
    obtain ⟨t2, a1, b1⟩ := kk u t T'.heap (locs ++ L) e1.symm (by rw [← e2]; exact X'.warmed.alike) hp hb k1 k2 k3 T' rfl X'
    exact ⟨t2, st t2 a1, b1⟩
  · obtain ⟨k1, k2, k3⟩ := vx_keep h0 e1 hS hAX hf hL hF
    obtain ⟨t2, a1, b1⟩ := kx E ce q u t T'.heap (locs ++ L) e1.symm (by rw [← e2]; exact X'.warmed.alike) hp hb k1 k2 k3 (by rw [e1]; exact hce) hcv hcl T' rfl X'
    exact ⟨t2, st.trans a1, b1⟩
/-- caught by the row x of this method's table; the rows ahead don't take it -/
theorem vx_catch {own name : String} {E : String} {ce : Cell} {q : Addr} (hown : s.vm.findClass own = some m.cls) (pre : List ExceptionTableEntry) (x : ExceptionTableEntry) (suf : List ExceptionTableEntry) (hsplit : c.exceptionTable.toList = pre ++ x :: suf)
    (hpass : ∀ z ∈ pre, covers z pc = false ∨ (z.catchType ≠ 0 ∧ ∃ nm : String, (Cond.classLink own z.catchType nm).before args s = true ∧ va_Nc E nm s)) (hx : covers x pc = true) (h0 : x.catchType ≠ 0)
    (hlink : (Cond.classLink own x.catchType name).before args s = true) (hcast : (Cond.castable E name).before args s = true) (hcell : H[q]? = some ce) (hv : ce.vm = .none) (hcl : s.vm.findClass E = some ce.cls)
    (kk : W p l e R s m args below meth c H locs cells slots Q (F0 m x.handlerPc ls [.ref q])) : vx_W p l e R s m args below meth c H locs cells slots Q (F0 m pc ls rest) q := by
  intro T hT X
  have hpl : e.platform.magicAccessors = ({} : Platform).magicAccessors := by rw [X.admits.platform]
  obtain ⟨c3, c4, hc3, hc4, hasg⟩ := Cond.castable_spec hcast
  cases Option.some.inj (hc3.symm.trans hcl)
  obtain ⟨c5, hc5, hcl5⟩ := Cond.classLink_spec hown hlink e.platform hpl
  cases Option.some.inj (hc4.symm.trans hc5)
  obtain ⟨vm', X', st⟩ := X.thenCaughtThrough q (g := F0 m pc ls rest) rfl (Steps.refl _) (by rw [hT]; exact hcell) (by rw [hv]; rfl) (by obtain ⟨k9, h9, -⟩ := Vm.findClass_spec hcl; exact ⟨k9, h9⟩) pre x suf hsplit
    (fun z hz => by
      rcases hpass z hz with h | ⟨hz0, nm, hl1, hn1⟩
      · exact Or.inl h
      · obtain ⟨c6, hc6, hcl6⟩ := Cond.classLink_spec hown hl1 e.platform hpl
        obtain ⟨a8, b8, h1, h2, h3⟩ := hn1
        cases Option.some.inj (h1.symm.trans hcl)
        cases Option.some.inj (h2.symm.trans hc6)
        exact Or.inr ⟨hz0, _, hcl6, h3⟩) hx (Or.inr ⟨h0, c4, hcl5, hasg⟩)
  obtain ⟨t, a1, b1⟩ := kk (T.setVm vm') hT X'
  exact ⟨t, st.trans a1, b1⟩
end Rows
section Ends
variable {p : Program} {l : Launch} {e : Env} {R : Room} {s : State} {m : MethodId} {args : Array Value} {below : List Frame} {meth : Method} {c : Code} {H : Heap} {locs : List Loc} {cells slots : Nat} {Q : State → Prop}
variable {mc ms : Nat} {free : Addr → Prop} {A0 A1 : Nat → Prop} {H0 : Heap} {a : Array Value} {ls : Array Slot} {st0 rest : List Value}
variable {Qc : Array Value → State → Outcome → State → Prop} {XC : String → State → State → Prop}
/-- what a body that may throw owes at its end -/
def vx_MQ (below : List Frame) (Qc : Array Value → State → Outcome → State → Prop) (XC : String → State → State → Prop) (a : Array Value) (s : State) (mc ms : Nat) (free : Addr → Prop) : State → Prop := fun t =>
  ∃ o, t.status = .running ∧ Ended t below o ∧ vx_Q Qc XC mc ms free a s o t
theorem vx_ret {g : JFrame} {mc ms : Nat} (k : W p l e R s m args below meth c H locs cells slots (MQ below Qc args s mc ms free) g) : W p l e R s m args below meth c H locs cells slots (vx_MQ below Qc XC args s mc ms free) g := by
  intro T hT X
  obtain ⟨t, a1, o, b1, b2, b3, b4⟩ := k T hT X
  exact ⟨t, a1, o, b1, b2, Or.inl ⟨b3, b4⟩⟩
/-- not caught here: it goes on to the caller -/
theorem vx_widen {g : JFrame} {q : Addr} {k n : Nat} (h1 : cells ≤ k) (h2 : slots ≤ n) (kk : vx_W p l e R s m args below meth c H locs k n Q g q) : vx_W p l e R s m args below meth c H locs cells slots Q g q := fun T hT X => kk T hT (stand_widen X h1 h2)
theorem vx_out {pc : Nat} {E : String} {ce : Cell} {q : Addr} {mc ms : Nat} (hout : ∀ x ∈ c.exceptionTable.toList, covers x pc = false) (hlocks : meth.locks = false) (hcell : H[q]? = some ce) (hv : ce.vm = .none) (hcl : s.vm.findClass E = some ce.cls)
    (hx : ∀ t : State, t.heap = H → s.vm.Alike t.vm → XC E s t) (hf : ∀ z ∈ locs, free z.base) (hc : cells ≤ mc) (hs : slots ≤ ms) :
    vx_W p l e R s m args below meth c H locs cells slots (vx_MQ below Qc XC args s mc ms free) (F0 m pc ls rest) q := by
  intro T hT X
  obtain ⟨st1, hrun, hend, hW, hsm⟩ := X.leaveThrown q (g := F0 m pc ls rest) rfl rfl rfl hout hlocks
  have hcell9 : (T.setFrames (.throwing q :: below)).heap[q]? = some ce := by
    show T.heap[q]? = some ce
    rw [hT]; exact hcell
  exact ⟨_, st1, .threw q, hrun, hend, Or.inr ⟨q, rfl, E, ce, locs, hx _ hT hW.alike, hcell9, hv, hcl, hW, hsm.mono hc hs, hf⟩⟩
theorem vx_frame {U : State} {k n : Nat} (h : s.sameButNew ({ U with vm := s.vm } : State) locs k n) : s.heap.size ≤ U.heap.size ∧ ∀ q : Nat, q < s.heap.size → (∀ z ∈ locs, z.base ≠ q) → U.heap[q]? = s.heap[q]? := by
  obtain ⟨-, h2, -, -, -, h6⟩ := h
  refine ⟨h2, fun q hq hz => ?_⟩
  obtain ⟨c9, e1, e2, e3, e4⟩ := h6 q _ (Array.getElem?_eq_getElem hq)
  have hs : c9.slots = (s.heap[q]).slots := Array.ext_getElem? fun i => e4 i fun hm => hz _ hm rfl
  have h9 : c9 = s.heap[q] := by
    rw [hs] at e2
    exact e2
  have e5 : U.heap[q]? = some c9 := e1
  rw [e5, h9, Array.getElem?_eq_getElem hq]
/-- the words of a throw but the four that speak of the heap -/
def vx_no (w : Cond) : Bool := decide (w ≠ .isRef (.static Bundle.tN "UNASSIGNED_STACK" Bundle.steD)) && decide (w ≠ .isRef (.static Bundle.tN "SUPPRESSED_SENTINEL" Bundle.listD)) && decide (w ≠ .laysStatic Bundle.tN "UNASSIGNED_STACK" Bundle.steD) && decide (w ≠ .laysStatic Bundle.tN "SUPPRESSED_SENTINEL" Bundle.listD)
def vx_at0 (own : String) (ic : Nat) (X : String) (names : List String) : List Cond := (Bundle.ownAtoms0 own ic X names).filter vx_no
def vx_atS (own : String) (ic : Nat) (X : String) (names : List String) : List Cond := (Bundle.ownAtoms own ic X names).filter vx_no
/-- a word that the tables alone decide, or a good one -/
def vx_ot (w : Cond) : Bool := w.onTables || goodWord w
theorem vx_ot_at {args a' : Array Value} {s U : State} {w : Cond} (hW : s.WarmedH U.vm) (hvm : s.vm = U.vm) (hg : vx_ot w = true) (h : w.before args s = true) : w.before a' U = true := by
  simp only [vx_ot, Bool.or_eq_true] at hg
  rcases hg with hg | hg
  · exact va_tabs hg hvm h
  · exact word_at hW (good_of_word hg) h
/-- a list's words: the good ones out of the method's own list, the others by premises of their own -/
theorem vx_hat {args : Array Value} {s : State} {L B : List Cond} (h1 : ∀ w ∈ L.filter goodWord, w.before args s = true) (h2 : ∀ w ∈ L.filter (fun w => !goodWord w), w ∈ B) (h3 : ∀ w ∈ B, w.before args s = true) : ∀ w ∈ L, w.before args s = true := by
  intro w hw
  by_cases g : goodWord w = true
  · exact h1 w (List.mem_filter.mpr ⟨hw, g⟩)
  · refine h3 w (h2 w (List.mem_filter.mpr ⟨hw, ?_⟩))
    show (!goodWord w) = true
    cases hgw : goodWord w
    · rfl
    · exact absurd hgw g
theorem vx_c {args : Array Value} {s : State} {w : Cond} {B : List Cond} (h : w.before args s = true) (t : ∀ w ∈ B, w.before args s = true) : ∀ w' ∈ w :: B, w'.before args s = true := fun w' h' => (List.mem_cons.mp h').elim (fun e => by rw [e]; exact h) (t w')
theorem vx_n {args : Array Value} {s : State} : ∀ w ∈ ([] : List Cond), w.before args s = true := fun _ h => nomatch h
theorem vx_own {args : Array Value} {s : State} {L : List Cond} (h1 : ∀ w ∈ L.filter vx_no, w.before args s = true)
    (hU : (Cond.isRef (.static Bundle.tN "UNASSIGNED_STACK" Bundle.steD)).before args s = true) (hN : (Cond.isRef (.static Bundle.tN "SUPPRESSED_SENTINEL" Bundle.listD)).before args s = true)
    (lU : (Cond.laysStatic Bundle.tN "UNASSIGNED_STACK" Bundle.steD).before args s = true) (lN : (Cond.laysStatic Bundle.tN "SUPPRESSED_SENTINEL" Bundle.listD).before args s = true) : ∀ w ∈ L, w.before args s = true := by
  intro w hw
  by_cases e1 : w = .isRef (.static Bundle.tN "UNASSIGNED_STACK" Bundle.steD)
  · rw [e1]; exact hU
  · by_cases e2 : w = .isRef (.static Bundle.tN "SUPPRESSED_SENTINEL" Bundle.listD)
    · rw [e2]; exact hN
    · by_cases e3 : w = .laysStatic Bundle.tN "UNASSIGNED_STACK" Bundle.steD
      · rw [e3]; exact lU
      · by_cases e4 : w = .laysStatic Bundle.tN "SUPPRESSED_SENTINEL" Bundle.listD
        · rw [e4]; exact lN
        · exact h1 w (List.mem_filter.mpr ⟨hw, by unfold vx_no; rw [decide_eq_true e1, decide_eq_true e2, decide_eq_true e3, decide_eq_true e4]; rfl⟩)
/-- where a static field lies, its class's statics cell in H -/
def vx_L (C n d : String) (A : Nat → Prop) (U : State) (H : Heap) : Prop := ∃ (c : ClassId) (k : Class) (i : Nat) (f : Field) (a : Nat) (cell : Cell), U.vm.findClass C = some c ∧ U.fieldFound? C n d = some (c, k, i, f) ∧ f.isStatic = true ∧ k.statics = some a ∧ H[a]? = some cell ∧ cell.vm.isStatics = true ∧ cell.cls = c ∧ f.slot < cell.slots.size ∧ k.staticTypes[f.slot]? = some f.type ∧ ¬ A a
theorem vx_L.moved {C n d : String} {A : Nat → Prop} {u U : State} {H : Heap} (hvm : u.vm.Alike U.vm) (h : vx_L C n d A u H) : vx_L C n d A U H := by
  obtain ⟨c, k, i, f, a, cell, h1, h2, h3, h4, h5, h6, h7, h8, h9, h10⟩ := h
  obtain ⟨k', hi', he⟩ := State.fieldFound?_setVm hvm h2
  exact ⟨c, k', i, f, a, cell, by rw [hvm.findClass]; exact h1, hi', h3, by rw [he]; exact h4, h5, h6, h7, h8, by rw [he]; exact h9, h10⟩
theorem vx_L.kept {C n d : String} {A : Nat → Prop} {U : State} {H H1 : Heap} (h : vx_L C n d A U H) (hq : ∀ a : Nat, a < H.size → ¬ A a → H1[a]? = H[a]?) : vx_L C n d A U H1 := by
  obtain ⟨c, k, i, f, a, cell, h1, h2, h3, h4, h5, h6, h7, h8, h9, h10⟩ := h
  exact ⟨c, k, i, f, a, cell, h1, h2, h3, h4, by rw [hq a (Array.getElem?_eq_some_iff.mp h5).1 h10]; exact h5, h6, h7, h8, h9, h10⟩
theorem vx_L.narrow {C n d : String} {A B : Nat → Prop} {U : State} {H : Heap} (h : vx_L C n d A U H) (hAB : ∀ q, B q → A q) : vx_L C n d B U H := by
  obtain ⟨c, k, i, f, a, cell, h1, h2, h3, h4, h5, h6, h7, h8, h9, h10⟩ := h
  exact ⟨c, k, i, f, a, cell, h1, h2, h3, h4, h5, h6, h7, h8, h9, fun z => h10 (hAB _ z)⟩
theorem vx_L.word {C n d : String} {A : Nat → Prop} {s : State} {args : Array Value} (h : vx_L C n d A s s.heap) : (Cond.laysStatic C n d).before args s = true := by
  obtain ⟨c, k, i, f, a, cell, h1, h2, h3, h4, h5, h6, h7, h8, h9, -⟩ := h
  show (Cond.laysStatic C n d).holds args s none s [] = true
  exact Cond.laysStatic_of h1 h2 h3 h4 h5 h6 h7 h8 h9
/-- .. and what it holds: null or some reference -/
def vx_Zq (C n d : String) (A : Nat → Prop) (U : State) (H : Heap) : Prop := va_Zq C n d A U H ∧ vx_L C n d A U H
theorem vx_Zq.moved {C n d : String} {A : Nat → Prop} {u U : State} {H : Heap} (hvm : u.vm.Alike U.vm) (h : vx_Zq C n d A u H) : vx_Zq C n d A U H := ⟨va_Zq.moved hvm h.1, vx_L.moved hvm h.2⟩
theorem vx_Zq.kept {C n d : String} {A : Nat → Prop} {U : State} {H H1 : Heap} (h : vx_Zq C n d A U H) (hq : ∀ a : Nat, a < H.size → ¬ A a → H1[a]? = H[a]?) : vx_Zq C n d A U H1 := ⟨va_Zq.kept h.1 hq, vx_L.kept h.2 hq⟩
theorem vx_Zq.narrow {C n d : String} {A B : Nat → Prop} {U : State} {H : Heap} (h : vx_Zq C n d A U H) (hAB : ∀ q, B q → A q) : vx_Zq C n d B U H := ⟨va_Zq.narrow h.1 hAB, vx_L.narrow h.2 hAB⟩
theorem vx_Zqof {args : Array Value} {s : State} {C n d : String} {A : Nat → Prop} (hl : (Cond.laysStatic C n d).before args s = true) (hini : (Cond.initialized C).before args s = true) (h : (Cond.isRef (.static C n d)).before args s = true) (hA : ∀ a : Nat, a < s.heap.size → ¬ A a) : vx_Zq C n d A s s.heap := by
  refine ⟨va_Zqof hl hini h hA, ?_⟩
  obtain ⟨c, k, i, f, a, cell, h1, h2, h3, h4, h5, h6, h7, h8, h9⟩ := Cond.laysStatic_spec hl
  exact ⟨c, k, i, f, a, cell, h1, h2, h3, h4, h5, h6, h7, h8, h9, hA a (Array.getElem?_eq_some_iff.mp h5).1⟩
theorem vx_isRef {C n d : String} {v : Value} {A : Nat → Prop} {s : State} {args : Array Value} (h : va_Z C n d v A s s.heap) (hv : v.isRef = true) : (Cond.isRef (.static C n d)).before args s = true := by
  obtain ⟨cf, kf, fi, f, a, cell, h1, h2, h3, h4, h5, h6, h7, -⟩ := h
  have he : (Term.static C n d).eval args s none [] s = some v := by
    simp [Term.eval, State.fieldNamed?, h1, h2, h4, h5, h6, h7]
  simp only [Cond.before, Cond.holds, Cond.value, he]
  cases v <;> simp_all [Value.isRef]
theorem vx_isRefq {C n d : String} {A : Nat → Prop} {s : State} {args : Array Value} (h : va_Zq C n d A s s.heap) : (Cond.isRef (.static C n d)).before args s = true := by
  rcases h with h | ⟨t, h⟩
  · exact vx_isRef h rfl
  · exact vx_isRef h rfl
/-- the same frame, seen from here: as if the method were called anew in this heap -/
theorem vx_rebase {T : State} (X : Stand p l e R s m args below meth c T locs cells slots) {R' : Room} (hf : R'.frames ≤ R.frames) (hl : R'.locals ≤ R.locals) (hc : cells + R'.cells ≤ R.cells) (hs : slots + R'.slots ≤ R.slots) :
    Stand p l e R' ((T.setVm s.vm).setFrames (.invoking m args :: below)) m args below meth c T [] 0 0 := by
  have htop : (T.setVm s.vm).topJava?.isSome := X.here.top
  have hF : ((T.setVm s.vm).setFrames (.invoking m args :: below)).frames = .invoking m args :: below := State.frames_setFrames _ (State.cur_lt_of_top htop)
  obtain ⟨g₀, hg0⟩ := Option.isSome_iff_exists.mp htop
  obtain ⟨r, hr⟩ := State.topJava?_eq_some.mp hg0
  have hl9 : e.platform.stackLimits (T.setVm s.vm).me = e.platform.stackLimits s.me := X.limits
  have hb9 : (T.setVm s.vm).me.stackBytes = s.me.stackBytes := X.bytes
  refine ⟨X.admits, X.cas, X.clock, hF, ?_, X.hears, X.method, X.code, X.here, X.tail, X.warmed, ?_, ?_, ?_⟩
  · have h := X.room
    have hU : ((T.setVm s.vm).setFrames (.invoking m args :: below)).localsInUse = s.localsInUse := by
      rw [State.localsInUse_invoking hF (meth := meth) (c := c) X.method X.code, State.localsInUse_invoking X.frames X.method X.code]
    simp only [State.hasRoom, Bool.and_eq_true, decide_eq_true_eq] at h ⊢
    obtain ⟨⟨⟨⟨h1, h2, h3, h4, h5, h6⟩, h7⟩, h8⟩, h9⟩ := h
    rw [X.frames, List.length_cons] at h2 h3
    have q1 := X.heapSize
    have q2 := X.used
    simp only [hF, hU, List.length_cons, State.stackLimits_setFrames, State.stackBytes_setFrames, hl9, hb9]
    refine ⟨⟨⟨⟨by omega, by omega, by omega, by omega, by omega, h6⟩, ?_⟩, ?_⟩, X.book⟩
    · show T.heap.size + R'.cells ≤ e.platform.maxCells
      omega
    · show T.slotsUsed + R'.slots ≤ e.platform.maxSlots
      omega
  · rw [State.stackLimits_setFrames]; rfl
  · rw [State.stackBytes_setFrames]; rfl
  · refine ⟨?_, Nat.le_refl _, Nat.le_refl _, ?_, ?_, fun a c9 h9 => ⟨c9, h9, rfl, rfl, fun _ _ => rfl⟩⟩
    · obtain ⟨t, ht, -⟩ := State.frames_cons hr
      show T.setVm s.vm = { ((T.setVm s.vm).setFrames (.invoking m args :: below)).setFrames (T.setVm s.vm).frames with heap := T.heap, slotsUsed := T.slotsUsed }
      rw [State.setFrames_setFrames, State.setFrames_self ht]
      rfl
    · show T.slotsUsed = T.slotsUsed + ((T.heap.toList.drop T.heap.size).map (·.slots.size)).sum
      rw [List.drop_eq_nil_of_le (Nat.le_of_eq Array.length_toList)]
      rfl
    · show ((T.heap.toList.drop T.heap.size).map (·.slots.size)).sum ≤ 0
      rw [List.drop_eq_nil_of_le (Nat.le_of_eq Array.length_toList)]
      exact Nat.le_refl _
/-- 'throw new E()': new; dup; invokespecial; athrow -/
theorem vx_throw0 {cc : ByteArray} {pc : Nat} (hexec : p.tables.exec = Jvm.exec) (hb : c.code = cc) (hl : l.stackTraces = false) {own cls : String} {names : List String} {ik ic mc ms : Nat} {A : Nat → Prop}
    (hown : s.vm.findClass own = some m.cls) (hcls : Bundle.fit cls = true) (hnames : ∀ n ∈ names, Bundle.fit n = true)
    (hk : (Cond.classLink own ik cls).before args s = true) (hini : (Cond.initialized cls).before args s = true) (hat : ∀ w ∈ vx_at0 own ic cls names, w.before args s = true)
    (hgood : ∀ w ∈ Cond.classLink own ik cls :: Cond.initialized cls :: vx_at0 own ic cls names, vx_ot w = true)
    (hU : vx_Zq Bundle.tN "UNASSIGNED_STACK" Bundle.steD A s s.heap) (hN : vx_Zq Bundle.tN "SUPPRESSED_SENTINEL" Bundle.listD A s s.heap) (hS : va_S A s.heap H locs) (hsize : ls.size = c.maxLocals)
    (d0 : decode cc pc = .ok (.new ik, 3)) (d3 : decode cc (pc + 3) = .ok (.dup, 1)) (d4 : decode cc (pc + 4) = .ok (.invokespecial ic, 3)) (d7 : decode cc (pc + 7) = .ok (.athrow, 1))
    (hout : ∀ x ∈ c.exceptionTable.toList, covers x (pc + 7) = false)
    (hRframes : names.length + 3 < R.frames) (hRlocals : (rest.map fun v => v.category).sum + (13 * (names.length + 1) + 42) ≤ R.locals) (hRcells : cells + 1 ≤ R.cells) (hRslots : slots + 6 ≤ R.slots) (hlocks : meth.locks = false)
    (hx : ∀ t : State, s.vm.Alike t.vm → H.size ≤ t.heap.size → (∀ q : Nat, q < H.size → t.heap[q]? = H[q]?) → XC cls s t)
    (hf : ∀ z ∈ locs, free z.base) (hc : cells + 1 ≤ mc) (hs : slots + 6 ≤ ms) :
    W p l e R s m args below meth c H locs cells slots (vx_MQ below Qc XC args s mc ms free) (F0 m pc ls rest) := by
  intro T hT X
  have htr : e.platform.stackTraces = false := (show e.platform.stackTraces = l.stackTraces by rw [X.admits.platform]).trans hl
  have Y := vx_rebase X (R' := { frames := R.frames, locals := R.locals, cells := 1, slots := 6 }) (Nat.le_refl _) (Nat.le_refl _) hRcells hRslots
  obtain ⟨s', hA⟩ : ∃ z, z = (T.setVm s.vm).setFrames (.invoking m args :: below) := ⟨_, rfl⟩
  rw [← hA] at Y
  have hvm : s'.vm = s.vm := by rw [hA]; rfl
  have hhp : s'.heap = H := by rw [hA]; exact hT
  have hW0 : s.WarmedH s'.vm := by rw [hvm]; exact State.WarmedH.refl s
  have hat' : ∀ w ∈ vx_at0 own ic cls names, w.before args s' = true := fun w hw => vx_ot_at hW0 hvm.symm (hgood w (List.mem_cons_of_mem _ (List.mem_cons_of_mem _ hw))) (hat w hw)
  have hk' : (Cond.classLink own ik cls).before args s' = true := vx_ot_at hW0 hvm.symm (hgood _ List.mem_cons_self) hk
  have hini' : (Cond.initialized cls).before args s' = true := vx_ot_at hW0 hvm.symm (hgood _ (List.mem_cons_of_mem _ List.mem_cons_self)) hini
  have hU' : vx_Zq Bundle.tN "UNASSIGNED_STACK" Bundle.steD A s' s'.heap := by rw [hhp]; exact vx_Zq.moved hW0.alike (hU.kept hS.2.1)
  have hN' : vx_Zq Bundle.tN "SUPPRESSED_SENTINEL" Bundle.listD A s' s'.heap := by rw [hhp]; exact vx_Zq.moved hW0.alike (hN.kept hS.2.1)
  have h : ∀ w ∈ Bundle.ownAtoms0 own ic cls names, w.before args s' = true := vx_own hat' (vx_isRefq hU'.1) (vx_isRefq hN'.1) hU'.2.word hN'.2.word
  have hown' : s'.vm.findClass own = some m.cls := by rw [hvm]; exact hown
  have hins : (Cond.instantiable cls 6).before args s' = true := h _ (by simp [Bundle.ownAtoms0])
  obtain ⟨vm₁, cX, kX, hfX, hkX, -, -, X₁, st1⟩ := Y.newCold hexec (own := own) (C := cls) (index := ik) (n := 6) hown' hk' hins hini'
    (g := F0 m pc ls rest) rfl (by rw [hb]; exact d0) (Nat.le_refl _) (Nat.le_refl _)
  generalize hT1 : (T.setVm vm₁).pushCell { cls := cX, slots := kX.instanceTypes.map defaultValue, vm := .none } = T1 at X₁ st1
  have hcat : (Value.ref T.heap.size).category = 1 := rfl
  have hcellA : T1.heap[T.heap.size]? = some (freshCell cX kX) := by rw [← hT1]; exact State.heap_pushCell_size _ _
  have d3' : decode c.code (pc + 3) = .ok (.dup, 1) := by rw [hb]; exact d3
  obtain ⟨U, hsteps, hrun, hend, hW, hsame, ce, hce, hO⟩ := X₁.ctorThrow0 hexec htr (own := own) (cls := cls) (names := names) (ic := ic) hown' hcls hnames h (fun x hx => nomatch hx) hfX hkX hcellA (by rw [hhp, hT]; exact Nat.le_refl _)
    (g := { method := m, pc := pc + 4, locals := ls, stack := .ref T.heap.size :: .ref T.heap.size :: rest, locked := none }) rfl hsize rfl rfl (rest := rest) rfl
    (by rw [hb]; exact d4) (by rw [hb]; exact d7) hout hRframes (by simp only [List.map_cons, List.sum_cons, hcat]; omega) hlocks
  obtain ⟨f1, f2⟩ := vx_frame hsame
  rw [hhp] at f1 f2
  have hWs : s.WarmedH U.vm := State.WarmedH.trans hW0 hW
  have hcl : s.vm.findClass cls = some ce.cls := by
    have h9 := hO.cls
    rw [hvm] at h9
    exact h9
  have hall : s.sameButNew ({ U with vm := s.vm } : State) locs mc ms := by
    subst hA
    obtain ⟨e1, e2⟩ := hsame
    rw [State.setFrames_setFrames] at e1
    have h2 : (T.setVm s.vm).sameButNew ({ U with vm := s.vm } : State) [] (0 + 1) (0 + 6) := ⟨e1, e2⟩
    have h3 := X.same.trans h2
    rw [List.append_nil] at h3
    exact h3.mono hc hs
  refine ⟨U, ?_, .threw T.heap.size, hrun, hend, Or.inr ⟨T.heap.size, rfl, cls, ce, locs, hx U hWs.alike f1 (fun q hq => f2 q hq (fun z hz => nomatch hz)), hce, hO.vm, hcl, hWs, hall, hf⟩⟩
  refine st1 _ ?_
  show Steps p.tables e below (T1.setTop { method := m, pc := pc + 3, locals := ls, stack := .ref T.heap.size :: rest, locked := none }) _
  jvm_step X₁.here [X₁.here.top, hexec, d3', Value.category]
  exact hsteps
/-- 'throw new E("text")': new; dup; ldc; invokespecial; athrow -/
theorem vx_throwS {cc : ByteArray} {pc : Nat} (hexec : p.tables.exec = Jvm.exec) (hb : c.code = cc) (hl : l.stackTraces = false) {own cls text : String} {names : List String} {ik is ic mc ms sa : Nat} {A : Nat → Prop}
    (hown : s.vm.findClass own = some m.cls) (hcls : Bundle.fit cls = true) (hnames : ∀ n ∈ names, Bundle.fit n = true)
    (hk : (Cond.classLink own ik cls).before args s = true) (hini : (Cond.initialized cls).before args s = true) (hstr : vk_R own is text sa s) (hat : ∀ w ∈ vx_atS own ic cls names, w.before args s = true)
    (hgood : ∀ w ∈ Cond.classLink own ik cls :: Cond.initialized cls :: vx_atS own ic cls names, vx_ot w = true)
    (hU : vx_Zq Bundle.tN "UNASSIGNED_STACK" Bundle.steD A s s.heap) (hN : vx_Zq Bundle.tN "SUPPRESSED_SENTINEL" Bundle.listD A s s.heap) (hS : va_S A s.heap H locs) (hsize : ls.size = c.maxLocals)
    (d0 : decode cc pc = .ok (.new ik, 3)) (d3 : decode cc (pc + 3) = .ok (.dup, 1)) (d4 : decode cc (pc + 4) = .ok (.ldc is, 2)) (d6 : decode cc (pc + 6) = .ok (.invokespecial ic, 3)) (d9 : decode cc (pc + 9) = .ok (.athrow, 1))
    (hout : ∀ x ∈ c.exceptionTable.toList, covers x (pc + 9) = false)
    (hRframes : names.length + 3 < R.frames) (hRlocals : (rest.map fun v => v.category).sum + (13 * (names.length + 1) + 43) ≤ R.locals) (hRcells : cells + 1 ≤ R.cells) (hRslots : slots + 6 ≤ R.slots) (hlocks : meth.locks = false)
    (hx : ∀ t : State, s.vm.Alike t.vm → H.size ≤ t.heap.size → (∀ q : Nat, q < H.size → t.heap[q]? = H[q]?) → XC cls s t)
    (hf : ∀ z ∈ locs, free z.base) (hc : cells + 1 ≤ mc) (hs : slots + 6 ≤ ms) :
    W p l e R s m args below meth c H locs cells slots (vx_MQ below Qc XC args s mc ms free) (F0 m pc ls rest) := by
  intro T hT X
  have htr : e.platform.stackTraces = false := (show e.platform.stackTraces = l.stackTraces by rw [X.admits.platform]).trans hl
  have Y := vx_rebase X (R' := { frames := R.frames, locals := R.locals, cells := 1, slots := 6 }) (Nat.le_refl _) (Nat.le_refl _) hRcells hRslots
  obtain ⟨s', hA⟩ : ∃ z, z = (T.setVm s.vm).setFrames (.invoking m args :: below) := ⟨_, rfl⟩
  rw [← hA] at Y
  have hvm : s'.vm = s.vm := by rw [hA]; rfl
  have hhp : s'.heap = H := by rw [hA]; exact hT
  have hW0 : s.WarmedH s'.vm := by rw [hvm]; exact State.WarmedH.refl s
  have hat' : ∀ w ∈ vx_atS own ic cls names, w.before args s' = true := fun w hw => vx_ot_at hW0 hvm.symm (hgood w (List.mem_cons_of_mem _ (List.mem_cons_of_mem _ hw))) (hat w hw)
  have hk' : (Cond.classLink own ik cls).before args s' = true := vx_ot_at hW0 hvm.symm (hgood _ List.mem_cons_self) hk
  have hini' : (Cond.initialized cls).before args s' = true := vx_ot_at hW0 hvm.symm (hgood _ (List.mem_cons_of_mem _ List.mem_cons_self)) hini
  have hU' : vx_Zq Bundle.tN "UNASSIGNED_STACK" Bundle.steD A s' s'.heap := by rw [hhp]; exact vx_Zq.moved hW0.alike (hU.kept hS.2.1)
  have hN' : vx_Zq Bundle.tN "SUPPRESSED_SENTINEL" Bundle.listD A s' s'.heap := by rw [hhp]; exact vx_Zq.moved hW0.alike (hN.kept hS.2.1)
  have h : ∀ w ∈ Bundle.ownAtoms own ic cls names, w.before args s' = true := vx_own hat' (vx_isRefq hU'.1) (vx_isRefq hN'.1) hU'.2.word hN'.2.word
  have hown' : s'.vm.findClass own = some m.cls := by rw [hvm]; exact hown
  have hins : (Cond.instantiable cls 6).before args s' = true := h _ (by simp [Bundle.ownAtoms])
  obtain ⟨vm₁, cX, kX, hfX, hkX, -, -, X₁, st1⟩ := Y.newCold hexec (own := own) (C := cls) (index := ik) (n := 6) hown' hk' hins hini'
    (g := F0 m pc ls rest) rfl (by rw [hb]; exact d0) (Nat.le_refl _) (Nat.le_refl _)
  generalize hT1 : (T.setVm vm₁).pushCell { cls := cX, slots := kX.instanceTypes.map defaultValue, vm := .none } = T1 at X₁ st1
  have hcat : (Value.ref T.heap.size).category = 1 := rfl
  have hcellA : T1.heap[T.heap.size]? = some (freshCell cX kX) := by rw [← hT1]; exact State.heap_pushCell_size _ _
  have d3' : decode c.code (pc + 3) = .ok (.dup, 1) := by rw [hb]; exact d3
  have d4' : decode c.code (pc + 4) = .ok (.ldc is, 2) := by rw [hb]; exact d4
  have hstr' : vk_R own is text sa s' := vk_R.warm hW0 hstr
  obtain ⟨U, hsteps, hrun, hend, hW, hsame, ce, hce, hO⟩ := X₁.ctorThrowS hexec htr (own := own) (cls := cls) (names := names) (ic := ic) hown' hcls hnames h (fun x hx => nomatch hx) hfX hkX hcellA (by rw [hhp, hT]; exact Nat.le_refl _) (msg := .ref sa) rfl
    (g := { method := m, pc := pc + 6, locals := ls, stack := .ref sa :: .ref T.heap.size :: .ref T.heap.size :: rest, locked := none }) rfl hsize rfl rfl (rest := rest) rfl
    (by rw [hb]; exact d6) (by rw [hb]; exact d9) hout hRframes (by simp only [List.map_cons, List.sum_cons, hcat]; omega) hlocks
  obtain ⟨f1, f2⟩ := vx_frame hsame
  rw [hhp] at f1 f2
  have hWs : s.WarmedH U.vm := State.WarmedH.trans hW0 hW
  have hcl : s.vm.findClass cls = some ce.cls := by
    have h9 := hO.cls
    rw [hvm] at h9
    exact h9
  have hall : s.sameButNew ({ U with vm := s.vm } : State) locs mc ms := by
    subst hA
    obtain ⟨e1, e2⟩ := hsame
    rw [State.setFrames_setFrames] at e1
    have h2 : (T.setVm s.vm).sameButNew ({ U with vm := s.vm } : State) [] (0 + 1) (0 + 6) := ⟨e1, e2⟩
    have h3 := X.same.trans h2
    rw [List.append_nil] at h3
    exact h3.mono hc hs
  refine ⟨U, ?_, .threw T.heap.size, hrun, hend, Or.inr ⟨T.heap.size, rfl, cls, ce, locs, hx U hWs.alike f1 (fun q hq => f2 q hq (fun z hz => nomatch hz)), hce, hO.vm, hcl, hWs, hall, hf⟩⟩
  refine st1 _ ?_
  show Steps p.tables e below (T1.setTop { method := m, pc := pc + 3, locals := ls, stack := .ref T.heap.size :: rest, locked := none }) _
  jvm_step X₁.here [X₁.here.top, hexec, d3', Value.category]
  exact X₁.ldcString hexec (own := own) (text := text) (index := is) (a := sa) hown' hstr'.1 hstr'.2
    (g := { method := m, pc := pc + 4, locals := ls, stack := .ref T.heap.size :: .ref T.heap.size :: rest, locked := none }) rfl d4' _ hsteps
/-- 'throw new E("text")', the text by a wide index -/
theorem vx_throwSW {cc : ByteArray} {pc : Nat} (hexec : p.tables.exec = Jvm.exec) (hb : c.code = cc) (hl : l.stackTraces = false) {own cls text : String} {names : List String} {ik is ic mc ms sa : Nat} {A : Nat → Prop}
    (hown : s.vm.findClass own = some m.cls) (hcls : Bundle.fit cls = true) (hnames : ∀ n ∈ names, Bundle.fit n = true)
    (hk : (Cond.classLink own ik cls).before args s = true) (hini : (Cond.initialized cls).before args s = true) (hstr : vk_R own is text sa s) (hat : ∀ w ∈ vx_atS own ic cls names, w.before args s = true)
    (hgood : ∀ w ∈ Cond.classLink own ik cls :: Cond.initialized cls :: vx_atS own ic cls names, vx_ot w = true)
    (hU : vx_Zq Bundle.tN "UNASSIGNED_STACK" Bundle.steD A s s.heap) (hN : vx_Zq Bundle.tN "SUPPRESSED_SENTINEL" Bundle.listD A s s.heap) (hS : va_S A s.heap H locs) (hsize : ls.size = c.maxLocals)
    (d0 : decode cc pc = .ok (.new ik, 3)) (d3 : decode cc (pc + 3) = .ok (.dup, 1)) (d4 : decode cc (pc + 4) = .ok (.ldc_w is, 3)) (d7 : decode cc (pc + 7) = .ok (.invokespecial ic, 3)) (d10 : decode cc (pc + 10) = .ok (.athrow, 1))
    (hout : ∀ x ∈ c.exceptionTable.toList, covers x (pc + 10) = false)
    (hRframes : names.length + 3 < R.frames) (hRlocals : (rest.map fun v => v.category).sum + (13 * (names.length + 1) + 43) ≤ R.locals) (hRcells : cells + 1 ≤ R.cells) (hRslots : slots + 6 ≤ R.slots) (hlocks : meth.locks = false)
    (hx : ∀ t : State, s.vm.Alike t.vm → H.size ≤ t.heap.size → (∀ q : Nat, q < H.size → t.heap[q]? = H[q]?) → XC cls s t)
    (hf : ∀ z ∈ locs, free z.base) (hc : cells + 1 ≤ mc) (hs : slots + 6 ≤ ms) :
    W p l e R s m args below meth c H locs cells slots (vx_MQ below Qc XC args s mc ms free) (F0 m pc ls rest) := by
  intro T hT X
  have htr : e.platform.stackTraces = false := (show e.platform.stackTraces = l.stackTraces by rw [X.admits.platform]).trans hl
  have Y := vx_rebase X (R' := { frames := R.frames, locals := R.locals, cells := 1, slots := 6 }) (Nat.le_refl _) (Nat.le_refl _) hRcells hRslots
  obtain ⟨s', hA⟩ : ∃ z, z = (T.setVm s.vm).setFrames (.invoking m args :: below) := ⟨_, rfl⟩
  rw [← hA] at Y
  have hvm : s'.vm = s.vm := by rw [hA]; rfl
  have hhp : s'.heap = H := by rw [hA]; exact hT
  have hW0 : s.WarmedH s'.vm := by rw [hvm]; exact State.WarmedH.refl s
  have hat' : ∀ w ∈ vx_atS own ic cls names, w.before args s' = true := fun w hw => vx_ot_at hW0 hvm.symm (hgood w (List.mem_cons_of_mem _ (List.mem_cons_of_mem _ hw))) (hat w hw)
  have hk' : (Cond.classLink own ik cls).before args s' = true := vx_ot_at hW0 hvm.symm (hgood _ List.mem_cons_self) hk
  have hini' : (Cond.initialized cls).before args s' = true := vx_ot_at hW0 hvm.symm (hgood _ (List.mem_cons_of_mem _ List.mem_cons_self)) hini
  have hU' : vx_Zq Bundle.tN "UNASSIGNED_STACK" Bundle.steD A s' s'.heap := by rw [hhp]; exact vx_Zq.moved hW0.alike (hU.kept hS.2.1)
  have hN' : vx_Zq Bundle.tN "SUPPRESSED_SENTINEL" Bundle.listD A s' s'.heap := by rw [hhp]; exact vx_Zq.moved hW0.alike (hN.kept hS.2.1)
  have h : ∀ w ∈ Bundle.ownAtoms own ic cls names, w.before args s' = true := vx_own hat' (vx_isRefq hU'.1) (vx_isRefq hN'.1) hU'.2.word hN'.2.word
  have hown' : s'.vm.findClass own = some m.cls := by rw [hvm]; exact hown
  have hins : (Cond.instantiable cls 6).before args s' = true := h _ (by simp [Bundle.ownAtoms])
  obtain ⟨vm₁, cX, kX, hfX, hkX, -, -, X₁, st1⟩ := Y.newCold hexec (own := own) (C := cls) (index := ik) (n := 6) hown' hk' hins hini'
    (g := F0 m pc ls rest) rfl (by rw [hb]; exact d0) (Nat.le_refl _) (Nat.le_refl _)
  generalize hT1 : (T.setVm vm₁).pushCell { cls := cX, slots := kX.instanceTypes.map defaultValue, vm := .none } = T1 at X₁ st1
  have hcat : (Value.ref T.heap.size).category = 1 := rfl
  have hcellA : T1.heap[T.heap.size]? = some (freshCell cX kX) := by rw [← hT1]; exact State.heap_pushCell_size _ _
  have d3' : decode c.code (pc + 3) = .ok (.dup, 1) := by rw [hb]; exact d3
  have d4' : decode c.code (pc + 4) = .ok (.ldc_w is, 3) := by rw [hb]; exact d4
  have hstr' : vk_R own is text sa s' := vk_R.warm hW0 hstr
  obtain ⟨U, hsteps, hrun, hend, hW, hsame, ce, hce, hO⟩ := X₁.ctorThrowS hexec htr (own := own) (cls := cls) (names := names) (ic := ic) hown' hcls hnames h (fun x hx => nomatch hx) hfX hkX hcellA (by rw [hhp, hT]; exact Nat.le_refl _) (msg := .ref sa) rfl
    (g := { method := m, pc := pc + 7, locals := ls, stack := .ref sa :: .ref T.heap.size :: .ref T.heap.size :: rest, locked := none }) rfl hsize rfl rfl (rest := rest) rfl
    (by rw [hb]; exact d7) (by rw [hb]; exact d10) hout hRframes (by simp only [List.map_cons, List.sum_cons, hcat]; omega) hlocks
  obtain ⟨f1, f2⟩ := vx_frame hsame
  rw [hhp] at f1 f2
  have hWs : s.WarmedH U.vm := State.WarmedH.trans hW0 hW
  have hcl : s.vm.findClass cls = some ce.cls := by
    have h9 := hO.cls
    rw [hvm] at h9
    exact h9
  have hall : s.sameButNew ({ U with vm := s.vm } : State) locs mc ms := by
    subst hA
    obtain ⟨e1, e2⟩ := hsame
    rw [State.setFrames_setFrames] at e1
    have h2 : (T.setVm s.vm).sameButNew ({ U with vm := s.vm } : State) [] (0 + 1) (0 + 6) := ⟨e1, e2⟩
    have h3 := X.same.trans h2
    rw [List.append_nil] at h3
    exact h3.mono hc hs
  refine ⟨U, ?_, .threw T.heap.size, hrun, hend, Or.inr ⟨T.heap.size, rfl, cls, ce, locs, hx U hWs.alike f1 (fun q hq => f2 q hq (fun z hz => nomatch hz)), hce, hO.vm, hcl, hWs, hall, hf⟩⟩
  refine st1 _ ?_
  show Steps p.tables e below (T1.setTop { method := m, pc := pc + 3, locals := ls, stack := .ref T.heap.size :: rest, locked := none }) _
  jvm_step X₁.here [X₁.here.top, hexec, d3', Value.category]
  exact X₁.ldcStringW hexec (own := own) (text := text) (index := is) (a := sa) hown' hstr'.1 hstr'.2
    (g := { method := m, pc := pc + 4, locals := ls, stack := .ref T.heap.size :: .ref T.heap.size :: rest, locked := none }) rfl d4' _ hsteps
end Ends
section Bodies
variable {l : Launch}
theorem vx_ofW {y : MethodName} {ws ws' : List Cond} {rm : Room} {Pc : Array Value → State → Prop} {Qc : Array Value → State → Outcome → State → Prop} {XC : String → State → State → Prop} {mc ms : Nat} {free : Addr → Prop} {cc : ByteArray} {maxL : Nat} {ret : Option FieldType}
    (hy : plainName y.cls = true) (hw : ws = Cond.code y cc maxL ret :: ws')
    (body : ∀ p e s m args below meth c s₁, BodyLoose p l y (headSpec ws rm) cc maxL ret e s m args below meth c s₁ → c.maxLocals = maxL → (∀ x ∈ c.exceptionTable.toList, False) → Pc args s →
      W p l e (headSpec ws rm).room s m args below meth c s.heap [] 0 0 (vx_MQ below Qc XC args s mc ms free) (entryFrame m args maxL)) : vx_Met l y ws rm Pc Qc XC mc ms free := by
  refine MetFree.of_bodyS (code := cc) (maxLocals := maxL) (ret := ret) hy ?_ ?_
  · intro args s m h hn
    obtain ⟨meth, c, h1, h2, h3, h4, h5, h6, -, -⟩ := Cond.code_spec hn (atoms_spec (ws := ws) h _ (by rw [hw]; exact List.mem_cons_self))
    exact ⟨meth, c, h1, h2, h3, h4, h5, h6⟩
  · intro p e s m args below meth c s₁ B hml hP _
    have hh0 : s₁.heap = s.heap := by rw [B.state]; rfl
    have ht : ∀ x ∈ c.exceptionTable.toList, False := by
      obtain ⟨meth9, c9, h1, h2, -, -, -, -, h7, -⟩ := Cond.code_spec B.named (atoms_spec (ws := ws) B.pre _ (by rw [hw]; exact List.mem_cons_self))
      cases Option.some.inj (h1.symm.trans B.method)
      cases Option.some.inj (h2.symm.trans (Stand.of_body B).code)
      intro x hx
      rw [Array.isEmpty_iff.mp h7] at hx
      cases hx
    obtain ⟨t, a1, o, b1, b2, b3⟩ := body p e s m args below meth c s₁ B hml ht hP s₁ hh0 (Stand.of_body B)
    exact ⟨t, o, a1, b1, b2, b3⟩
/-- the table of a body with handlers -/
theorem vx_table {p : Program} {x y : MethodName} {S : Spec} {cc bytes : ByteArray} {maxL maxL' : Nat} {ret ret' : Option FieldType} {e : Env} {s s₁ : State} {m : MethodId} {args : Array Value} {below : List Frame} {meth : Method} {c : Code} {hh : List (Nat × Nat × Nat × Nat)}
    (B : BodyLoose p l y S cc maxL ret e s m args below meth c s₁) (h : (Cond.codeWith y bytes maxL' ret' hh).before args s = true) : c.exceptionTable.toList = tableOf hh := by
  obtain ⟨m9, meth9, c9, hn9, h1, h2, -, -, h6, -⟩ := Cond.codeWith_spec h
  cases Option.some.inj (hn9.symm.trans B.named)
  cases Option.some.inj (h1.symm.trans B.method)
  cases Option.some.inj (h2.symm.trans (Stand.of_body B).code)
  rw [← h6, table_eq]
end Bodies
end VXA
/-! ===== END ===== -/
/-! ===== BEGIN a static call of a method with an exception table ===== -/
section VXS
variable {p : Program} {l : Launch} {e : Env} {R : Room} {s : State} {m : MethodId} {args : Array Value} {below : List Frame} {meth : Method} {c : Code} {T : State} {H : Heap} {locs : List Loc} {cells slots : Nat}
abbrev vx_CSW (R : Room) (s : State) (args : Array Value) (own : String) (index : Nat) (y : MethodName) (bytes : ByteArray) (maxL : Nat) (ret : Option FieldType) (hh : List (Nat × Nat × Nat × Nat)) (ws : List Cond) (rm : Room) (mc ms n : Nat) : Prop :=
  (rm.cells = mc ∧ rm.slots = ms ∧ rm.frames + 1 ≤ R.frames ∧ 8 + (maxL + 11) + rm.locals ≤ R.locals ∧ (∀ w ∈ ws, ∀ (a' : Array Value) (U : State), s.WarmedH U.vm → w.before a' U = true) ∧ Cond.codeWith y bytes maxL ret hh ∈ ws) ∧
  (Cond.codeWith y bytes maxL ret hh).before args s = true ∧ (Cond.initialized y.cls).before args s = true ∧ (y.cls ≠ "java/lang/invoke/MethodHandle" ∧ y.cls ≠ "java/lang/invoke/VarHandle") ∧
  (∀ sig, parseMethodDescriptor y.desc = some sig → n = sig.parameters.length) ∧ (Cond.methodLink own index y).before args s = true ∧ (Cond.static y).before args s = true
theorem vx_cwSW {own : String} {index maxL mc ms : Nat} {y : MethodName} {bytes : ByteArray} {ret : Option FieldType} {hh : List (Nat × Nat × Nat × Nat)} {Ts ws ws' : List Cond} {rm : Room} (n : Nat) (ht : ∀ w ∈ Ts, w.before args s = true) (hT : GoodIn Ts (va_wsS own index y ws)) (hw : ws = Cond.codeWith y bytes maxL ret hh :: ws') (hrc : rm.cells = mc) (hrs : rm.slots = ms)
    (hd : y.cls ≠ "java/lang/invoke/MethodHandle" ∧ y.cls ≠ "java/lang/invoke/VarHandle" ∧ (parseMethodDescriptor y.desc).map (fun d => d.parameters.length) = some n) (hR : rm.frames + 1 ≤ R.frames ∧ 8 + (maxL + 11) + rm.locals ≤ R.locals) :
    vx_CSW R s args own index y bytes maxL ret hh ws rm mc ms n := by
  have ok : ∀ w ∈ va_wsS own index y ws, w.before args s = true := fun w h => ht w (hT w h).1
  have hG : GoodIn Ts ws := fun w h => hT w (by unfold va_wsS; exact List.mem_append_right _ h)
  have hc : Cond.codeWith y bytes maxL ret hh ∈ ws := by rw [hw]; exact List.mem_cons_self
  refine ⟨⟨hrc, hrs, hR.1, hR.2, pay_in ht hG, hc⟩, ht _ (hG _ hc).1, ok _ (by simp [va_wsS]), ⟨hd.1, hd.2.1⟩, fun sig h => ?_, ok _ (by simp [va_wsS]), ok _ (by simp [va_wsS])⟩
  have h2 := hd.2.2
  rw [h] at h2
  exact (Option.some.inj h2).symm
theorem vx_callSW (X : Stand p l e R s m args below meth c T locs cells slots) (hexec : p.tables.exec = Jvm.exec) {own : String} {index : Nat} {y : MethodName} {bytes : ByteArray} {maxL : Nat} {ret : Option FieldType} {hh : List (Nat × Nat × Nat × Nat)}
    (hown : s.vm.findClass own = some m.cls) (hlink : (Cond.methodLink own index y).before args s = true) (hstat : (Cond.static y).before args s = true) (hinit : (Cond.initialized y.cls).before args s = true)
    (hcode : (Cond.codeWith y bytes maxL ret hh).before args s = true) (hy : y.cls ≠ "java/lang/invoke/MethodHandle" ∧ y.cls ≠ "java/lang/invoke/VarHandle")
    {W9 : Nat} {Pre : Pt → Array Value → Prop} {Post : Pt → Array Value → Option Value → Pt → Prop} (hK : Back l R p e below s args y 3 W9 Pre Post)
    {g : JFrame} (hg : g.method = m) (hsize : g.locals.size = c.maxLocals) {argsL rest : List Value} (hlen : ∀ sig, parseMethodDescriptor y.desc = some sig → argsL.length = sig.parameters.length)
    (hstack : g.stack = argsL.reverse ++ rest) (hW : 2 * g.monitorRoom + (rest.map fun v => v.category).sum ≤ W9) (hdg : decode c.code g.pc = .ok (.invokestatic index, 3))
    (hpre : ∀ vm₁, s.WarmedH vm₁ → Pre ⟨T.setVm vm₁, locs, cells, slots⟩ argsL.toArray) :
    ∃ (v : Option Value) (vm₁ : Vm) (B : Pt), s.WarmedH vm₁ ∧ Stand p l e R s m args below meth c B.U B.locs B.cells B.slots ∧ Post ⟨T.setVm vm₁, locs, cells, slots⟩ argsL.toArray v B ∧
      ∀ target, Steps p.tables e below (B.U.setTop { g with pc := g.pc + 3, stack := v.toList ++ rest }) target → Steps p.tables e below (T.setTop g) target := by
  obtain ⟨mk, methM, cM, hnamed, hmethM, -, -, -, -, -, -, hsigM⟩ := Cond.codeWith_spec hcode
  have hstatic : methM.isStatic = true := Cond.static_spec hnamed hmethM hstat
  obtain ⟨kP, hkP, -⟩ := className_of_methodNamed hnamed
  have hinitP : kP.init = .initialized := Cond.initialized_spec (findClass_of_methodNamed hnamed) hkP hinit
  obtain ⟨vm₁, X₁, hstep₁⟩ := X.invokestatic hexec hown hlink hnamed hmethM hstatic hkP hinitP hy (g := g) hg (argsL := argsL) (rest := rest) (hlen _ hsigM) hstack hdg
  obtain ⟨v, B, X', hpost, hsteps⟩ := hK m meth c ⟨T.setVm vm₁, locs, cells, slots⟩ { g with stack := rest } (.invokestatic index) mk argsL.toArray X₁ hg hsize hdg hW (X₁.named hnamed) (hpre vm₁ X₁.warmed)
  exact ⟨v, vm₁, B, X₁.warmed, X', hpost, fun target h => hstep₁ _ fun acts => by rw [doInvoke_state]; exact hsteps.trans h⟩
theorem vx_runSW {y : MethodName} {bytes cc : ByteArray} {maxL nL mc ms n index : Nat} {ret : Option FieldType} {hh : List (Nat × Nat × Nat × Nat)} {ws : List Cond} {rm : Room} {Pc : Array Value → State → Prop} {Qc : Array Value → State → Outcome → State → Prop} {free : Addr → Prop} {Ts : List Cond} {own : String} {As rest : List Value} {g : JFrame}
    (S : CallFix p m c cc nL s args Ts own) (hM : Met l y ws rm Pc Qc mc ms free) (cw : vx_CSW R s args own index y bytes maxL ret hh ws rm mc ms n) (hp : PreS s H Pc As)
    (hg : g.method = m) (hn : As.length = n) (hsize : g.locals.size = nL) (hstack : g.stack = As.reverse ++ rest) (hW : 2 * g.monitorRoom + (rest.map fun v => v.category).sum ≤ 8) (hdg : decode cc g.pc = .ok (.invokestatic index, 3)) (hf : cells + mc ≤ R.cells ∧ slots + ms ≤ R.slots) :
    va_Run p l e R s m args below meth c H locs cells slots mc ms g rest (Qc As.toArray) (free) := by
  obtain ⟨⟨hrc, hrs, hfr, hlo, hws, hcw⟩, hcode, hini, hy, hlen, hl, hstt⟩ := cw
  have hK : Back l R p e below s args y 3 8 (PreOf R mc ms Pc) (PostOf Qc mc ms free) := va_backW (hh := hh) (bytes := bytes) (maxL := maxL) (ret := ret) hM hp.1 hrc hrs hfr hlo hws hcw (fun a' U hW => word_at hW (Or.inl (by first | rfl | simp [Cond.onTables, Cond.keeps, Cond.steady])) hini)
  obtain ⟨hx, hb, hml, ho, -⟩ := S
  intro T hT X
  obtain ⟨v, vm₁, ⟨U', l2, c2, s2⟩, hW₁, X', ⟨g', mk, t, L, e1, e2, hq, h1, hL, h2, h3⟩, st⟩ := vx_callSW X hx (hh := hh) (bytes := bytes) (maxL := maxL) (ret := ret) ho hl hstt hini hcode hy hK hg (hsize.trans hml.symm) (argsL := As) (rest := rest) (fun sig h => hn.trans (hlen sig h)) hstack hW (by rw [hb]; exact hdg)
    (fun vm₁ hW₁ => ⟨hf.1, hf.2, hp.2 (T.setVm vm₁) hT hW₁⟩)
  dsimp only [Pt.U, Pt.locs, Pt.cells, Pt.slots] at X' e1 e2 h1 h2 h3 st
  subst h1; subst h2; subst h3
  exact ⟨v, (T.setVm vm₁).calling g' mk As.toArray, t, U', L, hT, X', hL, e1, e2, hq, st⟩
/-- not caught here, past rows that name other classes: it goes on to the caller -/
theorem vx_outP {p : Program} {l : Launch} {e : Env} {R : Room} {s : State} {m : MethodId} {args : Array Value} {below : List Frame} {meth : Method} {c : Code} {H : Heap} {locs : List Loc} {cells slots : Nat} {free : Addr → Prop} {ls : Array Slot} {rest : List Value} {Qc : Array Value → State → Outcome → State → Prop} {XC : String → State → State → Prop}
    {pc : Nat} {own E : String} {ce : Cell} {q : Addr} {mc ms : Nat} (hown : s.vm.findClass own = some m.cls) (hlocks : meth.locks = false)
    (hpass : ∀ z ∈ c.exceptionTable.toList, covers z pc = false ∨ (z.catchType ≠ 0 ∧ ∃ nm : String, (Cond.classLink own z.catchType nm).before args s = true ∧ va_Nc E nm s)) (hcell : H[q]? = some ce) (hv : ce.vm = .none) (hcl : s.vm.findClass E = some ce.cls)
    (hx : ∀ t : State, t.heap = H → s.vm.Alike t.vm → XC E s t) (hf : ∀ z ∈ locs, free z.base) (hc : cells ≤ mc) (hs : slots ≤ ms) :
    vx_W p l e R s m args below meth c H locs cells slots (vx_MQ below Qc XC args s mc ms free) (F0 m pc ls rest) q := by
  intro T hT X
  have hpl : e.platform.magicAccessors = ({} : Platform).magicAccessors := by rw [X.admits.platform]
  obtain ⟨vm', hW', X', st⟩ := X.outThrough hlocks q (g := F0 m pc ls rest) rfl rfl rfl (cell := ce) (by rw [hT]; exact hcell) (by rw [hv]; rfl)
    (by obtain ⟨k9, h9, -⟩ := Vm.findClass_spec hcl; exact ⟨k9, h9⟩) (fun z hz => by
      rcases hpass z hz with h | ⟨hz0, nm, hl1, hn1⟩
      · exact Or.inl h
      · obtain ⟨c6, hc6, hcl6⟩ := Cond.classLink_spec hown hl1 e.platform hpl
        obtain ⟨a8, b8, h1, h2, h3⟩ := hn1
        cases Option.some.inj (h1.symm.trans hcl)
        cases Option.some.inj (h2.symm.trans hc6)
        exact Or.inr ⟨hz0, _, hcl6, h3⟩)
  obtain ⟨g₀, hfr⟩ := X'.frames_eq
  have hcell9 : ((T.setVm vm').setFrames (.throwing q :: below)).heap[q]? = some ce := by
    show T.heap[q]? = some ce
    rw [hT]; exact hcell
  have hend : Ended ((T.setVm vm').setFrames (.throwing q :: below)) below (.threw q) := State.frames_setFrames _ (State.cur_lt_of_frames hfr)
  refine ⟨(T.setVm vm').setFrames (.throwing q :: below), ?_, .threw q, X'.here.running, hend, Or.inr ⟨q, rfl, E, ce, locs, hx _ hT (X'.ends _).1.alike, hcell9, hv, hcl, (X'.ends _).1, (X'.ends _).2.mono hc hs, hf⟩⟩
  rw [X.pushThrowing_eq]
  exact st
/-- a thing of a world lies in the heap -/
theorem vx_lt {D : va_G} {cl : List vw_C} {ws : va_W} {H1 : Heap} (h : va_P D cl ws H1) {k : Nat} {q : Nat × va_E} (hk : ws[k]? = some q) : q.1 < H1.size := (h k q hk).lt
end VXS
/-! ===== END ===== -/
/-! ===== BEGIN methods with a table of their own: called by a name, returning or throwing ===== -/
section VXH
/-! vx_backW, vx_callVX, vx_callSX, vx_callVW, vx_runVW, vx_runVX, vx_runSX, vx_ofWH follow the same proofs as their sisters above (Free/Laws.lean, Shelf42/LK1.lean); vx_outP calls Shelf42/NT130.lean (outThrough). -/
section
variable {l : Launch} {R : Room} {p : Program} {e : Env} {below : List Frame} {s : State} {sargs : Array Value} {y : MethodName} {len W9 : Nat}
theorem vx_backW {ws : List Cond} {rm : Room} {Pc : Array Value → State → Prop} {Qc : Array Value → State → Outcome → State → Prop} {XC : String → State → State → Prop} {mc ms : Nat} {free : Addr → Prop} {bytes : ByteArray} {maxL : Nat} {ret : Option FieldType} {hh : List (Nat × Nat × Nat × Nat)}
    (hM : vx_Met l y ws rm Pc Qc XC mc ms free) (hblind : FrameBlind Pc) (hrc : rm.cells = mc) (hrs : rm.slots = ms)
    (hframes : rm.frames + 1 ≤ R.frames) (hlocals : W9 + (maxL + 11) + rm.locals ≤ R.locals)
    (hws : ∀ w ∈ ws, ∀ a' U, s.WarmedH U.vm → w.before a' U = true) (hcode : Cond.codeWith y bytes maxL ret hh ∈ ws) (hinit : ∀ a' U, s.WarmedH U.vm → (Cond.initialized y.cls).before a' U = true) :
    vx_Back l R p e below s sargs y len W9 (PreOf R mc ms Pc) (PostOf Qc mc ms free) (vx_Post XC mc ms free) := by
  intro m meth c A g ig mk a X hg hsize hdg hW hn hp
  have h1 : (headSpec ws rm).pre.before a A.U = true := atoms_intro fun w hw => hws w hw _ _ X.warmed
  have h2 : (Cond.codeWith y bytes maxL ret hh).before a A.U = true := hws _ hcode _ _ X.warmed
  have h3 : (Cond.initialized y.cls).before a A.U = true := hinit _ _ X.warmed
  have h4 : A.cells + (headSpec ws rm).room.cells ≤ R.cells := by rw [show (headSpec ws rm).room.cells = mc from hrc]; exact hp.1
  have h5 : A.slots + (headSpec ws rm).room.slots ≤ R.slots := by rw [show (headSpec ws rm).room.slots = ms from hrs]; exact hp.2.1
  have hPc : Pc a (A.U.calling g mk a) := hblind _ _ _ _ hp.2.2
  obtain ⟨U, Ls, c0, s0⟩ := A
  dsimp only [Pt.U, Pt.locs, Pt.cells, Pt.slots] at h1 h2 h3 h4 h5 X hn hPc ⊢
  obtain ⟨m9, methY, cY, hn9, hmY, hcY, -, hlY, -⟩ := Cond.codeWith_spec h2
  cases Option.some.inj (hn9.symm.trans hn)
  obtain ⟨kY, hkY, -⟩ := className_of_methodNamed hn
  have hinitY : kY.init = .initialized := Cond.initialized_spec (findClass_of_methodNamed hn) hkY h3
  have h : At U g.method c below := by rw [hg]; exact X.here
  have hlocals9 : W9 + (maxL + 11) + (headSpec ws rm).room.locals ≤ R.locals := hlocals
  have happ : (headSpec ws rm).appliesLoose y e.platform (U.calling g mk a) = true :=
    Spec.appliesLoose_calling (g := g) h hdg hn hkY hinitY
      (X.room_calling (g := g) (R' := (headSpec ws rm).room) hsize hmY hcY hframes (by rw [hlY]; omega) h4 h5) h1
  obtain ⟨mid, hmid⟩ := h.above
  have hfr : (U.setTop g).frames = (.java g :: mid) ++ below := by rw [State.frames_setTop' g h.top, hmid]; rfl
  obtain ⟨o, s₂, hsteps, -, hend, hq⟩ := Steps.callFree hM p X.admits X.cas X.clock (acts := []) hfr happ hPc trivial
  have hq' : vx_Q Qc XC mc ms free a (U.calling g mk a) o s₂ := hq
  rw [State.frames_setTop' g h.top] at hend
  obtain ⟨g₀, hg0⟩ := Option.isSome_iff_exists.mp h.top
  obtain ⟨r, hr⟩ := State.topJava?_eq_some.mp hg0
  have hr' : (({ U with heap := s₂.heap, slotsUsed := s₂.slotsUsed } : State).setVm s₂.vm).frames = .java g₀ :: r := hr
  rcases hq' with ⟨hqc, L, hfe, hL⟩ | ⟨q, rfl, E, ce, L, hx, hce, hcv, hcl, hW₂, hsm, hL⟩
  · obtain ⟨⟨v, rfl⟩, hW₂, e2, q2, q3, q4, q5, q6⟩ := id hfe
    have e3 : s₂ = ({ (U.calling g mk a).setFrames s₂.frames with heap := s₂.heap, slotsUsed := s₂.slotsUsed } : State).setVm s₂.vm := by
      have : s₂ = ({ s₂ with vm := (U.calling g mk a).vm } : State).setVm s₂.vm := rfl
      rw [e2] at this
      exact this
    obtain ⟨c₂, i₂, len₂, hc₂, hd₂, hf₂⟩ := hend
    have hW' : U.WarmedH s₂.vm := hW₂
    have hcc : c₂ = c := by
      have h1 : s₂.code? g.method = U.code? g.method := by
        rw [State.code?_eq, State.code?_eq, hW'.alike.method?]
      exact Option.some.inj (hc₂.symm.trans (h1.trans h.code))
    subst hcc
    have hlen : len₂ = len := by rw [hdg] at hd₂; cases hd₂; rfl
    subst hlen
    have hs₂ : s₂ = (({ U with heap := s₂.heap, slotsUsed := s₂.slotsUsed } : State).setVm s₂.vm).setTop { g with pc := g.pc + len₂, stack := v.toList ++ g.stack } := by
      refine e3.trans ?_
      rw [hf₂, State.calling_eq h.top, State.setFrames_setFrames, State.setTop_of_frames _ hr', hr]
      rfl
    have hsame : U.sameButNew ({ U with heap := s₂.heap, slotsUsed := s₂.slotsUsed } : State) L mc ms := by
      refine ⟨?_, q2, q3, q4, q5, q6⟩
      obtain ⟨t, ht, -⟩ := State.frames_cons hr
      show ({ U with heap := s₂.heap, slotsUsed := s₂.slotsUsed } : State) = { U.setFrames U.frames with heap := s₂.heap, slotsUsed := s₂.slotsUsed }
      rw [State.setFrames_self ht]
    subst hg
    refine Or.inl ⟨v, ⟨(({ U with heap := s₂.heap, slotsUsed := s₂.slotsUsed } : State).setVm s₂.vm), Ls ++ L, c0 + mc, s0 + ms⟩,
      ⟨X.admits, X.cas, X.clock, X.frames, X.room, X.hears, X.method, X.code, (X.here.setHeapUsed s₂.heap s₂.slotsUsed).setVm hW'.alike, X.tail, State.WarmedH.trans X.warmed hW', X.limits, X.bytes, X.same.trans (hsame.setVm s.vm)⟩,
      ⟨g, mk, s₂, L, rfl, rfl, hqc, rfl, hL, rfl, rfl⟩, ?_⟩
    show Steps p.tables e below _ ((({ U with heap := s₂.heap, slotsUsed := s₂.slotsUsed } : State).setVm s₂.vm).setTop { g with pc := g.pc + len₂, stack := v.toList ++ g.stack })
    rw [← hs₂]
    exact hsteps
  · obtain ⟨e2, q2, q3, q4, q5, q6⟩ := id hsm
    have e3 : s₂ = ({ (U.calling g mk a).setFrames s₂.frames with heap := s₂.heap, slotsUsed := s₂.slotsUsed } : State).setVm s₂.vm := by
      have : s₂ = ({ s₂ with vm := (U.calling g mk a).vm } : State).setVm s₂.vm := rfl
      rw [e2] at this
      exact this
    have hf₂ : s₂.frames = .throwing q :: .java g :: U.frames.tail := hend
    have hW' : U.WarmedH s₂.vm := hW₂
    have hs₂ : s₂ = ((({ U with heap := s₂.heap, slotsUsed := s₂.slotsUsed } : State).setVm s₂.vm).setTop g).pushFrame (.throwing q) := by
      refine e3.trans ?_
      rw [hf₂, State.calling_eq h.top, State.setFrames_setFrames, State.pushFrame, State.frames_setTop _ hr', State.setTop_of_frames _ hr', State.setFrames_setFrames, hr]
      rfl
    have hsame : U.sameButNew ({ U with heap := s₂.heap, slotsUsed := s₂.slotsUsed } : State) L mc ms := by
      refine ⟨?_, q2, q3, q4, q5, q6⟩
      obtain ⟨t, ht, -⟩ := State.frames_cons hr
      show ({ U with heap := s₂.heap, slotsUsed := s₂.slotsUsed } : State) = { U.setFrames U.frames with heap := s₂.heap, slotsUsed := s₂.slotsUsed }
      rw [State.setFrames_self ht]
    subst hg
    refine Or.inr ⟨q, ⟨(({ U with heap := s₂.heap, slotsUsed := s₂.slotsUsed } : State).setVm s₂.vm), Ls ++ L, c0 + mc, s0 + ms⟩,
      ⟨X.admits, X.cas, X.clock, X.frames, X.room, X.hears, X.method, X.code, (X.here.setHeapUsed s₂.heap s₂.slotsUsed).setVm hW'.alike, X.tail, State.WarmedH.trans X.warmed hW', X.limits, X.bytes, X.same.trans (hsame.setVm s.vm)⟩,
      ⟨g, mk, s₂, L, E, ce, rfl, rfl, hx, hce, hcv, hcl, rfl, hL, rfl, rfl⟩, ?_⟩
    show Steps p.tables e below _ (((({ U with heap := s₂.heap, slotsUsed := s₂.slotsUsed } : State).setVm s₂.vm).setTop g).pushFrame (.throwing q))
    rw [← hs₂]
    exact hsteps
end
variable {p : Program} {l : Launch} {e : Env} {R : Room} {s : State} {m : MethodId} {args : Array Value} {below : List Frame} {meth : Method} {c : Code} {T : State} {H : Heap} {locs : List Loc} {cells slots : Nat}
theorem vx_callVX (X : Stand p l e R s m args below meth c T locs cells slots) (hexec : p.tables.exec = Jvm.exec) {own C : String} {index : Nat} {y : MethodName} {bytes : ByteArray} {maxL : Nat} {ret : Option FieldType} {hh : List (Nat × Nat × Nat × Nat)}
    (hown : s.vm.findClass own = some m.cls) (hlink : (Cond.methodLink own index y).before args s = true) (hinst : (Cond.instanceMethod y).before args s = true) (hsel : (Cond.selects C y y).before args s = true)
    (hcode : (Cond.codeWith y bytes maxL ret hh).before args s = true) (hy : y.cls ≠ "java/lang/invoke/MethodHandle" ∧ y.cls ≠ "java/lang/invoke/VarHandle")
    {W9 : Nat} {Pre : Pt → Array Value → Prop} {Post : Pt → Array Value → Option Value → Pt → Prop} {PostX : Pt → Array Value → Addr → Pt → Prop} (hK : vx_Back l R p e below s args y 3 W9 Pre Post PostX)
    {b : Addr} {cellB : Cell} (hcell : T.heap[b]? = some cellB) (hobj : cellB.vm.isStatics = false) (hcls : s.vm.findClass C = some cellB.cls)
    {g : JFrame} (hg : g.method = m) (hsize : g.locals.size = c.maxLocals) {argsL rest : List Value} (hlen : ∀ sig, parseMethodDescriptor y.desc = some sig → argsL.length = sig.parameters.length)
    (hstack : g.stack = argsL.reverse ++ .ref b :: rest) (hW : 2 * g.monitorRoom + (rest.map fun v => v.category).sum ≤ W9) (hdg : decode c.code g.pc = .ok (.invokevirtual index, 3))
    (hpre : ∀ vm₁, s.WarmedH vm₁ → Pre ⟨T.setVm vm₁, locs, cells, slots⟩ (Value.ref b :: argsL).toArray) :
    (∃ (v : Option Value) (vm₁ : Vm) (B : Pt), s.WarmedH vm₁ ∧ Stand p l e R s m args below meth c B.U B.locs B.cells B.slots ∧ Post ⟨T.setVm vm₁, locs, cells, slots⟩ (Value.ref b :: argsL).toArray v B ∧
      ∀ target, Steps p.tables e below (B.U.setTop { g with pc := g.pc + 3, stack := v.toList ++ rest }) target → Steps p.tables e below (T.setTop g) target) ∨
    (∃ (q : Addr) (vm₁ : Vm) (B : Pt), s.WarmedH vm₁ ∧ Stand p l e R s m args below meth c B.U B.locs B.cells B.slots ∧ PostX ⟨T.setVm vm₁, locs, cells, slots⟩ (Value.ref b :: argsL).toArray q B ∧
      Steps p.tables e below (T.setTop g) ((B.U.setTop { g with stack := rest }).pushFrame (.throwing q))) := by
  obtain ⟨mk, methM, hnamed, hmethM, hstM, habM⟩ := Cond.instanceMethod_spec hinst
  obtain ⟨m8, methM', cM, hn8, hmethM', -, -, -, -, -, -, hsigM⟩ := Cond.codeWith_spec hcode
  cases Option.some.inj (hn8.symm.trans hnamed)
  cases hmethM.symm.trans hmethM'
  obtain ⟨c2, r2, m2, q1, q2, q3, q4, kP, hkP, hkPi⟩ := Cond.selects_spec hsel
  cases hcls.symm.trans q1
  cases (State.methodFound?_of_named hnamed hy).symm.trans q2
  cases hnamed.symm.trans q3
  have hselP : selectMethod e.platform s.vm cellB.cls mk = .method mk := by rw [Launch.admits_selectMethod X.admits]; exact q4
  obtain ⟨vm₁, X₁, hstep₁⟩ := X.invokevirtual hexec hown hlink hnamed hmethM hstM hkP hkPi hy (a := b) (cell := cellB) hcell
    (fun z h => by rw [h] at hobj; cases hobj) hselP hmethM habM hkP hkPi (g := g) hg (argsL := argsL) (rest := rest) (hlen _ hsigM) hstack hdg
  rcases hK m meth c ⟨T.setVm vm₁, locs, cells, slots⟩ { g with stack := rest } (.invokevirtual index) mk (Value.ref b :: argsL).toArray X₁ hg hsize hdg hW (X₁.named hnamed) (hpre vm₁ X₁.warmed) with ⟨v, B, X', hpost, hsteps⟩ | ⟨q, B, X', hpost, hsteps⟩
  · exact Or.inl ⟨v, vm₁, B, X₁.warmed, X', hpost, fun target h => hstep₁ _ fun acts => by rw [doInvoke_state]; exact hsteps.trans h⟩
  · exact Or.inr ⟨q, vm₁, B, X₁.warmed, X', hpost, hstep₁ _ fun acts => by rw [doInvoke_state]; exact hsteps⟩
theorem vx_callSX (X : Stand p l e R s m args below meth c T locs cells slots) (hexec : p.tables.exec = Jvm.exec) {own : String} {index : Nat} {y : MethodName} {bytes : ByteArray} {maxL : Nat} {ret : Option FieldType} {hh : List (Nat × Nat × Nat × Nat)}
    (hown : s.vm.findClass own = some m.cls) (hlink : (Cond.methodLink own index y).before args s = true) (hstat : (Cond.static y).before args s = true) (hinit : (Cond.initialized y.cls).before args s = true)
    (hcode : (Cond.codeWith y bytes maxL ret hh).before args s = true) (hy : y.cls ≠ "java/lang/invoke/MethodHandle" ∧ y.cls ≠ "java/lang/invoke/VarHandle")
    {W9 : Nat} {Pre : Pt → Array Value → Prop} {Post : Pt → Array Value → Option Value → Pt → Prop} {PostX : Pt → Array Value → Addr → Pt → Prop} (hK : vx_Back l R p e below s args y 3 W9 Pre Post PostX)
    {g : JFrame} (hg : g.method = m) (hsize : g.locals.size = c.maxLocals) {argsL rest : List Value} (hlen : ∀ sig, parseMethodDescriptor y.desc = some sig → argsL.length = sig.parameters.length)
    (hstack : g.stack = argsL.reverse ++ rest) (hW : 2 * g.monitorRoom + (rest.map fun v => v.category).sum ≤ W9) (hdg : decode c.code g.pc = .ok (.invokestatic index, 3))
    (hpre : ∀ vm₁, s.WarmedH vm₁ → Pre ⟨T.setVm vm₁, locs, cells, slots⟩ argsL.toArray) :
    (∃ (v : Option Value) (vm₁ : Vm) (B : Pt), s.WarmedH vm₁ ∧ Stand p l e R s m args below meth c B.U B.locs B.cells B.slots ∧ Post ⟨T.setVm vm₁, locs, cells, slots⟩ argsL.toArray v B ∧
      ∀ target, Steps p.tables e below (B.U.setTop { g with pc := g.pc + 3, stack := v.toList ++ rest }) target → Steps p.tables e below (T.setTop g) target) ∨
    (∃ (q : Addr) (vm₁ : Vm) (B : Pt), s.WarmedH vm₁ ∧ Stand p l e R s m args below meth c B.U B.locs B.cells B.slots ∧ PostX ⟨T.setVm vm₁, locs, cells, slots⟩ argsL.toArray q B ∧
      Steps p.tables e below (T.setTop g) ((B.U.setTop { g with stack := rest }).pushFrame (.throwing q))) := by
  obtain ⟨mk, methM, cM, hnamed, hmethM, -, -, -, -, -, -, hsigM⟩ := Cond.codeWith_spec hcode
  have hstatic : methM.isStatic = true := Cond.static_spec hnamed hmethM hstat
  obtain ⟨kP, hkP, -⟩ := className_of_methodNamed hnamed
  have hinitP : kP.init = .initialized := Cond.initialized_spec (findClass_of_methodNamed hnamed) hkP hinit
  obtain ⟨vm₁, X₁, hstep₁⟩ := X.invokestatic hexec hown hlink hnamed hmethM hstatic hkP hinitP hy (g := g) hg (argsL := argsL) (rest := rest) (hlen _ hsigM) hstack hdg
  rcases hK m meth c ⟨T.setVm vm₁, locs, cells, slots⟩ { g with stack := rest } (.invokestatic index) mk argsL.toArray X₁ hg hsize hdg hW (X₁.named hnamed) (hpre vm₁ X₁.warmed) with ⟨v, B, X', hpost, hsteps⟩ | ⟨q, B, X', hpost, hsteps⟩
  · exact Or.inl ⟨v, vm₁, B, X₁.warmed, X', hpost, fun target h => hstep₁ _ fun acts => by rw [doInvoke_state]; exact hsteps.trans h⟩
  · exact Or.inr ⟨q, vm₁, B, X₁.warmed, X', hpost, hstep₁ _ fun acts => by rw [doInvoke_state]; exact hsteps⟩
theorem vx_callVW (X : Stand p l e R s m args below meth c T locs cells slots) (hexec : p.tables.exec = Jvm.exec) {own C : String} {index : Nat} {y : MethodName} {bytes : ByteArray} {maxL : Nat} {ret : Option FieldType} {hh : List (Nat × Nat × Nat × Nat)}
    (hown : s.vm.findClass own = some m.cls) (hlink : (Cond.methodLink own index y).before args s = true) (hinst : (Cond.instanceMethod y).before args s = true) (hsel : (Cond.selects C y y).before args s = true)
    (hcode : (Cond.codeWith y bytes maxL ret hh).before args s = true) (hy : y.cls ≠ "java/lang/invoke/MethodHandle" ∧ y.cls ≠ "java/lang/invoke/VarHandle")
    {W9 : Nat} {Pre : Pt → Array Value → Prop} {Post : Pt → Array Value → Option Value → Pt → Prop} (hK : Back l R p e below s args y 3 W9 Pre Post)
    {b : Addr} {cellB : Cell} (hcell : T.heap[b]? = some cellB) (hobj : cellB.vm.isStatics = false) (hcls : s.vm.findClass C = some cellB.cls)
    {g : JFrame} (hg : g.method = m) (hsize : g.locals.size = c.maxLocals) {argsL rest : List Value} (hlen : ∀ sig, parseMethodDescriptor y.desc = some sig → argsL.length = sig.parameters.length)
    (hstack : g.stack = argsL.reverse ++ .ref b :: rest) (hW : 2 * g.monitorRoom + (rest.map fun v => v.category).sum ≤ W9) (hdg : decode c.code g.pc = .ok (.invokevirtual index, 3))
    (hpre : ∀ vm₁, s.WarmedH vm₁ → Pre ⟨T.setVm vm₁, locs, cells, slots⟩ (Value.ref b :: argsL).toArray) :
    ∃ (v : Option Value) (vm₁ : Vm) (B : Pt), s.WarmedH vm₁ ∧ Stand p l e R s m args below meth c B.U B.locs B.cells B.slots ∧ Post ⟨T.setVm vm₁, locs, cells, slots⟩ (Value.ref b :: argsL).toArray v B ∧
      ∀ target, Steps p.tables e below (B.U.setTop { g with pc := g.pc + 3, stack := v.toList ++ rest }) target → Steps p.tables e below (T.setTop g) target := by
  obtain ⟨mk, methM, hnamed, hmethM, hstM, habM⟩ := Cond.instanceMethod_spec hinst
  obtain ⟨m8, methM', cM, hn8, hmethM', -, -, -, -, -, -, hsigM⟩ := Cond.codeWith_spec hcode
  cases Option.some.inj (hn8.symm.trans hnamed)
  cases hmethM.symm.trans hmethM'
  obtain ⟨c2, r2, m2, q1, q2, q3, q4, kP, hkP, hkPi⟩ := Cond.selects_spec hsel
  cases hcls.symm.trans q1
  cases (State.methodFound?_of_named hnamed hy).symm.trans q2
  cases hnamed.symm.trans q3
  have hselP : selectMethod e.platform s.vm cellB.cls mk = .method mk := by rw [Launch.admits_selectMethod X.admits]; exact q4
  obtain ⟨vm₁, X₁, hstep₁⟩ := X.invokevirtual hexec hown hlink hnamed hmethM hstM hkP hkPi hy (a := b) (cell := cellB) hcell
    (fun z h => by rw [h] at hobj; cases hobj) hselP hmethM habM hkP hkPi (g := g) hg (argsL := argsL) (rest := rest) (hlen _ hsigM) hstack hdg
  obtain ⟨v, B, X', hpost, hsteps⟩ := hK m meth c ⟨T.setVm vm₁, locs, cells, slots⟩ { g with stack := rest } (.invokevirtual index) mk (Value.ref b :: argsL).toArray X₁ hg hsize hdg hW (X₁.named hnamed) (hpre vm₁ X₁.warmed)
  exact ⟨v, vm₁, B, X₁.warmed, X', hpost, fun target h => hstep₁ _ fun acts => by rw [doInvoke_state]; exact hsteps.trans h⟩
abbrev vx_CVW (R : Room) (s : State) (args : Array Value) (own C : String) (index : Nat) (y : MethodName) (bytes : ByteArray) (maxL : Nat) (ret : Option FieldType) (hh : List (Nat × Nat × Nat × Nat)) (ws : List Cond) (rm : Room) (mc ms n : Nat) : Prop :=
  (rm.cells = mc ∧ rm.slots = ms ∧ rm.frames + 1 ≤ R.frames ∧ 8 + (maxL + 11) + rm.locals ≤ R.locals ∧ (∀ w ∈ ws, ∀ (a' : Array Value) (U : State), s.WarmedH U.vm → w.before a' U = true) ∧ Cond.codeWith y bytes maxL ret hh ∈ ws) ∧
  (Cond.codeWith y bytes maxL ret hh).before args s = true ∧ (Cond.initialized y.cls).before args s = true ∧ (y.cls ≠ "java/lang/invoke/MethodHandle" ∧ y.cls ≠ "java/lang/invoke/VarHandle") ∧
  (∀ sig, parseMethodDescriptor y.desc = some sig → n = sig.parameters.length) ∧ (Cond.methodLink own index y).before args s = true ∧ (Cond.instanceMethod y).before args s = true ∧ (Cond.selects C y y).before args s = true
theorem vx_cwVW {own C : String} {index maxL mc ms : Nat} {y : MethodName} {bytes : ByteArray} {ret : Option FieldType} {hh : List (Nat × Nat × Nat × Nat)} {Ts ws ws' : List Cond} {rm : Room} (n : Nat) (ht : ∀ w ∈ Ts, w.before args s = true) (hT : GoodIn Ts (wsV own index C y ws)) (hw : ws = Cond.codeWith y bytes maxL ret hh :: ws') (hrc : rm.cells = mc) (hrs : rm.slots = ms)
    (hd : y.cls = C ∧ y.cls ≠ "java/lang/invoke/MethodHandle" ∧ y.cls ≠ "java/lang/invoke/VarHandle" ∧ (parseMethodDescriptor y.desc).map (fun d => d.parameters.length) = some n) (hR : rm.frames + 1 ≤ R.frames ∧ 8 + (maxL + 11) + rm.locals ≤ R.locals) :
    vx_CVW R s args own C index y bytes maxL ret hh ws rm mc ms n := by
  obtain ⟨hC, hd⟩ := hd
  subst hC
  have ok : ∀ w ∈ wsV own index y.cls y ws, w.before args s = true := fun w h => ht w (hT w h).1
  have hG : GoodIn Ts ws := fun w h => hT w (by unfold wsV; exact List.mem_append_right _ h)
  have hc : Cond.codeWith y bytes maxL ret hh ∈ ws := by rw [hw]; exact List.mem_cons_self
  refine ⟨⟨hrc, hrs, hR.1, hR.2, pay_in ht hG, hc⟩, ht _ (hG _ hc).1, ok _ (by simp [wsV]), ⟨hd.1, hd.2.1⟩, fun sig h => ?_, ok _ (by simp [wsV]), ok _ (by simp [wsV]), ok _ (by simp [wsV])⟩
  have h2 := hd.2.2
  rw [h] at h2
  exact (Option.some.inj h2).symm
theorem vx_runVW {y : MethodName} {bytes cc : ByteArray} {maxL nL mc ms n index : Nat} {ret : Option FieldType} {hh : List (Nat × Nat × Nat × Nat)} {ws : List Cond} {rm : Room} {Pc : Array Value → State → Prop} {Qc : Array Value → State → Outcome → State → Prop} {free : Addr → Prop} {Ts : List Cond} {own C : String} {b : Addr} {As rest : List Value} {g : JFrame}
    (S : CallFix p m c cc nL s args Ts own) (hM : Met l y ws rm Pc Qc mc ms free) (cw : vx_CVW R s args own C index y bytes maxL ret hh ws rm mc ms n) (hp : PreV s H C b Pc As)
    (hg : g.method = m) (hn : As.length = n) (hsize : g.locals.size = nL) (hstack : g.stack = As.reverse ++ .ref b :: rest) (hW : 2 * g.monitorRoom + (rest.map fun v => v.category).sum ≤ 8) (hdg : decode cc g.pc = .ok (.invokevirtual index, 3)) (hf : cells + mc ≤ R.cells ∧ slots + ms ≤ R.slots) :
    va_Run p l e R s m args below meth c H locs cells slots mc ms g rest (Qc (Value.ref b :: As).toArray) free := by
  obtain ⟨⟨hrc, hrs, hfr, hlo, hws, hcw⟩, hcode, hini, hy, hlen, hl, hin, hse⟩ := cw
  have hK : Back l R p e below s args y 3 8 (PreOf R mc ms Pc) (PostOf Qc mc ms free) := va_backW (hh := hh) (bytes := bytes) (maxL := maxL) (ret := ret) hM hp.1 hrc hrs hfr hlo hws hcw (fun a' U hW => word_at hW (Or.inl (by first | rfl | simp [Cond.onTables, Cond.keeps, Cond.steady])) hini)
  obtain ⟨hx, hb, hml, ho, -⟩ := S
  obtain ⟨-, ⟨cellB, hcB, hoB, hclB⟩, hPc⟩ := hp
  intro T hT X
  obtain ⟨v, vm₁, ⟨U', l2, c2, s2⟩, hW₁, X', ⟨g', mk, t, L, e1, e2, hq, h1, hL, h2, h3⟩, st⟩ := vx_callVW X hx (C := C) (hh := hh) (bytes := bytes) (maxL := maxL) (ret := ret) ho hl hin hse hcode hy hK (by rw [hT]; exact hcB) hoB hclB hg (hsize.trans hml.symm) (argsL := As) (rest := rest) (fun sig h => hn.trans (hlen sig h)) hstack hW (by rw [hb]; exact hdg)
    (fun vm₁ hW₁ => ⟨hf.1, hf.2, hPc (T.setVm vm₁) hT hW₁⟩)
  dsimp only [Pt.U, Pt.locs, Pt.cells, Pt.slots] at X' e1 e2 h1 h2 h3 st
  subst h1; subst h2; subst h3
  exact ⟨v, (T.setVm vm₁).calling g' mk (Value.ref b :: As).toArray, t, U', L, hT, X', hL, e1, e2, hq, st⟩
section
variable {y : MethodName} {bytes cc : ByteArray} {maxL nL mc ms n index : Nat} {ret : Option FieldType} {ws : List Cond} {rm : Room} {Pc : Array Value → State → Prop} {Qc : Array Value → State → Outcome → State → Prop} {XC : String → State → State → Prop} {free : Addr → Prop} {Ts : List Cond} {own C : String} {b : Addr} {As rest : List Value} {g : JFrame}
theorem vx_runVX {hh : List (Nat × Nat × Nat × Nat)} (S : CallFix p m c cc nL s args Ts own) (hM : vx_Met l y ws rm Pc Qc XC mc ms free) (cw : vx_CVW R s args own C index y bytes maxL ret hh ws rm mc ms n) (hp : PreV s H C b Pc As)
    (hg : g.method = m) (hn : As.length = n) (hsize : g.locals.size = nL) (hstack : g.stack = As.reverse ++ .ref b :: rest) (hW : 2 * g.monitorRoom + (rest.map fun v => v.category).sum ≤ 8) (hdg : decode cc g.pc = .ok (.invokevirtual index, 3)) (hf : cells + mc ≤ R.cells ∧ slots + ms ≤ R.slots) :
    vx_Run p l e R s m args below meth c H locs cells slots mc ms g rest (Qc (Value.ref b :: As).toArray) XC free := by
  obtain ⟨⟨hrc, hrs, hfr, hlo, hws, hcw⟩, hcode, hini, hy, hlen, hl, hin, hse⟩ := cw
  have hK : vx_Back l R p e below s args y 3 8 (PreOf R mc ms Pc) (PostOf Qc mc ms free) (vx_Post XC mc ms free) := vx_backW (hh := hh) (bytes := bytes) (maxL := maxL) (ret := ret) hM hp.1 hrc hrs hfr hlo hws hcw (fun a' U hW => word_at hW (Or.inl (by first | rfl | simp [Cond.onTables, Cond.keeps, Cond.steady])) hini)
  obtain ⟨hx, hb, hml, ho, -⟩ := S
  obtain ⟨-, ⟨cellB, hcB, hoB, hclB⟩, hPc⟩ := hp
  intro T hT X
  rcases vx_callVX X hx (C := C) (hh := hh) (bytes := bytes) (maxL := maxL) (ret := ret) ho hl hin hse hcode hy hK (by rw [hT]; exact hcB) hoB hclB hg (hsize.trans hml.symm) (argsL := As) (rest := rest) (fun sig h => hn.trans (hlen sig h)) hstack hW (by rw [hb]; exact hdg)
    (fun vm₁ hW₁ => ⟨hf.1, hf.2, hPc (T.setVm vm₁) hT hW₁⟩) with ⟨v, vm₁, ⟨U', l2, c2, s2⟩, hW₁, X', ⟨g', mk, t, L, e1, e2, hq, h1, hL, h2, h3⟩, st⟩ | ⟨q, vm₁, ⟨U', l2, c2, s2⟩, hW₁, X', ⟨g', mk, t, L, E, ce, e1, e2, hq, hce, hcv, hcl, h1, hL, h2, h3⟩, st⟩
  · dsimp only [Pt.U, Pt.locs, Pt.cells, Pt.slots] at X' e1 e2 h1 h2 h3 st
    subst h1; subst h2; subst h3
    exact Or.inl ⟨v, (T.setVm vm₁).calling g' mk (Value.ref b :: As).toArray, t, U', L, hT, X', hL, e1, e2, hq, st⟩
  · dsimp only [Pt.U, Pt.locs, Pt.cells, Pt.slots] at X' e1 e2 h1 h2 h3 st hcl
    subst h1; subst h2; subst h3
    exact Or.inr ⟨q, (T.setVm vm₁).calling g' mk (Value.ref b :: As).toArray, t, U', L, E, ce, hT, X', hL, e1, e2, hq, hce, hcv, vx_cls hW₁ hcl, st⟩
theorem vx_runSX {hh : List (Nat × Nat × Nat × Nat)} (S : CallFix p m c cc nL s args Ts own) (hM : vx_Met l y ws rm Pc Qc XC mc ms free) (cw : vx_CSW R s args own index y bytes maxL ret hh ws rm mc ms n) (hp : PreS s H Pc As)
    (hg : g.method = m) (hn : As.length = n) (hsize : g.locals.size = nL) (hstack : g.stack = As.reverse ++ rest) (hW : 2 * g.monitorRoom + (rest.map fun v => v.category).sum ≤ 8) (hdg : decode cc g.pc = .ok (.invokestatic index, 3)) (hf : cells + mc ≤ R.cells ∧ slots + ms ≤ R.slots) :
    vx_Run p l e R s m args below meth c H locs cells slots mc ms g rest (Qc As.toArray) XC free := by
  obtain ⟨⟨hrc, hrs, hfr, hlo, hws, hcw⟩, hcode, hini, hy, hlen, hl, hstt⟩ := cw
  have hK : vx_Back l R p e below s args y 3 8 (PreOf R mc ms Pc) (PostOf Qc mc ms free) (vx_Post XC mc ms free) := vx_backW (hh := hh) (bytes := bytes) (maxL := maxL) (ret := ret) hM hp.1 hrc hrs hfr hlo hws hcw (fun a' U hW => word_at hW (Or.inl (by first | rfl | simp [Cond.onTables, Cond.keeps, Cond.steady])) hini)
  obtain ⟨hx, hb, hml, ho, -⟩ := S
  intro T hT X
  rcases vx_callSX X hx (hh := hh) (bytes := bytes) (maxL := maxL) (ret := ret) ho hl hstt hini hcode hy hK hg (hsize.trans hml.symm) (argsL := As) (rest := rest) (fun sig h => hn.trans (hlen sig h)) hstack hW (by rw [hb]; exact hdg)
    (fun vm₁ hW₁ => ⟨hf.1, hf.2, hp.2 (T.setVm vm₁) hT hW₁⟩) with ⟨v, vm₁, ⟨U', l2, c2, s2⟩, hW₁, X', ⟨g', mk, t, L, e1, e2, hq, h1, hL, h2, h3⟩, st⟩ | ⟨q, vm₁, ⟨U', l2, c2, s2⟩, hW₁, X', ⟨g', mk, t, L, E, ce, e1, e2, hq, hce, hcv, hcl, h1, hL, h2, h3⟩, st⟩
  · dsimp only [Pt.U, Pt.locs, Pt.cells, Pt.slots] at X' e1 e2 h1 h2 h3 st
    subst h1; subst h2; subst h3
    exact Or.inl ⟨v, (T.setVm vm₁).calling g' mk As.toArray, t, U', L, hT, X', hL, e1, e2, hq, st⟩
  · dsimp only [Pt.U, Pt.locs, Pt.cells, Pt.slots] at X' e1 e2 h1 h2 h3 st hcl
    subst h1; subst h2; subst h3
    exact Or.inr ⟨q, (T.setVm vm₁).calling g' mk As.toArray, t, U', L, E, ce, hT, X', hL, e1, e2, hq, hce, hcv, vx_cls hW₁ hcl, st⟩
end
end VXH
theorem vx_ofWH {l : Launch} {y : MethodName} {ws ws' : List Cond} {rm : Room} {Pc : Array Value → State → Prop} {Qc : Array Value → State → Outcome → State → Prop} {XC : String → State → State → Prop} {mc ms : Nat} {free : Addr → Prop} {cc : ByteArray} {maxL : Nat} {ret : Option FieldType} {hh : List (Nat × Nat × Nat × Nat)}
    (hy : plainName y.cls = true) (hw : ws = Cond.codeWith y cc maxL ret hh :: ws')
    (body : ∀ p e s m args below meth c s₁, BodyLoose p l y (headSpec ws rm) cc maxL ret e s m args below meth c s₁ → c.maxLocals = maxL → Pc args s →
      W p l e (headSpec ws rm).room s m args below meth c s.heap [] 0 0 (vx_MQ below Qc XC args s mc ms free) (entryFrame m args maxL)) : vx_Met l y ws rm Pc Qc XC mc ms free := by
  refine MetFree.of_bodyS (code := cc) (maxLocals := maxL) (ret := ret) hy ?_ ?_
  · intro args s m h hn
    obtain ⟨m9, meth, c, hn9, h1, h2, h3, h4, -, h5, h6, -⟩ := Cond.codeWith_spec (atoms_spec (ws := ws) h _ (by rw [hw]; exact List.mem_cons_self))
    cases hn.symm.trans hn9
    exact ⟨meth, c, h1, h2, h3, h4, h5, h6⟩
  · intro p e s m args below meth c s₁ B hml hP _
    have hh0 : s₁.heap = s.heap := by rw [B.state]; rfl
    obtain ⟨t, a1, o, b1, b2, b3⟩ := body p e s m args below meth c s₁ B hml hP s₁ hh0 (Stand.of_body B)
    exact ⟨t, o, a1, b1, b2, b3⟩
/-! ===== END ===== -/
end
section
def RX0 : String := "Tilehold$Chunks"
def TX0 : u_T := fun k => match k with
  | 0 => ("Tilehold$Chunks", "places", "LTilehold$Row;", true)
  | 1 => ("Tilehold$Chunks", "ends", "LTilehold$Row;", true)
  | 2 => ("Tilehold$Chunks", "tileIn", "LTilehold$Row;", true)
  | _ => ("Tilehold$Chunks", "count", "I", false)
def tyX0 : Nat → FieldType := fun k => match k with
  | 0 => .object "Tilehold$Row"
  | 1 => .object "Tilehold$Row"
  | 2 => .object "Tilehold$Row"
  | _ => .int
abbrev wsX00 : List Cond := u_ws RX0 TX0 4
theorem nmX0 : ∀ a, a < 4 → ∀ b, b < 4 → a ≠ b → (TX0 a).2.1 ≠ (TX0 b).2.1 := by decide +kernel
theorem tyX0_ok : ∀ k, k < 4 → parseFieldDescriptor (TX0 k).2.2.1 = some (tyX0 k) := by decide +kernel
abbrev cX0_init : ByteArray := prog_2_method_1_code
def yX0_init : MethodName := ⟨RX0, "<init>", "()V"⟩
abbrev cX0_clear : ByteArray := prog_2_method_2_code
def yX0_clear : MethodName := ⟨RX0, "clear", "()V"⟩
abbrev cX0_find : ByteArray := prog_2_method_3_code
def yX0_find : MethodName := ⟨RX0, "find", "(II)I"⟩
abbrev cX0_keep : ByteArray := prog_2_method_4_code
def yX0_keep : MethodName := ⟨RX0, "keep", "(IICLTilehold$Placing;)V"⟩
abbrev cX0_endOf : ByteArray := prog_2_method_5_code
def yX0_endOf : MethodName := ⟨RX0, "endOf", "(I)C"⟩
abbrev cX0_tileOf : ByteArray := prog_2_method_6_code
def yX0_tileOf : MethodName := ⟨RX0, "tileOf", "(II)I"⟩
abbrev cX0_isSame : ByteArray := prog_2_method_7_code
def yX0_isSame : MethodName := ⟨RX0, "isSame", "(ICLTilehold$Placing;)Z"⟩
def RX1 : String := "Tilehold$Filling"
def TX1 : u_T := fun k => match k with
  | 0 => ("Tilehold$Filling", "tiles", "LTilehold$Tiles;", true)
  | 1 => ("Tilehold$Filling", "grid", "LTilehold$Grid;", true)
  | 2 => ("Tilehold$Filling", "wishes", "LTilehold$Wishes;", true)
  | 3 => ("Tilehold$Filling", "narrowing", "LTilehold$Narrowing;", true)
  | 4 => ("Tilehold$Filling", "placing", "LTilehold$Placing;", true)
  | 5 => ("Tilehold$Filling", "alone", "LTilehold$Row;", true)
  | 6 => ("Tilehold$Filling", "before", "LTilehold$Row;", true)
  | 7 => ("Tilehold$Filling", "guessedCell", "LTilehold$Row;", true)
  | 8 => ("Tilehold$Filling", "guessedTile", "LTilehold$Row;", true)
  | 9 => ("Tilehold$Filling", "standing", "I", false)
  | 10 => ("Tilehold$Filling", "state", "I", false)
  | 11 => ("Tilehold$Filling", "guesses", "I", false)
  | _ => ("Tilehold$Filling", "takenBack", "I", false)
def tyX1 : Nat → FieldType := fun k => match k with
  | 0 => .object "Tilehold$Tiles"
  | 1 => .object "Tilehold$Grid"
  | 2 => .object "Tilehold$Wishes"
  | 3 => .object "Tilehold$Narrowing"
  | 4 => .object "Tilehold$Placing"
  | 5 => .object "Tilehold$Row"
  | 6 => .object "Tilehold$Row"
  | 7 => .object "Tilehold$Row"
  | 8 => .object "Tilehold$Row"
  | 9 => .int
  | 10 => .int
  | 11 => .int
  | _ => .int
abbrev wsX10 : List Cond := u_ws RX1 TX1 13
theorem nmX1 : ∀ a, a < 13 → ∀ b, b < 13 → a ≠ b → (TX1 a).2.1 ≠ (TX1 b).2.1 := by decide +kernel
theorem tyX1_ok : ∀ k, k < 13 → parseFieldDescriptor (TX1 k).2.2.1 = some (tyX1 k) := by decide +kernel
abbrev cX1_init : ByteArray := prog_3_method_1_code
def yX1_init : MethodName := ⟨RX1, "<init>", "(LTilehold$Tiles;LTilehold$Grid;LTilehold$Wishes;)V"⟩
abbrev cX1_run : ByteArray := prog_3_method_2_code
def yX1_run : MethodName := ⟨RX1, "run", "(II)C"⟩
abbrev cX1_hasGoneWrong : ByteArray := prog_3_method_3_code
def yX1_hasGoneWrong : MethodName := ⟨RX1, "hasGoneWrong", "()Z"⟩
abbrev cX1_cellWithFewest : ByteArray := prog_3_method_4_code
def yX1_cellWithFewest : MethodName := ⟨RX1, "cellWithFewest", "()I"⟩
abbrev cX1_placeTiles : ByteArray := prog_3_method_5_code
def yX1_placeTiles : MethodName := ⟨RX1, "placeTiles", "()V"⟩
abbrev cX1_guess : ByteArray := prog_3_method_6_code
def yX1_guess : MethodName := ⟨RX1, "guess", "(I)V"⟩
abbrev cX1_takeBack : ByteArray := prog_3_method_7_code
def yX1_takeBack : MethodName := ⟨RX1, "takeBack", "()V"⟩
def RX2 : String := "Tilehold$Grid"
def TX2 : u_T := fun k => match k with
  | 0 => ("Tilehold$Grid", "width", "I", false)
  | _ => ("Tilehold$Grid", "height", "I", false)
def tyX2 : Nat → FieldType := fun k => match k with
  | 0 => .int
  | _ => .int
abbrev wsX20 : List Cond := u_ws RX2 TX2 2
theorem nmX2 : ∀ a, a < 2 → ∀ b, b < 2 → a ≠ b → (TX2 a).2.1 ≠ (TX2 b).2.1 := by decide +kernel
theorem tyX2_ok : ∀ k, k < 2 → parseFieldDescriptor (TX2 k).2.2.1 = some (tyX2 k) := by decide +kernel
abbrev cX2_init : ByteArray := prog_4_method_1_code
def yX2_init : MethodName := ⟨RX2, "<init>", "(II)V"⟩
abbrev cX2_resize : ByteArray := prog_4_method_2_code
def yX2_resize : MethodName := ⟨RX2, "resize", "(II)V"⟩
abbrev cX2_cells : ByteArray := prog_4_method_3_code
def yX2_cells : MethodName := ⟨RX2, "cells", "()I"⟩
abbrev cX2_has : ByteArray := prog_4_method_4_code
def yX2_has : MethodName := ⟨RX2, "has", "(I)Z"⟩
abbrev cX2_rowOf : ByteArray := prog_4_method_5_code
def yX2_rowOf : MethodName := ⟨RX2, "rowOf", "(I)I"⟩
abbrev cX2_columnOf : ByteArray := prog_4_method_6_code
def yX2_columnOf : MethodName := ⟨RX2, "columnOf", "(I)I"⟩
abbrev cX2_beside : ByteArray := prog_4_method_7_code
def yX2_beside : MethodName := ⟨RX2, "beside", "(II)I"⟩
def RX3 : String := "Tilehold$Narrowing"
def TX3 : u_T := fun k => match k with
  | 0 => ("Tilehold$Narrowing", "tiles", "LTilehold$Tiles;", true)
  | 1 => ("Tilehold$Narrowing", "grid", "LTilehold$Grid;", true)
  | 2 => ("Tilehold$Narrowing", "possible", "LTilehold$Row;", true)
  | 3 => ("Tilehold$Narrowing", "isWaiting", "LTilehold$Row;", true)
  | 4 => ("Tilehold$Narrowing", "stack", "LTilehold$Row;", true)
  | _ => ("Tilehold$Narrowing", "waiting", "I", false)
def tyX3 : Nat → FieldType := fun k => match k with
  | 0 => .object "Tilehold$Tiles"
  | 1 => .object "Tilehold$Grid"
  | 2 => .object "Tilehold$Row"
  | 3 => .object "Tilehold$Row"
  | 4 => .object "Tilehold$Row"
  | _ => .int
abbrev wsX30 : List Cond := u_ws RX3 TX3 6
theorem nmX3 : ∀ a, a < 6 → ∀ b, b < 6 → a ≠ b → (TX3 a).2.1 ≠ (TX3 b).2.1 := by decide +kernel
theorem tyX3_ok : ∀ k, k < 6 → parseFieldDescriptor (TX3 k).2.2.1 = some (tyX3 k) := by decide +kernel
abbrev cX3_init : ByteArray := prog_5_method_1_code
def yX3_init : MethodName := ⟨RX3, "<init>", "(LTilehold$Tiles;LTilehold$Grid;)V"⟩
abbrev cX3_change : ByteArray := prog_5_method_2_code
def yX3_change : MethodName := ⟨RX3, "change", "(II)V"⟩
abbrev cX3_narrow : ByteArray := prog_5_method_3_code
def yX3_narrow : MethodName := ⟨RX3, "narrow", "()V"⟩
abbrev cX3_narrowBeside : ByteArray := prog_5_method_4_code
def yX3_narrowBeside : MethodName := ⟨RX3, "narrowBeside", "(II)V"⟩
abbrev cX3_narrowBySweeps : ByteArray := prog_5_method_5_code
def yX3_narrowBySweeps : MethodName := ⟨RX3, "narrowBySweeps", "()V"⟩
abbrev cX3_takeUnfitting : ByteArray := prog_5_method_6_code
def yX3_takeUnfitting : MethodName := ⟨RX3, "takeUnfitting", "(I)Z"⟩
abbrev cX3_hasFittingNeighbours : ByteArray := prog_5_method_7_code
def yX3_hasFittingNeighbours : MethodName := ⟨RX3, "hasFittingNeighbours", "(II)Z"⟩
def RX4 : String := "Tilehold$Placing"
def TX4 : u_T := fun k => match k with
  | 0 => ("Tilehold$Placing", "tiles", "LTilehold$Tiles;", true)
  | 1 => ("Tilehold$Placing", "grid", "LTilehold$Grid;", true)
  | 2 => ("Tilehold$Placing", "tileIn", "LTilehold$Row;", true)
  | 3 => ("Tilehold$Placing", "counts", "LTilehold$Row;", true)
  | 4 => ("Tilehold$Placing", "isSeen", "LTilehold$Row;", true)
  | _ => ("Tilehold$Placing", "reached", "LTilehold$Row;", true)
def tyX4 : Nat → FieldType := fun k => match k with
  | 0 => .object "Tilehold$Tiles"
  | 1 => .object "Tilehold$Grid"
  | 2 => .object "Tilehold$Row"
  | 3 => .object "Tilehold$Row"
  | 4 => .object "Tilehold$Row"
  | _ => .object "Tilehold$Row"
abbrev wsX40 : List Cond := u_ws RX4 TX4 6
theorem nmX4 : ∀ a, a < 6 → ∀ b, b < 6 → a ≠ b → (TX4 a).2.1 ≠ (TX4 b).2.1 := by decide +kernel
theorem tyX4_ok : ∀ k, k < 6 → parseFieldDescriptor (TX4 k).2.2.1 = some (tyX4 k) := by decide +kernel
abbrev cX4_init : ByteArray := prog_6_method_1_code
def yX4_init : MethodName := ⟨RX4, "<init>", "(LTilehold$Tiles;LTilehold$Grid;)V"⟩
abbrev cX4_isFitting : ByteArray := prog_6_method_2_code
def yX4_isFitting : MethodName := ⟨RX4, "isFitting", "()Z"⟩
abbrev cX4_holds : ByteArray := prog_6_method_3_code
def yX4_holds : MethodName := ⟨RX4, "holds", "(LTilehold$Wishes;)Z"⟩
abbrev cX4_isRoadAs : ByteArray := prog_6_method_4_code
def yX4_isRoadAs : MethodName := ⟨RX4, "isRoadAs", "(LTilehold$Wishes;)Z"⟩
abbrev cX4_roadCells : ByteArray := prog_6_method_5_code
def yX4_roadCells : MethodName := ⟨RX4, "roadCells", "()I"⟩
abbrev cX4_pieces : ByteArray := prog_6_method_6_code
def yX4_pieces : MethodName := ⟨RX4, "pieces", "()I"⟩
abbrev cX4_seePiece : ByteArray := prog_6_method_7_code
def yX4_seePiece : MethodName := ⟨RX4, "seePiece", "(I)V"⟩
def RX5 : String := "Tilehold$Row"
def TX5 : u_T := fun k => match k with
  | _ => ("Tilehold$Row", "numbers", "[I", true)
def tyX5 : Nat → FieldType := fun k => match k with
  | _ => .array .int
abbrev wsX50 : List Cond := u_ws RX5 TX5 1
theorem nmX5 : ∀ a, a < 1 → ∀ b, b < 1 → a ≠ b → (TX5 a).2.1 ≠ (TX5 b).2.1 := by decide +kernel
theorem tyX5_ok : ∀ k, k < 1 → parseFieldDescriptor (TX5 k).2.2.1 = some (tyX5 k) := by decide +kernel
abbrev cX5_init : ByteArray := prog_7_method_1_code
def yX5_init : MethodName := ⟨RX5, "<init>", "(I)V"⟩
abbrev cX5_get : ByteArray := prog_7_method_2_code
def yX5_get : MethodName := ⟨RX5, "get", "(I)I"⟩
abbrev cX5_set : ByteArray := prog_7_method_3_code
def yX5_set : MethodName := ⟨RX5, "set", "(II)V"⟩
abbrev cX5_setAll : ByteArray := prog_7_method_4_code
def yX5_setAll : MethodName := ⟨RX5, "setAll", "(I)V"⟩
def RX6 : String := "Tilehold$Tiles"
def TX6 : u_T := fun k => match k with
  | 0 => ("Tilehold$Tiles", "colours", "LTilehold$Row;", true)
  | 1 => ("Tilehold$Tiles", "weights", "LTilehold$Row;", true)
  | 2 => ("Tilehold$Tiles", "byEdge", "LTilehold$Row;", true)
  | _ => ("Tilehold$Tiles", "count", "I", false)
def tyX6 : Nat → FieldType := fun k => match k with
  | 0 => .object "Tilehold$Row"
  | 1 => .object "Tilehold$Row"
  | 2 => .object "Tilehold$Row"
  | _ => .int
abbrev wsX60 : List Cond := u_ws RX6 TX6 4
theorem nmX6 : ∀ a, a < 4 → ∀ b, b < 4 → a ≠ b → (TX6 a).2.1 ≠ (TX6 b).2.1 := by decide +kernel
theorem tyX6_ok : ∀ k, k < 4 → parseFieldDescriptor (TX6 k).2.2.1 = some (tyX6 k) := by decide +kernel
abbrev cX6_init : ByteArray := prog_8_method_1_code
def yX6_init : MethodName := ⟨RX6, "<init>", "()V"⟩
abbrev cX6_add : ByteArray := prog_8_method_2_code
def yX6_add : MethodName := ⟨RX6, "add", "(IIIII)I"⟩
abbrev cX6_paint : ByteArray := prog_8_method_3_code
def yX6_paint : MethodName := ⟨RX6, "paint", "(III)V"⟩
abbrev cX6_has : ByteArray := prog_8_method_4_code
def yX6_has : MethodName := ⟨RX6, "has", "(I)Z"⟩
abbrev cX6_all : ByteArray := prog_8_method_5_code
def yX6_all : MethodName := ⟨RX6, "all", "()I"⟩
abbrev cX6_colour : ByteArray := prog_8_method_6_code
def yX6_colour : MethodName := ⟨RX6, "colour", "(II)I"⟩
abbrev cX6_withEdge : ByteArray := prog_8_method_7_code
def yX6_withEdge : MethodName := ⟨RX6, "withEdge", "(II)I"⟩
abbrev cX6_fit : ByteArray := prog_8_method_8_code
def yX6_fit : MethodName := ⟨RX6, "fit", "(III)Z"⟩
abbrev cX6_hasRoad : ByteArray := prog_8_method_9_code
def yX6_hasRoad : MethodName := ⟨RX6, "hasRoad", "(I)Z"⟩
abbrev cX6_fittingBeside : ByteArray := prog_8_method_10_code
def yX6_fittingBeside : MethodName := ⟨RX6, "fittingBeside", "(II)I"⟩
abbrev cX6_lowest : ByteArray := prog_8_method_11_code
def yX6_lowest : MethodName := ⟨RX6, "lowest", "(I)I"⟩
abbrev cX6_draw : ByteArray := prog_8_method_12_code
def yX6_draw : MethodName := ⟨RX6, "draw", "(II)I"⟩
def RX7 : String := "Tilehold$Wishes"
def TX7 : u_T := fun k => match k with
  | 0 => ("Tilehold$Wishes", "most", "LTilehold$Row;", true)
  | _ => ("Tilehold$Wishes", "isOneRoad", "Z", false)
def tyX7 : Nat → FieldType := fun k => match k with
  | 0 => .object "Tilehold$Row"
  | _ => .boolean
abbrev wsX70 : List Cond := u_ws RX7 TX7 2
theorem nmX7 : ∀ a, a < 2 → ∀ b, b < 2 → a ≠ b → (TX7 a).2.1 ≠ (TX7 b).2.1 := by decide +kernel
theorem tyX7_ok : ∀ k, k < 2 → parseFieldDescriptor (TX7 k).2.2.1 = some (tyX7 k) := by decide +kernel
abbrev cX7_init : ByteArray := prog_9_method_1_code
def yX7_init : MethodName := ⟨RX7, "<init>", "()V"⟩
abbrev cX7_allow : ByteArray := prog_9_method_2_code
def yX7_allow : MethodName := ⟨RX7, "allow", "(II)Z"⟩
def RX8 : String := "Tilehold$World"
def TX8 : u_T := fun k => match k with
  | 0 => ("Tilehold$World", "tiles", "LTilehold$Tiles;", true)
  | 1 => ("Tilehold$World", "grid", "LTilehold$Grid;", true)
  | 2 => ("Tilehold$World", "fixed", "LTilehold$Row;", true)
  | _ => ("Tilehold$World", "banned", "LTilehold$Row;", true)
def tyX8 : Nat → FieldType := fun k => match k with
  | 0 => .object "Tilehold$Tiles"
  | 1 => .object "Tilehold$Grid"
  | 2 => .object "Tilehold$Row"
  | _ => .object "Tilehold$Row"
abbrev wsX80 : List Cond := u_ws RX8 TX8 4
theorem nmX8 : ∀ a, a < 4 → ∀ b, b < 4 → a ≠ b → (TX8 a).2.1 ≠ (TX8 b).2.1 := by decide +kernel
theorem tyX8_ok : ∀ k, k < 4 → parseFieldDescriptor (TX8 k).2.2.1 = some (tyX8 k) := by decide +kernel
abbrev cX8_init : ByteArray := prog_10_method_1_code
def yX8_init : MethodName := ⟨RX8, "<init>", "(LTilehold$Tiles;)V"⟩
abbrev cX8_renew : ByteArray := prog_10_method_2_code
def yX8_renew : MethodName := ⟨RX8, "renew", "(II)V"⟩
abbrev cX8_possibleIn : ByteArray := prog_10_method_6_code
def yX8_possibleIn : MethodName := ⟨RX8, "possibleIn", "(I)I"⟩
abbrev cX8_putInto : ByteArray := prog_10_method_7_code
def yX8_putInto : MethodName := ⟨RX8, "putInto", "(LTilehold$Narrowing;)V"⟩
def RX9 : String := "Tilehold"
def TX9 : u_T := fun k => match k with
  | 0 => ("Tilehold", "tiles", "LTilehold$Tiles;", true)
  | 1 => ("Tilehold", "wishes", "LTilehold$Wishes;", true)
  | 2 => ("Tilehold", "world", "LTilehold$World;", true)
  | 3 => ("Tilehold", "narrowed", "LTilehold$Narrowing;", true)
  | 4 => ("Tilehold", "narrowedAnew", "LTilehold$Narrowing;", true)
  | 5 => ("Tilehold", "filling", "LTilehold$Filling;", true)
  | 6 => ("Tilehold", "trial", "LTilehold$Placing;", true)
  | 7 => ("Tilehold", "chunkGrid", "LTilehold$Grid;", true)
  | 8 => ("Tilehold", "chunkFilling", "LTilehold$Filling;", true)
  | 9 => ("Tilehold", "kept", "LTilehold$Chunks;", true)
  | 10 => ("Tilehold", "seed", "I", false)
  | _ => ("Tilehold", "hasFilledWorld", "Z", false)
def tyX9 : Nat → FieldType := fun k => match k with
  | 0 => .object "Tilehold$Tiles"
  | 1 => .object "Tilehold$Wishes"
  | 2 => .object "Tilehold$World"
  | 3 => .object "Tilehold$Narrowing"
  | 4 => .object "Tilehold$Narrowing"
  | 5 => .object "Tilehold$Filling"
  | 6 => .object "Tilehold$Placing"
  | 7 => .object "Tilehold$Grid"
  | 8 => .object "Tilehold$Filling"
  | 9 => .object "Tilehold$Chunks"
  | 10 => .int
  | _ => .boolean
abbrev wsX90 : List Cond := u_ws RX9 TX9 12
theorem nmX9 : ∀ a, a < 12 → ∀ b, b < 12 → a ≠ b → (TX9 a).2.1 ≠ (TX9 b).2.1 := by decide +kernel
theorem tyX9_ok : ∀ k, k < 12 → parseFieldDescriptor (TX9 k).2.2.1 = some (tyX9 k) := by decide +kernel
abbrev cX9_init : ByteArray := prog_1_method_1_code
def yX9_init : MethodName := ⟨RX9, "<init>", "()V"⟩
abbrev cX9_addTile : ByteArray := prog_1_method_2_code
def yX9_addTile : MethodName := ⟨RX9, "addTile", "(IIIII)I"⟩
abbrev cX9_setSeed : ByteArray := prog_1_method_3_code
def yX9_setSeed : MethodName := ⟨RX9, "setSeed", "(I)I"⟩
abbrev cX9_setSize : ByteArray := prog_1_method_4_code
def yX9_setSize : MethodName := ⟨RX9, "setSize", "(II)I"⟩
abbrev cX9_setMost : ByteArray := prog_1_method_8_code
def yX9_setMost : MethodName := ⟨RX9, "setMost", "(II)I"⟩
abbrev cX9_setRoad : ByteArray := prog_1_method_9_code
def yX9_setRoad : MethodName := ⟨RX9, "setRoad", "(Z)Z"⟩
abbrev cX9_fill : ByteArray := prog_1_method_13_code
def yX9_fill : MethodName := ⟨RX9, "fill", "(I)C"⟩
abbrev cX9_isFilled : ByteArray := prog_1_method_14_code
def yX9_isFilled : MethodName := ⟨RX9, "isFilled", "()Z"⟩
abbrev cX9_tileAt : ByteArray := prog_1_method_15_code
def yX9_tileAt : MethodName := ⟨RX9, "tileAt", "(I)I"⟩
abbrev cX9_guesses : ByteArray := prog_1_method_16_code
def yX9_guesses : MethodName := ⟨RX9, "guesses", "()I"⟩
abbrev cX9_takenBack : ByteArray := prog_1_method_17_code
def yX9_takenBack : MethodName := ⟨RX9, "takenBack", "()I"⟩
abbrev cX9_ways : ByteArray := prog_1_method_18_code
def yX9_ways : MethodName := ⟨RX9, "ways", "()I"⟩
abbrev cX9_roads : ByteArray := prog_1_method_19_code
def yX9_roads : MethodName := ⟨RX9, "roads", "()I"⟩
abbrev cX9_visit : ByteArray := prog_1_method_20_code
def yX9_visit : MethodName := ⟨RX9, "visit", "(II)C"⟩
abbrev cX9_chunkTile : ByteArray := prog_1_method_21_code
def yX9_chunkTile : MethodName := ⟨RX9, "chunkTile", "(III)I"⟩
abbrev cX9_border : ByteArray := prog_1_method_22_code
def yX9_border : MethodName := ⟨RX9, "border", "(IIZI)I"⟩
abbrev cX9_chunks : ByteArray := prog_1_method_23_code
def yX9_chunks : MethodName := ⟨RX9, "chunks", "()I"⟩
abbrev cX9_forget : ByteArray := prog_1_method_24_code
def yX9_forget : MethodName := ⟨RX9, "forget", "()I"⟩
abbrev cX9_worldSum : ByteArray := prog_1_method_25_code
def yX9_worldSum : MethodName := ⟨RX9, "worldSum", "()J"⟩
abbrev cX9_roadShare : ByteArray := prog_1_method_27_code
def yX9_roadShare : MethodName := ⟨RX9, "roadShare", "()F"⟩
abbrev cX9_isSound : ByteArray := prog_1_method_28_code
def yX9_isSound : MethodName := ⟨RX9, "isSound", "()Z"⟩
abbrev cX9_isFromTo : ByteArray := prog_1_method_29_code
def yX9_isFromTo : MethodName := ⟨RX9, "isFromTo", "(III)Z"⟩
abbrev cX9_isColour : ByteArray := prog_1_method_30_code
def yX9_isColour : MethodName := ⟨RX9, "isColour", "(I)Z"⟩
abbrev cX9_isPlace : ByteArray := prog_1_method_31_code
def yX9_isPlace : MethodName := ⟨RX9, "isPlace", "(II)Z"⟩
abbrev cX9_opposite : ByteArray := prog_1_method_32_code
def yX9_opposite : MethodName := ⟨RX9, "opposite", "(I)I"⟩
abbrev cX9_isOneOf : ByteArray := prog_1_method_33_code
def yX9_isOneOf : MethodName := ⟨RX9, "isOneOf", "(II)Z"⟩
abbrev cX9_isWay : ByteArray := prog_1_method_34_code
def yX9_isWay : MethodName := ⟨RX9, "isWay", "(I)Z"⟩
abbrev cX9_edgeColour : ByteArray := prog_1_method_35_code
def yX9_edgeColour : MethodName := ⟨RX9, "edgeColour", "(IIII)I"⟩
abbrev cX9_chunkState : ByteArray := prog_1_method_36_code
def yX9_chunkState : MethodName := ⟨RX9, "chunkState", "(II)I"⟩
abbrev cX9_putChunkIntoFilling : ByteArray := prog_1_method_37_code
def yX9_putChunkIntoFilling : MethodName := ⟨RX9, "putChunkIntoFilling", "(II)V"⟩
abbrev cX9_possibleInChunk : ByteArray := prog_1_method_38_code
def yX9_possibleInChunk : MethodName := ⟨RX9, "possibleInChunk", "(III)I"⟩
abbrev cX9_areBothWaysSame : ByteArray := prog_1_method_39_code
def yX9_areBothWaysSame : MethodName := ⟨RX9, "areBothWaysSame", "()Z"⟩
abbrev cX9_areNearChunksSame : ByteArray := prog_1_method_40_code
def yX9_areNearChunksSame : MethodName := ⟨RX9, "areNearChunksSame", "()Z"⟩
def RX10 : String := "TileholdModel"
def TX10 : u_T := fun k => match k with
  | _ => ("", "", "", false)
def tyX10 : Nat → FieldType := fun k => match k with
  | _ => .int
abbrev wsX100 : List Cond := u_ws RX10 TX10 0
theorem nmX10 : ∀ a, a < 0 → ∀ b, b < 0 → a ≠ b → (TX10 a).2.1 ≠ (TX10 b).2.1 := by decide +kernel
theorem tyX10_ok : ∀ k, k < 0 → parseFieldDescriptor (TX10 k).2.2.1 = some (tyX10 k) := by decide +kernel
def RJx145de : String := "java/io/Serializable"
def RJ6 : String := "java/lang/Integer"
abbrev cJ6_bitCount_0f7a4 : ByteArray := prog_18_method_49_code
def yJ6_bitCount_0f7a4 : MethodName := ⟨RJ6, "bitCount", "(I)I"⟩
def RJ9 : String := "java/lang/Math"
abbrev cJ9_max_7cf53 : ByteArray := prog_19_method_65_code
def yJ9_max_7cf53 : MethodName := ⟨RJ9, "max", "(II)I"⟩
def RJ0 : String := "java/lang/String"
def RL : String := "TileholdLaw"
abbrev cL_cell : ByteArray := method_2_code
def yL_cell : MethodName := ⟨RL, "cell", "([II)I"⟩
abbrev cL_low : ByteArray := method_3_code
def yL_low : MethodName := ⟨RL, "low", "(II)I"⟩
abbrev cL_tells : ByteArray := method_4_code
def yL_tells : MethodName := ⟨RL, "tells", "(LTilehold;[I[[I[I)I"⟩
abbrev cL_isFilledWell : ByteArray := method_5_code
def yL_isFilledWell : MethodName := ⟨RL, "isFilledWell", "(LTilehold;[[I[IIIIZ)Z"⟩
abbrev cL_isFilledAlike : ByteArray := method_6_code
def yL_isFilledAlike : MethodName := ⟨RL, "isFilledAlike", "(LTilehold;II)Z"⟩
abbrev cL_isWorld : ByteArray := method_7_code
def yL_isWorld : MethodName := ⟨RL, "isWorld", "(LTilehold;[I[[I[II)Z"⟩
abbrev cL_tileOf : ByteArray := method_8_code
def yL_tileOf : MethodName := ⟨RL, "tileOf", "(LTilehold;III)I"⟩
abbrev cL_isBordered : ByteArray := method_9_code
def yL_isBordered : MethodName := ⟨RL, "isBordered", "(LTilehold;[[III)Z"⟩
abbrev cL_areChunks : ByteArray := method_10_code
def yL_areChunks : MethodName := ⟨RL, "areChunks", "(LTilehold;[I[[I)Z"⟩
abbrev cL_law : ByteArray := code
def yL_law : MethodName := ⟨RL, "law", "([I)Z"⟩
abbrev q_cl : List vw_C := [(RX0, TX0, 4), (RX1, TX1, 13), (RX2, TX2, 2), (RX3, TX3, 6), (RX4, TX4, 6), (RX5, TX5, 1), (RX6, TX6, 4), (RX7, TX7, 2), (RX8, TX8, 4), (RX9, TX9, 12)]
end
section
abbrev qE : Type := (Nat × vp_A) ⊕ (Nat × List Value)
abbrev qM : Type := List qE
abbrev qL : Type := List (Option Value)
abbrev qR : Type := Option Value ⊕ Nat
abbrev qX : Type := Instr × Nat × Nat × Nat × Nat
def q_c0 : List (Nat × qX) := [(0, .aload_n 0, 1, 0, 0, 0), (1, .invokespecial 3, 3, 998, 1, 6), (4, .aload_n 0, 1, 0, 0, 0), (5, .new 9, 3, 5, 1, 0), (8, .dup, 1, 0, 0, 0), (9, .bipush 60, 2, 0, 0, 0), (11, .invokespecial 11, 3, 35, 2, 4), (14, .putfield 14, 3, 0, 0, 2), (17, .aload_n 0, 1, 0, 0, 0), (18, .new 9, 3, 5, 1, 0), (21, .dup, 1, 0, 0, 0), (22, .bipush 30, 2, 0, 0, 0), (24, .invokespecial 11, 3, 35, 2, 4), (27, .putfield 20, 3, 0, 1, 2), (30, .aload_n 0, 1, 0, 0, 0), (31, .new 9, 3, 5, 1, 0), (34, .dup, 1, 0, 0, 0), (35, .sipush 270, 3, 0, 0, 0), (38, .invokespecial 11, 3, 35, 2, 4), (41, .putfield 23, 3, 0, 2, 2), (44, .return_, 1, 0, 0, 0)]
def q_c1 : List (Nat × qX) := [(0, .aload_n 0, 1, 0, 0, 0), (1, .iconst 0, 1, 0, 0, 0), (2, .putfield 26, 3, 0, 3, 0), (5, .return_, 1, 0, 0, 0)]
def q_c2 : List (Nat × qX) := [(0, .iconst 0, 1, 0, 0, 0), (1, .istore_n 3, 1, 0, 0, 0), (2, .iload_n 3, 1, 0, 0, 0), (3, .aload_n 0, 1, 0, 0, 0), (4, .getfield 26, 3, 0, 3, 0), (7, .if_icmp .ge 41, 3, 48, 0, 0), (10, .aload_n 0, 1, 0, 0, 0), (11, .getfield 14, 3, 0, 0, 0), (14, .iconst 2, 1, 0, 0, 0), (15, .iload_n 3, 1, 0, 0, 0), (16, .imul, 1, 0, 0, 0), (17, .invokevirtual 30, 3, 36, 2, 0), (20, .iload_n 1, 1, 0, 0, 0), (21, .if_icmp .ne 21, 3, 42, 0, 0), (24, .aload_n 0, 1, 0, 0, 0), (25, .getfield 14, 3, 0, 0, 0), (28, .iconst 2, 1, 0, 0, 0), (29, .iload_n 3, 1, 0, 0, 0), (30, .imul, 1, 0, 0, 0), (31, .iconst 1, 1, 0, 0, 0), (32, .iadd, 1, 0, 0, 0), (33, .invokevirtual 30, 3, 36, 2, 0), (36, .iload_n 2, 1, 0, 0, 0), (37, .if_icmp .ne 5, 3, 42, 0, 0), (40, .iload_n 3, 1, 0, 0, 0), (41, .ireturn, 1, 0, 0, 0), (42, .iinc 3 1, 3, 0, 0, 0), (45, .goto (-43), 3, 2, 0, 0), (48, .iconst (-1), 1, 0, 0, 0), (49, .ireturn, 1, 0, 0, 0)]
def q_c3 : List (Nat × qX) := [(0, .aload_n 0, 1, 0, 0, 0), (1, .getfield 14, 3, 0, 0, 0), (4, .iconst 2, 1, 0, 0, 0), (5, .aload_n 0, 1, 0, 0, 0), (6, .getfield 26, 3, 0, 3, 0), (9, .imul, 1, 0, 0, 0), (10, .iload_n 1, 1, 0, 0, 0), (11, .invokevirtual 34, 3, 37, 3, 0), (14, .aload_n 0, 1, 0, 0, 0), (15, .getfield 14, 3, 0, 0, 0), (18, .iconst 2, 1, 0, 0, 0), (19, .aload_n 0, 1, 0, 0, 0), (20, .getfield 26, 3, 0, 3, 0), (23, .imul, 1, 0, 0, 0), (24, .iconst 1, 1, 0, 0, 0), (25, .iadd, 1, 0, 0, 0), (26, .iload_n 2, 1, 0, 0, 0), (27, .invokevirtual 34, 3, 37, 3, 0), (30, .aload_n 0, 1, 0, 0, 0), (31, .getfield 20, 3, 0, 1, 0), (34, .aload_n 0, 1, 0, 0, 0), (35, .getfield 26, 3, 0, 3, 0), (38, .iload_n 3, 1, 0, 0, 0), (39, .invokevirtual 34, 3, 37, 3, 0), (42, .iconst 0, 1, 0, 0, 0), (43, .istore 5, 2, 0, 0, 0), (45, .iload 5, 2, 0, 0, 0), (47, .bipush 9, 2, 0, 0, 0), (49, .if_icmp .ge 36, 3, 85, 0, 0), (52, .aload_n 0, 1, 0, 0, 0), (53, .getfield 23, 3, 0, 2, 0), (56, .aload_n 0, 1, 0, 0, 0), (57, .getfield 26, 3, 0, 3, 0), (60, .bipush 9, 2, 0, 0, 0), (62, .imul, 1, 0, 0, 0), (63, .iload 5, 2, 0, 0, 0), (65, .iadd, 1, 0, 0, 0), (66, .aload 4, 2, 0, 0, 0), (68, .getfield 38, 3, 4, 2, 1), (71, .iload 5, 2, 0, 0, 0), (73, .invokevirtual 30, 3, 36, 2, 0), (76, .invokevirtual 34, 3, 37, 3, 0), (79, .iinc 5 1, 3, 0, 0, 0), (82, .goto (-37), 3, 45, 0, 0), (85, .aload_n 0, 1, 0, 0, 0), (86, .dup, 1, 0, 0, 0), (87, .getfield 26, 3, 0, 3, 0), (90, .iconst 1, 1, 0, 0, 0), (91, .iadd, 1, 0, 0, 0), (92, .putfield 26, 3, 0, 3, 0), (95, .return_, 1, 0, 0, 0)]
def q_c4 : List (Nat × qX) := [(0, .aload_n 0, 1, 0, 0, 0), (1, .getfield 20, 3, 0, 1, 0), (4, .iload_n 1, 1, 0, 0, 0), (5, .invokevirtual 30, 3, 36, 2, 0), (8, .i2c, 1, 0, 0, 0), (9, .ireturn, 1, 0, 0, 0)]
def q_c5 : List (Nat × qX) := [(0, .aload_n 0, 1, 0, 0, 0), (1, .getfield 23, 3, 0, 2, 0), (4, .iload_n 1, 1, 0, 0, 0), (5, .bipush 9, 2, 0, 0, 0), (7, .imul, 1, 0, 0, 0), (8, .iload_n 2, 1, 0, 0, 0), (9, .iadd, 1, 0, 0, 0), (10, .invokevirtual 30, 3, 36, 2, 0), (13, .ireturn, 1, 0, 0, 0)]
def q_c6 : List (Nat × qX) := [(0, .aload_n 0, 1, 0, 0, 0), (1, .iload_n 1, 1, 0, 0, 0), (2, .invokevirtual 41, 3, 4, 2, 0), (5, .iload_n 2, 1, 0, 0, 0), (6, .if_icmp .eq 5, 3, 11, 0, 0), (9, .iconst 0, 1, 0, 0, 0), (10, .ireturn, 1, 0, 0, 0), (11, .iconst 0, 1, 0, 0, 0), (12, .istore 4, 2, 0, 0, 0), (14, .iload 4, 2, 0, 0, 0), (16, .bipush 9, 2, 0, 0, 0), (18, .if_icmp .ge 36, 3, 54, 0, 0), (21, .iload_n 2, 1, 0, 0, 0), (22, .bipush 100, 2, 0, 0, 0), (24, .if_icmp .ne 30, 3, 54, 0, 0), (27, .aload_n 0, 1, 0, 0, 0), (28, .iload_n 1, 1, 0, 0, 0), (29, .iload 4, 2, 0, 0, 0), (31, .invokevirtual 45, 3, 5, 3, 0), (34, .aload_n 3, 1, 0, 0, 0), (35, .getfield 38, 3, 4, 2, 1), (38, .iload 4, 2, 0, 0, 0), (40, .invokevirtual 30, 3, 36, 2, 0), (43, .if_icmp .eq 5, 3, 48, 0, 0), (46, .iconst 0, 1, 0, 0, 0), (47, .ireturn, 1, 0, 0, 0), (48, .iinc 4 1, 3, 0, 0, 0), (51, .goto (-37), 3, 14, 0, 0), (54, .iconst 1, 1, 0, 0, 0), (55, .ireturn, 1, 0, 0, 0)]
def q_c7 : List (Nat × qX) := [(0, .aload_n 0, 1, 0, 0, 0), (1, .invokespecial 3, 3, 998, 1, 6), (4, .aload_n 0, 1, 0, 0, 0), (5, .new 9, 3, 5, 1, 0), (8, .dup, 1, 0, 0, 0), (9, .bipush 8, 2, 0, 0, 0), (11, .invokespecial 11, 3, 35, 2, 4), (14, .putfield 14, 3, 1, 5, 2), (17, .aload_n 0, 1, 0, 0, 0), (18, .new 9, 3, 5, 1, 0), (21, .dup, 1, 0, 0, 0), (22, .sipush 1296, 3, 0, 0, 0), (25, .invokespecial 11, 3, 35, 2, 4), (28, .putfield 20, 3, 1, 6, 2), (31, .aload_n 0, 1, 0, 0, 0), (32, .new 9, 3, 5, 1, 0), (35, .dup, 1, 0, 0, 0), (36, .bipush 36, 2, 0, 0, 0), (38, .invokespecial 11, 3, 35, 2, 4), (41, .putfield 23, 3, 1, 7, 2), (44, .aload_n 0, 1, 0, 0, 0), (45, .new 9, 3, 5, 1, 0), (48, .dup, 1, 0, 0, 0), (49, .bipush 36, 2, 0, 0, 0), (51, .invokespecial 11, 3, 35, 2, 4), (54, .putfield 26, 3, 1, 8, 2), (57, .aload_n 0, 1, 0, 0, 0), (58, .aload_n 1, 1, 0, 0, 0), (59, .putfield 29, 3, 1, 0, 2), (62, .aload_n 0, 1, 0, 0, 0), (63, .aload_n 2, 1, 0, 0, 0), (64, .putfield 33, 3, 1, 1, 2), (67, .aload_n 0, 1, 0, 0, 0), (68, .aload_n 3, 1, 0, 0, 0), (69, .putfield 37, 3, 1, 2, 2), (72, .aload_n 0, 1, 0, 0, 0), (73, .new 41, 3, 3, 6, 0), (76, .dup, 1, 0, 0, 0), (77, .aload_n 1, 1, 0, 0, 0), (78, .aload_n 2, 1, 0, 0, 0), (79, .invokespecial 43, 3, 21, 3, 4), (82, .putfield 46, 3, 1, 3, 2), (85, .aload_n 0, 1, 0, 0, 0), (86, .new 50, 3, 4, 6, 0), (89, .dup, 1, 0, 0, 0), (90, .aload_n 1, 1, 0, 0, 0), (91, .aload_n 2, 1, 0, 0, 0), (92, .invokespecial 52, 3, 28, 3, 4), (95, .putfield 53, 3, 1, 4, 2), (98, .return_, 1, 0, 0, 0)]
def q_c8_0 : List (Nat × qX) := [(0, .aload_n 0, 1, 0, 0, 0), (1, .iload_n 1, 1, 0, 0, 0), (2, .putfield 57, 3, 1, 10, 0), (5, .aload_n 0, 1, 0, 0, 0), (6, .iconst 0, 1, 0, 0, 0), (7, .putfield 61, 3, 1, 9, 0), (10, .aload_n 0, 1, 0, 0, 0), (11, .iconst 0, 1, 0, 0, 0), (12, .putfield 64, 3, 1, 11, 0), (15, .aload_n 0, 1, 0, 0, 0), (16, .iconst 0, 1, 0, 0, 0), (17, .putfield 67, 3, 1, 12, 0), (20, .aload_n 0, 1, 0, 0, 0), (21, .getfield 46, 3, 1, 3, 0), (24, .invokevirtual 70, 3, 23, 1, 0), (27, .iconst 0, 1, 0, 0, 0), (28, .istore_n 3, 1, 0, 0, 0), (29, .iload_n 3, 1, 0, 0, 0), (30, .sipush 1000, 3, 0, 0, 0), (33, .if_icmp .ge 98, 3, 131, 0, 0), (36, .aload_n 0, 1, 0, 0, 0), (37, .invokevirtual 73, 3, 9, 1, 0), (40, .istore 4, 2, 0, 0, 0), (42, .aload_n 0, 1, 0, 0, 0), (43, .invokevirtual 77, 3, 10, 1, 0), (46, .istore 5, 2, 0, 0, 0), (48, .iload 5, 2, 0, 0, 0), (50, .iconst (-1), 1, 0, 0, 0), (51, .if_icmp .ne 7, 3, 58, 0, 0), (54, .aload_n 0, 1, 0, 0, 0), (55, .invokevirtual 81, 3, 11, 1, 0), (58, .iload 4, 2, 0, 0, 0), (60, .ifCond .ne 18, 3, 78, 0, 0), (63, .iload 5, 2, 0, 0, 0), (65, .iconst (-1), 1, 0, 0, 0), (66, .if_icmp .eq 12, 3, 78, 0, 0), (69, .aload_n 0, 1, 0, 0, 0), (70, .iload 5, 2, 0, 0, 0), (72, .invokevirtual 84, 3, 12, 2, 0), (75, .goto 50, 3, 125, 0, 0), (78, .iload 4, 2, 0, 0, 0), (80, .ifCond .ne 20, 3, 100, 0, 0), (83, .aload_n 0, 1, 0, 0, 0), (84, .getfield 53, 3, 1, 4, 0), (87, .aload_n 0, 1, 0, 0, 0), (88, .getfield 37, 3, 1, 2, 0), (91, .invokevirtual 87, 3, 31, 2, 0), (94, .ifCond .eq 6, 3, 100, 0, 0), (97, .bipush 100, 2, 0, 0, 0), (99, .ireturn, 1, 0, 0, 0), (100, .aload_n 0, 1, 0, 0, 0), (101, .getfield 61, 3, 1, 9, 0), (104, .ifCond .ne 6, 3, 110, 0, 0), (107, .bipush 110, 2, 0, 0, 0), (109, .ireturn, 1, 0, 0, 0), (110, .aload_n 0, 1, 0, 0, 0), (111, .getfield 67, 3, 1, 12, 0), (114, .iload_n 2, 1, 0, 0, 0), (115, .if_icmp .lt 6, 3, 121, 0, 0), (118, .bipush 108, 2, 0, 0, 0)]
def q_c8_1 : List (Nat × qX) := [(120, .ireturn, 1, 0, 0, 0), (121, .aload_n 0, 1, 0, 0, 0), (122, .invokevirtual 91, 3, 13, 1, 0), (125, .iinc 3 1, 3, 0, 0, 0), (128, .goto (-99), 3, 29, 0, 0), (131, .bipush 108, 2, 0, 0, 0), (133, .ireturn, 1, 0, 0, 0)]
def q_c8 : List (Nat × qX) := q_c8_0 ++ q_c8_1
def q_c9 : List (Nat × qX) := [(0, .aload_n 0, 1, 0, 0, 0), (1, .getfield 14, 3, 1, 5, 0), (4, .iconst 0, 1, 0, 0, 0), (5, .invokevirtual 94, 3, 38, 2, 0), (8, .iconst 0, 1, 0, 0, 0), (9, .istore_n 1, 1, 0, 0, 0), (10, .iload_n 1, 1, 0, 0, 0), (11, .aload_n 0, 1, 0, 0, 0), (12, .getfield 33, 3, 1, 1, 0), (15, .invokevirtual 97, 3, 16, 1, 0), (18, .if_icmp .ge 83, 3, 101, 0, 0), (21, .aload_n 0, 1, 0, 0, 0), (22, .getfield 46, 3, 1, 3, 0), (25, .getfield 102, 3, 3, 2, 1), (28, .iload_n 1, 1, 0, 0, 0), (29, .invokevirtual 105, 3, 36, 2, 0), (32, .istore_n 2, 1, 0, 0, 0), (33, .iload_n 2, 1, 0, 0, 0), (34, .ifCond .ne 5, 3, 39, 0, 0), (37, .iconst 1, 1, 0, 0, 0), (38, .ireturn, 1, 0, 0, 0), (39, .iload_n 2, 1, 0, 0, 0), (40, .invokestatic 109, 3, 100, 1, 2), (43, .iconst 1, 1, 0, 0, 0), (44, .if_icmp .ne 51, 3, 95, 0, 0), (47, .aload_n 0, 1, 0, 0, 0), (48, .getfield 29, 3, 1, 0, 0), (51, .iload_n 2, 1, 0, 0, 0), (52, .invokevirtual 114, 3, 49, 2, 0), (55, .istore_n 3, 1, 0, 0, 0), (56, .aload_n 0, 1, 0, 0, 0), (57, .getfield 14, 3, 1, 5, 0), (60, .iload_n 3, 1, 0, 0, 0), (61, .aload_n 0, 1, 0, 0, 0), (62, .getfield 14, 3, 1, 5, 0), (65, .iload_n 3, 1, 0, 0, 0), (66, .invokevirtual 105, 3, 36, 2, 0), (69, .iconst 1, 1, 0, 0, 0), (70, .iadd, 1, 0, 0, 0), (71, .invokevirtual 119, 3, 37, 3, 0), (74, .aload_n 0, 1, 0, 0, 0), (75, .getfield 37, 3, 1, 2, 0), (78, .iload_n 3, 1, 0, 0, 0), (79, .aload_n 0, 1, 0, 0, 0), (80, .getfield 14, 3, 1, 5, 0), (83, .iload_n 3, 1, 0, 0, 0), (84, .invokevirtual 105, 3, 36, 2, 0), (87, .invokevirtual 123, 3, 52, 3, 0), (90, .ifCond .ne 5, 3, 95, 0, 0), (93, .iconst 1, 1, 0, 0, 0), (94, .ireturn, 1, 0, 0, 0), (95, .iinc 1 1, 3, 0, 0, 0), (98, .goto (-88), 3, 10, 0, 0), (101, .iconst 0, 1, 0, 0, 0), (102, .ireturn, 1, 0, 0, 0)]
def q_c10 : List (Nat × qX) := [(0, .iconst (-1), 1, 0, 0, 0), (1, .istore_n 1, 1, 0, 0, 0), (2, .bipush 9, 2, 0, 0, 0), (4, .istore_n 2, 1, 0, 0, 0), (5, .iconst 0, 1, 0, 0, 0), (6, .istore_n 3, 1, 0, 0, 0), (7, .iload_n 3, 1, 0, 0, 0), (8, .aload_n 0, 1, 0, 0, 0), (9, .getfield 33, 3, 1, 1, 0), (12, .invokevirtual 97, 3, 16, 1, 0), (15, .if_icmp .ge 42, 3, 57, 0, 0), (18, .aload_n 0, 1, 0, 0, 0), (19, .getfield 46, 3, 1, 3, 0), (22, .getfield 102, 3, 3, 2, 1), (25, .iload_n 3, 1, 0, 0, 0), (26, .invokevirtual 105, 3, 36, 2, 0), (29, .invokestatic 109, 3, 100, 1, 2), (32, .istore 4, 2, 0, 0, 0), (34, .iload 4, 2, 0, 0, 0), (36, .iconst 1, 1, 0, 0, 0), (37, .if_icmp .le 14, 3, 51, 0, 0), (40, .iload 4, 2, 0, 0, 0), (42, .iload_n 2, 1, 0, 0, 0), (43, .if_icmp .ge 8, 3, 51, 0, 0), (46, .iload_n 3, 1, 0, 0, 0), (47, .istore_n 1, 1, 0, 0, 0), (48, .iload 4, 2, 0, 0, 0), (50, .istore_n 2, 1, 0, 0, 0), (51, .iinc 3 1, 3, 0, 0, 0), (54, .goto (-47), 3, 7, 0, 0), (57, .iload_n 1, 1, 0, 0, 0), (58, .ireturn, 1, 0, 0, 0)]
def q_c11 : List (Nat × qX) := [(0, .iconst 0, 1, 0, 0, 0), (1, .istore_n 1, 1, 0, 0, 0), (2, .iload_n 1, 1, 0, 0, 0), (3, .aload_n 0, 1, 0, 0, 0), (4, .getfield 33, 3, 1, 1, 0), (7, .invokevirtual 97, 3, 16, 1, 0), (10, .if_icmp .ge 38, 3, 48, 0, 0), (13, .aload_n 0, 1, 0, 0, 0), (14, .getfield 53, 3, 1, 4, 0), (17, .getfield 129, 3, 4, 2, 1), (20, .iload_n 1, 1, 0, 0, 0), (21, .aload_n 0, 1, 0, 0, 0), (22, .getfield 29, 3, 1, 0, 0), (25, .aload_n 0, 1, 0, 0, 0), (26, .getfield 46, 3, 1, 3, 0), (29, .getfield 102, 3, 3, 2, 1), (32, .iload_n 1, 1, 0, 0, 0), (33, .invokevirtual 105, 3, 36, 2, 0), (36, .invokevirtual 114, 3, 49, 2, 0), (39, .invokevirtual 119, 3, 37, 3, 0), (42, .iinc 1 1, 3, 0, 0, 0), (45, .goto (-43), 3, 2, 0, 0), (48, .return_, 1, 0, 0, 0)]
def q_c12_0 : List (Nat × qX) := [(0, .iconst 0, 1, 0, 0, 0), (1, .istore_n 2, 1, 0, 0, 0), (2, .iload_n 2, 1, 0, 0, 0), (3, .aload_n 0, 1, 0, 0, 0), (4, .getfield 33, 3, 1, 1, 0), (7, .invokevirtual 97, 3, 16, 1, 0), (10, .if_icmp .ge 36, 3, 46, 0, 0), (13, .aload_n 0, 1, 0, 0, 0), (14, .getfield 20, 3, 1, 6, 0), (17, .aload_n 0, 1, 0, 0, 0), (18, .getfield 61, 3, 1, 9, 0), (21, .bipush 36, 2, 0, 0, 0), (23, .imul, 1, 0, 0, 0), (24, .iload_n 2, 1, 0, 0, 0), (25, .iadd, 1, 0, 0, 0), (26, .aload_n 0, 1, 0, 0, 0), (27, .getfield 46, 3, 1, 3, 0), (30, .getfield 102, 3, 3, 2, 1), (33, .iload_n 2, 1, 0, 0, 0), (34, .invokevirtual 105, 3, 36, 2, 0), (37, .invokevirtual 119, 3, 37, 3, 0), (40, .iinc 2 1, 3, 0, 0, 0), (43, .goto (-41), 3, 2, 0, 0), (46, .aload_n 0, 1, 0, 0, 0), (47, .aload_n 0, 1, 0, 0, 0), (48, .getfield 57, 3, 1, 10, 0), (51, .ldc 132, 2, 1103515245, 0, 0), (53, .imul, 1, 0, 0, 0), (54, .sipush 12345, 3, 0, 0, 0), (57, .iadd, 1, 0, 0, 0), (58, .ldc 133, 2, 2147483647, 0, 0), (60, .iand, 1, 0, 0, 0), (61, .putfield 57, 3, 1, 10, 0), (64, .aload_n 0, 1, 0, 0, 0), (65, .getfield 29, 3, 1, 0, 0), (68, .aload_n 0, 1, 0, 0, 0), (69, .getfield 46, 3, 1, 3, 0), (72, .getfield 102, 3, 3, 2, 1), (75, .iload_n 1, 1, 0, 0, 0), (76, .invokevirtual 105, 3, 36, 2, 0), (79, .aload_n 0, 1, 0, 0, 0), (80, .getfield 57, 3, 1, 10, 0), (83, .bipush 8, 2, 0, 0, 0), (85, .ishr, 1, 0, 0, 0), (86, .invokevirtual 134, 3, 50, 3, 0), (89, .istore_n 2, 1, 0, 0, 0), (90, .aload_n 0, 1, 0, 0, 0), (91, .getfield 23, 3, 1, 7, 0), (94, .aload_n 0, 1, 0, 0, 0), (95, .getfield 61, 3, 1, 9, 0), (98, .iload_n 1, 1, 0, 0, 0), (99, .invokevirtual 119, 3, 37, 3, 0), (102, .aload_n 0, 1, 0, 0, 0), (103, .getfield 26, 3, 1, 8, 0), (106, .aload_n 0, 1, 0, 0, 0), (107, .getfield 61, 3, 1, 9, 0), (110, .iload_n 2, 1, 0, 0, 0), (111, .invokevirtual 119, 3, 37, 3, 0), (114, .aload_n 0, 1, 0, 0, 0), (115, .dup, 1, 0, 0, 0)]
def q_c12_1 : List (Nat × qX) := [(116, .getfield 61, 3, 1, 9, 0), (119, .iconst 1, 1, 0, 0, 0), (120, .iadd, 1, 0, 0, 0), (121, .putfield 61, 3, 1, 9, 0), (124, .aload_n 0, 1, 0, 0, 0), (125, .dup, 1, 0, 0, 0), (126, .getfield 64, 3, 1, 11, 0), (129, .iconst 1, 1, 0, 0, 0), (130, .iadd, 1, 0, 0, 0), (131, .putfield 64, 3, 1, 11, 0), (134, .aload_n 0, 1, 0, 0, 0), (135, .getfield 46, 3, 1, 3, 0), (138, .iload_n 1, 1, 0, 0, 0), (139, .iconst 1, 1, 0, 0, 0), (140, .iload_n 2, 1, 0, 0, 0), (141, .ishl, 1, 0, 0, 0), (142, .invokevirtual 138, 3, 22, 3, 0), (145, .aload_n 0, 1, 0, 0, 0), (146, .getfield 46, 3, 1, 3, 0), (149, .invokevirtual 70, 3, 23, 1, 0), (152, .return_, 1, 0, 0, 0)]
def q_c12 : List (Nat × qX) := q_c12_0 ++ q_c12_1
def q_c13_0 : List (Nat × qX) := [(0, .aload_n 0, 1, 0, 0, 0), (1, .dup, 1, 0, 0, 0), (2, .getfield 61, 3, 1, 9, 0), (5, .iconst 1, 1, 0, 0, 0), (6, .isub, 1, 0, 0, 0), (7, .putfield 61, 3, 1, 9, 0), (10, .aload_n 0, 1, 0, 0, 0), (11, .dup, 1, 0, 0, 0), (12, .getfield 67, 3, 1, 12, 0), (15, .iconst 1, 1, 0, 0, 0), (16, .iadd, 1, 0, 0, 0), (17, .putfield 67, 3, 1, 12, 0), (20, .iconst 0, 1, 0, 0, 0), (21, .istore_n 1, 1, 0, 0, 0), (22, .iload_n 1, 1, 0, 0, 0), (23, .aload_n 0, 1, 0, 0, 0), (24, .getfield 33, 3, 1, 1, 0), (27, .invokevirtual 97, 3, 16, 1, 0), (30, .if_icmp .ge 36, 3, 66, 0, 0), (33, .aload_n 0, 1, 0, 0, 0), (34, .getfield 46, 3, 1, 3, 0), (37, .getfield 102, 3, 3, 2, 1), (40, .iload_n 1, 1, 0, 0, 0), (41, .aload_n 0, 1, 0, 0, 0), (42, .getfield 20, 3, 1, 6, 0), (45, .aload_n 0, 1, 0, 0, 0), (46, .getfield 61, 3, 1, 9, 0), (49, .bipush 36, 2, 0, 0, 0), (51, .imul, 1, 0, 0, 0), (52, .iload_n 1, 1, 0, 0, 0), (53, .iadd, 1, 0, 0, 0), (54, .invokevirtual 105, 3, 36, 2, 0), (57, .invokevirtual 119, 3, 37, 3, 0), (60, .iinc 1 1, 3, 0, 0, 0), (63, .goto (-41), 3, 22, 0, 0), (66, .aload_n 0, 1, 0, 0, 0), (67, .getfield 23, 3, 1, 7, 0), (70, .aload_n 0, 1, 0, 0, 0), (71, .getfield 61, 3, 1, 9, 0), (74, .invokevirtual 105, 3, 36, 2, 0), (77, .istore_n 1, 1, 0, 0, 0), (78, .aload_n 0, 1, 0, 0, 0), (79, .getfield 46, 3, 1, 3, 0), (82, .getfield 102, 3, 3, 2, 1), (85, .iload_n 1, 1, 0, 0, 0), (86, .invokevirtual 105, 3, 36, 2, 0), (89, .iconst 1, 1, 0, 0, 0), (90, .aload_n 0, 1, 0, 0, 0), (91, .getfield 26, 3, 1, 8, 0), (94, .aload_n 0, 1, 0, 0, 0), (95, .getfield 61, 3, 1, 9, 0), (98, .invokevirtual 105, 3, 36, 2, 0), (101, .ishl, 1, 0, 0, 0), (102, .iconst (-1), 1, 0, 0, 0), (103, .ixor, 1, 0, 0, 0), (104, .iand, 1, 0, 0, 0), (105, .istore_n 2, 1, 0, 0, 0), (106, .aload_n 0, 1, 0, 0, 0), (107, .getfield 46, 3, 1, 3, 0), (110, .iload_n 1, 1, 0, 0, 0)]
def q_c13_1 : List (Nat × qX) := [(111, .iload_n 2, 1, 0, 0, 0), (112, .invokevirtual 138, 3, 22, 3, 0), (115, .aload_n 0, 1, 0, 0, 0), (116, .getfield 46, 3, 1, 3, 0), (119, .invokevirtual 70, 3, 23, 1, 0), (122, .return_, 1, 0, 0, 0)]
def q_c13 : List (Nat × qX) := q_c13_0 ++ q_c13_1
def q_c14 : List (Nat × qX) := [(0, .aload_n 0, 1, 0, 0, 0), (1, .invokespecial 3, 3, 998, 1, 6), (4, .aload_n 0, 1, 0, 0, 0), (5, .iload_n 1, 1, 0, 0, 0), (6, .putfield 9, 3, 2, 0, 0), (9, .aload_n 0, 1, 0, 0, 0), (10, .iload_n 2, 1, 0, 0, 0), (11, .putfield 15, 3, 2, 1, 0), (14, .return_, 1, 0, 0, 0)]
def q_c15 : List (Nat × qX) := [(0, .aload_n 0, 1, 0, 0, 0), (1, .iload_n 1, 1, 0, 0, 0), (2, .putfield 9, 3, 2, 0, 0), (5, .aload_n 0, 1, 0, 0, 0), (6, .iload_n 2, 1, 0, 0, 0), (7, .putfield 15, 3, 2, 1, 0), (10, .return_, 1, 0, 0, 0)]
def q_c16 : List (Nat × qX) := [(0, .aload_n 0, 1, 0, 0, 0), (1, .getfield 9, 3, 2, 0, 0), (4, .aload_n 0, 1, 0, 0, 0), (5, .getfield 15, 3, 2, 1, 0), (8, .imul, 1, 0, 0, 0), (9, .ireturn, 1, 0, 0, 0)]
def q_c17 : List (Nat × qX) := [(0, .iload_n 1, 1, 0, 0, 0), (1, .ifCond .lt 20, 3, 21, 0, 0), (4, .iload_n 1, 1, 0, 0, 0), (5, .aload_n 0, 1, 0, 0, 0), (6, .getfield 9, 3, 2, 0, 0), (9, .aload_n 0, 1, 0, 0, 0), (10, .getfield 15, 3, 2, 1, 0), (13, .imul, 1, 0, 0, 0), (14, .if_icmp .ge 7, 3, 21, 0, 0), (17, .iconst 1, 1, 0, 0, 0), (18, .goto 4, 3, 22, 0, 0), (21, .iconst 0, 1, 0, 0, 0), (22, .ireturn, 1, 0, 0, 0)]
def q_c18 : List (Nat × qX) := [(0, .aload_n 0, 1, 0, 0, 0), (1, .getfield 9, 3, 2, 0, 0), (4, .ifCond .le 12, 3, 16, 0, 0), (7, .iload_n 1, 1, 0, 0, 0), (8, .aload_n 0, 1, 0, 0, 0), (9, .getfield 9, 3, 2, 0, 0), (12, .idiv, 1, 0, 0, 0), (13, .goto 4, 3, 17, 0, 0), (16, .iconst 0, 1, 0, 0, 0), (17, .ireturn, 1, 0, 0, 0)]
def q_c19 : List (Nat × qX) := [(0, .aload_n 0, 1, 0, 0, 0), (1, .getfield 9, 3, 2, 0, 0), (4, .ifCond .le 12, 3, 16, 0, 0), (7, .iload_n 1, 1, 0, 0, 0), (8, .aload_n 0, 1, 0, 0, 0), (9, .getfield 9, 3, 2, 0, 0), (12, .irem, 1, 0, 0, 0), (13, .goto 4, 3, 17, 0, 0), (16, .iconst 0, 1, 0, 0, 0), (17, .ireturn, 1, 0, 0, 0)]
def q_c20 : List (Nat × qX) := [(0, .iload_n 2, 1, 0, 0, 0), (1, .ifCond .ne 22, 3, 23, 0, 0), (4, .aload_n 0, 1, 0, 0, 0), (5, .iload_n 1, 1, 0, 0, 0), (6, .invokevirtual 18, 3, 18, 2, 0), (9, .ifCond .le 12, 3, 21, 0, 0), (12, .iload_n 1, 1, 0, 0, 0), (13, .aload_n 0, 1, 0, 0, 0), (14, .getfield 9, 3, 2, 0, 0), (17, .isub, 1, 0, 0, 0), (18, .goto 4, 3, 22, 0, 0), (21, .iconst (-1), 1, 0, 0, 0), (22, .ireturn, 1, 0, 0, 0), (23, .iload_n 2, 1, 0, 0, 0), (24, .iconst 1, 1, 0, 0, 0), (25, .if_icmp .ne 25, 3, 50, 0, 0), (28, .aload_n 0, 1, 0, 0, 0), (29, .iload_n 1, 1, 0, 0, 0), (30, .invokevirtual 22, 3, 19, 2, 0), (33, .aload_n 0, 1, 0, 0, 0), (34, .getfield 9, 3, 2, 0, 0), (37, .iconst 1, 1, 0, 0, 0), (38, .isub, 1, 0, 0, 0), (39, .if_icmp .ge 9, 3, 48, 0, 0), (42, .iload_n 1, 1, 0, 0, 0), (43, .iconst 1, 1, 0, 0, 0), (44, .iadd, 1, 0, 0, 0), (45, .goto 4, 3, 49, 0, 0), (48, .iconst (-1), 1, 0, 0, 0), (49, .ireturn, 1, 0, 0, 0), (50, .iload_n 2, 1, 0, 0, 0), (51, .iconst 2, 1, 0, 0, 0), (52, .if_icmp .ne 28, 3, 80, 0, 0), (55, .aload_n 0, 1, 0, 0, 0), (56, .iload_n 1, 1, 0, 0, 0), (57, .invokevirtual 18, 3, 18, 2, 0), (60, .aload_n 0, 1, 0, 0, 0), (61, .getfield 15, 3, 2, 1, 0), (64, .iconst 1, 1, 0, 0, 0), (65, .isub, 1, 0, 0, 0), (66, .if_icmp .ge 12, 3, 78, 0, 0), (69, .iload_n 1, 1, 0, 0, 0), (70, .aload_n 0, 1, 0, 0, 0), (71, .getfield 9, 3, 2, 0, 0), (74, .iadd, 1, 0, 0, 0), (75, .goto 4, 3, 79, 0, 0), (78, .iconst (-1), 1, 0, 0, 0), (79, .ireturn, 1, 0, 0, 0), (80, .aload_n 0, 1, 0, 0, 0), (81, .iload_n 1, 1, 0, 0, 0), (82, .invokevirtual 22, 3, 19, 2, 0), (85, .ifCond .le 9, 3, 94, 0, 0), (88, .iload_n 1, 1, 0, 0, 0), (89, .iconst 1, 1, 0, 0, 0), (90, .isub, 1, 0, 0, 0), (91, .goto 4, 3, 95, 0, 0), (94, .iconst (-1), 1, 0, 0, 0), (95, .ireturn, 1, 0, 0, 0)]
def q_c21 : List (Nat × qX) := [(0, .aload_n 0, 1, 0, 0, 0), (1, .invokespecial 3, 3, 998, 1, 6), (4, .aload_n 0, 1, 0, 0, 0), (5, .new 9, 3, 5, 1, 0), (8, .dup, 1, 0, 0, 0), (9, .bipush 36, 2, 0, 0, 0), (11, .invokespecial 11, 3, 35, 2, 4), (14, .putfield 14, 3, 3, 2, 2), (17, .aload_n 0, 1, 0, 0, 0), (18, .new 9, 3, 5, 1, 0), (21, .dup, 1, 0, 0, 0), (22, .bipush 36, 2, 0, 0, 0), (24, .invokespecial 11, 3, 35, 2, 4), (27, .putfield 20, 3, 3, 3, 2), (30, .aload_n 0, 1, 0, 0, 0), (31, .new 9, 3, 5, 1, 0), (34, .dup, 1, 0, 0, 0), (35, .bipush 36, 2, 0, 0, 0), (37, .invokespecial 11, 3, 35, 2, 4), (40, .putfield 23, 3, 3, 4, 2), (43, .aload_n 0, 1, 0, 0, 0), (44, .aload_n 1, 1, 0, 0, 0), (45, .putfield 26, 3, 3, 0, 2), (48, .aload_n 0, 1, 0, 0, 0), (49, .aload_n 2, 1, 0, 0, 0), (50, .putfield 30, 3, 3, 1, 2), (53, .return_, 1, 0, 0, 0)]
def q_c22 : List (Nat × qX) := [(0, .aload_n 0, 1, 0, 0, 0), (1, .getfield 14, 3, 3, 2, 0), (4, .iload_n 1, 1, 0, 0, 0), (5, .iload_n 2, 1, 0, 0, 0), (6, .invokevirtual 34, 3, 37, 3, 0), (9, .aload_n 0, 1, 0, 0, 0), (10, .getfield 20, 3, 3, 3, 0), (13, .iload_n 1, 1, 0, 0, 0), (14, .invokevirtual 38, 3, 36, 2, 0), (17, .ifCond .ne 34, 3, 51, 0, 0), (20, .aload_n 0, 1, 0, 0, 0), (21, .getfield 20, 3, 3, 3, 0), (24, .iload_n 1, 1, 0, 0, 0), (25, .iconst 1, 1, 0, 0, 0), (26, .invokevirtual 34, 3, 37, 3, 0), (29, .aload_n 0, 1, 0, 0, 0), (30, .getfield 23, 3, 3, 4, 0), (33, .aload_n 0, 1, 0, 0, 0), (34, .getfield 42, 3, 3, 5, 0), (37, .iload_n 1, 1, 0, 0, 0), (38, .invokevirtual 34, 3, 37, 3, 0), (41, .aload_n 0, 1, 0, 0, 0), (42, .dup, 1, 0, 0, 0), (43, .getfield 42, 3, 3, 5, 0), (46, .iconst 1, 1, 0, 0, 0), (47, .iadd, 1, 0, 0, 0), (48, .putfield 42, 3, 3, 5, 0), (51, .return_, 1, 0, 0, 0)]
def q_c23 : List (Nat × qX) := [(0, .iconst 0, 1, 0, 0, 0), (1, .istore_n 1, 1, 0, 0, 0), (2, .iload_n 1, 1, 0, 0, 0), (3, .sipush 324, 3, 0, 0, 0), (6, .if_icmp .ge 66, 3, 72, 0, 0), (9, .aload_n 0, 1, 0, 0, 0), (10, .getfield 42, 3, 3, 5, 0), (13, .ifCond .le 59, 3, 72, 0, 0), (16, .aload_n 0, 1, 0, 0, 0), (17, .dup, 1, 0, 0, 0), (18, .getfield 42, 3, 3, 5, 0), (21, .iconst 1, 1, 0, 0, 0), (22, .isub, 1, 0, 0, 0), (23, .putfield 42, 3, 3, 5, 0), (26, .aload_n 0, 1, 0, 0, 0), (27, .getfield 23, 3, 3, 4, 0), (30, .aload_n 0, 1, 0, 0, 0), (31, .getfield 42, 3, 3, 5, 0), (34, .invokevirtual 38, 3, 36, 2, 0), (37, .istore_n 2, 1, 0, 0, 0), (38, .aload_n 0, 1, 0, 0, 0), (39, .getfield 20, 3, 3, 3, 0), (42, .iload_n 2, 1, 0, 0, 0), (43, .iconst 0, 1, 0, 0, 0), (44, .invokevirtual 34, 3, 37, 3, 0), (47, .iconst 0, 1, 0, 0, 0), (48, .istore_n 3, 1, 0, 0, 0), (49, .iload_n 3, 1, 0, 0, 0), (50, .iconst 4, 1, 0, 0, 0), (51, .if_icmp .ge 15, 3, 66, 0, 0), (54, .aload_n 0, 1, 0, 0, 0), (55, .iload_n 2, 1, 0, 0, 0), (56, .iload_n 3, 1, 0, 0, 0), (57, .invokevirtual 46, 3, 24, 3, 0), (60, .iinc 3 1, 3, 0, 0, 0), (63, .goto (-14), 3, 49, 0, 0), (66, .iinc 1 1, 3, 0, 0, 0), (69, .goto (-67), 3, 2, 0, 0), (72, .return_, 1, 0, 0, 0)]
def q_c24 : List (Nat × qX) := [(0, .aload_n 0, 1, 0, 0, 0), (1, .getfield 30, 3, 3, 1, 0), (4, .iload_n 1, 1, 0, 0, 0), (5, .iload_n 2, 1, 0, 0, 0), (6, .invokevirtual 49, 3, 20, 3, 0), (9, .istore_n 3, 1, 0, 0, 0), (10, .iload_n 3, 1, 0, 0, 0), (11, .iconst (-1), 1, 0, 0, 0), (12, .if_icmp .ne 4, 3, 16, 0, 0), (15, .return_, 1, 0, 0, 0), (16, .aload_n 0, 1, 0, 0, 0), (17, .getfield 14, 3, 3, 2, 0), (20, .iload_n 3, 1, 0, 0, 0), (21, .invokevirtual 38, 3, 36, 2, 0), (24, .istore 4, 2, 0, 0, 0), (26, .iload 4, 2, 0, 0, 0), (28, .aload_n 0, 1, 0, 0, 0), (29, .getfield 26, 3, 3, 0, 0), (32, .aload_n 0, 1, 0, 0, 0), (33, .getfield 14, 3, 3, 2, 0), (36, .iload_n 1, 1, 0, 0, 0), (37, .invokevirtual 38, 3, 36, 2, 0), (40, .iload_n 2, 1, 0, 0, 0), (41, .invokevirtual 55, 3, 48, 3, 0), (44, .iand, 1, 0, 0, 0), (45, .istore 5, 2, 0, 0, 0), (47, .iload 5, 2, 0, 0, 0), (49, .iload 4, 2, 0, 0, 0), (51, .if_icmp .eq 10, 3, 61, 0, 0), (54, .aload_n 0, 1, 0, 0, 0), (55, .iload_n 3, 1, 0, 0, 0), (56, .iload 5, 2, 0, 0, 0), (58, .invokevirtual 60, 3, 22, 3, 0), (61, .return_, 1, 0, 0, 0)]
def q_c25 : List (Nat × qX) := [(0, .aload_n 0, 1, 0, 0, 0), (1, .getfield 20, 3, 3, 3, 0), (4, .iconst 0, 1, 0, 0, 0), (5, .invokevirtual 63, 3, 38, 2, 0), (8, .aload_n 0, 1, 0, 0, 0), (9, .iconst 0, 1, 0, 0, 0), (10, .putfield 42, 3, 3, 5, 0), (13, .iconst 1, 1, 0, 0, 0), (14, .istore_n 1, 1, 0, 0, 0), (15, .iconst 0, 1, 0, 0, 0), (16, .istore_n 2, 1, 0, 0, 0), (17, .iload_n 2, 1, 0, 0, 0), (18, .sipush 289, 3, 0, 0, 0), (21, .if_icmp .ge 44, 3, 65, 0, 0), (24, .iload_n 1, 1, 0, 0, 0), (25, .ifCond .eq 40, 3, 65, 0, 0), (28, .iconst 0, 1, 0, 0, 0), (29, .istore_n 1, 1, 0, 0, 0), (30, .iconst 0, 1, 0, 0, 0), (31, .istore_n 3, 1, 0, 0, 0), (32, .iload_n 3, 1, 0, 0, 0), (33, .aload_n 0, 1, 0, 0, 0), (34, .getfield 30, 3, 3, 1, 0), (37, .invokevirtual 66, 3, 16, 1, 0), (40, .if_icmp .ge 19, 3, 59, 0, 0), (43, .aload_n 0, 1, 0, 0, 0), (44, .iload_n 3, 1, 0, 0, 0), (45, .invokevirtual 70, 3, 26, 2, 0), (48, .ifCond .eq 5, 3, 53, 0, 0), (51, .iconst 1, 1, 0, 0, 0), (52, .istore_n 1, 1, 0, 0, 0), (53, .iinc 3 1, 3, 0, 0, 0), (56, .goto (-24), 3, 32, 0, 0), (59, .iinc 2 1, 3, 0, 0, 0), (62, .goto (-45), 3, 17, 0, 0), (65, .return_, 1, 0, 0, 0)]
def q_c26 : List (Nat × qX) := [(0, .aload_n 0, 1, 0, 0, 0), (1, .getfield 14, 3, 3, 2, 0), (4, .iload_n 1, 1, 0, 0, 0), (5, .invokevirtual 38, 3, 36, 2, 0), (8, .istore_n 2, 1, 0, 0, 0), (9, .iload_n 2, 1, 0, 0, 0), (10, .istore_n 3, 1, 0, 0, 0), (11, .iconst 0, 1, 0, 0, 0), (12, .istore 4, 2, 0, 0, 0), (14, .iload 4, 2, 0, 0, 0), (16, .aload_n 0, 1, 0, 0, 0), (17, .getfield 26, 3, 3, 0, 0), (20, .getfield 74, 3, 6, 3, 1), (23, .if_icmp .ge 37, 3, 60, 0, 0), (26, .iload 4, 2, 0, 0, 0), (28, .iload_n 2, 1, 0, 0, 0), (29, .invokestatic 77, 3, 92, 2, 3), (32, .ifCond .eq 22, 3, 54, 0, 0), (35, .aload_n 0, 1, 0, 0, 0), (36, .iload_n 1, 1, 0, 0, 0), (37, .iload 4, 2, 0, 0, 0), (39, .invokevirtual 81, 3, 27, 3, 0), (42, .ifCond .ne 12, 3, 54, 0, 0), (45, .iload_n 3, 1, 0, 0, 0), (46, .iconst 1, 1, 0, 0, 0), (47, .iload 4, 2, 0, 0, 0), (49, .ishl, 1, 0, 0, 0), (50, .iconst (-1), 1, 0, 0, 0), (51, .ixor, 1, 0, 0, 0), (52, .iand, 1, 0, 0, 0), (53, .istore_n 3, 1, 0, 0, 0), (54, .iinc 4 1, 3, 0, 0, 0), (57, .goto (-43), 3, 14, 0, 0), (60, .aload_n 0, 1, 0, 0, 0), (61, .getfield 14, 3, 3, 2, 0), (64, .iload_n 1, 1, 0, 0, 0), (65, .iload_n 3, 1, 0, 0, 0), (66, .invokevirtual 34, 3, 37, 3, 0), (69, .iload_n 3, 1, 0, 0, 0), (70, .iload_n 2, 1, 0, 0, 0), (71, .if_icmp .eq 7, 3, 78, 0, 0), (74, .iconst 1, 1, 0, 0, 0), (75, .goto 4, 3, 79, 0, 0), (78, .iconst 0, 1, 0, 0, 0), (79, .ireturn, 1, 0, 0, 0)]
def q_c27 : List (Nat × qX) := [(0, .iconst 0, 1, 0, 0, 0), (1, .istore_n 3, 1, 0, 0, 0), (2, .iload_n 3, 1, 0, 0, 0), (3, .iconst 4, 1, 0, 0, 0), (4, .if_icmp .ge 104, 3, 108, 0, 0), (7, .aload_n 0, 1, 0, 0, 0), (8, .getfield 30, 3, 3, 1, 0), (11, .iload_n 1, 1, 0, 0, 0), (12, .iload_n 3, 1, 0, 0, 0), (13, .invokevirtual 49, 3, 20, 3, 0), (16, .istore 4, 2, 0, 0, 0), (18, .iload 4, 2, 0, 0, 0), (20, .iconst (-1), 1, 0, 0, 0), (21, .if_icmp .ne 7, 3, 28, 0, 0), (24, .iconst 1, 1, 0, 0, 0), (25, .goto 4, 3, 29, 0, 0), (28, .iconst 0, 1, 0, 0, 0), (29, .istore 5, 2, 0, 0, 0), (31, .iconst 0, 1, 0, 0, 0), (32, .istore 6, 2, 0, 0, 0), (34, .iload 6, 2, 0, 0, 0), (36, .aload_n 0, 1, 0, 0, 0), (37, .getfield 26, 3, 3, 0, 0), (40, .getfield 74, 3, 6, 3, 1), (43, .if_icmp .ge 52, 3, 95, 0, 0), (46, .iload 5, 2, 0, 0, 0), (48, .ifCond .ne 47, 3, 95, 0, 0), (51, .iload 6, 2, 0, 0, 0), (53, .aload_n 0, 1, 0, 0, 0), (54, .getfield 14, 3, 3, 2, 0), (57, .iload 4, 2, 0, 0, 0), (59, .invokevirtual 38, 3, 36, 2, 0), (62, .invokestatic 77, 3, 92, 2, 3), (65, .ifCond .eq 21, 3, 86, 0, 0), (68, .aload_n 0, 1, 0, 0, 0), (69, .getfield 26, 3, 3, 0, 0), (72, .iload_n 2, 1, 0, 0, 0), (73, .iload 6, 2, 0, 0, 0), (75, .iload_n 3, 1, 0, 0, 0), (76, .invokevirtual 84, 3, 46, 4, 0), (79, .ifCond .eq 7, 3, 86, 0, 0), (82, .iconst 1, 1, 0, 0, 0), (83, .goto 4, 3, 87, 0, 0), (86, .iconst 0, 1, 0, 0, 0), (87, .istore 5, 2, 0, 0, 0), (89, .iinc 6 1, 3, 0, 0, 0), (92, .goto (-58), 3, 34, 0, 0), (95, .iload 5, 2, 0, 0, 0), (97, .ifCond .ne 5, 3, 102, 0, 0), (100, .iconst 0, 1, 0, 0, 0), (101, .ireturn, 1, 0, 0, 0), (102, .iinc 3 1, 3, 0, 0, 0), (105, .goto (-103), 3, 2, 0, 0), (108, .iconst 1, 1, 0, 0, 0), (109, .ireturn, 1, 0, 0, 0)]
def q_c28 : List (Nat × qX) := [(0, .aload_n 0, 1, 0, 0, 0), (1, .invokespecial 3, 3, 998, 1, 6), (4, .aload_n 0, 1, 0, 0, 0), (5, .new 9, 3, 5, 1, 0), (8, .dup, 1, 0, 0, 0), (9, .bipush 36, 2, 0, 0, 0), (11, .invokespecial 11, 3, 35, 2, 4), (14, .putfield 14, 3, 4, 2, 2), (17, .aload_n 0, 1, 0, 0, 0), (18, .new 9, 3, 5, 1, 0), (21, .dup, 1, 0, 0, 0), (22, .bipush 8, 2, 0, 0, 0), (24, .invokespecial 11, 3, 35, 2, 4), (27, .putfield 20, 3, 4, 3, 2), (30, .aload_n 0, 1, 0, 0, 0), (31, .new 9, 3, 5, 1, 0), (34, .dup, 1, 0, 0, 0), (35, .bipush 36, 2, 0, 0, 0), (37, .invokespecial 11, 3, 35, 2, 4), (40, .putfield 23, 3, 4, 4, 2), (43, .aload_n 0, 1, 0, 0, 0), (44, .new 9, 3, 5, 1, 0), (47, .dup, 1, 0, 0, 0), (48, .bipush 36, 2, 0, 0, 0), (50, .invokespecial 11, 3, 35, 2, 4), (53, .putfield 26, 3, 4, 5, 2), (56, .aload_n 0, 1, 0, 0, 0), (57, .aload_n 1, 1, 0, 0, 0), (58, .putfield 29, 3, 4, 0, 2), (61, .aload_n 0, 1, 0, 0, 0), (62, .aload_n 2, 1, 0, 0, 0), (63, .putfield 33, 3, 4, 1, 2), (66, .return_, 1, 0, 0, 0)]
def q_c29 : List (Nat × qX) := [(0, .iconst 0, 1, 0, 0, 0), (1, .istore_n 1, 1, 0, 0, 0), (2, .iload_n 1, 1, 0, 0, 0), (3, .aload_n 0, 1, 0, 0, 0), (4, .getfield 33, 3, 4, 1, 0), (7, .invokevirtual 37, 3, 16, 1, 0), (10, .if_icmp .ge 66, 3, 76, 0, 0), (13, .iconst 0, 1, 0, 0, 0), (14, .istore_n 2, 1, 0, 0, 0), (15, .iload_n 2, 1, 0, 0, 0), (16, .iconst 4, 1, 0, 0, 0), (17, .if_icmp .ge 53, 3, 70, 0, 0), (20, .aload_n 0, 1, 0, 0, 0), (21, .getfield 33, 3, 4, 1, 0), (24, .iload_n 1, 1, 0, 0, 0), (25, .iload_n 2, 1, 0, 0, 0), (26, .invokevirtual 43, 3, 20, 3, 0), (29, .istore_n 3, 1, 0, 0, 0), (30, .iload_n 3, 1, 0, 0, 0), (31, .iconst (-1), 1, 0, 0, 0), (32, .if_icmp .eq 32, 3, 64, 0, 0), (35, .aload_n 0, 1, 0, 0, 0), (36, .getfield 29, 3, 4, 0, 0), (39, .aload_n 0, 1, 0, 0, 0), (40, .getfield 14, 3, 4, 2, 0), (43, .iload_n 1, 1, 0, 0, 0), (44, .invokevirtual 47, 3, 36, 2, 0), (47, .aload_n 0, 1, 0, 0, 0), (48, .getfield 14, 3, 4, 2, 0), (51, .iload_n 3, 1, 0, 0, 0), (52, .invokevirtual 47, 3, 36, 2, 0), (55, .iload_n 2, 1, 0, 0, 0), (56, .invokevirtual 51, 3, 46, 4, 0), (59, .ifCond .ne 5, 3, 64, 0, 0), (62, .iconst 0, 1, 0, 0, 0), (63, .ireturn, 1, 0, 0, 0), (64, .iinc 2 1, 3, 0, 0, 0), (67, .goto (-52), 3, 15, 0, 0), (70, .iinc 1 1, 3, 0, 0, 0), (73, .goto (-71), 3, 2, 0, 0), (76, .iconst 1, 1, 0, 0, 0), (77, .ireturn, 1, 0, 0, 0)]
def q_c30 : List (Nat × qX) := [(0, .aload_n 0, 1, 0, 0, 0), (1, .getfield 20, 3, 4, 3, 0), (4, .iconst 0, 1, 0, 0, 0), (5, .invokevirtual 57, 3, 38, 2, 0), (8, .iconst 0, 1, 0, 0, 0), (9, .istore_n 2, 1, 0, 0, 0), (10, .iload_n 2, 1, 0, 0, 0), (11, .aload_n 0, 1, 0, 0, 0), (12, .getfield 33, 3, 4, 1, 0), (15, .invokevirtual 37, 3, 16, 1, 0), (18, .if_icmp .ge 54, 3, 72, 0, 0), (21, .aload_n 0, 1, 0, 0, 0), (22, .getfield 14, 3, 4, 2, 0), (25, .iload_n 2, 1, 0, 0, 0), (26, .invokevirtual 47, 3, 36, 2, 0), (29, .istore_n 3, 1, 0, 0, 0), (30, .aload_n 0, 1, 0, 0, 0), (31, .getfield 20, 3, 4, 3, 0), (34, .iload_n 3, 1, 0, 0, 0), (35, .aload_n 0, 1, 0, 0, 0), (36, .getfield 20, 3, 4, 3, 0), (39, .iload_n 3, 1, 0, 0, 0), (40, .invokevirtual 47, 3, 36, 2, 0), (43, .iconst 1, 1, 0, 0, 0), (44, .iadd, 1, 0, 0, 0), (45, .invokevirtual 60, 3, 37, 3, 0), (48, .aload_n 1, 1, 0, 0, 0), (49, .iload_n 3, 1, 0, 0, 0), (50, .aload_n 0, 1, 0, 0, 0), (51, .getfield 20, 3, 4, 3, 0), (54, .iload_n 3, 1, 0, 0, 0), (55, .invokevirtual 47, 3, 36, 2, 0), (58, .invokevirtual 64, 3, 52, 3, 0), (61, .ifCond .ne 5, 3, 66, 0, 0), (64, .iconst 0, 1, 0, 0, 0), (65, .ireturn, 1, 0, 0, 0), (66, .iinc 2 1, 3, 0, 0, 0), (69, .goto (-59), 3, 10, 0, 0), (72, .aload_n 0, 1, 0, 0, 0), (73, .aload_n 1, 1, 0, 0, 0), (74, .invokevirtual 70, 3, 31, 2, 0), (77, .ireturn, 1, 0, 0, 0)]
def q_c31 : List (Nat × qX) := [(0, .aload_n 1, 1, 0, 0, 0), (1, .getfield 74, 3, 7, 1, 1), (4, .ifCond .eq 11, 3, 15, 0, 0), (7, .aload_n 0, 1, 0, 0, 0), (8, .invokevirtual 78, 3, 33, 1, 0), (11, .iconst 1, 1, 0, 0, 0), (12, .if_icmp .gt 7, 3, 19, 0, 0), (15, .iconst 1, 1, 0, 0, 0), (16, .goto 4, 3, 20, 0, 0), (19, .iconst 0, 1, 0, 0, 0), (20, .ireturn, 1, 0, 0, 0)]
def q_c32 : List (Nat × qX) := [(0, .iconst 0, 1, 0, 0, 0), (1, .istore_n 1, 1, 0, 0, 0), (2, .iconst 0, 1, 0, 0, 0), (3, .istore_n 2, 1, 0, 0, 0), (4, .iload_n 2, 1, 0, 0, 0), (5, .aload_n 0, 1, 0, 0, 0), (6, .getfield 33, 3, 4, 1, 0), (9, .invokevirtual 37, 3, 16, 1, 0), (12, .if_icmp .ge 35, 3, 47, 0, 0), (15, .iload_n 1, 1, 0, 0, 0), (16, .aload_n 0, 1, 0, 0, 0), (17, .getfield 29, 3, 4, 0, 0), (20, .aload_n 0, 1, 0, 0, 0), (21, .getfield 14, 3, 4, 2, 0), (24, .iload_n 2, 1, 0, 0, 0), (25, .invokevirtual 47, 3, 36, 2, 0), (28, .invokevirtual 81, 3, 47, 2, 0), (31, .ifCond .eq 7, 3, 38, 0, 0), (34, .iconst 1, 1, 0, 0, 0), (35, .goto 4, 3, 39, 0, 0), (38, .iconst 0, 1, 0, 0, 0), (39, .iadd, 1, 0, 0, 0), (40, .istore_n 1, 1, 0, 0, 0), (41, .iinc 2 1, 3, 0, 0, 0), (44, .goto (-40), 3, 4, 0, 0), (47, .iload_n 1, 1, 0, 0, 0), (48, .ireturn, 1, 0, 0, 0)]
def q_c33 : List (Nat × qX) := [(0, .aload_n 0, 1, 0, 0, 0), (1, .getfield 23, 3, 4, 4, 0), (4, .iconst 0, 1, 0, 0, 0), (5, .invokevirtual 57, 3, 38, 2, 0), (8, .iconst 0, 1, 0, 0, 0), (9, .istore_n 1, 1, 0, 0, 0), (10, .iconst 0, 1, 0, 0, 0), (11, .istore_n 2, 1, 0, 0, 0), (12, .iload_n 2, 1, 0, 0, 0), (13, .aload_n 0, 1, 0, 0, 0), (14, .getfield 33, 3, 4, 1, 0), (17, .invokevirtual 37, 3, 16, 1, 0), (20, .if_icmp .ge 46, 3, 66, 0, 0), (23, .aload_n 0, 1, 0, 0, 0), (24, .getfield 23, 3, 4, 4, 0), (27, .iload_n 2, 1, 0, 0, 0), (28, .invokevirtual 47, 3, 36, 2, 0), (31, .ifCond .ne 29, 3, 60, 0, 0), (34, .aload_n 0, 1, 0, 0, 0), (35, .getfield 29, 3, 4, 0, 0), (38, .aload_n 0, 1, 0, 0, 0), (39, .getfield 14, 3, 4, 2, 0), (42, .iload_n 2, 1, 0, 0, 0), (43, .invokevirtual 47, 3, 36, 2, 0), (46, .invokevirtual 81, 3, 47, 2, 0), (49, .ifCond .eq 11, 3, 60, 0, 0), (52, .aload_n 0, 1, 0, 0, 0), (53, .iload_n 2, 1, 0, 0, 0), (54, .invokevirtual 85, 3, 34, 2, 0), (57, .iinc 1 1, 3, 0, 0, 0), (60, .iinc 2 1, 3, 0, 0, 0), (63, .goto (-51), 3, 12, 0, 0), (66, .iload_n 1, 1, 0, 0, 0), (67, .ireturn, 1, 0, 0, 0)]
def q_c34_0 : List (Nat × qX) := [(0, .aload_n 0, 1, 0, 0, 0), (1, .getfield 23, 3, 4, 4, 0), (4, .iload_n 1, 1, 0, 0, 0), (5, .iconst 1, 1, 0, 0, 0), (6, .invokevirtual 60, 3, 37, 3, 0), (9, .aload_n 0, 1, 0, 0, 0), (10, .getfield 26, 3, 4, 5, 0), (13, .iconst 0, 1, 0, 0, 0), (14, .iload_n 1, 1, 0, 0, 0), (15, .invokevirtual 60, 3, 37, 3, 0), (18, .iconst 1, 1, 0, 0, 0), (19, .istore_n 2, 1, 0, 0, 0), (20, .iconst 0, 1, 0, 0, 0), (21, .istore_n 3, 1, 0, 0, 0), (22, .iload_n 3, 1, 0, 0, 0), (23, .bipush 36, 2, 0, 0, 0), (25, .if_icmp .ge 142, 3, 167, 0, 0), (28, .iload_n 2, 1, 0, 0, 0), (29, .ifCond .le 138, 3, 167, 0, 0), (32, .iinc 2 (-1), 3, 0, 0, 0), (35, .aload_n 0, 1, 0, 0, 0), (36, .getfield 26, 3, 4, 5, 0), (39, .iload_n 2, 1, 0, 0, 0), (40, .invokevirtual 47, 3, 36, 2, 0), (43, .istore 4, 2, 0, 0, 0), (45, .iconst 0, 1, 0, 0, 0), (46, .istore 5, 2, 0, 0, 0), (48, .iload 5, 2, 0, 0, 0), (50, .iconst 4, 1, 0, 0, 0), (51, .if_icmp .ge 110, 3, 161, 0, 0), (54, .aload_n 0, 1, 0, 0, 0), (55, .getfield 33, 3, 4, 1, 0), (58, .iload 4, 2, 0, 0, 0), (60, .iload 5, 2, 0, 0, 0), (62, .invokevirtual 43, 3, 20, 3, 0), (65, .istore 6, 2, 0, 0, 0), (67, .iload 6, 2, 0, 0, 0), (69, .iconst (-1), 1, 0, 0, 0), (70, .if_icmp .eq 85, 3, 155, 0, 0), (73, .aload_n 0, 1, 0, 0, 0), (74, .getfield 23, 3, 4, 4, 0), (77, .iload 6, 2, 0, 0, 0), (79, .invokevirtual 47, 3, 36, 2, 0), (82, .ifCond .ne 73, 3, 155, 0, 0), (85, .aload_n 0, 1, 0, 0, 0), (86, .getfield 29, 3, 4, 0, 0), (89, .aload_n 0, 1, 0, 0, 0), (90, .getfield 14, 3, 4, 2, 0), (93, .iload 4, 2, 0, 0, 0), (95, .invokevirtual 47, 3, 36, 2, 0), (98, .iload 5, 2, 0, 0, 0), (100, .invokevirtual 88, 3, 44, 3, 0), (103, .iconst 1, 1, 0, 0, 0), (104, .if_icmp .ne 51, 3, 155, 0, 0), (107, .aload_n 0, 1, 0, 0, 0), (108, .getfield 29, 3, 4, 0, 0), (111, .aload_n 0, 1, 0, 0, 0), (112, .getfield 14, 3, 4, 2, 0), (115, .iload 6, 2, 0, 0, 0), (117, .invokevirtual 47, 3, 36, 2, 0)]
def q_c34_1 : List (Nat × qX) := [(120, .iload 5, 2, 0, 0, 0), (122, .invokestatic 91, 3, 91, 1, 3), (125, .invokevirtual 88, 3, 44, 3, 0), (128, .iconst 1, 1, 0, 0, 0), (129, .if_icmp .ne 26, 3, 155, 0, 0), (132, .aload_n 0, 1, 0, 0, 0), (133, .getfield 23, 3, 4, 4, 0), (136, .iload 6, 2, 0, 0, 0), (138, .iconst 1, 1, 0, 0, 0), (139, .invokevirtual 60, 3, 37, 3, 0), (142, .aload_n 0, 1, 0, 0, 0), (143, .getfield 26, 3, 4, 5, 0), (146, .iload_n 2, 1, 0, 0, 0), (147, .iload 6, 2, 0, 0, 0), (149, .invokevirtual 60, 3, 37, 3, 0), (152, .iinc 2 1, 3, 0, 0, 0), (155, .iinc 5 1, 3, 0, 0, 0), (158, .goto (-110), 3, 48, 0, 0), (161, .iinc 3 1, 3, 0, 0, 0), (164, .goto (-142), 3, 22, 0, 0), (167, .return_, 1, 0, 0, 0)]
def q_c34 : List (Nat × qX) := q_c34_0 ++ q_c34_1
def q_c35 : List (Nat × qX) := [(0, .aload_n 0, 1, 0, 0, 0), (1, .invokespecial 1, 3, 998, 1, 6), (4, .aload_n 0, 1, 0, 0, 0), (5, .iload_n 1, 1, 0, 0, 0), (6, .iconst 0, 1, 0, 0, 0), (7, .invokestatic 7, 3, 999, 2, 7), (10, .newarray .int, 2, 0, 0, 0), (12, .putfield 13, 3, 5, 0, 2), (15, .return_, 1, 0, 0, 0)]
def q_c36 : List (Nat × qX) := [(0, .iload_n 1, 1, 0, 0, 0), (1, .ifCond .lt 21, 3, 22, 0, 0), (4, .iload_n 1, 1, 0, 0, 0), (5, .aload_n 0, 1, 0, 0, 0), (6, .getfield 13, 3, 5, 0, 0), (9, .arraylength, 1, 0, 0, 0), (10, .if_icmp .ge 12, 3, 22, 0, 0), (13, .aload_n 0, 1, 0, 0, 0), (14, .getfield 13, 3, 5, 0, 0), (17, .iload_n 1, 1, 0, 0, 0), (18, .iaload, 1, 0, 0, 0), (19, .goto 4, 3, 23, 0, 0), (22, .iconst 0, 1, 0, 0, 0), (23, .ireturn, 1, 0, 0, 0)]
def q_c37 : List (Nat × qX) := [(0, .iload_n 1, 1, 0, 0, 0), (1, .ifCond .lt 19, 3, 20, 0, 0), (4, .iload_n 1, 1, 0, 0, 0), (5, .aload_n 0, 1, 0, 0, 0), (6, .getfield 13, 3, 5, 0, 0), (9, .arraylength, 1, 0, 0, 0), (10, .if_icmp .ge 10, 3, 20, 0, 0), (13, .aload_n 0, 1, 0, 0, 0), (14, .getfield 13, 3, 5, 0, 0), (17, .iload_n 1, 1, 0, 0, 0), (18, .iload_n 2, 1, 0, 0, 0), (19, .iastore, 1, 0, 0, 0), (20, .return_, 1, 0, 0, 0)]
def q_c38 : List (Nat × qX) := [(0, .iconst 0, 1, 0, 0, 0), (1, .istore_n 2, 1, 0, 0, 0), (2, .iload_n 2, 1, 0, 0, 0), (3, .aload_n 0, 1, 0, 0, 0), (4, .getfield 13, 3, 5, 0, 0), (7, .arraylength, 1, 0, 0, 0), (8, .if_icmp .ge 16, 3, 24, 0, 0), (11, .aload_n 0, 1, 0, 0, 0), (12, .getfield 13, 3, 5, 0, 0), (15, .iload_n 2, 1, 0, 0, 0), (16, .iload_n 1, 1, 0, 0, 0), (17, .iastore, 1, 0, 0, 0), (18, .iinc 2 1, 3, 0, 0, 0), (21, .goto (-19), 3, 2, 0, 0), (24, .return_, 1, 0, 0, 0)]
def q_c39 : List (Nat × qX) := [(0, .aload_n 0, 1, 0, 0, 0), (1, .invokespecial 3, 3, 998, 1, 6), (4, .aload_n 0, 1, 0, 0, 0), (5, .new 9, 3, 5, 1, 0), (8, .dup, 1, 0, 0, 0), (9, .bipush 32, 2, 0, 0, 0), (11, .invokespecial 11, 3, 35, 2, 4), (14, .putfield 14, 3, 6, 0, 2), (17, .aload_n 0, 1, 0, 0, 0), (18, .new 9, 3, 5, 1, 0), (21, .dup, 1, 0, 0, 0), (22, .bipush 8, 2, 0, 0, 0), (24, .invokespecial 11, 3, 35, 2, 4), (27, .putfield 20, 3, 6, 1, 2), (30, .aload_n 0, 1, 0, 0, 0), (31, .new 9, 3, 5, 1, 0), (34, .dup, 1, 0, 0, 0), (35, .bipush 16, 2, 0, 0, 0), (37, .invokespecial 11, 3, 35, 2, 4), (40, .putfield 23, 3, 6, 2, 2), (43, .return_, 1, 0, 0, 0)]
def q_c40 : List (Nat × qX) := [(0, .aload_n 0, 1, 0, 0, 0), (1, .getfield 26, 3, 6, 3, 0), (4, .istore 6, 2, 0, 0, 0), (6, .aload_n 0, 1, 0, 0, 0), (7, .dup, 1, 0, 0, 0), (8, .getfield 26, 3, 6, 3, 0), (11, .iconst 1, 1, 0, 0, 0), (12, .iadd, 1, 0, 0, 0), (13, .putfield 26, 3, 6, 3, 0), (16, .aload_n 0, 1, 0, 0, 0), (17, .getfield 20, 3, 6, 1, 0), (20, .iload 6, 2, 0, 0, 0), (22, .iload 5, 2, 0, 0, 0), (24, .invokevirtual 30, 3, 37, 3, 0), (27, .aload_n 0, 1, 0, 0, 0), (28, .iload 6, 2, 0, 0, 0), (30, .iconst 0, 1, 0, 0, 0), (31, .iload_n 1, 1, 0, 0, 0), (32, .invokevirtual 34, 3, 41, 4, 0), (35, .aload_n 0, 1, 0, 0, 0), (36, .iload 6, 2, 0, 0, 0), (38, .iconst 1, 1, 0, 0, 0), (39, .iload_n 2, 1, 0, 0, 0), (40, .invokevirtual 34, 3, 41, 4, 0), (43, .aload_n 0, 1, 0, 0, 0), (44, .iload 6, 2, 0, 0, 0), (46, .iconst 2, 1, 0, 0, 0), (47, .iload_n 3, 1, 0, 0, 0), (48, .invokevirtual 34, 3, 41, 4, 0), (51, .aload_n 0, 1, 0, 0, 0), (52, .iload 6, 2, 0, 0, 0), (54, .iconst 3, 1, 0, 0, 0), (55, .iload 4, 2, 0, 0, 0), (57, .invokevirtual 34, 3, 41, 4, 0), (60, .iload 6, 2, 0, 0, 0), (62, .ireturn, 1, 0, 0, 0)]
def q_c41 : List (Nat × qX) := [(0, .iload_n 2, 1, 0, 0, 0), (1, .iconst 4, 1, 0, 0, 0), (2, .imul, 1, 0, 0, 0), (3, .iload_n 3, 1, 0, 0, 0), (4, .iadd, 1, 0, 0, 0), (5, .istore 4, 2, 0, 0, 0), (7, .aload_n 0, 1, 0, 0, 0), (8, .getfield 14, 3, 6, 0, 0), (11, .iload_n 1, 1, 0, 0, 0), (12, .iconst 4, 1, 0, 0, 0), (13, .imul, 1, 0, 0, 0), (14, .iload_n 2, 1, 0, 0, 0), (15, .iadd, 1, 0, 0, 0), (16, .iload_n 3, 1, 0, 0, 0), (17, .invokevirtual 30, 3, 37, 3, 0), (20, .aload_n 0, 1, 0, 0, 0), (21, .getfield 23, 3, 6, 2, 0), (24, .iload 4, 2, 0, 0, 0), (26, .aload_n 0, 1, 0, 0, 0), (27, .getfield 23, 3, 6, 2, 0), (30, .iload 4, 2, 0, 0, 0), (32, .invokevirtual 38, 3, 36, 2, 0), (35, .iconst 1, 1, 0, 0, 0), (36, .iload_n 1, 1, 0, 0, 0), (37, .ishl, 1, 0, 0, 0), (38, .ior, 1, 0, 0, 0), (39, .invokevirtual 30, 3, 37, 3, 0), (42, .return_, 1, 0, 0, 0)]
def q_c42 : List (Nat × qX) := [(0, .iload_n 1, 1, 0, 0, 0), (1, .ifCond .lt 15, 3, 16, 0, 0), (4, .iload_n 1, 1, 0, 0, 0), (5, .aload_n 0, 1, 0, 0, 0), (6, .getfield 26, 3, 6, 3, 0), (9, .if_icmp .ge 7, 3, 16, 0, 0), (12, .iconst 1, 1, 0, 0, 0), (13, .goto 4, 3, 17, 0, 0), (16, .iconst 0, 1, 0, 0, 0), (17, .ireturn, 1, 0, 0, 0)]
def q_c43 : List (Nat × qX) := [(0, .iconst 1, 1, 0, 0, 0), (1, .aload_n 0, 1, 0, 0, 0), (2, .getfield 26, 3, 6, 3, 0), (5, .ishl, 1, 0, 0, 0), (6, .iconst 1, 1, 0, 0, 0), (7, .isub, 1, 0, 0, 0), (8, .ireturn, 1, 0, 0, 0)]
def q_c44 : List (Nat × qX) := [(0, .aload_n 0, 1, 0, 0, 0), (1, .getfield 14, 3, 6, 0, 0), (4, .iload_n 1, 1, 0, 0, 0), (5, .iconst 4, 1, 0, 0, 0), (6, .imul, 1, 0, 0, 0), (7, .iload_n 2, 1, 0, 0, 0), (8, .iadd, 1, 0, 0, 0), (9, .invokevirtual 38, 3, 36, 2, 0), (12, .ireturn, 1, 0, 0, 0)]
def q_c45 : List (Nat × qX) := [(0, .aload_n 0, 1, 0, 0, 0), (1, .getfield 23, 3, 6, 2, 0), (4, .iload_n 1, 1, 0, 0, 0), (5, .iconst 4, 1, 0, 0, 0), (6, .imul, 1, 0, 0, 0), (7, .iload_n 2, 1, 0, 0, 0), (8, .iadd, 1, 0, 0, 0), (9, .invokevirtual 38, 3, 36, 2, 0), (12, .ireturn, 1, 0, 0, 0)]
def q_c46 : List (Nat × qX) := [(0, .aload_n 0, 1, 0, 0, 0), (1, .iload_n 1, 1, 0, 0, 0), (2, .iload_n 3, 1, 0, 0, 0), (3, .invokevirtual 42, 3, 44, 3, 0), (6, .aload_n 0, 1, 0, 0, 0), (7, .iload_n 2, 1, 0, 0, 0), (8, .iload_n 3, 1, 0, 0, 0), (9, .invokestatic 46, 3, 91, 1, 3), (12, .invokevirtual 42, 3, 44, 3, 0), (15, .if_icmp .ne 7, 3, 22, 0, 0), (18, .iconst 1, 1, 0, 0, 0), (19, .goto 4, 3, 23, 0, 0), (22, .iconst 0, 1, 0, 0, 0), (23, .ireturn, 1, 0, 0, 0)]
def q_c47 : List (Nat × qX) := [(0, .iconst 0, 1, 0, 0, 0), (1, .istore_n 2, 1, 0, 0, 0), (2, .iload_n 2, 1, 0, 0, 0), (3, .iconst 4, 1, 0, 0, 0), (4, .if_icmp .ge 21, 3, 25, 0, 0), (7, .aload_n 0, 1, 0, 0, 0), (8, .iload_n 1, 1, 0, 0, 0), (9, .iload_n 2, 1, 0, 0, 0), (10, .invokevirtual 42, 3, 44, 3, 0), (13, .iconst 1, 1, 0, 0, 0), (14, .if_icmp .ne 5, 3, 19, 0, 0), (17, .iconst 1, 1, 0, 0, 0), (18, .ireturn, 1, 0, 0, 0), (19, .iinc 2 1, 3, 0, 0, 0), (22, .goto (-20), 3, 2, 0, 0), (25, .iconst 0, 1, 0, 0, 0), (26, .ireturn, 1, 0, 0, 0)]
def q_c48 : List (Nat × qX) := [(0, .iload_n 2, 1, 0, 0, 0), (1, .invokestatic 46, 3, 91, 1, 3), (4, .istore_n 3, 1, 0, 0, 0), (5, .iconst 0, 1, 0, 0, 0), (6, .istore 4, 2, 0, 0, 0), (8, .iconst 0, 1, 0, 0, 0), (9, .istore 5, 2, 0, 0, 0), (11, .iload 5, 2, 0, 0, 0), (13, .iconst 4, 1, 0, 0, 0), (14, .if_icmp .ge 45, 3, 59, 0, 0), (17, .iload_n 1, 1, 0, 0, 0), (18, .aload_n 0, 1, 0, 0, 0), (19, .getfield 23, 3, 6, 2, 0), (22, .iload_n 2, 1, 0, 0, 0), (23, .iconst 4, 1, 0, 0, 0), (24, .imul, 1, 0, 0, 0), (25, .iload 5, 2, 0, 0, 0), (27, .iadd, 1, 0, 0, 0), (28, .invokevirtual 38, 3, 36, 2, 0), (31, .iand, 1, 0, 0, 0), (32, .ifCond .eq 21, 3, 53, 0, 0), (35, .iload 4, 2, 0, 0, 0), (37, .aload_n 0, 1, 0, 0, 0), (38, .getfield 23, 3, 6, 2, 0), (41, .iload_n 3, 1, 0, 0, 0), (42, .iconst 4, 1, 0, 0, 0), (43, .imul, 1, 0, 0, 0), (44, .iload 5, 2, 0, 0, 0), (46, .iadd, 1, 0, 0, 0), (47, .invokevirtual 38, 3, 36, 2, 0), (50, .ior, 1, 0, 0, 0), (51, .istore 4, 2, 0, 0, 0), (53, .iinc 5 1, 3, 0, 0, 0), (56, .goto (-45), 3, 11, 0, 0), (59, .iload 4, 2, 0, 0, 0), (61, .ireturn, 1, 0, 0, 0)]
def q_c49 : List (Nat × qX) := [(0, .iconst 0, 1, 0, 0, 0), (1, .istore_n 2, 1, 0, 0, 0), (2, .iload_n 2, 1, 0, 0, 0), (3, .bipush 8, 2, 0, 0, 0), (5, .if_icmp .ge 19, 3, 24, 0, 0), (8, .iload_n 2, 1, 0, 0, 0), (9, .iload_n 1, 1, 0, 0, 0), (10, .invokestatic 49, 3, 92, 2, 3), (13, .ifCond .eq 5, 3, 18, 0, 0), (16, .iload_n 2, 1, 0, 0, 0), (17, .ireturn, 1, 0, 0, 0), (18, .iinc 2 1, 3, 0, 0, 0), (21, .goto (-19), 3, 2, 0, 0), (24, .iconst (-1), 1, 0, 0, 0), (25, .ireturn, 1, 0, 0, 0)]
def q_c50_0 : List (Nat × qX) := [(0, .iconst 0, 1, 0, 0, 0), (1, .istore_n 3, 1, 0, 0, 0), (2, .iconst 0, 1, 0, 0, 0), (3, .istore 4, 2, 0, 0, 0), (5, .iload 4, 2, 0, 0, 0), (7, .aload_n 0, 1, 0, 0, 0), (8, .getfield 26, 3, 6, 3, 0), (11, .if_icmp .ge 34, 3, 45, 0, 0), (14, .iload_n 3, 1, 0, 0, 0), (15, .iload 4, 2, 0, 0, 0), (17, .iload_n 1, 1, 0, 0, 0), (18, .invokestatic 49, 3, 92, 2, 3), (21, .ifCond .eq 15, 3, 36, 0, 0), (24, .aload_n 0, 1, 0, 0, 0), (25, .getfield 20, 3, 6, 1, 0), (28, .iload 4, 2, 0, 0, 0), (30, .invokevirtual 38, 3, 36, 2, 0), (33, .goto 4, 3, 37, 0, 0), (36, .iconst 0, 1, 0, 0, 0), (37, .iadd, 1, 0, 0, 0), (38, .istore_n 3, 1, 0, 0, 0), (39, .iinc 4 1, 3, 0, 0, 0), (42, .goto (-37), 3, 5, 0, 0), (45, .iload_n 3, 1, 0, 0, 0), (46, .ifCond .le 9, 3, 55, 0, 0), (49, .iload_n 2, 1, 0, 0, 0), (50, .iload_n 3, 1, 0, 0, 0), (51, .irem, 1, 0, 0, 0), (52, .goto 4, 3, 56, 0, 0), (55, .iconst 0, 1, 0, 0, 0), (56, .istore 4, 2, 0, 0, 0), (58, .iconst 0, 1, 0, 0, 0), (59, .istore 5, 2, 0, 0, 0), (61, .iconst 0, 1, 0, 0, 0), (62, .istore 6, 2, 0, 0, 0), (64, .iload 6, 2, 0, 0, 0), (66, .aload_n 0, 1, 0, 0, 0), (67, .getfield 26, 3, 6, 3, 0), (70, .if_icmp .ge 46, 3, 116, 0, 0), (73, .iload 5, 2, 0, 0, 0), (75, .iload 6, 2, 0, 0, 0), (77, .iload_n 1, 1, 0, 0, 0), (78, .invokestatic 49, 3, 92, 2, 3), (81, .ifCond .eq 15, 3, 96, 0, 0), (84, .aload_n 0, 1, 0, 0, 0), (85, .getfield 20, 3, 6, 1, 0), (88, .iload 6, 2, 0, 0, 0), (90, .invokevirtual 38, 3, 36, 2, 0), (93, .goto 4, 3, 97, 0, 0), (96, .iconst 0, 1, 0, 0, 0), (97, .iadd, 1, 0, 0, 0), (98, .istore 5, 2, 0, 0, 0), (100, .iload 5, 2, 0, 0, 0), (102, .iload 4, 2, 0, 0, 0), (104, .if_icmp .le 6, 3, 110, 0, 0), (107, .iload 6, 2, 0, 0, 0), (109, .ireturn, 1, 0, 0, 0), (110, .iinc 6 1, 3, 0, 0, 0), (113, .goto (-49), 3, 64, 0, 0), (116, .aload_n 0, 1, 0, 0, 0)]
def q_c50_1 : List (Nat × qX) := [(117, .iload_n 1, 1, 0, 0, 0), (118, .invokevirtual 53, 3, 49, 2, 0), (121, .ireturn, 1, 0, 0, 0)]
def q_c50 : List (Nat × qX) := q_c50_0 ++ q_c50_1
def q_c51 : List (Nat × qX) := [(0, .aload_n 0, 1, 0, 0, 0), (1, .invokespecial 3, 3, 998, 1, 6), (4, .aload_n 0, 1, 0, 0, 0), (5, .new 9, 3, 5, 1, 0), (8, .dup, 1, 0, 0, 0), (9, .bipush 8, 2, 0, 0, 0), (11, .invokespecial 11, 3, 35, 2, 4), (14, .putfield 14, 3, 7, 0, 2), (17, .aload_n 0, 1, 0, 0, 0), (18, .getfield 14, 3, 7, 0, 0), (21, .iconst (-1), 1, 0, 0, 0), (22, .invokevirtual 20, 3, 38, 2, 0), (25, .return_, 1, 0, 0, 0)]
def q_c52 : List (Nat × qX) := [(0, .aload_n 0, 1, 0, 0, 0), (1, .getfield 14, 3, 7, 0, 0), (4, .iload_n 1, 1, 0, 0, 0), (5, .invokevirtual 23, 3, 36, 2, 0), (8, .istore_n 3, 1, 0, 0, 0), (9, .iload_n 3, 1, 0, 0, 0), (10, .iconst (-1), 1, 0, 0, 0), (11, .if_icmp .eq 8, 3, 19, 0, 0), (14, .iload_n 2, 1, 0, 0, 0), (15, .iload_n 3, 1, 0, 0, 0), (16, .if_icmp .gt 7, 3, 23, 0, 0), (19, .iconst 1, 1, 0, 0, 0), (20, .goto 4, 3, 24, 0, 0), (23, .iconst 0, 1, 0, 0, 0), (24, .ireturn, 1, 0, 0, 0)]
def q_c53 : List (Nat × qX) := [(0, .aload_n 0, 1, 0, 0, 0), (1, .invokespecial 3, 3, 998, 1, 6), (4, .aload_n 0, 1, 0, 0, 0), (5, .new 9, 3, 2, 2, 0), (8, .dup, 1, 0, 0, 0), (9, .iconst 3, 1, 0, 0, 0), (10, .iconst 3, 1, 0, 0, 0), (11, .invokespecial 11, 3, 14, 3, 4), (14, .putfield 14, 3, 8, 1, 2), (17, .aload_n 0, 1, 0, 0, 0), (18, .new 20, 3, 5, 1, 0), (21, .dup, 1, 0, 0, 0), (22, .bipush 36, 2, 0, 0, 0), (24, .invokespecial 22, 3, 35, 2, 4), (27, .putfield 25, 3, 8, 2, 2), (30, .aload_n 0, 1, 0, 0, 0), (31, .new 20, 3, 5, 1, 0), (34, .dup, 1, 0, 0, 0), (35, .bipush 36, 2, 0, 0, 0), (37, .invokespecial 22, 3, 35, 2, 4), (40, .putfield 29, 3, 8, 3, 2), (43, .aload_n 0, 1, 0, 0, 0), (44, .aload_n 1, 1, 0, 0, 0), (45, .putfield 32, 3, 8, 0, 2), (48, .aload_n 0, 1, 0, 0, 0), (49, .getfield 25, 3, 8, 2, 0), (52, .iconst (-1), 1, 0, 0, 0), (53, .invokevirtual 36, 3, 38, 2, 0), (56, .return_, 1, 0, 0, 0)]
def q_c54 : List (Nat × qX) := [(0, .aload_n 0, 1, 0, 0, 0), (1, .getfield 14, 3, 8, 1, 0), (4, .iload_n 1, 1, 0, 0, 0), (5, .iload_n 2, 1, 0, 0, 0), (6, .invokevirtual 39, 3, 15, 3, 0), (9, .aload_n 0, 1, 0, 0, 0), (10, .getfield 25, 3, 8, 2, 0), (13, .iconst (-1), 1, 0, 0, 0), (14, .invokevirtual 36, 3, 38, 2, 0), (17, .aload_n 0, 1, 0, 0, 0), (18, .getfield 29, 3, 8, 3, 0), (21, .iconst 0, 1, 0, 0, 0), (22, .invokevirtual 36, 3, 38, 2, 0), (25, .return_, 1, 0, 0, 0)]
def q_c55 : List (Nat × qX) := [(0, .iload_n 1, 1, 0, 0, 0), (1, .ifCond .lt 21, 3, 22, 0, 0), (4, .iload_n 1, 1, 0, 0, 0), (5, .aload_n 0, 1, 0, 0, 0), (6, .getfield 13, 3, 5, 0, 0), (9, .arraylength, 1, 0, 0, 0), (10, .if_icmp .ge 12, 3, 22, 0, 0), (13, .aload_n 0, 1, 0, 0, 0), (14, .getfield 13, 3, 5, 0, 0), (17, .iload_n 1, 1, 0, 0, 0), (18, .iaload, 1, 0, 0, 0), (19, .goto 4, 3, 23, 0, 0), (22, .iconst 0, 1, 0, 0, 0), (23, .ireturn, 1, 0, 0, 0)]
def q_c56 : List (Nat × qX) := [(0, .iload_n 1, 1, 0, 0, 0), (1, .ifCond .lt 21, 3, 22, 0, 0), (4, .iload_n 1, 1, 0, 0, 0), (5, .aload_n 0, 1, 0, 0, 0), (6, .getfield 13, 3, 5, 0, 0), (9, .arraylength, 1, 0, 0, 0), (10, .if_icmp .ge 12, 3, 22, 0, 0), (13, .aload_n 0, 1, 0, 0, 0), (14, .getfield 13, 3, 5, 0, 0), (17, .iload_n 1, 1, 0, 0, 0), (18, .iaload, 1, 0, 0, 0), (19, .goto 4, 3, 23, 0, 0), (22, .iconst 0, 1, 0, 0, 0), (23, .ireturn, 1, 0, 0, 0)]
def q_c57 : List (Nat × qX) := [(0, .iload_n 1, 1, 0, 0, 0), (1, .ifCond .lt 21, 3, 22, 0, 0), (4, .iload_n 1, 1, 0, 0, 0), (5, .aload_n 0, 1, 0, 0, 0), (6, .getfield 13, 3, 5, 0, 0), (9, .arraylength, 1, 0, 0, 0), (10, .if_icmp .ge 12, 3, 22, 0, 0), (13, .aload_n 0, 1, 0, 0, 0), (14, .getfield 13, 3, 5, 0, 0), (17, .iload_n 1, 1, 0, 0, 0), (18, .iaload, 1, 0, 0, 0), (19, .goto 4, 3, 23, 0, 0), (22, .iconst 0, 1, 0, 0, 0), (23, .ireturn, 1, 0, 0, 0)]
def q_c58 : List (Nat × qX) := [(0, .aload_n 0, 1, 0, 0, 0), (1, .getfield 25, 3, 8, 2, 0), (4, .iload_n 1, 1, 0, 0, 0), (5, .invokevirtual 42, 3, 36, 2, 0), (8, .istore_n 2, 1, 0, 0, 0), (9, .iload_n 2, 1, 0, 0, 0), (10, .iconst (-1), 1, 0, 0, 0), (11, .if_icmp .ne 13, 3, 24, 0, 0), (14, .aload_n 0, 1, 0, 0, 0), (15, .getfield 32, 3, 8, 0, 0), (18, .invokevirtual 58, 3, 43, 1, 0), (21, .goto 6, 3, 27, 0, 0), (24, .iconst 1, 1, 0, 0, 0), (25, .iload_n 2, 1, 0, 0, 0), (26, .ishl, 1, 0, 0, 0), (27, .istore_n 3, 1, 0, 0, 0), (28, .iload_n 3, 1, 0, 0, 0), (29, .aload_n 0, 1, 0, 0, 0), (30, .getfield 29, 3, 8, 3, 0), (33, .iload_n 1, 1, 0, 0, 0), (34, .invokevirtual 42, 3, 36, 2, 0), (37, .iconst (-1), 1, 0, 0, 0), (38, .ixor, 1, 0, 0, 0), (39, .iand, 1, 0, 0, 0), (40, .ireturn, 1, 0, 0, 0)]
def q_c59 : List (Nat × qX) := [(0, .iconst 0, 1, 0, 0, 0), (1, .istore_n 2, 1, 0, 0, 0), (2, .iload_n 2, 1, 0, 0, 0), (3, .aload_n 0, 1, 0, 0, 0), (4, .getfield 14, 3, 8, 1, 0), (7, .invokevirtual 64, 3, 16, 1, 0), (10, .if_icmp .ge 19, 3, 29, 0, 0), (13, .aload_n 1, 1, 0, 0, 0), (14, .iload_n 2, 1, 0, 0, 0), (15, .aload_n 0, 1, 0, 0, 0), (16, .iload_n 2, 1, 0, 0, 0), (17, .invokevirtual 67, 3, 58, 2, 0), (20, .invokevirtual 70, 3, 22, 3, 0), (23, .iinc 2 1, 3, 0, 0, 0), (26, .goto (-24), 3, 2, 0, 0), (29, .return_, 1, 0, 0, 0)]
def q_c60_0 : List (Nat × qX) := [(0, .aload_n 0, 1, 0, 0, 0), (1, .invokespecial 3, 3, 998, 1, 6), (4, .aload_n 0, 1, 0, 0, 0), (5, .new 9, 3, 6, 4, 0), (8, .dup, 1, 0, 0, 0), (9, .invokespecial 11, 3, 39, 1, 5), (12, .putfield 12, 3, 9, 0, 2), (15, .aload_n 0, 1, 0, 0, 0), (16, .new 16, 3, 7, 2, 0), (19, .dup, 1, 0, 0, 0), (20, .invokespecial 18, 3, 51, 1, 4), (23, .putfield 19, 3, 9, 1, 2), (26, .aload_n 0, 1, 0, 0, 0), (27, .new 23, 3, 8, 4, 0), (30, .dup, 1, 0, 0, 0), (31, .aload_n 0, 1, 0, 0, 0), (32, .getfield 12, 3, 9, 0, 0), (35, .invokespecial 25, 3, 53, 2, 4), (38, .putfield 28, 3, 9, 2, 2), (41, .aload_n 0, 1, 0, 0, 0), (42, .new 32, 3, 3, 6, 0), (45, .dup, 1, 0, 0, 0), (46, .aload_n 0, 1, 0, 0, 0), (47, .getfield 12, 3, 9, 0, 0), (50, .aload_n 0, 1, 0, 0, 0), (51, .getfield 28, 3, 9, 2, 0), (54, .getfield 34, 3, 8, 1, 1), (57, .invokespecial 38, 3, 21, 3, 4), (60, .putfield 41, 3, 9, 3, 2), (63, .aload_n 0, 1, 0, 0, 0), (64, .new 32, 3, 3, 6, 0), (67, .dup, 1, 0, 0, 0), (68, .aload_n 0, 1, 0, 0, 0), (69, .getfield 12, 3, 9, 0, 0), (72, .aload_n 0, 1, 0, 0, 0), (73, .getfield 28, 3, 9, 2, 0), (76, .getfield 34, 3, 8, 1, 1), (79, .invokespecial 38, 3, 21, 3, 4), (82, .putfield 45, 3, 9, 4, 2), (85, .aload_n 0, 1, 0, 0, 0), (86, .new 48, 3, 1, 13, 0), (89, .dup, 1, 0, 0, 0), (90, .aload_n 0, 1, 0, 0, 0), (91, .getfield 12, 3, 9, 0, 0), (94, .aload_n 0, 1, 0, 0, 0), (95, .getfield 28, 3, 9, 2, 0), (98, .getfield 34, 3, 8, 1, 1), (101, .aload_n 0, 1, 0, 0, 0), (102, .getfield 19, 3, 9, 1, 0), (105, .invokespecial 50, 3, 7, 4, 4), (108, .putfield 53, 3, 9, 5, 2), (111, .aload_n 0, 1, 0, 0, 0), (112, .new 57, 3, 4, 6, 0), (115, .dup, 1, 0, 0, 0), (116, .aload_n 0, 1, 0, 0, 0), (117, .getfield 12, 3, 9, 0, 0), (120, .aload_n 0, 1, 0, 0, 0), (121, .getfield 28, 3, 9, 2, 0), (124, .getfield 34, 3, 8, 1, 1), (127, .invokespecial 59, 3, 28, 3, 4)]
def q_c60_1 : List (Nat × qX) := [(130, .putfield 60, 3, 9, 6, 2), (133, .aload_n 0, 1, 0, 0, 0), (134, .new 64, 3, 2, 2, 0), (137, .dup, 1, 0, 0, 0), (138, .iconst 3, 1, 0, 0, 0), (139, .iconst 3, 1, 0, 0, 0), (140, .invokespecial 66, 3, 14, 3, 4), (143, .putfield 69, 3, 9, 7, 2), (146, .aload_n 0, 1, 0, 0, 0), (147, .new 48, 3, 1, 13, 0), (150, .dup, 1, 0, 0, 0), (151, .aload_n 0, 1, 0, 0, 0), (152, .getfield 12, 3, 9, 0, 0), (155, .aload_n 0, 1, 0, 0, 0), (156, .getfield 69, 3, 9, 7, 0), (159, .new 16, 3, 7, 2, 0), (162, .dup, 1, 0, 0, 0), (163, .invokespecial 18, 3, 51, 1, 4), (166, .invokespecial 50, 3, 7, 4, 4), (169, .putfield 72, 3, 9, 8, 2), (172, .aload_n 0, 1, 0, 0, 0), (173, .new 75, 3, 0, 4, 0), (176, .dup, 1, 0, 0, 0), (177, .invokespecial 77, 3, 0, 1, 5), (180, .putfield 78, 3, 9, 9, 2), (183, .aload_n 0, 1, 0, 0, 0), (184, .iconst 0, 1, 0, 0, 0), (185, .putfield 82, 3, 9, 10, 0), (188, .aload_n 0, 1, 0, 0, 0), (189, .iconst 0, 1, 0, 0, 0), (190, .putfield 86, 3, 9, 11, 0), (193, .return_, 1, 0, 0, 0)]
def q_c60 : List (Nat × qX) := q_c60_0 ++ q_c60_1
def q_c61 : List (Nat × qX) := [(0, .iload_n 1, 1, 0, 0, 0), (1, .invokestatic 90, 3, 89, 1, 2), (4, .ifCond .eq 36, 3, 40, 0, 0), (7, .iload_n 2, 1, 0, 0, 0), (8, .invokestatic 90, 3, 89, 1, 2), (11, .ifCond .eq 29, 3, 40, 0, 0), (14, .iload_n 3, 1, 0, 0, 0), (15, .invokestatic 90, 3, 89, 1, 2), (18, .ifCond .eq 22, 3, 40, 0, 0), (21, .iload 4, 2, 0, 0, 0), (23, .invokestatic 90, 3, 89, 1, 2), (26, .ifCond .eq 14, 3, 40, 0, 0), (29, .iload 5, 2, 0, 0, 0), (31, .iconst 1, 1, 0, 0, 0), (32, .bipush 9, 2, 0, 0, 0), (34, .invokestatic 94, 3, 88, 3, 2), (37, .ifCond .ne 13, 3, 50, 0, 0), (40, .new 98, 3, 1000, 100, 0), (50, .aload_n 0, 1, 0, 0, 0), (51, .getfield 12, 3, 9, 0, 0), (54, .getfield 105, 3, 6, 3, 1), (57, .bipush 8, 2, 0, 0, 0), (59, .if_icmp .lt 13, 3, 72, 0, 0), (62, .new 108, 3, 1001, 110, 0), (72, .aload_n 0, 1, 0, 0, 0), (73, .getfield 78, 3, 9, 9, 0), (76, .invokevirtual 113, 3, 1, 1, 0), (79, .aload_n 0, 1, 0, 0, 0), (80, .iconst 0, 1, 0, 0, 0), (81, .putfield 86, 3, 9, 11, 0), (84, .aload_n 0, 1, 0, 0, 0), (85, .getfield 12, 3, 9, 0, 0), (88, .iload_n 1, 1, 0, 0, 0), (89, .iload_n 2, 1, 0, 0, 0), (90, .iload_n 3, 1, 0, 0, 0), (91, .iload 4, 2, 0, 0, 0), (93, .iload 5, 2, 0, 0, 0), (95, .invokevirtual 116, 3, 40, 6, 0), (98, .ireturn, 1, 0, 0, 0)]
def q_c62 : List (Nat × qX) := [(0, .iload_n 1, 1, 0, 0, 0), (1, .iconst 0, 1, 0, 0, 0), (2, .ldc 120, 2, 99999, 0, 0), (4, .invokestatic 94, 3, 88, 3, 2), (7, .ifCond .ne 13, 3, 20, 0, 0), (10, .new 98, 3, 1000, 121, 0), (20, .aload_n 0, 1, 0, 0, 0), (21, .getfield 82, 3, 9, 10, 0), (24, .istore_n 2, 1, 0, 0, 0), (25, .aload_n 0, 1, 0, 0, 0), (26, .iload_n 1, 1, 0, 0, 0), (27, .putfield 82, 3, 9, 10, 0), (30, .aload_n 0, 1, 0, 0, 0), (31, .getfield 78, 3, 9, 9, 0), (34, .invokevirtual 113, 3, 1, 1, 0), (37, .aload_n 0, 1, 0, 0, 0), (38, .iconst 0, 1, 0, 0, 0), (39, .putfield 86, 3, 9, 11, 0), (42, .iload_n 2, 1, 0, 0, 0), (43, .ireturn, 1, 0, 0, 0)]
def q_c63 : List (Nat × qX) := [(0, .iload_n 1, 1, 0, 0, 0), (1, .iconst 1, 1, 0, 0, 0), (2, .bipush 6, 2, 0, 0, 0), (4, .invokestatic 94, 3, 88, 3, 2), (7, .ifCond .eq 13, 3, 20, 0, 0), (10, .iload_n 2, 1, 0, 0, 0), (11, .iconst 1, 1, 0, 0, 0), (12, .bipush 6, 2, 0, 0, 0), (14, .invokestatic 94, 3, 88, 3, 2), (17, .ifCond .ne 13, 3, 30, 0, 0), (20, .new 98, 3, 1000, 123, 0), (30, .aload_n 0, 1, 0, 0, 0), (31, .getfield 28, 3, 9, 2, 0), (34, .iload_n 1, 1, 0, 0, 0), (35, .iload_n 2, 1, 0, 0, 0), (36, .invokevirtual 125, 3, 54, 3, 0), (39, .aload_n 0, 1, 0, 0, 0), (40, .iconst 0, 1, 0, 0, 0), (41, .putfield 86, 3, 9, 11, 0), (44, .aload_n 0, 1, 0, 0, 0), (45, .getfield 28, 3, 9, 2, 0), (48, .getfield 34, 3, 8, 1, 1), (51, .invokevirtual 128, 3, 16, 1, 0), (54, .ireturn, 1, 0, 0, 0)]
def q_c64 : List (Nat × qX) := [(0, .iload_n 1, 1, 0, 0, 0), (1, .ifCond .lt 21, 3, 22, 0, 0), (4, .iload_n 1, 1, 0, 0, 0), (5, .aload_n 0, 1, 0, 0, 0), (6, .getfield 13, 3, 5, 0, 0), (9, .arraylength, 1, 0, 0, 0), (10, .if_icmp .ge 12, 3, 22, 0, 0), (13, .aload_n 0, 1, 0, 0, 0), (14, .getfield 13, 3, 5, 0, 0), (17, .iload_n 1, 1, 0, 0, 0), (18, .iaload, 1, 0, 0, 0), (19, .goto 4, 3, 23, 0, 0), (22, .iconst 0, 1, 0, 0, 0), (23, .ireturn, 1, 0, 0, 0)]
def q_c65 : List (Nat × qX) := [(0, .iload_n 1, 1, 0, 0, 0), (1, .ifCond .lt 21, 3, 22, 0, 0), (4, .iload_n 1, 1, 0, 0, 0), (5, .aload_n 0, 1, 0, 0, 0), (6, .getfield 13, 3, 5, 0, 0), (9, .arraylength, 1, 0, 0, 0), (10, .if_icmp .ge 12, 3, 22, 0, 0), (13, .aload_n 0, 1, 0, 0, 0), (14, .getfield 13, 3, 5, 0, 0), (17, .iload_n 1, 1, 0, 0, 0), (18, .iaload, 1, 0, 0, 0), (19, .goto 4, 3, 23, 0, 0), (22, .iconst 0, 1, 0, 0, 0), (23, .ireturn, 1, 0, 0, 0)]
def q_c66 : List (Nat × qX) := [(0, .iload_n 1, 1, 0, 0, 0), (1, .ifCond .lt 21, 3, 22, 0, 0), (4, .iload_n 1, 1, 0, 0, 0), (5, .aload_n 0, 1, 0, 0, 0), (6, .getfield 13, 3, 5, 0, 0), (9, .arraylength, 1, 0, 0, 0), (10, .if_icmp .ge 12, 3, 22, 0, 0), (13, .aload_n 0, 1, 0, 0, 0), (14, .getfield 13, 3, 5, 0, 0), (17, .iload_n 1, 1, 0, 0, 0), (18, .iaload, 1, 0, 0, 0), (19, .goto 4, 3, 23, 0, 0), (22, .iconst 0, 1, 0, 0, 0), (23, .ireturn, 1, 0, 0, 0)]
def q_c67 : List (Nat × qX) := [(0, .aload_n 0, 1, 0, 0, 0), (1, .getfield 12, 3, 9, 0, 0), (4, .iload_n 1, 1, 0, 0, 0), (5, .invokevirtual 140, 3, 42, 2, 0), (8, .ifCond .ne 13, 3, 21, 0, 0), (11, .new 141, 3, 1003, 143, 0), (21, .iload_n 2, 1, 0, 0, 0), (22, .iconst (-1), 1, 0, 0, 0), (23, .bipush 36, 2, 0, 0, 0), (25, .invokestatic 94, 3, 88, 3, 2), (28, .ifCond .ne 13, 3, 41, 0, 0), (31, .new 98, 3, 1000, 158, 0), (41, .aload_n 0, 1, 0, 0, 0), (42, .getfield 19, 3, 9, 1, 0), (45, .getfield 160, 3, 7, 0, 1), (48, .iload_n 1, 1, 0, 0, 0), (49, .invokevirtual 164, 3, 36, 2, 0), (52, .istore_n 3, 1, 0, 0, 0), (53, .aload_n 0, 1, 0, 0, 0), (54, .getfield 19, 3, 9, 1, 0), (57, .getfield 160, 3, 7, 0, 1), (60, .iload_n 1, 1, 0, 0, 0), (61, .iload_n 2, 1, 0, 0, 0), (62, .invokevirtual 169, 3, 37, 3, 0), (65, .aload_n 0, 1, 0, 0, 0), (66, .iconst 0, 1, 0, 0, 0), (67, .putfield 86, 3, 9, 11, 0), (70, .iload_n 3, 1, 0, 0, 0), (71, .ireturn, 1, 0, 0, 0)]
def q_c68 : List (Nat × qX) := [(0, .aload_n 0, 1, 0, 0, 0), (1, .getfield 19, 3, 9, 1, 0), (4, .getfield 172, 3, 7, 1, 1), (7, .istore_n 2, 1, 0, 0, 0), (8, .aload_n 0, 1, 0, 0, 0), (9, .getfield 19, 3, 9, 1, 0), (12, .iload_n 1, 1, 0, 0, 0), (13, .putfield 172, 3, 7, 1, 1), (16, .aload_n 0, 1, 0, 0, 0), (17, .iconst 0, 1, 0, 0, 0), (18, .putfield 86, 3, 9, 11, 0), (21, .iload_n 2, 1, 0, 0, 0), (22, .ireturn, 1, 0, 0, 0)]
def q_c69 : List (Nat × qX) := [(0, .iload_n 1, 1, 0, 0, 0), (1, .ifCond .lt 21, 3, 22, 0, 0), (4, .iload_n 1, 1, 0, 0, 0), (5, .aload_n 0, 1, 0, 0, 0), (6, .getfield 13, 3, 5, 0, 0), (9, .arraylength, 1, 0, 0, 0), (10, .if_icmp .ge 12, 3, 22, 0, 0), (13, .aload_n 0, 1, 0, 0, 0), (14, .getfield 13, 3, 5, 0, 0), (17, .iload_n 1, 1, 0, 0, 0), (18, .iaload, 1, 0, 0, 0), (19, .goto 4, 3, 23, 0, 0), (22, .iconst 0, 1, 0, 0, 0), (23, .ireturn, 1, 0, 0, 0)]
def q_c70 : List (Nat × qX) := [(0, .iload_n 1, 1, 0, 0, 0), (1, .ifCond .lt 21, 3, 22, 0, 0), (4, .iload_n 1, 1, 0, 0, 0), (5, .aload_n 0, 1, 0, 0, 0), (6, .getfield 13, 3, 5, 0, 0), (9, .arraylength, 1, 0, 0, 0), (10, .if_icmp .ge 12, 3, 22, 0, 0), (13, .aload_n 0, 1, 0, 0, 0), (14, .getfield 13, 3, 5, 0, 0), (17, .iload_n 1, 1, 0, 0, 0), (18, .iaload, 1, 0, 0, 0), (19, .goto 4, 3, 23, 0, 0), (22, .iconst 0, 1, 0, 0, 0), (23, .ireturn, 1, 0, 0, 0)]
def q_c71 : List (Nat × qX) := [(0, .iload_n 1, 1, 0, 0, 0), (1, .ifCond .lt 21, 3, 22, 0, 0), (4, .iload_n 1, 1, 0, 0, 0), (5, .aload_n 0, 1, 0, 0, 0), (6, .getfield 13, 3, 5, 0, 0), (9, .arraylength, 1, 0, 0, 0), (10, .if_icmp .ge 12, 3, 22, 0, 0), (13, .aload_n 0, 1, 0, 0, 0), (14, .getfield 13, 3, 5, 0, 0), (17, .iload_n 1, 1, 0, 0, 0), (18, .iaload, 1, 0, 0, 0), (19, .goto 4, 3, 23, 0, 0), (22, .iconst 0, 1, 0, 0, 0), (23, .ireturn, 1, 0, 0, 0)]
def q_c72 : List (Nat × qX) := [(0, .iload_n 1, 1, 0, 0, 0), (1, .iconst 0, 1, 0, 0, 0), (2, .sipush 200, 3, 0, 0, 0), (5, .invokestatic 94, 3, 88, 3, 2), (8, .ifCond .ne 13, 3, 21, 0, 0), (11, .new 98, 3, 1000, 198, 0), (21, .aload_n 0, 1, 0, 0, 0), (22, .getfield 12, 3, 9, 0, 0), (25, .getfield 105, 3, 6, 3, 1), (28, .ifCond .ne 13, 3, 41, 0, 0), (31, .new 108, 3, 1001, 200, 0), (41, .aload_n 0, 1, 0, 0, 0), (42, .getfield 28, 3, 9, 2, 0), (45, .aload_n 0, 1, 0, 0, 0), (46, .getfield 53, 3, 9, 5, 0), (49, .getfield 202, 3, 1, 3, 1), (52, .invokevirtual 180, 3, 59, 2, 0), (55, .aload_n 0, 1, 0, 0, 0), (56, .getfield 53, 3, 9, 5, 0), (59, .aload_n 0, 1, 0, 0, 0), (60, .getfield 82, 3, 9, 10, 0), (63, .iload_n 1, 1, 0, 0, 0), (64, .invokevirtual 205, 3, 8, 3, 0), (67, .istore_n 2, 1, 0, 0, 0), (68, .aload_n 0, 1, 0, 0, 0), (69, .iload_n 2, 1, 0, 0, 0), (70, .bipush 100, 2, 0, 0, 0), (72, .if_icmp .ne 7, 3, 79, 0, 0), (75, .iconst 1, 1, 0, 0, 0), (76, .goto 4, 3, 80, 0, 0), (79, .iconst 0, 1, 0, 0, 0), (80, .putfield 86, 3, 9, 11, 0), (83, .iload_n 2, 1, 0, 0, 0), (84, .ireturn, 1, 0, 0, 0)]
def q_c73 : List (Nat × qX) := [(0, .aload_n 0, 1, 0, 0, 0), (1, .getfield 86, 3, 9, 11, 0), (4, .ireturn, 1, 0, 0, 0)]
def q_c74 : List (Nat × qX) := [(0, .aload_n 0, 1, 0, 0, 0), (1, .getfield 28, 3, 9, 2, 0), (4, .getfield 34, 3, 8, 1, 1), (7, .iload_n 1, 1, 0, 0, 0), (8, .invokevirtual 132, 3, 17, 2, 0), (11, .ifCond .ne 13, 3, 24, 0, 0), (14, .new 135, 3, 1002, 137, 0), (24, .aload_n 0, 1, 0, 0, 0), (25, .getfield 86, 3, 9, 11, 0), (28, .ifCond .ne 13, 3, 41, 0, 0), (31, .new 108, 3, 1001, 209, 0), (41, .aload_n 0, 1, 0, 0, 0), (42, .getfield 53, 3, 9, 5, 0), (45, .getfield 211, 3, 1, 4, 1), (48, .getfield 214, 3, 4, 2, 1), (51, .iload_n 1, 1, 0, 0, 0), (52, .invokevirtual 164, 3, 36, 2, 0), (55, .ireturn, 1, 0, 0, 0)]
def q_c75 : List (Nat × qX) := [(0, .aload_n 0, 1, 0, 0, 0), (1, .getfield 53, 3, 9, 5, 0), (4, .getfield 217, 3, 1, 11, 1), (7, .ireturn, 1, 0, 0, 0)]
def q_c76 : List (Nat × qX) := [(0, .aload_n 0, 1, 0, 0, 0), (1, .getfield 53, 3, 9, 5, 0), (4, .getfield 220, 3, 1, 12, 1), (7, .ireturn, 1, 0, 0, 0)]
def q_c77 : List (Nat × qX) := [(0, .aload_n 0, 1, 0, 0, 0), (1, .getfield 28, 3, 9, 2, 0), (4, .getfield 34, 3, 8, 1, 1), (7, .invokevirtual 128, 3, 16, 1, 0), (10, .iconst 4, 1, 0, 0, 0), (11, .if_icmp .le 13, 3, 24, 0, 0), (14, .new 223, 3, 1004, 225, 0), (24, .iconst 1, 1, 0, 0, 0), (25, .istore_n 1, 1, 0, 0, 0), (26, .iconst 0, 1, 0, 0, 0), (27, .istore_n 2, 1, 0, 0, 0), (28, .iload_n 2, 1, 0, 0, 0), (29, .aload_n 0, 1, 0, 0, 0), (30, .getfield 28, 3, 9, 2, 0), (33, .getfield 34, 3, 8, 1, 1), (36, .invokevirtual 128, 3, 16, 1, 0), (39, .if_icmp .ge 19, 3, 58, 0, 0), (42, .iload_n 1, 1, 0, 0, 0), (43, .aload_n 0, 1, 0, 0, 0), (44, .getfield 12, 3, 9, 0, 0), (47, .getfield 105, 3, 6, 3, 1), (50, .imul, 1, 0, 0, 0), (51, .istore_n 1, 1, 0, 0, 0), (52, .iinc 2 1, 3, 0, 0, 0), (55, .goto (-27), 3, 28, 0, 0), (58, .iconst 0, 1, 0, 0, 0), (59, .istore_n 2, 1, 0, 0, 0), (60, .iconst 0, 1, 0, 0, 0), (61, .istore_n 3, 1, 0, 0, 0), (62, .iload_n 3, 1, 0, 0, 0), (63, .iload_n 1, 1, 0, 0, 0), (64, .if_icmp .ge 20, 3, 84, 0, 0), (67, .aload_n 0, 1, 0, 0, 0), (68, .iload_n 3, 1, 0, 0, 0), (69, .invokevirtual 228, 3, 93, 2, 0), (72, .ifCond .eq 6, 3, 78, 0, 0), (75, .iinc 2 1, 3, 0, 0, 0), (78, .iinc 3 1, 3, 0, 0, 0), (81, .goto (-19), 3, 62, 0, 0), (84, .iload_n 2, 1, 0, 0, 0), (85, .ireturn, 1, 0, 0, 0)]
def q_c78 : List (Nat × qX) := [(0, .aload_n 0, 1, 0, 0, 0), (1, .getfield 86, 3, 9, 11, 0), (4, .ifCond .ne 13, 3, 17, 0, 0), (7, .new 108, 3, 1001, 209, 0), (17, .aload_n 0, 1, 0, 0, 0), (18, .getfield 53, 3, 9, 5, 0), (21, .getfield 211, 3, 1, 4, 1), (24, .invokevirtual 231, 3, 33, 1, 0), (27, .ireturn, 1, 0, 0, 0)]
def q_c79 : List (Nat × qX) := [(0, .iload_n 1, 1, 0, 0, 0), (1, .iload_n 2, 1, 0, 0, 0), (2, .invokestatic 234, 3, 90, 2, 2), (5, .ifCond .ne 13, 3, 18, 0, 0), (8, .new 98, 3, 1000, 237, 0), (18, .aload_n 0, 1, 0, 0, 0), (19, .getfield 78, 3, 9, 9, 0), (22, .iload_n 1, 1, 0, 0, 0), (23, .iload_n 2, 1, 0, 0, 0), (24, .invokevirtual 239, 3, 2, 3, 0), (27, .istore_n 3, 1, 0, 0, 0), (28, .aload_n 0, 1, 0, 0, 0), (29, .getfield 12, 3, 9, 0, 0), (32, .getfield 105, 3, 6, 3, 1), (35, .ifCond .eq 20, 3, 55, 0, 0), (38, .iload_n 3, 1, 0, 0, 0), (39, .iconst (-1), 1, 0, 0, 0), (40, .if_icmp .ne 25, 3, 65, 0, 0), (43, .aload_n 0, 1, 0, 0, 0), (44, .getfield 78, 3, 9, 9, 0), (47, .getfield 242, 3, 0, 3, 1), (50, .bipush 30, 2, 0, 0, 0), (52, .if_icmp .lt 13, 3, 65, 0, 0), (55, .new 108, 3, 1001, 243, 0), (65, .iload_n 3, 1, 0, 0, 0), (66, .iconst (-1), 1, 0, 0, 0), (67, .if_icmp .eq 12, 3, 79, 0, 0), (70, .aload_n 0, 1, 0, 0, 0), (71, .getfield 78, 3, 9, 9, 0), (74, .iload_n 3, 1, 0, 0, 0), (75, .invokevirtual 245, 3, 4, 2, 0), (78, .ireturn, 1, 0, 0, 0), (79, .aload_n 0, 1, 0, 0, 0), (80, .iload_n 1, 1, 0, 0, 0), (81, .iload_n 2, 1, 0, 0, 0), (82, .invokevirtual 249, 3, 96, 3, 0), (85, .aload_n 0, 1, 0, 0, 0), (86, .getfield 72, 3, 9, 8, 0), (89, .aload_n 0, 1, 0, 0, 0), (90, .iload_n 1, 1, 0, 0, 0), (91, .iload_n 2, 1, 0, 0, 0), (92, .invokevirtual 252, 3, 95, 3, 0), (95, .bipush 50, 2, 0, 0, 0), (97, .invokevirtual 205, 3, 8, 3, 0), (100, .istore 4, 2, 0, 0, 0), (102, .aload_n 0, 1, 0, 0, 0), (103, .getfield 78, 3, 9, 9, 0), (106, .iload_n 1, 1, 0, 0, 0), (107, .iload_n 2, 1, 0, 0, 0), (108, .iload 4, 2, 0, 0, 0), (110, .aload_n 0, 1, 0, 0, 0), (111, .getfield 72, 3, 9, 8, 0), (114, .getfield 211, 3, 1, 4, 1), (117, .invokevirtual 255, 3, 3, 5, 0), (120, .iload 4, 2, 0, 0, 0), (122, .ireturn, 1, 0, 0, 0)]
def q_c80 : List (Nat × qX) := [(0, .iload_n 1, 1, 0, 0, 0), (1, .iload_n 2, 1, 0, 0, 0), (2, .invokestatic 234, 3, 90, 2, 2), (5, .ifCond .ne 13, 3, 18, 0, 0), (8, .new 98, 3, 1000, 237, 0), (18, .aload_n 0, 1, 0, 0, 0), (19, .getfield 78, 3, 9, 9, 0), (22, .iload_n 1, 1, 0, 0, 0), (23, .iload_n 2, 1, 0, 0, 0), (24, .invokevirtual 239, 3, 2, 3, 0), (27, .istore 4, 2, 0, 0, 0), (29, .iload 4, 2, 0, 0, 0), (31, .iconst (-1), 1, 0, 0, 0), (32, .if_icmp .eq 17, 3, 49, 0, 0), (35, .aload_n 0, 1, 0, 0, 0), (36, .getfield 78, 3, 9, 9, 0), (39, .iload 4, 2, 0, 0, 0), (41, .invokevirtual 245, 3, 4, 2, 0), (44, .bipush 100, 2, 0, 0, 0), (46, .if_icmp .eq 14, 3, 60, 0, 0), (49, .new 141, 3, 1003, 259, 1), (60, .aload_n 0, 1, 0, 0, 0), (61, .getfield 69, 3, 9, 7, 0), (64, .iload_n 3, 1, 0, 0, 0), (65, .invokevirtual 132, 3, 17, 2, 0), (68, .ifCond .ne 13, 3, 81, 0, 0), (71, .new 135, 3, 1002, 137, 0), (81, .aload_n 0, 1, 0, 0, 0), (82, .getfield 78, 3, 9, 9, 0), (85, .iload 4, 2, 0, 0, 0), (87, .iload_n 3, 1, 0, 0, 0), (88, .invokevirtual 261, 3, 5, 3, 0), (91, .ireturn, 1, 0, 0, 0)]
def q_c81 : List (Nat × qX) := [(0, .iload_n 1, 1, 0, 0, 0), (1, .iload_n 2, 1, 0, 0, 0), (2, .invokestatic 234, 3, 90, 2, 2), (5, .ifCond .eq 13, 3, 18, 0, 0), (8, .iload 4, 2, 0, 0, 0), (10, .iconst 0, 1, 0, 0, 0), (11, .iconst 2, 1, 0, 0, 0), (12, .invokestatic 94, 3, 88, 3, 2), (15, .ifCond .ne 14, 3, 29, 0, 0), (18, .new 98, 3, 1000, 264, 1), (29, .aload_n 0, 1, 0, 0, 0), (30, .iload_n 1, 1, 0, 0, 0), (31, .iload_n 2, 1, 0, 0, 0), (32, .iload_n 3, 1, 0, 0, 0), (33, .ifCond .eq 7, 3, 40, 0, 0), (36, .iconst 1, 1, 0, 0, 0), (37, .goto 4, 3, 41, 0, 0), (40, .iconst 0, 1, 0, 0, 0), (41, .iload 4, 2, 0, 0, 0), (43, .invokevirtual 266, 3, 94, 5, 0), (46, .ireturn, 1, 0, 0, 0)]
def q_c82 : List (Nat × qX) := [(0, .aload_n 0, 1, 0, 0, 0), (1, .getfield 78, 3, 9, 9, 0), (4, .getfield 242, 3, 0, 3, 1), (7, .ireturn, 1, 0, 0, 0)]
def q_c83 : List (Nat × qX) := [(0, .aload_n 0, 1, 0, 0, 0), (1, .getfield 78, 3, 9, 9, 0), (4, .getfield 242, 3, 0, 3, 1), (7, .istore_n 1, 1, 0, 0, 0), (8, .aload_n 0, 1, 0, 0, 0), (9, .getfield 78, 3, 9, 9, 0), (12, .invokevirtual 113, 3, 1, 1, 0), (15, .iload_n 1, 1, 0, 0, 0), (16, .ireturn, 1, 0, 0, 0)]
def q_c84 : List (Nat × qX) := [(0, .aload_n 0, 1, 0, 0, 0), (1, .getfield 86, 3, 9, 11, 0), (4, .ifCond .ne 13, 3, 17, 0, 0), (7, .new 108, 3, 1001, 209, 0), (17, .lconst 0, 1, 0, 0, 0), (18, .lstore_n 1, 1, 0, 0, 0), (19, .iconst 0, 1, 0, 0, 0), (20, .istore_n 3, 1, 0, 0, 0), (21, .iload_n 3, 1, 0, 0, 0), (22, .aload_n 0, 1, 0, 0, 0), (23, .getfield 28, 3, 9, 2, 0), (26, .getfield 34, 3, 8, 1, 1), (29, .invokevirtual 128, 3, 16, 1, 0), (32, .if_icmp .ge 41, 3, 73, 0, 0), (35, .iload_n 3, 1, 0, 0, 0), (36, .iconst 1, 1, 0, 0, 0), (37, .iadd, 1, 0, 0, 0), (38, .i2l, 1, 0, 0, 0), (39, .lstore 4, 2, 0, 0, 0), (41, .lload_n 1, 1, 0, 0, 0), (42, .aload_n 0, 1, 0, 0, 0), (43, .getfield 53, 3, 9, 5, 0), (46, .getfield 211, 3, 1, 4, 1), (49, .getfield 214, 3, 4, 2, 1), (52, .iload_n 3, 1, 0, 0, 0), (53, .invokevirtual 164, 3, 36, 2, 0), (56, .iconst 1, 1, 0, 0, 0), (57, .iadd, 1, 0, 0, 0), (58, .i2l, 1, 0, 0, 0), (59, .lload 4, 2, 0, 0, 0), (61, .lmul, 1, 0, 0, 0), (62, .lload 4, 2, 0, 0, 0), (64, .lmul, 1, 0, 0, 0), (65, .ladd, 1, 0, 0, 0), (66, .lstore_n 1, 1, 0, 0, 0), (67, .iinc 3 1, 3, 0, 0, 0), (70, .goto (-49), 3, 21, 0, 0), (73, .lload_n 1, 1, 0, 0, 0), (74, .lreturn, 1, 0, 0, 0)]
def q_c85 : List (Nat × qX) := [(0, .iload_n 1, 1, 0, 0, 0), (1, .ifCond .lt 21, 3, 22, 0, 0), (4, .iload_n 1, 1, 0, 0, 0), (5, .aload_n 0, 1, 0, 0, 0), (6, .getfield 13, 3, 5, 0, 0), (9, .arraylength, 1, 0, 0, 0), (10, .if_icmp .ge 12, 3, 22, 0, 0), (13, .aload_n 0, 1, 0, 0, 0), (14, .getfield 13, 3, 5, 0, 0), (17, .iload_n 1, 1, 0, 0, 0), (18, .iaload, 1, 0, 0, 0), (19, .goto 4, 3, 23, 0, 0), (22, .iconst 0, 1, 0, 0, 0), (23, .ireturn, 1, 0, 0, 0)]
def q_c86 : List (Nat × qX) := [(0, .aload_n 0, 1, 0, 0, 0), (1, .getfield 86, 3, 9, 11, 0), (4, .ifCond .ne 13, 3, 17, 0, 0), (7, .new 108, 3, 1001, 209, 0), (17, .aload_n 0, 1, 0, 0, 0), (18, .getfield 28, 3, 9, 2, 0), (21, .getfield 34, 3, 8, 1, 1), (24, .invokevirtual 128, 3, 16, 1, 0), (27, .istore_n 1, 1, 0, 0, 0), (28, .iload_n 1, 1, 0, 0, 0), (29, .iconst 1, 1, 0, 0, 0), (30, .if_icmp .ge 7, 3, 37, 0, 0), (33, .fconst 0, 1, 0, 0, 0), (34, .goto 17, 3, 51, 0, 0), (37, .aload_n 0, 1, 0, 0, 0), (38, .getfield 53, 3, 9, 5, 0), (41, .getfield 211, 3, 1, 4, 1), (44, .invokevirtual 270, 3, 32, 1, 0), (47, .i2f, 1, 0, 0, 0), (48, .iload_n 1, 1, 0, 0, 0), (49, .i2f, 1, 0, 0, 0), (50, .fdiv, 1, 0, 0, 0), (51, .freturn, 1, 0, 0, 0)]
def q_c87 : List (Nat × qX) := [(0, .aload_n 0, 1, 0, 0, 0), (1, .getfield 86, 3, 9, 11, 0), (4, .ifCond .eq 33, 3, 37, 0, 0), (7, .aload_n 0, 1, 0, 0, 0), (8, .getfield 53, 3, 9, 5, 0), (11, .getfield 211, 3, 1, 4, 1), (14, .invokevirtual 273, 3, 29, 1, 0), (17, .ifCond .eq 24, 3, 41, 0, 0), (20, .aload_n 0, 1, 0, 0, 0), (21, .getfield 53, 3, 9, 5, 0), (24, .getfield 211, 3, 1, 4, 1), (27, .aload_n 0, 1, 0, 0, 0), (28, .getfield 19, 3, 9, 1, 0), (31, .invokevirtual 277, 3, 30, 2, 0), (34, .ifCond .eq 7, 3, 41, 0, 0), (37, .iconst 1, 1, 0, 0, 0), (38, .goto 4, 3, 42, 0, 0), (41, .iconst 0, 1, 0, 0, 0), (42, .istore_n 1, 1, 0, 0, 0), (43, .iload_n 1, 1, 0, 0, 0), (44, .ifCond .eq 21, 3, 65, 0, 0), (47, .aload_n 0, 1, 0, 0, 0), (48, .invokevirtual 281, 3, 98, 1, 0), (51, .ifCond .eq 14, 3, 65, 0, 0), (54, .aload_n 0, 1, 0, 0, 0), (55, .invokevirtual 284, 3, 99, 1, 0), (58, .ifCond .eq 7, 3, 65, 0, 0), (61, .iconst 1, 1, 0, 0, 0), (62, .goto 4, 3, 66, 0, 0), (65, .iconst 0, 1, 0, 0, 0), (66, .ireturn, 1, 0, 0, 0)]
def q_c88 : List (Nat × qX) := [(0, .iload_n 0, 1, 0, 0, 0), (1, .iload_n 1, 1, 0, 0, 0), (2, .if_icmp .lt 12, 3, 14, 0, 0), (5, .iload_n 0, 1, 0, 0, 0), (6, .iload_n 2, 1, 0, 0, 0), (7, .if_icmp .gt 7, 3, 14, 0, 0), (10, .iconst 1, 1, 0, 0, 0), (11, .goto 4, 3, 15, 0, 0), (14, .iconst 0, 1, 0, 0, 0), (15, .ireturn, 1, 0, 0, 0)]
def q_c89 : List (Nat × qX) := [(0, .iload_n 0, 1, 0, 0, 0), (1, .iconst 0, 1, 0, 0, 0), (2, .iconst 3, 1, 0, 0, 0), (3, .invokestatic 94, 3, 88, 3, 2), (6, .ireturn, 1, 0, 0, 0)]
def q_c90 : List (Nat × qX) := [(0, .iload_n 0, 1, 0, 0, 0), (1, .bipush (-50), 2, 0, 0, 0), (3, .bipush 50, 2, 0, 0, 0), (5, .invokestatic 94, 3, 88, 3, 2), (8, .ifCond .eq 18, 3, 26, 0, 0), (11, .iload_n 1, 1, 0, 0, 0), (12, .bipush (-50), 2, 0, 0, 0), (14, .bipush 50, 2, 0, 0, 0), (16, .invokestatic 94, 3, 88, 3, 2), (19, .ifCond .eq 7, 3, 26, 0, 0), (22, .iconst 1, 1, 0, 0, 0), (23, .goto 4, 3, 27, 0, 0), (26, .iconst 0, 1, 0, 0, 0), (27, .ireturn, 1, 0, 0, 0)]
def q_c91 : List (Nat × qX) := [(0, .iload_n 0, 1, 0, 0, 0), (1, .iconst 2, 1, 0, 0, 0), (2, .ixor, 1, 0, 0, 0), (3, .ireturn, 1, 0, 0, 0)]
def q_c92 : List (Nat × qX) := [(0, .iload_n 1, 1, 0, 0, 0), (1, .iconst 1, 1, 0, 0, 0), (2, .iload_n 0, 1, 0, 0, 0), (3, .ishl, 1, 0, 0, 0), (4, .iand, 1, 0, 0, 0), (5, .ifCond .eq 7, 3, 12, 0, 0), (8, .iconst 1, 1, 0, 0, 0), (9, .goto 4, 3, 13, 0, 0), (12, .iconst 0, 1, 0, 0, 0), (13, .ireturn, 1, 0, 0, 0)]
def q_c93_0 : List (Nat × qX) := [(0, .iload_n 1, 1, 0, 0, 0), (1, .istore_n 2, 1, 0, 0, 0), (2, .iconst 0, 1, 0, 0, 0), (3, .istore_n 3, 1, 0, 0, 0), (4, .iload_n 3, 1, 0, 0, 0), (5, .aload_n 0, 1, 0, 0, 0), (6, .getfield 28, 3, 9, 2, 0), (9, .getfield 34, 3, 8, 1, 1), (12, .invokevirtual 128, 3, 16, 1, 0), (15, .if_icmp .ge 89, 3, 104, 0, 0), (18, .aload_n 0, 1, 0, 0, 0), (19, .getfield 12, 3, 9, 0, 0), (22, .getfield 105, 3, 6, 3, 1), (25, .ifCond .le 15, 3, 40, 0, 0), (28, .iload_n 2, 1, 0, 0, 0), (29, .aload_n 0, 1, 0, 0, 0), (30, .getfield 12, 3, 9, 0, 0), (33, .getfield 105, 3, 6, 3, 1), (36, .irem, 1, 0, 0, 0), (37, .goto 4, 3, 41, 0, 0), (40, .iconst 0, 1, 0, 0, 0), (41, .istore 4, 2, 0, 0, 0), (43, .aload_n 0, 1, 0, 0, 0), (44, .getfield 12, 3, 9, 0, 0), (47, .getfield 105, 3, 6, 3, 1), (50, .ifCond .le 15, 3, 65, 0, 0), (53, .iload_n 2, 1, 0, 0, 0), (54, .aload_n 0, 1, 0, 0, 0), (55, .getfield 12, 3, 9, 0, 0), (58, .getfield 105, 3, 6, 3, 1), (61, .idiv, 1, 0, 0, 0), (62, .goto 4, 3, 66, 0, 0), (65, .iconst 0, 1, 0, 0, 0), (66, .istore_n 2, 1, 0, 0, 0), (67, .iload 4, 2, 0, 0, 0), (69, .aload_n 0, 1, 0, 0, 0), (70, .getfield 28, 3, 9, 2, 0), (73, .iload_n 3, 1, 0, 0, 0), (74, .invokevirtual 287, 3, 58, 2, 0), (77, .invokestatic 290, 3, 92, 2, 2), (80, .ifCond .ne 5, 3, 85, 0, 0), (83, .iconst 0, 1, 0, 0, 0), (84, .ireturn, 1, 0, 0, 0), (85, .aload_n 0, 1, 0, 0, 0), (86, .getfield 60, 3, 9, 6, 0), (89, .getfield 214, 3, 4, 2, 1), (92, .iload_n 3, 1, 0, 0, 0), (93, .iload 4, 2, 0, 0, 0), (95, .invokevirtual 169, 3, 37, 3, 0), (98, .iinc 3 1, 3, 0, 0, 0), (101, .goto (-97), 3, 4, 0, 0), (104, .aload_n 0, 1, 0, 0, 0), (105, .getfield 60, 3, 9, 6, 0), (108, .invokevirtual 273, 3, 29, 1, 0), (111, .ifCond .eq 21, 3, 132, 0, 0), (114, .aload_n 0, 1, 0, 0, 0), (115, .getfield 60, 3, 9, 6, 0), (118, .aload_n 0, 1, 0, 0, 0), (119, .getfield 19, 3, 9, 1, 0), (122, .invokevirtual 277, 3, 30, 2, 0)]
def q_c93_1 : List (Nat × qX) := [(125, .ifCond .eq 7, 3, 132, 0, 0), (128, .iconst 1, 1, 0, 0, 0), (129, .goto 4, 3, 133, 0, 0), (132, .iconst 0, 1, 0, 0, 0), (133, .ireturn, 1, 0, 0, 0)]
def q_c93 : List (Nat × qX) := q_c93_0 ++ q_c93_1
def q_c94 : List (Nat × qX) := [(0, .aload_n 0, 1, 0, 0, 0), (1, .getfield 82, 3, 9, 10, 0), (4, .bipush 31, 2, 0, 0, 0), (6, .imul, 1, 0, 0, 0), (7, .iload_n 1, 1, 0, 0, 0), (8, .iadd, 1, 0, 0, 0), (9, .bipush 31, 2, 0, 0, 0), (11, .imul, 1, 0, 0, 0), (12, .iload_n 2, 1, 0, 0, 0), (13, .iadd, 1, 0, 0, 0), (14, .bipush 31, 2, 0, 0, 0), (16, .imul, 1, 0, 0, 0), (17, .iload_n 3, 1, 0, 0, 0), (18, .iadd, 1, 0, 0, 0), (19, .bipush 31, 2, 0, 0, 0), (21, .imul, 1, 0, 0, 0), (22, .iload 4, 2, 0, 0, 0), (24, .iadd, 1, 0, 0, 0), (25, .ldc_w 293, 3, 40503, 0, 0), (28, .imul, 1, 0, 0, 0), (29, .istore 5, 2, 0, 0, 0), (31, .iload 5, 2, 0, 0, 0), (33, .iconst 4, 1, 0, 0, 0), (34, .iushr, 1, 0, 0, 0), (35, .iconst 3, 1, 0, 0, 0), (36, .iand, 1, 0, 0, 0), (37, .ireturn, 1, 0, 0, 0)]
def q_c95 : List (Nat × qX) := [(0, .aload_n 0, 1, 0, 0, 0), (1, .getfield 82, 3, 9, 10, 0), (4, .sipush 7919, 3, 0, 0, 0), (7, .iload_n 1, 1, 0, 0, 0), (8, .imul, 1, 0, 0, 0), (9, .iadd, 1, 0, 0, 0), (10, .ldc_w 294, 3, 104729, 0, 0), (13, .iload_n 2, 1, 0, 0, 0), (14, .imul, 1, 0, 0, 0), (15, .iadd, 1, 0, 0, 0), (16, .ireturn, 1, 0, 0, 0)]
def q_c96 : List (Nat × qX) := [(0, .iconst 0, 1, 0, 0, 0), (1, .istore_n 3, 1, 0, 0, 0), (2, .iload_n 3, 1, 0, 0, 0), (3, .bipush 9, 2, 0, 0, 0), (5, .if_icmp .ge 27, 3, 32, 0, 0), (8, .aload_n 0, 1, 0, 0, 0), (9, .getfield 72, 3, 9, 8, 0), (12, .getfield 202, 3, 1, 3, 1), (15, .iload_n 3, 1, 0, 0, 0), (16, .aload_n 0, 1, 0, 0, 0), (17, .iload_n 1, 1, 0, 0, 0), (18, .iload_n 2, 1, 0, 0, 0), (19, .iload_n 3, 1, 0, 0, 0), (20, .invokevirtual 295, 3, 97, 4, 0), (23, .invokevirtual 299, 3, 22, 3, 0), (26, .iinc 3 1, 3, 0, 0, 0), (29, .goto (-27), 3, 2, 0, 0), (32, .return_, 1, 0, 0, 0)]
def q_c97_0 : List (Nat × qX) := [(0, .aload_n 0, 1, 0, 0, 0), (1, .getfield 69, 3, 9, 7, 0), (4, .iload_n 3, 1, 0, 0, 0), (5, .invokevirtual 302, 3, 18, 2, 0), (8, .istore 4, 2, 0, 0, 0), (10, .aload_n 0, 1, 0, 0, 0), (11, .getfield 69, 3, 9, 7, 0), (14, .iload_n 3, 1, 0, 0, 0), (15, .invokevirtual 305, 3, 19, 2, 0), (18, .istore 5, 2, 0, 0, 0), (20, .aload_n 0, 1, 0, 0, 0), (21, .getfield 12, 3, 9, 0, 0), (24, .invokevirtual 308, 3, 43, 1, 0), (27, .istore 6, 2, 0, 0, 0), (29, .iload 4, 2, 0, 0, 0), (31, .ifCond .ne 27, 3, 58, 0, 0), (34, .iload 6, 2, 0, 0, 0), (36, .aload_n 0, 1, 0, 0, 0), (37, .getfield 12, 3, 9, 0, 0), (40, .iconst 0, 1, 0, 0, 0), (41, .aload_n 0, 1, 0, 0, 0), (42, .iload_n 1, 1, 0, 0, 0), (43, .iload_n 2, 1, 0, 0, 0), (44, .iconst 1, 1, 0, 0, 0), (45, .isub, 1, 0, 0, 0), (46, .iconst 1, 1, 0, 0, 0), (47, .iload 5, 2, 0, 0, 0), (49, .invokevirtual 266, 3, 94, 5, 0), (52, .invokevirtual 311, 3, 45, 3, 0), (55, .iand, 1, 0, 0, 0), (56, .istore 6, 2, 0, 0, 0), (58, .iload 5, 2, 0, 0, 0), (60, .iconst 2, 1, 0, 0, 0), (61, .if_icmp .ne 25, 3, 86, 0, 0), (64, .iload 6, 2, 0, 0, 0), (66, .aload_n 0, 1, 0, 0, 0), (67, .getfield 12, 3, 9, 0, 0), (70, .iconst 1, 1, 0, 0, 0), (71, .aload_n 0, 1, 0, 0, 0), (72, .iload_n 1, 1, 0, 0, 0), (73, .iload_n 2, 1, 0, 0, 0), (74, .iconst 0, 1, 0, 0, 0), (75, .iload 4, 2, 0, 0, 0), (77, .invokevirtual 266, 3, 94, 5, 0), (80, .invokevirtual 311, 3, 45, 3, 0), (83, .iand, 1, 0, 0, 0), (84, .istore 6, 2, 0, 0, 0), (86, .iload 4, 2, 0, 0, 0), (88, .iconst 2, 1, 0, 0, 0), (89, .if_icmp .ne 25, 3, 114, 0, 0), (92, .iload 6, 2, 0, 0, 0), (94, .aload_n 0, 1, 0, 0, 0), (95, .getfield 12, 3, 9, 0, 0), (98, .iconst 2, 1, 0, 0, 0), (99, .aload_n 0, 1, 0, 0, 0), (100, .iload_n 1, 1, 0, 0, 0), (101, .iload_n 2, 1, 0, 0, 0), (102, .iconst 1, 1, 0, 0, 0), (103, .iload 5, 2, 0, 0, 0), (105, .invokevirtual 266, 3, 94, 5, 0)]
def q_c97_1 : List (Nat × qX) := [(108, .invokevirtual 311, 3, 45, 3, 0), (111, .iand, 1, 0, 0, 0), (112, .istore 6, 2, 0, 0, 0), (114, .iload 5, 2, 0, 0, 0), (116, .ifCond .ne 27, 3, 143, 0, 0), (119, .iload 6, 2, 0, 0, 0), (121, .aload_n 0, 1, 0, 0, 0), (122, .getfield 12, 3, 9, 0, 0), (125, .iconst 3, 1, 0, 0, 0), (126, .aload_n 0, 1, 0, 0, 0), (127, .iload_n 1, 1, 0, 0, 0), (128, .iconst 1, 1, 0, 0, 0), (129, .isub, 1, 0, 0, 0), (130, .iload_n 2, 1, 0, 0, 0), (131, .iconst 0, 1, 0, 0, 0), (132, .iload 4, 2, 0, 0, 0), (134, .invokevirtual 266, 3, 94, 5, 0), (137, .invokevirtual 311, 3, 45, 3, 0), (140, .iand, 1, 0, 0, 0), (141, .istore 6, 2, 0, 0, 0), (143, .iload 6, 2, 0, 0, 0), (145, .ireturn, 1, 0, 0, 0)]
def q_c97 : List (Nat × qX) := q_c97_0 ++ q_c97_1
def q_c98 : List (Nat × qX) := [(0, .aload_n 0, 1, 0, 0, 0), (1, .getfield 28, 3, 9, 2, 0), (4, .aload_n 0, 1, 0, 0, 0), (5, .getfield 41, 3, 9, 3, 0), (8, .invokevirtual 180, 3, 59, 2, 0), (11, .aload_n 0, 1, 0, 0, 0), (12, .getfield 41, 3, 9, 3, 0), (15, .invokevirtual 184, 3, 23, 1, 0), (18, .aload_n 0, 1, 0, 0, 0), (19, .getfield 28, 3, 9, 2, 0), (22, .aload_n 0, 1, 0, 0, 0), (23, .getfield 45, 3, 9, 4, 0), (26, .invokevirtual 180, 3, 59, 2, 0), (29, .aload_n 0, 1, 0, 0, 0), (30, .getfield 45, 3, 9, 4, 0), (33, .invokevirtual 195, 3, 25, 1, 0), (36, .iconst 0, 1, 0, 0, 0), (37, .istore_n 1, 1, 0, 0, 0), (38, .iload_n 1, 1, 0, 0, 0), (39, .aload_n 0, 1, 0, 0, 0), (40, .getfield 28, 3, 9, 2, 0), (43, .getfield 34, 3, 8, 1, 1), (46, .invokevirtual 128, 3, 16, 1, 0), (49, .if_icmp .ge 36, 3, 85, 0, 0), (52, .aload_n 0, 1, 0, 0, 0), (53, .getfield 41, 3, 9, 3, 0), (56, .getfield 187, 3, 3, 2, 1), (59, .iload_n 1, 1, 0, 0, 0), (60, .invokevirtual 164, 3, 36, 2, 0), (63, .aload_n 0, 1, 0, 0, 0), (64, .getfield 45, 3, 9, 4, 0), (67, .getfield 187, 3, 3, 2, 1), (70, .iload_n 1, 1, 0, 0, 0), (71, .invokevirtual 164, 3, 36, 2, 0), (74, .if_icmp .eq 5, 3, 79, 0, 0), (77, .iconst 0, 1, 0, 0, 0), (78, .ireturn, 1, 0, 0, 0), (79, .iinc 1 1, 3, 0, 0, 0), (82, .goto (-44), 3, 38, 0, 0), (85, .iconst 1, 1, 0, 0, 0), (86, .ireturn, 1, 0, 0, 0)]
def q_c99_0 : List (Nat × qX) := [(0, .iconst 0, 1, 0, 0, 0), (1, .istore_n 1, 1, 0, 0, 0), (2, .iload_n 1, 1, 0, 0, 0), (3, .aload_n 0, 1, 0, 0, 0), (4, .getfield 78, 3, 9, 9, 0), (7, .getfield 242, 3, 0, 3, 1), (10, .if_icmp .ge 102, 3, 112, 0, 0), (13, .aload_n 0, 1, 0, 0, 0), (14, .getfield 78, 3, 9, 9, 0), (17, .getfield 314, 3, 0, 0, 1), (20, .iconst 2, 1, 0, 0, 0), (21, .iload_n 1, 1, 0, 0, 0), (22, .imul, 1, 0, 0, 0), (23, .invokevirtual 164, 3, 36, 2, 0), (26, .istore_n 2, 1, 0, 0, 0), (27, .aload_n 0, 1, 0, 0, 0), (28, .getfield 78, 3, 9, 9, 0), (31, .getfield 314, 3, 0, 0, 1), (34, .iconst 2, 1, 0, 0, 0), (35, .iload_n 1, 1, 0, 0, 0), (36, .imul, 1, 0, 0, 0), (37, .iconst 1, 1, 0, 0, 0), (38, .iadd, 1, 0, 0, 0), (39, .invokevirtual 164, 3, 36, 2, 0), (42, .istore_n 3, 1, 0, 0, 0), (43, .iload_n 2, 1, 0, 0, 0), (44, .iconst (-1), 1, 0, 0, 0), (45, .iconst 1, 1, 0, 0, 0), (46, .invokestatic 94, 3, 88, 3, 2), (49, .ifCond .eq 57, 3, 106, 0, 0), (52, .iload_n 3, 1, 0, 0, 0), (53, .iconst (-1), 1, 0, 0, 0), (54, .iconst 1, 1, 0, 0, 0), (55, .invokestatic 94, 3, 88, 3, 2), (58, .ifCond .eq 48, 3, 106, 0, 0), (61, .aload_n 0, 1, 0, 0, 0), (62, .iload_n 2, 1, 0, 0, 0), (63, .iload_n 3, 1, 0, 0, 0), (64, .invokevirtual 249, 3, 96, 3, 0), (67, .aload_n 0, 1, 0, 0, 0), (68, .getfield 72, 3, 9, 8, 0), (71, .aload_n 0, 1, 0, 0, 0), (72, .iload_n 2, 1, 0, 0, 0), (73, .iload_n 3, 1, 0, 0, 0), (74, .invokevirtual 252, 3, 95, 3, 0), (77, .bipush 50, 2, 0, 0, 0), (79, .invokevirtual 205, 3, 8, 3, 0), (82, .istore 4, 2, 0, 0, 0), (84, .aload_n 0, 1, 0, 0, 0), (85, .getfield 78, 3, 9, 9, 0), (88, .iload_n 1, 1, 0, 0, 0), (89, .iload 4, 2, 0, 0, 0), (91, .aload_n 0, 1, 0, 0, 0), (92, .getfield 72, 3, 9, 8, 0), (95, .getfield 211, 3, 1, 4, 1), (98, .invokevirtual 317, 3, 6, 4, 0), (101, .ifCond .ne 5, 3, 106, 0, 0), (104, .iconst 0, 1, 0, 0, 0), (105, .ireturn, 1, 0, 0, 0), (106, .iinc 1 1, 3, 0, 0, 0)]
def q_c99_1 : List (Nat × qX) := [(109, .goto (-107), 3, 2, 0, 0), (112, .iconst 1, 1, 0, 0, 0), (113, .ireturn, 1, 0, 0, 0)]
def q_c99 : List (Nat × qX) := q_c99_0 ++ q_c99_1
def q_c100 : List (Nat × qX) := [(0, .iload_n 0, 1, 0, 0, 0), (1, .iload_n 0, 1, 0, 0, 0), (2, .iconst 1, 1, 0, 0, 0), (3, .iushr, 1, 0, 0, 0), (4, .ldc_w 265, 3, 1431655765, 0, 0), (7, .iand, 1, 0, 0, 0), (8, .isub, 1, 0, 0, 0), (9, .istore_n 0, 1, 0, 0, 0), (10, .iload_n 0, 1, 0, 0, 0), (11, .ldc_w 266, 3, 858993459, 0, 0), (14, .iand, 1, 0, 0, 0), (15, .iload_n 0, 1, 0, 0, 0), (16, .iconst 2, 1, 0, 0, 0), (17, .iushr, 1, 0, 0, 0), (18, .ldc_w 266, 3, 858993459, 0, 0), (21, .iand, 1, 0, 0, 0), (22, .iadd, 1, 0, 0, 0), (23, .istore_n 0, 1, 0, 0, 0), (24, .iload_n 0, 1, 0, 0, 0), (25, .iload_n 0, 1, 0, 0, 0), (26, .iconst 4, 1, 0, 0, 0), (27, .iushr, 1, 0, 0, 0), (28, .iadd, 1, 0, 0, 0), (29, .ldc_w 267, 3, 252645135, 0, 0), (32, .iand, 1, 0, 0, 0), (33, .istore_n 0, 1, 0, 0, 0), (34, .iload_n 0, 1, 0, 0, 0), (35, .iload_n 0, 1, 0, 0, 0), (36, .bipush 8, 2, 0, 0, 0), (38, .iushr, 1, 0, 0, 0), (39, .iadd, 1, 0, 0, 0), (40, .istore_n 0, 1, 0, 0, 0), (41, .iload_n 0, 1, 0, 0, 0), (42, .iload_n 0, 1, 0, 0, 0), (43, .bipush 16, 2, 0, 0, 0), (45, .iushr, 1, 0, 0, 0), (46, .iadd, 1, 0, 0, 0), (47, .istore_n 0, 1, 0, 0, 0), (48, .iload_n 0, 1, 0, 0, 0), (49, .bipush 63, 2, 0, 0, 0), (51, .iand, 1, 0, 0, 0), (52, .ireturn, 1, 0, 0, 0)]
def q_c101 : List (Nat × qX) := [(0, .iload_n 1, 1, 0, 0, 0), (1, .aload_n 0, 1, 0, 0, 0), (2, .arraylength, 1, 0, 0, 0), (3, .if_icmp .ge 9, 3, 12, 0, 0), (6, .aload_n 0, 1, 0, 0, 0), (7, .iload_n 1, 1, 0, 0, 0), (8, .iaload, 1, 0, 0, 0), (9, .goto 11, 3, 20, 0, 0), (12, .ldc 7, 2, 40503, 0, 0), (14, .iload_n 1, 1, 0, 0, 0), (15, .imul, 1, 0, 0, 0), (16, .sipush 4021, 3, 0, 0, 0), (19, .iadd, 1, 0, 0, 0), (20, .ireturn, 1, 0, 0, 0)]
def q_c102 : List (Nat × qX) := [(0, .iload_n 0, 1, 0, 0, 0), (1, .ldc 8, 2, 2147483647, 0, 0), (3, .iand, 1, 0, 0, 0), (4, .iload_n 1, 1, 0, 0, 0), (5, .irem, 1, 0, 0, 0), (6, .ireturn, 1, 0, 0, 0)]
def q_c103_0 : List (Nat × qX) := [(0, .iconst 2, 1, 0, 0, 0), (1, .aload_n 1, 1, 0, 0, 0), (2, .iconst 0, 1, 0, 0, 0), (3, .invokestatic 9, 3, 101, 2, 2), (6, .bipush 7, 2, 0, 0, 0), (8, .invokestatic 15, 3, 102, 2, 2), (11, .iadd, 1, 0, 0, 0), (12, .istore 4, 2, 0, 0, 0), (14, .iconst 2, 1, 0, 0, 0), (15, .aload_n 1, 1, 0, 0, 0), (16, .iconst 0, 1, 0, 0, 0), (17, .invokestatic 9, 3, 101, 2, 2), (20, .iconst 4, 1, 0, 0, 0), (21, .ishr, 1, 0, 0, 0), (22, .iconst 2, 1, 0, 0, 0), (23, .invokestatic 15, 3, 102, 2, 2), (26, .iadd, 1, 0, 0, 0), (27, .istore 5, 2, 0, 0, 0), (29, .iconst 0, 1, 0, 0, 0), (30, .istore 6, 2, 0, 0, 0), (32, .iload 6, 2, 0, 0, 0), (34, .iload 4, 2, 0, 0, 0), (36, .if_icmp .ge 178, 3, 214, 0, 0), (39, .aload_n 1, 1, 0, 0, 0), (40, .iconst 1, 1, 0, 0, 0), (41, .iload 6, 2, 0, 0, 0), (43, .iadd, 1, 0, 0, 0), (44, .invokestatic 9, 3, 101, 2, 2), (47, .istore 7, 2, 0, 0, 0), (49, .iload 7, 2, 0, 0, 0), (51, .bipush 13, 2, 0, 0, 0), (53, .ishr, 1, 0, 0, 0), (54, .iconst 3, 1, 0, 0, 0), (55, .invokestatic 15, 3, 102, 2, 2), (58, .ifCond .ne 7, 3, 65, 0, 0), (61, .iconst 4, 1, 0, 0, 0), (62, .goto 5, 3, 67, 0, 0), (65, .iload 5, 2, 0, 0, 0), (67, .istore 8, 2, 0, 0, 0), (69, .aload_n 2, 1, 0, 0, 0), (70, .iload 6, 2, 0, 0, 0), (72, .iconst 4, 1, 0, 0, 0), (73, .newarray .int, 2, 0, 0, 0), (75, .dup, 1, 0, 0, 0), (76, .iconst 0, 1, 0, 0, 0), (77, .iload 7, 2, 0, 0, 0), (79, .iload 8, 2, 0, 0, 0), (81, .invokestatic 15, 3, 102, 2, 2), (84, .iastore, 1, 0, 0, 0), (85, .dup, 1, 0, 0, 0), (86, .iconst 1, 1, 0, 0, 0), (87, .iload 7, 2, 0, 0, 0), (89, .iconst 3, 1, 0, 0, 0), (90, .ishr, 1, 0, 0, 0), (91, .iload 8, 2, 0, 0, 0), (93, .invokestatic 15, 3, 102, 2, 2), (96, .iastore, 1, 0, 0, 0), (97, .dup, 1, 0, 0, 0), (98, .iconst 2, 1, 0, 0, 0), (99, .iload 7, 2, 0, 0, 0)]
def q_c103_1 : List (Nat × qX) := [(101, .bipush 6, 2, 0, 0, 0), (103, .ishr, 1, 0, 0, 0), (104, .iload 8, 2, 0, 0, 0), (106, .invokestatic 15, 3, 102, 2, 2), (109, .iastore, 1, 0, 0, 0), (110, .dup, 1, 0, 0, 0), (111, .iconst 3, 1, 0, 0, 0), (112, .iload 7, 2, 0, 0, 0), (114, .bipush 9, 2, 0, 0, 0), (116, .ishr, 1, 0, 0, 0), (117, .iload 8, 2, 0, 0, 0), (119, .invokestatic 15, 3, 102, 2, 2), (122, .iastore, 1, 0, 0, 0), (123, .aastore, 1, 0, 0, 0), (124, .aload_n 3, 1, 0, 0, 0), (125, .iload 6, 2, 0, 0, 0), (127, .iload 7, 2, 0, 0, 0), (129, .bipush 16, 2, 0, 0, 0), (131, .ishr, 1, 0, 0, 0), (132, .iconst 4, 1, 0, 0, 0), (133, .invokestatic 15, 3, 102, 2, 2), (136, .ifCond .ne 16, 3, 152, 0, 0), (139, .iload 7, 2, 0, 0, 0), (141, .bipush 19, 2, 0, 0, 0), (143, .ishr, 1, 0, 0, 0), (144, .bipush 9, 2, 0, 0, 0), (146, .invokestatic 15, 3, 102, 2, 2), (149, .goto 4, 3, 153, 0, 0), (152, .iconst (-1), 1, 0, 0, 0), (153, .iastore, 1, 0, 0, 0), (154, .aload_n 0, 1, 0, 0, 0), (155, .aload_n 2, 1, 0, 0, 0), (156, .iload 6, 2, 0, 0, 0), (158, .aaload, 1, 0, 0, 0), (159, .iconst 0, 1, 0, 0, 0), (160, .iaload, 1, 0, 0, 0), (161, .aload_n 2, 1, 0, 0, 0), (162, .iload 6, 2, 0, 0, 0), (164, .aaload, 1, 0, 0, 0), (165, .iconst 1, 1, 0, 0, 0), (166, .iaload, 1, 0, 0, 0), (167, .aload_n 2, 1, 0, 0, 0), (168, .iload 6, 2, 0, 0, 0), (170, .aaload, 1, 0, 0, 0), (171, .iconst 2, 1, 0, 0, 0), (172, .iaload, 1, 0, 0, 0), (173, .aload_n 2, 1, 0, 0, 0), (174, .iload 6, 2, 0, 0, 0), (176, .aaload, 1, 0, 0, 0), (177, .iconst 3, 1, 0, 0, 0), (178, .iaload, 1, 0, 0, 0), (179, .iconst 1, 1, 0, 0, 0), (180, .iload 7, 2, 0, 0, 0), (182, .bipush 22, 2, 0, 0, 0), (184, .ishr, 1, 0, 0, 0), (185, .bipush 9, 2, 0, 0, 0), (187, .invokestatic 15, 3, 102, 2, 2), (190, .iadd, 1, 0, 0, 0), (191, .invokevirtual 19, 3, 61, 6, 0), (194, .istore 9, 2, 0, 0, 0)]
def q_c103_2 : List (Nat × qX) := [(196, .aload_n 0, 1, 0, 0, 0), (197, .iload 6, 2, 0, 0, 0), (199, .aload_n 3, 1, 0, 0, 0), (200, .iload 6, 2, 0, 0, 0), (202, .iaload, 1, 0, 0, 0), (203, .invokevirtual 25, 3, 67, 3, 0), (206, .istore 10, 2, 0, 0, 0), (208, .iinc 6 1, 3, 0, 0, 0), (211, .goto (-179), 3, 32, 0, 0), (214, .iload 4, 2, 0, 0, 0), (216, .ireturn, 1, 0, 0, 0)]
def q_c103 : List (Nat × qX) := q_c103_0 ++ (q_c103_1 ++ (q_c103_2))
def q_c104_0 : List (Nat × qX) := [(0, .bipush 8, 2, 0, 0, 0), (2, .newarray .int, 2, 0, 0, 0), (4, .astore 7, 2, 0, 0, 0), (6, .lconst 0, 1, 0, 0, 0), (7, .lstore 8, 2, 0, 0, 0), (9, .iconst 0, 1, 0, 0, 0), (10, .istore 10, 2, 0, 0, 0), (12, .aload_n 0, 1, 0, 0, 0), (13, .invokevirtual 28, 3, 73, 1, 0), (16, .istore 11, 2, 0, 0, 0), (18, .iconst 0, 1, 0, 0, 0), (19, .istore 12, 2, 0, 0, 0), (21, .iload 12, 2, 0, 0, 0), (23, .iload 4, 2, 0, 0, 0), (25, .iload 5, 2, 0, 0, 0), (27, .imul, 1, 0, 0, 0), (28, .if_icmp .ge 184, 3, 212, 0, 0), (31, .iload 11, 2, 0, 0, 0), (33, .ifCond .eq 179, 3, 212, 0, 0), (36, .aload_n 0, 1, 0, 0, 0), (37, .iload 12, 2, 0, 0, 0), (39, .invokevirtual 32, 3, 74, 2, 0), (42, .istore 13, 2, 0, 0, 0), (44, .aload 7, 2, 0, 0, 0), (46, .iload 13, 2, 0, 0, 0), (48, .dup2, 1, 0, 0, 0), (49, .iaload, 1, 0, 0, 0), (50, .iconst 1, 1, 0, 0, 0), (51, .iadd, 1, 0, 0, 0), (52, .iastore, 1, 0, 0, 0), (53, .lload 8, 2, 0, 0, 0), (55, .iload 13, 2, 0, 0, 0), (57, .i2l, 1, 0, 0, 0), (58, .lconst 1, 1, 0, 0, 0), (59, .ladd, 1, 0, 0, 0), (60, .iload 12, 2, 0, 0, 0), (62, .i2l, 1, 0, 0, 0), (63, .lconst 1, 1, 0, 0, 0), (64, .ladd, 1, 0, 0, 0), (65, .lmul, 1, 0, 0, 0), (66, .iload 12, 2, 0, 0, 0), (68, .i2l, 1, 0, 0, 0), (69, .lconst 1, 1, 0, 0, 0), (70, .ladd, 1, 0, 0, 0), (71, .lmul, 1, 0, 0, 0), (72, .ladd, 1, 0, 0, 0), (73, .lstore 8, 2, 0, 0, 0), (75, .aload_n 1, 1, 0, 0, 0), (76, .iload 13, 2, 0, 0, 0), (78, .aaload, 1, 0, 0, 0), (79, .astore 14, 2, 0, 0, 0), (81, .iload 10, 2, 0, 0, 0), (83, .aload 14, 2, 0, 0, 0), (85, .iconst 0, 1, 0, 0, 0), (86, .iaload, 1, 0, 0, 0), (87, .iconst 1, 1, 0, 0, 0), (88, .if_icmp .eq 27, 3, 115, 0, 0), (91, .aload 14, 2, 0, 0, 0), (93, .iconst 1, 1, 0, 0, 0), (94, .iaload, 1, 0, 0, 0)]
def q_c104_1 : List (Nat × qX) := [(95, .iconst 1, 1, 0, 0, 0), (96, .if_icmp .eq 19, 3, 115, 0, 0), (99, .aload 14, 2, 0, 0, 0), (101, .iconst 2, 1, 0, 0, 0), (102, .iaload, 1, 0, 0, 0), (103, .iconst 1, 1, 0, 0, 0), (104, .if_icmp .eq 11, 3, 115, 0, 0), (107, .aload 14, 2, 0, 0, 0), (109, .iconst 3, 1, 0, 0, 0), (110, .iaload, 1, 0, 0, 0), (111, .iconst 1, 1, 0, 0, 0), (112, .if_icmp .ne 7, 3, 119, 0, 0), (115, .iconst 1, 1, 0, 0, 0), (116, .goto 4, 3, 120, 0, 0), (119, .iconst 0, 1, 0, 0, 0), (120, .iadd, 1, 0, 0, 0), (121, .istore 10, 2, 0, 0, 0), (123, .iload 12, 2, 0, 0, 0), (125, .iload 4, 2, 0, 0, 0), (127, .irem, 1, 0, 0, 0), (128, .iload 4, 2, 0, 0, 0), (130, .iconst 1, 1, 0, 0, 0), (131, .isub, 1, 0, 0, 0), (132, .if_icmp .eq 22, 3, 154, 0, 0), (135, .aload 14, 2, 0, 0, 0), (137, .iconst 1, 1, 0, 0, 0), (138, .iaload, 1, 0, 0, 0), (139, .aload_n 1, 1, 0, 0, 0), (140, .aload_n 0, 1, 0, 0, 0), (141, .iload 12, 2, 0, 0, 0), (143, .iconst 1, 1, 0, 0, 0), (144, .iadd, 1, 0, 0, 0), (145, .invokevirtual 32, 3, 74, 2, 0), (148, .aaload, 1, 0, 0, 0), (149, .iconst 3, 1, 0, 0, 0), (150, .iaload, 1, 0, 0, 0), (151, .if_icmp .ne 7, 3, 158, 0, 0), (154, .iconst 1, 1, 0, 0, 0), (155, .goto 4, 3, 159, 0, 0), (158, .iconst 0, 1, 0, 0, 0), (159, .istore 11, 2, 0, 0, 0), (161, .iload 11, 2, 0, 0, 0), (163, .ifCond .eq 40, 3, 203, 0, 0), (166, .iload 12, 2, 0, 0, 0), (168, .iload 4, 2, 0, 0, 0), (170, .iload 5, 2, 0, 0, 0), (172, .imul, 1, 0, 0, 0), (173, .iload 4, 2, 0, 0, 0), (175, .isub, 1, 0, 0, 0), (176, .if_icmp .ge 23, 3, 199, 0, 0), (179, .aload 14, 2, 0, 0, 0), (181, .iconst 2, 1, 0, 0, 0), (182, .iaload, 1, 0, 0, 0), (183, .aload_n 1, 1, 0, 0, 0), (184, .aload_n 0, 1, 0, 0, 0), (185, .iload 12, 2, 0, 0, 0), (187, .iload 4, 2, 0, 0, 0), (189, .iadd, 1, 0, 0, 0), (190, .invokevirtual 32, 3, 74, 2, 0), (193, .aaload, 1, 0, 0, 0)]
def q_c104_2 : List (Nat × qX) := [(194, .iconst 0, 1, 0, 0, 0), (195, .iaload, 1, 0, 0, 0), (196, .if_icmp .ne 7, 3, 203, 0, 0), (199, .iconst 1, 1, 0, 0, 0), (200, .goto 4, 3, 204, 0, 0), (203, .iconst 0, 1, 0, 0, 0), (204, .istore 11, 2, 0, 0, 0), (206, .iinc 12 1, 3, 0, 0, 0), (209, .goto (-188), 3, 21, 0, 0), (212, .iconst 0, 1, 0, 0, 0), (213, .istore 12, 2, 0, 0, 0), (215, .iload 12, 2, 0, 0, 0), (217, .iload_n 3, 1, 0, 0, 0), (218, .if_icmp .ge 40, 3, 258, 0, 0), (221, .iload 11, 2, 0, 0, 0), (223, .ifCond .eq 35, 3, 258, 0, 0), (226, .aload_n 2, 1, 0, 0, 0), (227, .iload 12, 2, 0, 0, 0), (229, .iaload, 1, 0, 0, 0), (230, .ifCond .lt 15, 3, 245, 0, 0), (233, .aload 7, 2, 0, 0, 0), (235, .iload 12, 2, 0, 0, 0), (237, .iaload, 1, 0, 0, 0), (238, .aload_n 2, 1, 0, 0, 0), (239, .iload 12, 2, 0, 0, 0), (241, .iaload, 1, 0, 0, 0), (242, .if_icmp .gt 7, 3, 249, 0, 0), (245, .iconst 1, 1, 0, 0, 0), (246, .goto 4, 3, 250, 0, 0), (249, .iconst 0, 1, 0, 0, 0), (250, .istore 11, 2, 0, 0, 0), (252, .iinc 12 1, 3, 0, 0, 0), (255, .goto (-40), 3, 215, 0, 0), (258, .iload 11, 2, 0, 0, 0), (260, .ifCond .eq 73, 3, 333, 0, 0), (263, .aload_n 0, 1, 0, 0, 0), (264, .invokevirtual 36, 3, 84, 1, 0), (267, .lload 8, 2, 0, 0, 0), (269, .lcmp, 1, 0, 0, 0), (270, .ifCond .ne 63, 3, 333, 0, 0), (273, .aload_n 0, 1, 0, 0, 0), (274, .invokevirtual 40, 3, 86, 1, 0), (277, .iload 10, 2, 0, 0, 0), (279, .i2f, 1, 0, 0, 0), (280, .iload 4, 2, 0, 0, 0), (282, .iload 5, 2, 0, 0, 0), (284, .imul, 1, 0, 0, 0), (285, .i2f, 1, 0, 0, 0), (286, .fdiv, 1, 0, 0, 0), (287, .fcmp .l, 1, 0, 0, 0), (288, .ifCond .ne 45, 3, 333, 0, 0), (291, .iload 6, 2, 0, 0, 0), (293, .ifCond .eq 11, 3, 304, 0, 0), (296, .aload_n 0, 1, 0, 0, 0), (297, .invokevirtual 44, 3, 78, 1, 0), (300, .iconst 1, 1, 0, 0, 0), (301, .if_icmp .gt 32, 3, 333, 0, 0), (304, .aload_n 0, 1, 0, 0, 0), (305, .invokevirtual 44, 3, 78, 1, 0), (308, .ifCond .le 7, 3, 315, 0, 0)]
def q_c104_3 : List (Nat × qX) := [(311, .iconst 1, 1, 0, 0, 0), (312, .goto 4, 3, 316, 0, 0), (315, .iconst 0, 1, 0, 0, 0), (316, .iload 10, 2, 0, 0, 0), (318, .ifCond .le 7, 3, 325, 0, 0), (321, .iconst 1, 1, 0, 0, 0), (322, .goto 4, 3, 326, 0, 0), (325, .iconst 0, 1, 0, 0, 0), (326, .if_icmp .ne 7, 3, 333, 0, 0), (329, .iconst 1, 1, 0, 0, 0), (330, .goto 4, 3, 334, 0, 0), (333, .iconst 0, 1, 0, 0, 0), (334, .ireturn, 1, 0, 0, 0)]
def q_c104 : List (Nat × qX) := q_c104_0 ++ (q_c104_1 ++ (q_c104_2 ++ (q_c104_3)))
def q_c105_0 : List (Nat × qX) := [(0, .iload_n 2, 1, 0, 0, 0), (1, .newarray .int, 2, 0, 0, 0), (3, .astore_n 3, 1, 0, 0, 0), (4, .iconst 0, 1, 0, 0, 0), (5, .istore 4, 2, 0, 0, 0), (7, .iload 4, 2, 0, 0, 0), (9, .iload_n 2, 1, 0, 0, 0), (10, .if_icmp .ge 19, 3, 29, 0, 0), (13, .aload_n 3, 1, 0, 0, 0), (14, .iload 4, 2, 0, 0, 0), (16, .aload_n 0, 1, 0, 0, 0), (17, .iload 4, 2, 0, 0, 0), (19, .invokevirtual 32, 3, 74, 2, 0), (22, .iastore, 1, 0, 0, 0), (23, .iinc 4 1, 3, 0, 0, 0), (26, .goto (-19), 3, 7, 0, 0), (29, .aload_n 0, 1, 0, 0, 0), (30, .invokevirtual 48, 3, 75, 1, 0), (33, .istore 4, 2, 0, 0, 0), (35, .aload_n 0, 1, 0, 0, 0), (36, .invokevirtual 51, 3, 76, 1, 0), (39, .istore 5, 2, 0, 0, 0), (41, .aload_n 0, 1, 0, 0, 0), (42, .iload_n 1, 1, 0, 0, 0), (43, .invokevirtual 54, 3, 72, 2, 0), (46, .bipush 100, 2, 0, 0, 0), (48, .if_icmp .ne 25, 3, 73, 0, 0), (51, .aload_n 0, 1, 0, 0, 0), (52, .invokevirtual 48, 3, 75, 1, 0), (55, .iload 4, 2, 0, 0, 0), (57, .if_icmp .ne 16, 3, 73, 0, 0), (60, .aload_n 0, 1, 0, 0, 0), (61, .invokevirtual 51, 3, 76, 1, 0), (64, .iload 5, 2, 0, 0, 0), (66, .if_icmp .ne 7, 3, 73, 0, 0), (69, .iconst 1, 1, 0, 0, 0), (70, .goto 4, 3, 74, 0, 0), (73, .iconst 0, 1, 0, 0, 0), (74, .istore 6, 2, 0, 0, 0), (76, .iconst 0, 1, 0, 0, 0), (77, .istore 7, 2, 0, 0, 0), (79, .iload 7, 2, 0, 0, 0), (81, .iload_n 2, 1, 0, 0, 0), (82, .if_icmp .ge 34, 3, 116, 0, 0), (85, .iload 6, 2, 0, 0, 0), (87, .ifCond .eq 29, 3, 116, 0, 0), (90, .aload_n 0, 1, 0, 0, 0), (91, .iload 7, 2, 0, 0, 0), (93, .invokevirtual 32, 3, 74, 2, 0), (96, .aload_n 3, 1, 0, 0, 0), (97, .iload 7, 2, 0, 0, 0), (99, .iaload, 1, 0, 0, 0), (100, .if_icmp .ne 7, 3, 107, 0, 0), (103, .iconst 1, 1, 0, 0, 0), (104, .goto 4, 3, 108, 0, 0), (107, .iconst 0, 1, 0, 0, 0), (108, .istore 6, 2, 0, 0, 0), (110, .iinc 7 1, 3, 0, 0, 0), (113, .goto (-34), 3, 79, 0, 0), (116, .iload 6, 2, 0, 0, 0)]
def q_c105_1 : List (Nat × qX) := [(118, .ireturn, 1, 0, 0, 0)]
def q_c105 : List (Nat × qX) := q_c105_0 ++ q_c105_1
def q_c106_0 : List (Nat × qX) := [(0, .iconst 1, 1, 0, 0, 0), (1, .aload_n 1, 1, 0, 0, 0), (2, .bipush 10, 2, 0, 0, 0), (4, .invokestatic 9, 3, 101, 2, 2), (7, .iconst 5, 1, 0, 0, 0), (8, .invokestatic 15, 3, 102, 2, 2), (11, .iadd, 1, 0, 0, 0), (12, .istore 5, 2, 0, 0, 0), (14, .iconst 1, 1, 0, 0, 0), (15, .aload_n 1, 1, 0, 0, 0), (16, .bipush 10, 2, 0, 0, 0), (18, .invokestatic 9, 3, 101, 2, 2), (21, .iconst 4, 1, 0, 0, 0), (22, .ishr, 1, 0, 0, 0), (23, .iconst 5, 1, 0, 0, 0), (24, .invokestatic 15, 3, 102, 2, 2), (27, .iadd, 1, 0, 0, 0), (28, .istore 6, 2, 0, 0, 0), (30, .aload_n 1, 1, 0, 0, 0), (31, .bipush 11, 2, 0, 0, 0), (33, .invokestatic 9, 3, 101, 2, 2), (36, .iconst 3, 1, 0, 0, 0), (37, .invokestatic 15, 3, 102, 2, 2), (40, .ifCond .ne 7, 3, 47, 0, 0), (43, .iconst 1, 1, 0, 0, 0), (44, .goto 4, 3, 48, 0, 0), (47, .iconst 0, 1, 0, 0, 0), (48, .istore 7, 2, 0, 0, 0), (50, .aload_n 1, 1, 0, 0, 0), (51, .bipush 12, 2, 0, 0, 0), (53, .invokestatic 9, 3, 101, 2, 2), (56, .bipush 60, 2, 0, 0, 0), (58, .invokestatic 15, 3, 102, 2, 2), (61, .istore 8, 2, 0, 0, 0), (63, .aload_n 0, 1, 0, 0, 0), (64, .iload 5, 2, 0, 0, 0), (66, .iload 6, 2, 0, 0, 0), (68, .invokevirtual 58, 3, 63, 3, 0), (71, .iload 5, 2, 0, 0, 0), (73, .iload 6, 2, 0, 0, 0), (75, .imul, 1, 0, 0, 0), (76, .if_icmp .ne 34, 3, 110, 0, 0), (79, .aload_n 0, 1, 0, 0, 0), (80, .iload 7, 2, 0, 0, 0), (82, .invokevirtual 61, 3, 68, 2, 0), (85, .ifCond .ne 25, 3, 110, 0, 0), (88, .aload_n 0, 1, 0, 0, 0), (89, .aload_n 1, 1, 0, 0, 0), (90, .bipush 13, 2, 0, 0, 0), (92, .invokestatic 9, 3, 101, 2, 2), (95, .ldc 65, 2, 100000, 0, 0), (97, .invokestatic 15, 3, 102, 2, 2), (100, .invokevirtual 66, 3, 62, 2, 0), (103, .ifCond .ne 7, 3, 110, 0, 0), (106, .iconst 1, 1, 0, 0, 0), (107, .goto 4, 3, 111, 0, 0), (110, .iconst 0, 1, 0, 0, 0), (111, .istore 9, 2, 0, 0, 0), (113, .aload_n 0, 1, 0, 0, 0), (114, .iload 8, 2, 0, 0, 0)]
def q_c106_1 : List (Nat × qX) := [(116, .invokevirtual 54, 3, 72, 2, 0), (119, .istore 10, 2, 0, 0, 0), (121, .iload 9, 2, 0, 0, 0), (123, .ifCond .eq 43, 3, 166, 0, 0), (126, .aload_n 0, 1, 0, 0, 0), (127, .invokevirtual 51, 3, 76, 1, 0), (130, .iload 8, 2, 0, 0, 0), (132, .if_icmp .gt 34, 3, 166, 0, 0), (135, .aload_n 0, 1, 0, 0, 0), (136, .invokevirtual 51, 3, 76, 1, 0), (139, .aload_n 0, 1, 0, 0, 0), (140, .invokevirtual 48, 3, 75, 1, 0), (143, .if_icmp .gt 23, 3, 166, 0, 0), (146, .iload 10, 2, 0, 0, 0), (148, .bipush 108, 2, 0, 0, 0), (150, .if_icmp .ne 12, 3, 162, 0, 0), (153, .aload_n 0, 1, 0, 0, 0), (154, .invokevirtual 51, 3, 76, 1, 0), (157, .iload 8, 2, 0, 0, 0), (159, .if_icmp .ne 7, 3, 166, 0, 0), (162, .iconst 1, 1, 0, 0, 0), (163, .goto 4, 3, 167, 0, 0), (166, .iconst 0, 1, 0, 0, 0), (167, .istore 9, 2, 0, 0, 0), (169, .iload 5, 2, 0, 0, 0), (171, .iload 6, 2, 0, 0, 0), (173, .imul, 1, 0, 0, 0), (174, .iconst 4, 1, 0, 0, 0), (175, .if_icmp .gt 48, 3, 223, 0, 0), (178, .aload_n 0, 1, 0, 0, 0), (179, .invokevirtual 69, 3, 77, 1, 0), (182, .istore 11, 2, 0, 0, 0), (184, .iload 9, 2, 0, 0, 0), (186, .ifCond .eq 34, 3, 220, 0, 0), (189, .iload 10, 2, 0, 0, 0), (191, .bipush 100, 2, 0, 0, 0), (193, .if_icmp .ne 11, 3, 204, 0, 0), (196, .iload 11, 2, 0, 0, 0), (198, .ifCond .le 22, 3, 220, 0, 0), (201, .goto 15, 3, 216, 0, 0), (204, .iload 10, 2, 0, 0, 0), (206, .bipush 110, 2, 0, 0, 0), (208, .if_icmp .ne 8, 3, 216, 0, 0), (211, .iload 11, 2, 0, 0, 0), (213, .ifCond .ne 7, 3, 220, 0, 0), (216, .iconst 1, 1, 0, 0, 0), (217, .goto 4, 3, 221, 0, 0), (220, .iconst 0, 1, 0, 0, 0), (221, .istore 9, 2, 0, 0, 0), (223, .iload 10, 2, 0, 0, 0), (225, .bipush 100, 2, 0, 0, 0), (227, .if_icmp .eq 21, 3, 248, 0, 0), (230, .iload 9, 2, 0, 0, 0), (232, .ifCond .eq 14, 3, 246, 0, 0), (235, .aload_n 0, 1, 0, 0, 0), (236, .invokevirtual 28, 3, 73, 1, 0), (239, .ifCond .ne 7, 3, 246, 0, 0), (242, .iconst 1, 1, 0, 0, 0), (243, .goto 4, 3, 247, 0, 0), (246, .iconst 0, 1, 0, 0, 0)]
def q_c106_2 : List (Nat × qX) := [(247, .ireturn, 1, 0, 0, 0), (248, .iload 9, 2, 0, 0, 0), (250, .ifCond .eq 38, 3, 288, 0, 0), (253, .aload_n 0, 1, 0, 0, 0), (254, .aload_n 2, 1, 0, 0, 0), (255, .aload_n 3, 1, 0, 0, 0), (256, .iload 4, 2, 0, 0, 0), (258, .iload 5, 2, 0, 0, 0), (260, .iload 6, 2, 0, 0, 0), (262, .iload 7, 2, 0, 0, 0), (264, .invokestatic 72, 3, 104, 7, 2), (267, .ifCond .eq 21, 3, 288, 0, 0), (270, .aload_n 0, 1, 0, 0, 0), (271, .iload 8, 2, 0, 0, 0), (273, .iload 5, 2, 0, 0, 0), (275, .iload 6, 2, 0, 0, 0), (277, .imul, 1, 0, 0, 0), (278, .invokestatic 76, 3, 105, 3, 2), (281, .ifCond .eq 7, 3, 288, 0, 0), (284, .iconst 1, 1, 0, 0, 0), (285, .goto 4, 3, 289, 0, 0), (288, .iconst 0, 1, 0, 0, 0), (289, .ireturn, 1, 0, 0, 0)]
def q_c106 : List (Nat × qX) := q_c106_0 ++ (q_c106_1 ++ (q_c106_2))
def q_c107 : List (Nat × qX) := [(0, .aload_n 0, 1, 0, 0, 0), (1, .iload_n 1, 1, 0, 0, 0), (2, .iload_n 2, 1, 0, 0, 0), (3, .iload_n 3, 1, 0, 0, 0), (4, .invokevirtual 80, 3, 80, 4, 0), (7, .ireturn, 1, 0, 0, 0), (8, .astore 4, 2, 0, 0, 0), (10, .iconst (-1), 1, 0, 0, 0), (11, .ireturn, 1, 0, 0, 0)]
def q_c108_0 : List (Nat × qX) := [(0, .iconst 1, 1, 0, 0, 0), (1, .istore 4, 2, 0, 0, 0), (3, .iconst 0, 1, 0, 0, 0), (4, .istore 5, 2, 0, 0, 0), (6, .iload 5, 2, 0, 0, 0), (8, .iconst 3, 1, 0, 0, 0), (9, .if_icmp .ge 142, 3, 151, 0, 0), (12, .iload 4, 2, 0, 0, 0), (14, .ifCond .eq 137, 3, 151, 0, 0), (17, .aload_n 1, 1, 0, 0, 0), (18, .aload_n 0, 1, 0, 0, 0), (19, .iload_n 2, 1, 0, 0, 0), (20, .iload_n 3, 1, 0, 0, 0), (21, .iconst 3, 1, 0, 0, 0), (22, .iload 5, 2, 0, 0, 0), (24, .imul, 1, 0, 0, 0), (25, .iconst 2, 1, 0, 0, 0), (26, .iadd, 1, 0, 0, 0), (27, .invokestatic 86, 3, 107, 4, 2), (30, .aaload, 1, 0, 0, 0), (31, .iconst 1, 1, 0, 0, 0), (32, .iaload, 1, 0, 0, 0), (33, .aload_n 0, 1, 0, 0, 0), (34, .iload_n 2, 1, 0, 0, 0), (35, .iload_n 3, 1, 0, 0, 0), (36, .iconst 0, 1, 0, 0, 0), (37, .iload 5, 2, 0, 0, 0), (39, .invokevirtual 90, 3, 81, 5, 0), (42, .if_icmp .ne 35, 3, 77, 0, 0), (45, .aload_n 1, 1, 0, 0, 0), (46, .aload_n 0, 1, 0, 0, 0), (47, .iload_n 2, 1, 0, 0, 0), (48, .iload_n 3, 1, 0, 0, 0), (49, .iconst 3, 1, 0, 0, 0), (50, .iload 5, 2, 0, 0, 0), (52, .imul, 1, 0, 0, 0), (53, .invokestatic 86, 3, 107, 4, 2), (56, .aaload, 1, 0, 0, 0), (57, .iconst 3, 1, 0, 0, 0), (58, .iaload, 1, 0, 0, 0), (59, .aload_n 0, 1, 0, 0, 0), (60, .iload_n 2, 1, 0, 0, 0), (61, .iconst 1, 1, 0, 0, 0), (62, .isub, 1, 0, 0, 0), (63, .iload_n 3, 1, 0, 0, 0), (64, .iconst 0, 1, 0, 0, 0), (65, .iload 5, 2, 0, 0, 0), (67, .invokevirtual 90, 3, 81, 5, 0), (70, .if_icmp .ne 7, 3, 77, 0, 0), (73, .iconst 1, 1, 0, 0, 0), (74, .goto 4, 3, 78, 0, 0), (77, .iconst 0, 1, 0, 0, 0), (78, .istore 4, 2, 0, 0, 0), (80, .iload 4, 2, 0, 0, 0), (82, .ifCond .eq 60, 3, 142, 0, 0), (85, .aload_n 1, 1, 0, 0, 0), (86, .aload_n 0, 1, 0, 0, 0), (87, .iload_n 2, 1, 0, 0, 0), (88, .iload_n 3, 1, 0, 0, 0), (89, .bipush 6, 2, 0, 0, 0)]
def q_c108_1 : List (Nat × qX) := [(91, .iload 5, 2, 0, 0, 0), (93, .iadd, 1, 0, 0, 0), (94, .invokestatic 86, 3, 107, 4, 2), (97, .aaload, 1, 0, 0, 0), (98, .iconst 2, 1, 0, 0, 0), (99, .iaload, 1, 0, 0, 0), (100, .aload_n 0, 1, 0, 0, 0), (101, .iload_n 2, 1, 0, 0, 0), (102, .iload_n 3, 1, 0, 0, 0), (103, .iconst 1, 1, 0, 0, 0), (104, .iload 5, 2, 0, 0, 0), (106, .invokevirtual 90, 3, 81, 5, 0), (109, .if_icmp .ne 33, 3, 142, 0, 0), (112, .aload_n 1, 1, 0, 0, 0), (113, .aload_n 0, 1, 0, 0, 0), (114, .iload_n 2, 1, 0, 0, 0), (115, .iload_n 3, 1, 0, 0, 0), (116, .iload 5, 2, 0, 0, 0), (118, .invokestatic 86, 3, 107, 4, 2), (121, .aaload, 1, 0, 0, 0), (122, .iconst 0, 1, 0, 0, 0), (123, .iaload, 1, 0, 0, 0), (124, .aload_n 0, 1, 0, 0, 0), (125, .iload_n 2, 1, 0, 0, 0), (126, .iload_n 3, 1, 0, 0, 0), (127, .iconst 1, 1, 0, 0, 0), (128, .isub, 1, 0, 0, 0), (129, .iconst 1, 1, 0, 0, 0), (130, .iload 5, 2, 0, 0, 0), (132, .invokevirtual 90, 3, 81, 5, 0), (135, .if_icmp .ne 7, 3, 142, 0, 0), (138, .iconst 1, 1, 0, 0, 0), (139, .goto 4, 3, 143, 0, 0), (142, .iconst 0, 1, 0, 0, 0), (143, .istore 4, 2, 0, 0, 0), (145, .iinc 5 1, 3, 0, 0, 0), (148, .goto (-142), 3, 6, 0, 0), (151, .iload 4, 2, 0, 0, 0), (153, .ireturn, 1, 0, 0, 0)]
def q_c108 : List (Nat × qX) := q_c108_0 ++ q_c108_1
def q_c109_0 : List (Nat × qX) := [(0, .aload_n 1, 1, 0, 0, 0), (1, .bipush 14, 2, 0, 0, 0), (3, .invokestatic 9, 3, 101, 2, 2), (6, .bipush 97, 2, 0, 0, 0), (8, .invokestatic 15, 3, 102, 2, 2), (11, .bipush 48, 2, 0, 0, 0), (13, .isub, 1, 0, 0, 0), (14, .istore_n 3, 1, 0, 0, 0), (15, .aload_n 1, 1, 0, 0, 0), (16, .bipush 15, 2, 0, 0, 0), (18, .invokestatic 9, 3, 101, 2, 2), (21, .bipush 97, 2, 0, 0, 0), (23, .invokestatic 15, 3, 102, 2, 2), (26, .bipush 48, 2, 0, 0, 0), (28, .isub, 1, 0, 0, 0), (29, .istore 4, 2, 0, 0, 0), (31, .iconst 4, 1, 0, 0, 0), (32, .newarray .char, 2, 0, 0, 0), (34, .astore 5, 2, 0, 0, 0), (36, .iconst 4, 1, 0, 0, 0), (37, .bipush 9, 2, 0, 0, 0), (39, .multianewarray 94 2, 4, 807, 0, 0), (43, .astore 6, 2, 0, 0, 0), (45, .iconst 1, 1, 0, 0, 0), (46, .istore 7, 2, 0, 0, 0), (48, .iconst 0, 1, 0, 0, 0), (49, .istore 8, 2, 0, 0, 0), (51, .iload 8, 2, 0, 0, 0), (53, .iconst 4, 1, 0, 0, 0), (54, .if_icmp .ge 149, 3, 203, 0, 0), (57, .iload 7, 2, 0, 0, 0), (59, .ifCond .eq 144, 3, 203, 0, 0), (62, .aload 5, 2, 0, 0, 0), (64, .iload 8, 2, 0, 0, 0), (66, .aload_n 0, 1, 0, 0, 0), (67, .iload_n 3, 1, 0, 0, 0), (68, .iload 8, 2, 0, 0, 0), (70, .iconst 2, 1, 0, 0, 0), (71, .irem, 1, 0, 0, 0), (72, .iadd, 1, 0, 0, 0), (73, .iload 4, 2, 0, 0, 0), (75, .iload 8, 2, 0, 0, 0), (77, .iconst 2, 1, 0, 0, 0), (78, .idiv, 1, 0, 0, 0), (79, .iadd, 1, 0, 0, 0), (80, .invokevirtual 96, 3, 79, 3, 0), (83, .castore, 1, 0, 0, 0), (84, .iconst 0, 1, 0, 0, 0), (85, .istore 9, 2, 0, 0, 0), (87, .iload 9, 2, 0, 0, 0), (89, .bipush 9, 2, 0, 0, 0), (91, .if_icmp .ge 36, 3, 127, 0, 0), (94, .aload 6, 2, 0, 0, 0), (96, .iload 8, 2, 0, 0, 0), (98, .aaload, 1, 0, 0, 0), (99, .iload 9, 2, 0, 0, 0), (101, .aload_n 0, 1, 0, 0, 0), (102, .iload_n 3, 1, 0, 0, 0), (103, .iload 8, 2, 0, 0, 0), (105, .iconst 2, 1, 0, 0, 0)]
def q_c109_1 : List (Nat × qX) := [(106, .irem, 1, 0, 0, 0), (107, .iadd, 1, 0, 0, 0), (108, .iload 4, 2, 0, 0, 0), (110, .iload 8, 2, 0, 0, 0), (112, .iconst 2, 1, 0, 0, 0), (113, .idiv, 1, 0, 0, 0), (114, .iadd, 1, 0, 0, 0), (115, .iload 9, 2, 0, 0, 0), (117, .invokestatic 86, 3, 107, 4, 2), (120, .iastore, 1, 0, 0, 0), (121, .iinc 9 1, 3, 0, 0, 0), (124, .goto (-37), 3, 87, 0, 0), (127, .aload_n 0, 1, 0, 0, 0), (128, .invokevirtual 100, 3, 82, 1, 0), (131, .iload 8, 2, 0, 0, 0), (133, .iconst 1, 1, 0, 0, 0), (134, .iadd, 1, 0, 0, 0), (135, .if_icmp .ne 59, 3, 194, 0, 0), (138, .aload 5, 2, 0, 0, 0), (140, .iload 8, 2, 0, 0, 0), (142, .caload, 1, 0, 0, 0), (143, .bipush 100, 2, 0, 0, 0), (145, .if_icmp .ne 24, 3, 169, 0, 0), (148, .aload_n 0, 1, 0, 0, 0), (149, .aload_n 2, 1, 0, 0, 0), (150, .iload_n 3, 1, 0, 0, 0), (151, .iload 8, 2, 0, 0, 0), (153, .iconst 2, 1, 0, 0, 0), (154, .irem, 1, 0, 0, 0), (155, .iadd, 1, 0, 0, 0), (156, .iload 4, 2, 0, 0, 0), (158, .iload 8, 2, 0, 0, 0), (160, .iconst 2, 1, 0, 0, 0), (161, .idiv, 1, 0, 0, 0), (162, .iadd, 1, 0, 0, 0), (163, .invokestatic 103, 3, 108, 4, 2), (166, .ifCond .eq 28, 3, 194, 0, 0), (169, .aload 5, 2, 0, 0, 0), (171, .iload 8, 2, 0, 0, 0), (173, .caload, 1, 0, 0, 0), (174, .bipush 100, 2, 0, 0, 0), (176, .if_icmp .eq 14, 3, 190, 0, 0), (179, .aload 6, 2, 0, 0, 0), (181, .iload 8, 2, 0, 0, 0), (183, .aaload, 1, 0, 0, 0), (184, .iconst 0, 1, 0, 0, 0), (185, .iaload, 1, 0, 0, 0), (186, .iconst (-1), 1, 0, 0, 0), (187, .if_icmp .ne 7, 3, 194, 0, 0), (190, .iconst 1, 1, 0, 0, 0), (191, .goto 4, 3, 195, 0, 0), (194, .iconst 0, 1, 0, 0, 0), (195, .istore 7, 2, 0, 0, 0), (197, .iinc 8 1, 3, 0, 0, 0), (200, .goto (-149), 3, 51, 0, 0), (203, .iload 7, 2, 0, 0, 0), (205, .ifCond .eq 15, 3, 220, 0, 0), (208, .aload_n 0, 1, 0, 0, 0), (209, .invokevirtual 107, 3, 83, 1, 0), (212, .iconst 4, 1, 0, 0, 0)]
def q_c109_2 : List (Nat × qX) := [(213, .if_icmp .ne 7, 3, 220, 0, 0), (216, .iconst 1, 1, 0, 0, 0), (217, .goto 4, 3, 221, 0, 0), (220, .iconst 0, 1, 0, 0, 0), (221, .istore 7, 2, 0, 0, 0), (223, .iconst 3, 1, 0, 0, 0), (224, .istore 8, 2, 0, 0, 0), (226, .iload 8, 2, 0, 0, 0), (228, .ifCond .lt 104, 3, 332, 0, 0), (231, .iload 7, 2, 0, 0, 0), (233, .ifCond .eq 99, 3, 332, 0, 0), (236, .aload_n 0, 1, 0, 0, 0), (237, .iload_n 3, 1, 0, 0, 0), (238, .iload 8, 2, 0, 0, 0), (240, .iconst 2, 1, 0, 0, 0), (241, .irem, 1, 0, 0, 0), (242, .iadd, 1, 0, 0, 0), (243, .iload 4, 2, 0, 0, 0), (245, .iload 8, 2, 0, 0, 0), (247, .iconst 2, 1, 0, 0, 0), (248, .idiv, 1, 0, 0, 0), (249, .iadd, 1, 0, 0, 0), (250, .invokevirtual 96, 3, 79, 3, 0), (253, .aload 5, 2, 0, 0, 0), (255, .iload 8, 2, 0, 0, 0), (257, .caload, 1, 0, 0, 0), (258, .if_icmp .ne 7, 3, 265, 0, 0), (261, .iconst 1, 1, 0, 0, 0), (262, .goto 4, 3, 266, 0, 0), (265, .iconst 0, 1, 0, 0, 0), (266, .istore 7, 2, 0, 0, 0), (268, .iconst 0, 1, 0, 0, 0), (269, .istore 9, 2, 0, 0, 0), (271, .iload 9, 2, 0, 0, 0), (273, .bipush 9, 2, 0, 0, 0), (275, .if_icmp .ge 51, 3, 326, 0, 0), (278, .iload 7, 2, 0, 0, 0), (280, .ifCond .eq 46, 3, 326, 0, 0), (283, .aload_n 0, 1, 0, 0, 0), (284, .iload_n 3, 1, 0, 0, 0), (285, .iload 8, 2, 0, 0, 0), (287, .iconst 2, 1, 0, 0, 0), (288, .irem, 1, 0, 0, 0), (289, .iadd, 1, 0, 0, 0), (290, .iload 4, 2, 0, 0, 0), (292, .iload 8, 2, 0, 0, 0), (294, .iconst 2, 1, 0, 0, 0), (295, .idiv, 1, 0, 0, 0), (296, .iadd, 1, 0, 0, 0), (297, .iload 9, 2, 0, 0, 0), (299, .invokestatic 86, 3, 107, 4, 2), (302, .aload 6, 2, 0, 0, 0), (304, .iload 8, 2, 0, 0, 0), (306, .aaload, 1, 0, 0, 0), (307, .iload 9, 2, 0, 0, 0), (309, .iaload, 1, 0, 0, 0), (310, .if_icmp .ne 7, 3, 317, 0, 0), (313, .iconst 1, 1, 0, 0, 0), (314, .goto 4, 3, 318, 0, 0), (317, .iconst 0, 1, 0, 0, 0)]
def q_c109_3 : List (Nat × qX) := [(318, .istore 7, 2, 0, 0, 0), (320, .iinc 9 1, 3, 0, 0, 0), (323, .goto (-52), 3, 271, 0, 0), (326, .iinc 8 (-1), 3, 0, 0, 0), (329, .goto (-103), 3, 226, 0, 0), (332, .iload 7, 2, 0, 0, 0), (334, .ifCond .eq 15, 3, 349, 0, 0), (337, .aload_n 0, 1, 0, 0, 0), (338, .invokevirtual 100, 3, 82, 1, 0), (341, .iconst 4, 1, 0, 0, 0), (342, .if_icmp .ne 7, 3, 349, 0, 0), (345, .iconst 1, 1, 0, 0, 0), (346, .goto 4, 3, 350, 0, 0), (349, .iconst 0, 1, 0, 0, 0), (350, .ireturn, 1, 0, 0, 0)]
def q_c109 : List (Nat × qX) := q_c109_0 ++ (q_c109_1 ++ (q_c109_2 ++ (q_c109_3)))
def q_c110 : List (Nat × qX) := [(0, .new 20, 3, 9, 12, 0), (3, .dup, 1, 0, 0, 0), (4, .invokespecial 110, 3, 60, 1, 4), (7, .astore_n 1, 1, 0, 0, 0), (8, .bipush 8, 2, 0, 0, 0), (10, .anewarray 111, 3, 855, 0, 0), (13, .astore_n 2, 1, 0, 0, 0), (14, .bipush 8, 2, 0, 0, 0), (16, .newarray .int, 2, 0, 0, 0), (18, .astore_n 3, 1, 0, 0, 0), (19, .aload_n 1, 1, 0, 0, 0), (20, .aload_n 0, 1, 0, 0, 0), (21, .aload_n 2, 1, 0, 0, 0), (22, .aload_n 3, 1, 0, 0, 0), (23, .invokestatic 113, 3, 103, 4, 2), (26, .istore 4, 2, 0, 0, 0), (28, .aload_n 1, 1, 0, 0, 0), (29, .aload_n 0, 1, 0, 0, 0), (30, .aload_n 2, 1, 0, 0, 0), (31, .aload_n 3, 1, 0, 0, 0), (32, .iload 4, 2, 0, 0, 0), (34, .invokestatic 117, 3, 106, 5, 2), (37, .ifCond .eq 23, 3, 60, 0, 0), (40, .aload_n 1, 1, 0, 0, 0), (41, .aload_n 0, 1, 0, 0, 0), (42, .aload_n 2, 1, 0, 0, 0), (43, .invokestatic 121, 3, 109, 3, 2), (46, .ifCond .eq 14, 3, 60, 0, 0), (49, .aload_n 1, 1, 0, 0, 0), (50, .invokevirtual 125, 3, 87, 1, 0), (53, .ifCond .eq 7, 3, 60, 0, 0), (56, .iconst 1, 1, 0, 0, 0), (57, .goto 4, 3, 61, 0, 0), (60, .iconst 0, 1, 0, 0, 0), (61, .ireturn, 1, 0, 0, 0)]
def q_codes : List (List (Nat × qX)) := [q_c0, q_c1, q_c2, q_c3, q_c4, q_c5, q_c6, q_c7, q_c8, q_c9, q_c10, q_c11, q_c12, q_c13, q_c14, q_c15, q_c16, q_c17, q_c18, q_c19, q_c20, q_c21, q_c22, q_c23, q_c24, q_c25, q_c26, q_c27, q_c28, q_c29, q_c30, q_c31, q_c32, q_c33, q_c34, q_c35, q_c36, q_c37, q_c38, q_c39, q_c40, q_c41, q_c42, q_c43, q_c44, q_c45, q_c46, q_c47, q_c48, q_c49, q_c50, q_c51, q_c52, q_c53, q_c54, q_c55, q_c56, q_c57, q_c58, q_c59, q_c60, q_c61, q_c62, q_c63, q_c64, q_c65, q_c66, q_c67, q_c68, q_c69, q_c70, q_c71, q_c72, q_c73, q_c74, q_c75, q_c76, q_c77, q_c78, q_c79, q_c80, q_c81, q_c82, q_c83, q_c84, q_c85, q_c86, q_c87, q_c88, q_c89, q_c90, q_c91, q_c92, q_c93, q_c94, q_c95, q_c96, q_c97, q_c98, q_c99, q_c100, q_c101, q_c102, q_c103, q_c104, q_c105, q_c106, q_c107, q_c108, q_c109, q_c110]
def q_code (j pc : Nat) : Option qX := (q_codes.getD j []).lookup pc
def q_ys : List (MethodName) := [yX0_init, yX0_clear, yX0_find, yX0_keep, yX0_endOf, yX0_tileOf, yX0_isSame, yX1_init, yX1_run, yX1_hasGoneWrong, yX1_cellWithFewest, yX1_placeTiles, yX1_guess, yX1_takeBack, yX2_init, yX2_resize, yX2_cells, yX2_has, yX2_rowOf, yX2_columnOf, yX2_beside, yX3_init, yX3_change, yX3_narrow, yX3_narrowBeside, yX3_narrowBySweeps, yX3_takeUnfitting, yX3_hasFittingNeighbours, yX4_init, yX4_isFitting, yX4_holds, yX4_isRoadAs, yX4_roadCells, yX4_pieces, yX4_seePiece, yX5_init, yX5_get, yX5_set, yX5_setAll, yX6_init, yX6_add, yX6_paint, yX6_has, yX6_all, yX6_colour, yX6_withEdge, yX6_fit, yX6_hasRoad, yX6_fittingBeside, yX6_lowest, yX6_draw, yX7_init, yX7_allow, yX8_init, yX8_renew, yX5_get, yX5_get, yX5_get, yX8_possibleIn, yX8_putInto, yX9_init, yX9_addTile, yX9_setSeed, yX9_setSize, yX5_get, yX5_get, yX5_get, yX9_setMost, yX9_setRoad, yX5_get, yX5_get, yX5_get, yX9_fill, yX9_isFilled, yX9_tileAt, yX9_guesses, yX9_takenBack, yX9_ways, yX9_roads, yX9_visit, yX9_chunkTile, yX9_border, yX9_chunks, yX9_forget, yX9_worldSum, yX5_get, yX9_roadShare, yX9_isSound, yX9_isFromTo, yX9_isColour, yX9_isPlace, yX9_opposite, yX9_isOneOf, yX9_isWay, yX9_edgeColour, yX9_chunkState, yX9_putChunkIntoFilling, yX9_possibleInChunk, yX9_areBothWaysSame, yX9_areNearChunksSame, yJ6_bitCount_0f7a4, yL_cell, yL_low, yL_tells, yL_isFilledWell, yL_isFilledAlike, yL_isWorld, yL_tileOf, yL_isBordered, yL_areChunks, yL_law]
def q_y (j : Nat) : MethodName := q_ys.getD j yL_law
def q_bs : List (ByteArray) := [cX0_init, cX0_clear, cX0_find, cX0_keep, cX0_endOf, cX0_tileOf, cX0_isSame, cX1_init, cX1_run, cX1_hasGoneWrong, cX1_cellWithFewest, cX1_placeTiles, cX1_guess, cX1_takeBack, cX2_init, cX2_resize, cX2_cells, cX2_has, cX2_rowOf, cX2_columnOf, cX2_beside, cX3_init, cX3_change, cX3_narrow, cX3_narrowBeside, cX3_narrowBySweeps, cX3_takeUnfitting, cX3_hasFittingNeighbours, cX4_init, cX4_isFitting, cX4_holds, cX4_isRoadAs, cX4_roadCells, cX4_pieces, cX4_seePiece, cX5_init, cX5_get, cX5_set, cX5_setAll, cX6_init, cX6_add, cX6_paint, cX6_has, cX6_all, cX6_colour, cX6_withEdge, cX6_fit, cX6_hasRoad, cX6_fittingBeside, cX6_lowest, cX6_draw, cX7_init, cX7_allow, cX8_init, cX8_renew, cX5_get, cX5_get, cX5_get, cX8_possibleIn, cX8_putInto, cX9_init, cX9_addTile, cX9_setSeed, cX9_setSize, cX5_get, cX5_get, cX5_get, cX9_setMost, cX9_setRoad, cX5_get, cX5_get, cX5_get, cX9_fill, cX9_isFilled, cX9_tileAt, cX9_guesses, cX9_takenBack, cX9_ways, cX9_roads, cX9_visit, cX9_chunkTile, cX9_border, cX9_chunks, cX9_forget, cX9_worldSum, cX5_get, cX9_roadShare, cX9_isSound, cX9_isFromTo, cX9_isColour, cX9_isPlace, cX9_opposite, cX9_isOneOf, cX9_isWay, cX9_edgeColour, cX9_chunkState, cX9_putChunkIntoFilling, cX9_possibleInChunk, cX9_areBothWaysSame, cX9_areNearChunksSame, cJ6_bitCount_0f7a4, cL_cell, cL_low, cL_tells, cL_isFilledWell, cL_isFilledAlike, cL_isWorld, cL_tileOf, cL_isBordered, cL_areChunks, cL_law]
def q_b (j : Nat) : ByteArray := q_bs.getD j cL_law
def q_mLs : List (Nat) := [1, 1, 4, 6, 2, 3, 5, 4, 6, 4, 5, 2, 3, 3, 3, 3, 1, 2, 2, 2, 3, 3, 3, 4, 6, 4, 5, 7, 3, 4, 4, 2, 3, 3, 7, 2, 2, 3, 3, 1, 7, 5, 2, 1, 3, 3, 4, 3, 6, 3, 7, 1, 4, 2, 3, 2, 2, 2, 4, 3, 1, 6, 3, 3, 2, 2, 2, 4, 3, 2, 2, 2, 3, 1, 2, 1, 1, 4, 1, 5, 5, 5, 1, 2, 6, 2, 2, 2, 3, 1, 2, 1, 2, 5, 6, 3, 4, 7, 2, 5, 1, 2, 2, 11, 15, 8, 12, 5, 6, 10, 5]
def q_mL (j : Nat) : Nat := q_mLs.getD j 0
def q_rts : List (Option FieldType) := [none, none, (some .int), none, (some .char), (some .int), (some .boolean), none, (some .char), (some .boolean), (some .int), none, none, none, none, none, (some .int), (some .boolean), (some .int), (some .int), (some .int), none, none, none, none, none, (some .boolean), (some .boolean), none, (some .boolean), (some .boolean), (some .boolean), (some .int), (some .int), none, none, (some .int), none, none, none, (some .int), none, (some .boolean), (some .int), (some .int), (some .int), (some .boolean), (some .boolean), (some .int), (some .int), (some .int), none, (some .boolean), none, none, (some .int), (some .int), (some .int), (some .int), none, none, (some .int), (some .int), (some .int), (some .int), (some .int), (some .int), (some .int), (some .boolean), (some .int), (some .int), (some .int), (some .char), (some .boolean), (some .int), (some .int), (some .int), (some .int), (some .int), (some .char), (some .int), (some .int), (some .int), (some .int), (some .long), (some .int), (some .float), (some .boolean), (some .boolean), (some .boolean), (some .boolean), (some .int), (some .boolean), (some .boolean), (some .int), (some .int), none, (some .int), (some .boolean), (some .boolean), (some .int), (some .int), (some .int), (some .int), (some .boolean), (some .boolean), (some .boolean), (some .int), (some .boolean), (some .boolean), (some .boolean)]
def q_rt (j : Nat) : Option FieldType := q_rts.getD j none
def q_ocs : List (Nat) := [0, 0, 0, 0, 0, 0, 0, 1, 1, 1, 1, 1, 1, 1, 2, 2, 2, 2, 2, 2, 2, 3, 3, 3, 3, 3, 3, 3, 4, 4, 4, 4, 4, 4, 4, 5, 5, 5, 5, 6, 6, 6, 6, 6, 6, 6, 6, 6, 6, 6, 6, 7, 7, 8, 8, 5, 5, 5, 8, 8, 9, 9, 9, 9, 5, 5, 5, 9, 9, 5, 5, 5, 9, 9, 9, 9, 9, 9, 9, 9, 9, 9, 9, 9, 9, 5, 9, 9, 9, 9, 9, 9, 9, 9, 9, 9, 9, 9, 9, 9, 12, 11, 11, 11, 11, 11, 11, 11, 11, 11, 11]
def q_oc (j : Nat) : Nat := q_ocs.getD j 0
def q_frs : List (Nat) := [2, 1, 2, 2, 2, 2, 3, 3, 6, 3, 2, 3, 5, 5, 1, 1, 1, 1, 1, 1, 2, 2, 2, 4, 3, 6, 5, 4, 2, 4, 6, 5, 4, 4, 3, 1, 1, 1, 1, 2, 3, 2, 1, 1, 2, 2, 3, 3, 2, 2, 3, 2, 2, 2, 2, 1, 1, 1, 2, 3, 4, 6, 6, 6, 1, 1, 1, 6, 1, 1, 1, 1, 7, 1, 6, 1, 1, 8, 6, 7, 6, 6, 1, 2, 6, 1, 6, 8, 1, 2, 2, 1, 1, 7, 1, 1, 4, 3, 7, 7, 1, 1, 1, 7, 7, 8, 9, 7, 8, 9, 12]
def q_fr (j : Nat) : Nat := q_frs.getD j 0
def q_los : List (Nat) := [42, 21, 42, 43, 42, 42, 64, 64, 137, 65, 42, 64, 115, 115, 21, 21, 21, 21, 21, 21, 42, 42, 43, 92, 67, 137, 113, 87, 42, 87, 133, 112, 86, 90, 64, 21, 21, 21, 21, 42, 67, 43, 21, 21, 42, 42, 64, 64, 42, 42, 64, 43, 42, 43, 43, 21, 21, 21, 42, 65, 87, 98, 98, 98, 21, 21, 21, 98, 21, 21, 21, 21, 162, 21, 98, 21, 21, 180, 112, 162, 98, 98, 21, 41, 98, 21, 108, 186, 21, 43, 43, 21, 21, 156, 21, 21, 90, 64, 160, 162, 21, 21, 21, 123, 132, 184, 211, 122, 146, 186, 454]
def q_lo (j : Nat) : Nat := q_los.getD j 0
def q_mcs : List (Nat) := [6, 0, 0, 0, 0, 0, 0, 24, 0, 0, 0, 0, 0, 0, 0, 0, 0, 0, 0, 0, 0, 6, 0, 0, 0, 0, 0, 0, 8, 0, 0, 0, 0, 0, 0, 1, 0, 0, 0, 6, 0, 0, 0, 0, 0, 0, 0, 0, 0, 0, 0, 2, 0, 5, 0, 0, 0, 0, 0, 0, 100, 1, 1, 1, 0, 0, 0, 1, 0, 0, 0, 0, 1, 0, 1, 0, 0, 1, 1, 1, 1, 1, 0, 0, 1, 0, 1, 0, 0, 0, 0, 0, 0, 0, 0, 0, 0, 0, 0, 0, 0, 0, 0, 100, 200, 200, 1000, 1, 40, 1000, 600086]
def q_mc (j : Nat) : Nat := q_mcs.getD j 0
def q_mss : List (Nat) := [3891, 0, 0, 0, 0, 0, 0, 14279, 0, 0, 0, 0, 0, 0, 0, 0, 0, 0, 0, 0, 0, 3891, 0, 0, 0, 0, 0, 0, 5188, 0, 0, 0, 0, 0, 0, 1296, 0, 0, 0, 3891, 0, 0, 0, 0, 0, 0, 0, 0, 0, 0, 0, 1297, 0, 2596, 0, 0, 0, 0, 0, 0, 54562, 6, 6, 6, 0, 0, 0, 6, 0, 0, 0, 0, 6, 0, 6, 0, 0, 6, 6, 6, 6, 6, 0, 0, 6, 0, 6, 0, 0, 0, 0, 0, 0, 0, 0, 0, 0, 0, 0, 0, 0, 0, 0, 1000, 2000, 2000, 10000, 6, 400, 10000, 7301442]
def q_ms (j : Nat) : Nat := q_mss.getD j 0
def q_als : List (Bool) := [true, false, false, false, false, false, false, true, false, false, false, false, false, false, true, false, false, false, false, false, false, true, false, false, false, false, false, false, true, false, false, false, false, false, false, true, false, false, false, true, false, false, false, false, false, false, false, false, false, false, false, true, false, true, false, false, false, false, false, false, true, false, false, false, false, false, false, false, false, false, false, false, false, false, false, false, false, false, false, false, false, false, false, false, false, false, false, false, false, false, false, false, false, false, false, false, false, false, false, false, false, false, false, true, true, true, true, false, false, true, true]
def q_al (j : Nat) : Bool := q_als.getD j false
def q_nps : List (Nat) := [0, 0, 2, 4, 1, 2, 3, 3, 2, 0, 0, 0, 1, 0, 2, 2, 0, 1, 1, 1, 2, 2, 2, 0, 2, 0, 1, 2, 2, 0, 1, 1, 0, 0, 1, 1, 1, 2, 1, 0, 5, 3, 1, 0, 2, 2, 3, 1, 2, 1, 2, 0, 2, 1, 2, 1, 1, 1, 1, 1, 0, 5, 1, 2, 1, 1, 1, 2, 1, 1, 1, 1, 1, 0, 1, 0, 0, 0, 0, 2, 3, 4, 0, 0, 0, 1, 0, 0, 3, 1, 2, 1, 2, 1, 4, 2, 2, 3, 0, 0, 1, 2, 2, 4, 7, 3, 5, 4, 4, 3, 1]
def q_np (j : Nat) : Nat := q_nps.getD j 0
def q_hhs : List (List (Nat × Nat × Nat × Nat)) := [[], [], [], [], [], [], [], [], [], [], [], [], [], [], [], [], [], [], [], [], [], [], [], [], [], [], [], [], [], [], [], [], [], [], [], [], [], [], [], [], [], [], [], [], [], [], [], [], [], [], [], [], [], [], [], [], [], [], [], [], [], [], [], [], [], [], [], [], [], [], [], [], [], [], [], [], [], [], [], [], [], [], [], [], [], [], [], [], [], [], [], [], [], [], [], [], [], [], [], [], [], [], [], [], [], [], [], [(0, 7, 8, 84)], [], [], []]
def q_hh (j : Nat) : List (Nat × Nat × Nat × Nat) := q_hhs.getD j []
def q_rns : List String := [RX0, RX1, RX2, RX3, RX4, RX5, RX6, RX7, RX8, RX9, RX10, RL, RJ6]
def q_rn (oc : Nat) : String := q_rns.getD oc RL
def q_T (ci : Nat) : u_T := match ci with
  | 0 => TX0
  | 1 => TX1
  | 2 => TX2
  | 3 => TX3
  | 4 => TX4
  | 5 => TX5
  | 6 => TX6
  | 7 => TX7
  | 8 => TX8
  | _ => TX9
def q_ty (ci : Nat) : Nat → FieldType := match ci with
  | 0 => tyX0
  | 1 => tyX1
  | 2 => tyX2
  | 3 => tyX3
  | 4 => tyX4
  | 5 => tyX5
  | 6 => tyX6
  | 7 => tyX7
  | 8 => tyX8
  | _ => tyX9
def q_Ns : List Nat := [4, 13, 2, 6, 6, 1, 4, 2, 4, 12]
def q_N (ci : Nat) : Nat := q_Ns.getD ci 0
def q_dfs : List (List Value) := [[.null, .null, .null, .int 0], [.null, .null, .null, .null, .null, .null, .null, .null, .null, .int 0, .int 0, .int 0, .int 0], [.int 0, .int 0], [.null, .null, .null, .null, .null, .int 0], [.null, .null, .null, .null, .null, .null], [.null], [.null, .null, .null, .int 0], [.null, .int 0], [.null, .null, .null, .null], [.null, .null, .null, .null, .null, .null, .null, .null, .null, .null, .int 0, .int 0]]
def q_df (ci : Nat) : List Value := q_dfs.getD ci []
def q_hn : List ((Nat × Nat × Nat) × Nat × Nat) := [((107, 4, 3), 10, 4)]
def q_hnd (j pc e : Nat) : Option (Nat × Nat) := q_hn.lookup (j, pc, e)
end
section
/-! the small machine: a frame is (pc, locals, stack, cells, new cells, new slots) -/
abbrev qF : Type := Nat × qL × List Value × qM × Nat × Nat
abbrev qScr : Type := Option (Nat × (Nat → Int32))
def qSCR : Nat := 1000000
def qi1 (g : Int32 → Option Value) (st : List Value) : Option (List Value) := match st with
  | .int x :: r => (g x).map (fun v => v :: r)
  | _ => none
def qi2 (g : Int32 → Int32 → Option Value) (st : List Value) : Option (List Value) := match st with
  | .int y :: .int x :: r => (g x y).map (fun v => v :: r)
  | _ => none
def ql2 (g : Int64 → Int64 → Option Value) (st : List Value) : Option (List Value) := match st with
  | .long y :: .long x :: r => (g x y).map (fun v => v :: r)
  | _ => none
def qf1 (g : UInt32 → Option Value) (st : List Value) : Option (List Value) := match st with
  | .float x :: r => (g x).map (fun v => v :: r)
  | _ => none
def qf2 (g : UInt32 → UInt32 → Option Value) (st : List Value) : Option (List Value) := match st with
  | .float y :: .float x :: r => (g x y).map (fun v => v :: r)
  | _ => none
def qd2 (g : UInt64 → UInt64 → Option Value) (st : List Value) : Option (List Value) := match st with
  | .double y :: .double x :: r => (g x y).map (fun v => v :: r)
  | _ => none
def qcat1 (v : Value) : Bool := v.category == 1
def qdup (st : List Value) : Option (List Value) := match st with
  | v :: r => if qcat1 v = true then some (v :: v :: r) else none
  | _ => none
def qdup2 (st : List Value) : Option (List Value) := match st with
  | v :: w :: r => if qcat1 v = true ∧ qcat1 w = true then some (v :: w :: v :: w :: r) else none
  | _ => none
/-- what only turns the stack -/
def q_pl (i : Instr) (st : List Value) : Option (List Value) := match i with
  | .iconst n => some (.int (Int32.ofInt n) :: st)
  | .bipush n => some (.int (Int8.ofInt n).toInt32 :: st)
  | .sipush n => some (.int (Int16.ofInt n).toInt32 :: st)
  | .lconst n => some (.long (Int64.ofNat (n : Nat)) :: st)
  | .fconst n => if n = 0 then some (.float FP.fconst0 :: st) else none
  | .dconst n => if n = 0 then some (.double FP.dconst0 :: st) else none
  | .iadd => qi2 (fun x y => some (.int (x + y))) st
  | .isub => qi2 (fun x y => some (.int (x - y))) st
  | .imul => qi2 (fun x y => some (.int (x * y))) st
  | .iand => qi2 (fun x y => some (.int (x &&& y))) st
  | .ior => qi2 (fun x y => some (.int (x ||| y))) st
  | .ixor => qi2 (fun x y => some (.int (x ^^^ y))) st
  | .idiv => qi2 (fun x y => if y = 0 then none else some (.int (x / y))) st
  | .irem => qi2 (fun x y => if y = 0 then none else some (.int (x - x / y * y))) st
  | .ishl => qi2 (fun x y => some (.int (x <<< (y &&& 31)))) st
  | .ishr => qi2 (fun x y => some (.int (x >>> (y &&& 31)))) st
  | .iushr => qi2 (fun x y => some (.int (x.toUInt32 >>> (y.toUInt32 &&& Int32.toUInt32 31)).toInt32)) st
  | .i2c => qi1 (fun x => some (.int (x.toUInt32 % 65536).toInt32)) st
  | .i2l => qi1 (fun x => some (.long x.toInt64)) st
  | .i2d => qi1 (fun x => some (.double (FP.i2d x))) st
  | .i2f => qi1 (fun x => some (.float (FP.i2f x))) st
  | .ladd => ql2 (fun x y => some (.long (x + y))) st
  | .lmul => ql2 (fun x y => some (.long (x * y))) st
  | .lcmp => ql2 (fun x y => some (.int (lg_cmp x y))) st
  | .ddiv => qd2 (fun x y => if FP.ddiv x y &&& 0x7fffffffffffffff ≤ 0x7ff0000000000000 then some (.double (FP.ddiv x y)) else none) st
  | .fdiv => qf2 (fun x y => if FP.fdiv x y &&& 0x7fffffff ≤ 0x7f800000 then some (.float (FP.fdiv x y)) else none) st
  | .f2d => qf1 (fun x => if FP.f2d x &&& 0x7fffffffffffffff ≤ 0x7ff0000000000000 then some (.double (FP.f2d x)) else none) st
  | .dcmp op => qd2 (fun x y => some (.int (Op.cmpValue (FP.dcmp x y) op))) st
  | .fcmp op => qf2 (fun x y => some (.int (Op.cmpValue (FP.fcmp x y) op))) st
  | .dup => qdup st
  | .dup2 => qdup2 st
  | _ => none
def q_kind (v : Value) : Nat := match v with
  | .int _ => 0
  | .long _ => 1
  | .float _ => 2
  | .double _ => 3
  | .ref _ => 4
  | _ => 5
/-- loads: the kind and the place -/
def q_ld (i : Instr) : Option (Nat × Nat) := match i with
  | .iload n => some (0, n)
  | .iload_n n => some (0, (n : Nat))
  | .lload n => some (1, n)
  | .lload_n n => some (1, (n : Nat))
  | .fload n => some (2, n)
  | .dload n => some (3, n)
  | .aload n => some (4, n)
  | .aload_n n => some (4, (n : Nat))
  | _ => none
/-- stores -/
def q_sto (i : Instr) : Option (Nat × Nat) := match i with
  | .istore n => some (0, n)
  | .istore_n n => some (0, (n : Nat))
  | .lstore n => some (1, n)
  | .lstore_n n => some (1, (n : Nat))
  | .fstore n => some (2, n)
  | .dstore n => some (3, n)
  | .astore n => some (4, n)
  | .astore_n n => some (4, (n : Nat))
  | _ => none
def qdoLd (k n : Nat) (L : qL) (st : List Value) : Option (List Value) := match L[n]? with
  | some (some v) => if q_kind v = k then some (v :: st) else none
  | _ => none
/-- what a place keeps when the place behind it is written -/
def qinv (o : Option Value) : Option Value := match o with
  | some v => if qcat1 v = true then some v else none
  | none => none
def qinvL (L : qL) (n : Nat) : qL := match n with
  | 0 => L
  | m + 1 => match L[m]? with
    | some o => L.set m (qinv o)
    | none => L
def qset1 (L : qL) (n : Nat) (o : Option Value) : qL := (qinvL L n).set n o
def qset2 (L : qL) (n : Nat) (o : Option Value) : qL := ((qinvL L n).set n o).set (n + 1) none
def qdoSt (k n : Nat) (L : qL) (st : List Value) : Option (qL × List Value) := match st with
  | v :: r => if q_kind v = k then (if k = 1 ∨ k = 3 then (if n + 1 < L.length then some (qset2 L n (some v), r) else none) else (if n < L.length then some (qset1 L n (some v), r) else none)) else none
  | _ => none
/-- branches: taken or not -/
def q_br (i : Instr) (st : List Value) : Option (Bool × List Value) := match i with
  | .goto _ => some (true, st)
  | .ifCond c _ => match st with
    | .int x :: r => match c with
      | .eq => some (decide (x = 0), r)
      | .ne => some (decide (¬ x = 0), r)
      | .lt => some (decide (x < 0), r)
      | .ge => some (decide (0 ≤ x), r)
      | .gt => some (decide (0 < x), r)
      | .le => some (decide (x ≤ 0), r)
    | _ => none
  | .if_icmp c _ => match st with
    | .int y :: .int x :: r => match c with
      | .eq => some (decide (x = y), r)
      | .ne => some (decide (¬ x = y), r)
      | .lt => some (decide (x < y), r)
      | .ge => some (decide (y ≤ x), r)
      | .gt => some (decide (y < x), r)
      | .le => some (decide (x ≤ y), r)
    | _ => none
  | _ => none
def q_off (i : Instr) : Int := match i with
  | .goto o => o
  | .ifCond _ o => o
  | .if_icmp _ o => o
  | _ => 0
def qget (M : qM) (o ci k : Nat) : Option Value := match M[o]? with
  | some (.inr (c, fs)) => if c = ci then fs[k]? else none
  | _ => none
/-- may a field of this type take this value as it stands -/
def q_fit (ty : FieldType) (v : Value) : Bool := match ty, v with
  | .int, .int _ => true
  | .boolean, .int x => decide (x = 0) || decide (x = 1)
  | .object _, .ref _ => true
  | .array _, .ref _ => true
  | _, _ => false
def qput (M : qM) (o ci k : Nat) (v : Value) : Option qM := match M[o]? with
  | some (.inr (c, fs)) => if c = ci ∧ k < fs.length ∧ q_fit (q_ty ci k) v = true then some (M.set o (.inr (ci, fs.set k v))) else none
  | _ => none
def qIn (i : Int32) (n : Nat) : Bool := decide (0 ≤ i.toInt) && decide (i.toInt < n)
/-- arrays: their kinds are 0 int, 1 char; rows of references are objects of the kind 11 -/
def qald (scr : qScr) (M : qM) (o t : Nat) (i : Int32) : Option Value := match M[o]? with
  | some (.inl (u, n, .inl f)) => if u = t ∧ (t = 0 ∨ t = 1) ∧ qIn i n = true then some (.int (f i.toNatClampNeg)) else none
  | some _ => none
  | none => match scr with
    | some (L, xs) => if o = qSCR ∧ t = 0 ∧ qIn i L = true then some (.int (xs i.toNatClampNeg)) else none
    | none => none
def qasti (M : qM) (o t : Nat) (i : Int32) (x : Int32) : Option qM := match M[o]? with
  | some (.inl (u, n, .inl f)) => if u = t ∧ (t = 0 ∨ (t = 1 ∧ 0 ≤ x ∧ x ≤ 65535)) ∧ qIn i n = true then some (M.set o (.inl (t, n, .inl (upd f i.toNatClampNeg x)))) else none
  | _ => none
def qlen (scr : qScr) (M : qM) (o : Nat) : Option Int32 := match M[o]? with
  | some (.inl (u, n, _)) => if u ≤ 1 then some (Int32.ofNat n) else none
  | some _ => none
  | none => match scr with
    | some (L, _) => if o = qSCR then some (Int32.ofNat L) else none
    | none => none
/-- a row of references: read, and written with a row of ints -/
def qaald (M : qM) (o : Nat) (i : Int32) : Option Value := match M[o]? with
  | some (.inr (c, fs)) => if c = 11 ∧ qIn i fs.length = true then (match fs[i.toNatClampNeg]? with
    | some (.ref a) => some (.ref a)
    | _ => none) else none
  | _ => none
def q_isI (M : qM) (a : Nat) : Bool := match M[a]? with
  | some (.inl (u, _, .inl _)) => decide (u = 0)
  | _ => false
def qaast (M : qM) (o : Nat) (i : Int32) (a : Nat) : Option qM := match M[o]? with
  | some (.inr (c, fs)) => if c = 11 ∧ qIn i fs.length = true ∧ q_isI M a = true then some (M.set o (.inr (11, fs.set i.toNatClampNeg (.ref a)))) else none
  | _ => none
/-- no reference of these is a cell from n on -/
def qscV (n : Nat) (v : Value) : Bool := match v with
  | .ref a => decide (a < n) || decide (a = qSCR)
  | _ => true
def qscS (n : Nat) (st : List Value) : Bool := st.all (qscV n)
def qscL (n : Nat) (L : qL) : Bool := L.all (fun o => match o with
  | some v => qscV n v
  | none => true)
def qscM (n : Nat) (M : qM) : Bool := M.all (fun e => match e with
  | .inl _ => true
  | .inr (_, fs) => qscS n fs)
def q_at (t : ArrayType) : Option (Nat × (Nat → vp_A)) := match t with
  | .int => some (0, fun n => (n, .inl (fun _ => 0)))
  | .char => some (1, fun n => (n, .inl (fun _ => 0)))
  | _ => none
/-- an object or an array is made -/
def qmk (al : Bool) (L : qL) (st : List Value) (M : qM) (e : qE) : Option (List Value × qM) :=
  if al = true ∧ M.length < qSCR ∧ qscM M.length M = true ∧ qscL M.length L = true ∧ qscS M.length st = true ∧ qscM M.length [e] = true then some (.ref M.length :: st, M ++ [e]) else none
/-- four rows of nine ints and the row of them are made -/
def qmk4 (al : Bool) (L : qL) (st : List Value) (M : qM) : Option (List Value × qM) :=
  if al = true ∧ M.length + 4 < qSCR ∧ qscM M.length M = true ∧ qscL M.length L = true ∧ qscS M.length st = true then some (.ref M.length :: st, M ++ [.inr (11, [.ref (M.length + 1), .ref (M.length + 2), .ref (M.length + 3), .ref (M.length + 4)]), .inl (0, 9, .inl (fun _ => 0)), .inl (0, 9, .inl (fun _ => 0)), .inl (0, 9, .inl (fun _ => 0)), .inl (0, 9, .inl (fun _ => 0))]) else none
def q_tsw (pc : Nat) (d lo hi : Int) (offs : Array Int) (x : Int32) : Option Nat :=
  if x.toInt < lo ∨ hi < x.toInt then (if 0 ≤ (pc : Int) + d then some ((pc : Int) + d).toNat else none)
  else match offs[(x.toInt - lo).toNat]? with
    | some o => if 0 ≤ (pc : Int) + o then some ((pc : Int) + o).toNat else none
    | none => none
/-- one step within a method: all but calls, returns and throws -/
def q_step (scr : qScr) (j : Nat) (x : qX) (F : qF) : Option qF := match F with
  | (pc, L, st, M, k, n) => match x with
    | (i, len, a, b, _) => match i with
      | .getfield _ => match st with
        | .ref o :: r => (qget M o a b).map (fun v => (pc + 3, L, v :: r, M, k, n))
        | _ => none
      | .putfield _ => match st with
        | v :: .ref o :: r => (qput M o a b v).map (fun M' => (pc + 3, L, r, M', k, n))
        | _ => none
      | .iaload => match st with
        | .int i :: .ref o :: r => (qald scr M o 0 i).map (fun v => (pc + 1, L, v :: r, M, k, n))
        | _ => none
      | .caload => match st with
        | .int i :: .ref o :: r => (qald none M o 1 i).map (fun v => (pc + 1, L, v :: r, M, k, n))
        | _ => none
      | .iastore => match st with
        | .int y :: .int i :: .ref o :: r => (qasti M o 0 i y).map (fun M' => (pc + 1, L, r, M', k, n))
        | _ => none
      | .castore => match st with
        | .int y :: .int i :: .ref o :: r => (qasti M o 1 i y).map (fun M' => (pc + 1, L, r, M', k, n))
        | _ => none
      | .aaload => match st with
        | .int i :: .ref o :: r => (qaald M o i).map (fun v => (pc + 1, L, v :: r, M, k, n))
        | _ => none
      | .aastore => match st with
        | .ref y :: .int i :: .ref o :: r => (qaast M o i y).map (fun M' => (pc + 1, L, r, M', k, n))
        | _ => none
      | .anewarray _ => match st with
        | .int y :: r => if 0 ≤ y ∧ y.toNatClampNeg ≤ 10000 ∧ k + 1 ≤ q_mc j ∧ n + y.toNatClampNeg ≤ q_ms j then (qmk (q_al j) L r M (.inr (11, List.replicate y.toNatClampNeg .null))).map (fun p => (pc + 3, L, p.1, p.2, k + 1, n + y.toNatClampNeg)) else none
        | _ => none
      | .multianewarray _ _ => match st with
        | .int y :: .int x :: r => if x = 4 ∧ y = 9 ∧ k + 5 ≤ q_mc j ∧ n + 40 ≤ q_ms j then (qmk4 (q_al j) L r M).map (fun p => (pc + 4, L, p.1, p.2, k + 5, n + 40)) else none
        | _ => none
      | .arraylength => match st with
        | .ref o :: r => (qlen scr M o).map (fun v => (pc + 1, L, .int v :: r, M, k, n))
        | _ => none
      | .iinc p d => match L[p]? with
        | some (some (.int y)) => some (pc + 3, qset1 L p (some (.int (y + Int32.ofInt d))), st, M, k, n)
        | _ => none
      | .ldc _ => some (pc + 2, L, .int (Int32.ofNat a) :: st, M, k, n)
      | .ldc_w _ => some (pc + 3, L, .int (Int32.ofNat a) :: st, M, k, n)
      | .tableswitch d lo hi offs => match st with
        | .int y :: r => (q_tsw pc d lo hi offs y).map (fun t => (t, L, r, M, k, n))
        | _ => none
      | .new _ => if k + 1 ≤ q_mc j ∧ n + q_N a ≤ q_ms j then (qmk (q_al j) L st M (.inr (a, q_df a))).map (fun p => (pc + 3, L, p.1, p.2, k + 1, n + q_N a)) else none
      | .newarray t => match st with
        | .int y :: r => match q_at t with
          | some (u, g) => if 0 ≤ y ∧ y.toNatClampNeg ≤ 10000 ∧ k + 1 ≤ q_mc j ∧ n + y.toNatClampNeg ≤ q_ms j then (qmk (q_al j) L r M (.inl (u, g y.toNatClampNeg))).map (fun p => (pc + 2, L, p.1, p.2, k + 1, n + y.toNatClampNeg)) else none
          | none => none
        | _ => none
      | i => match q_ld i with
        | some (kd, p) => (qdoLd kd p L st).map (fun s => (pc + len, L, s, M, k, n))
        | none => match q_sto i with
          | some (kd, p) => (qdoSt kd p L st).map (fun s => (pc + len, s.1, s.2, M, k, n))
          | none => match q_br i st with
            | some (t, r) => some (if t = true then a else pc + 3, L, r, M, k, n)
            | none => (q_pl i st).map (fun s => (pc + len, L, s, M, k, n))
/-- how many words of operands -/
def q_cts (st : List Value) : Nat := (st.map fun v => v.category).sum
/-- a call: the callee, its arguments, the rest of the stack -/
def q_call (x : qX) (st : List Value) : Option (Nat × List Value × List Value) := match x with
  | (i, _, a, b, _) => match i with
    | .invokevirtual _ => if b ≤ st.length ∧ q_cts (st.drop b) ≤ 8 then some (a, (st.take b).reverse, st.drop b) else none
    | .invokestatic _ => if b ≤ st.length ∧ q_cts (st.drop b) ≤ 8 then some (a, (st.take b).reverse, st.drop b) else none
    | .invokespecial _ => if b ≤ st.length ∧ q_cts (st.drop b) ≤ 8 then some (a, (st.take b).reverse, st.drop b) else none
    | _ => none
/-- a return: what is handed back, if the stack is so -/
def q_ret (j : Nat) (i : Instr) (st : List Value) : Option (Option Value) := match i with
  | .return_ => match st with
    | [] => some none
    | _ => none
  | .ireturn => match st with
    | [.int x] => match q_rt j with
      | some .int => some (some (.int x))
      | some .boolean => if x = 0 ∨ x = 1 then some (some (.int x)) else none
      | some .char => if 0 ≤ x ∧ x ≤ 65535 then some (some (.int x)) else none
      | _ => none
    | _ => none
  | .lreturn => match st with
    | [.long x] => some (some (.long x))
    | _ => none
  | .freturn => match st with
    | [.float x] => some (some (.float x))
    | _ => none
  | .dreturn => match st with
    | [.double x] => some (some (.double x))
    | _ => none
  | _ => none
def qexp : List Value → qL
  | [] => []
  | v :: r => if qcat1 v = true then some v :: qexp r else some v :: none :: qexp r
/-- the locals at a method's entry -/
def qloc (j : Nat) (args : List Value) : qL := qexp args ++ List.replicate (q_mL j - (qexp args).length) none
def q_kd (i : Instr) : Nat := match i with
  | .invokevirtual _ => 1
  | .invokestatic _ => 1
  | .invokespecial _ => 1
  | .return_ => 2
  | .ireturn => 2
  | .lreturn => 2
  | .freturn => 2
  | .dreturn => 2
  | _ => 0
/-- is the call's receiver of the callee's kind (virtual calls) -/
def q_rcv (M : qM) (c a : Nat) (args : List Value) : Bool := match c with
  | 0 => match args with
    | .ref o :: _ => match M[o]? with
      | some (.inr (ci, _)) => decide (ci = q_oc a)
      | _ => false
    | _ => false
  | 4 => match args with
    | .ref _ :: _ => true
    | _ => false
  | 5 => match args with
    | .ref _ :: _ => true
    | _ => false
  | _ => true
/-- Object's constructor and Math.max, which need no frame here -/
def q_lib (a : Nat) (args : List Value) : Option (List Value) := match args with
  | [.ref _] => if a = 998 then some [] else none
  | [.int x, .int y] => if a = 999 then some [.int (if x < y then y else x)] else none
  | _ => none
/-- the law's own methods are given the script -/
def q_sc (a : Nat) : Bool := decide (101 ≤ a)
def q_scp (a : Nat) (scr : qScr) : qScr := if q_sc a = true then scr else none
def q_exec : Nat → qScr → Nat → qF → Option (qR × qM)
  | 0, _, _, _ => none
  | f + 1, scr, j, F => match q_code j F.1 with
    | none => none
    | some x => match q_kd x.1 with
      | 0 => match x.2.2.1 with
        | a => if 1000 ≤ a ∧ a < 1005 ∧ (match x.1 with
            | .new _ => true
            | _ => false) = true then (if F.2.2.2.2.1 + 1 ≤ q_mc j ∧ F.2.2.2.2.2 + 6 ≤ q_ms j ∧ F.2.2.1.length ≤ 4 then some (.inr (a - 1000), F.2.2.2.1) else none)
          else match q_step scr j x F with
            | none => none
            | some F' => q_exec f scr j F'
      | 1 => match q_call x F.2.2.1 with
        | none => none
        | some (a, args, rest) => if 900 ≤ a then (match q_lib a args with
            | none => none
            | some r => q_exec f scr j (F.1 + 3, F.2.1, r ++ rest, F.2.2.2.1, F.2.2.2.2.1, F.2.2.2.2.2))
          else if q_rcv F.2.2.2.1 x.2.2.2.2 a args = true ∧ F.2.2.2.2.1 + q_mc a ≤ q_mc j ∧ F.2.2.2.2.2 + q_ms a ≤ q_ms j ∧ (q_al a = true → q_al j = true ∧ qscL F.2.2.2.1.length F.2.1 = true ∧ qscS F.2.2.2.1.length rest = true) ∧ (qexp args).length ≤ q_mL a then
            match q_exec f (q_scp a scr) a (0, qloc a args, [], F.2.2.2.1, 0, 0) with
            | none => none
            | some (.inl v, M') => q_exec f scr j (F.1 + 3, F.2.1, v.toList ++ rest, M', F.2.2.2.2.1 + q_mc a, F.2.2.2.2.2 + q_ms a)
            | some (.inr e, M') => match q_hnd j F.1 e with
              | none => none
              | some (h, p) => if p < F.2.1.length then q_exec f scr j (h, qset1 F.2.1 p none, [], M', F.2.2.2.2.1 + q_mc a, F.2.2.2.2.2 + q_ms a) else none
          else none
      | _ => match q_ret j x.1 F.2.2.1 with
        | none => none
        | some v => some (.inl v, F.2.2.2.1)
end
section
section QTH
/-- the words of 'new X(text)' thrown: X's constructor hands its text on by entry ix (bytes rx), to Y, and so on -/
def q_atX (own : String) (ic : Nat) (X : String) (ix : Nat) (rx : ByteArray) (Y : String) (r : List String) : List Cond :=
  Bundle.throwableAtoms ++ (Bundle.throwableSAtoms ++ (Bundle.passSAtoms X Y ix rx ++ (Bundle.chainSAtoms Y r ++
  [.methodLink own ic (Bundle.initS X), .instantiable X 6, .castable X X, .selects X Bundle.tFill0 Bundle.tFill0, .selects X Bundle.tFill Bundle.tFill,
   .lays X Bundle.tN "cause" "Ljava/lang/Throwable;", .lays X Bundle.tN "stackTrace" Bundle.steD, .lays X Bundle.tN "suppressedExceptions" Bundle.listD, .lays X Bundle.tN "detailMessage" "Ljava/lang/String;",
   .isRef (.static Bundle.tN "UNASSIGNED_STACK" Bundle.steD), .isRef (.static Bundle.tN "SUPPRESSED_SENTINEL" Bundle.listD),
   .fieldLink Bundle.tN 198 Bundle.tN "backtrace" "Ljava/lang/Object;", .lays Bundle.tN Bundle.tN "backtrace" "Ljava/lang/Object;", .lays X Bundle.tN "backtrace" "Ljava/lang/Object;"])))
theorem q_at1 {own X Y : String} {ic ix : Nat} {rx : ByteArray} {r : List String} {w : Cond} (h : w ∈ Bundle.throwableAtoms) : w ∈ q_atX own ic X ix rx Y r := List.mem_append_left _ h
theorem q_at2 {own X Y : String} {ic ix : Nat} {rx : ByteArray} {r : List String} {w : Cond} (h : w ∈ Bundle.throwableSAtoms) : w ∈ q_atX own ic X ix rx Y r := List.mem_append_right _ (List.mem_append_left _ h)
theorem q_at3 {own X Y : String} {ic ix : Nat} {rx : ByteArray} {r : List String} {w : Cond} (h : w ∈ Bundle.passSAtoms X Y ix rx) : w ∈ q_atX own ic X ix rx Y r := List.mem_append_right _ (List.mem_append_right _ (List.mem_append_left _ h))
theorem q_at4 {own X Y : String} {ic ix : Nat} {rx : ByteArray} {r : List String} {w : Cond} (h : w ∈ Bundle.chainSAtoms Y r) : w ∈ q_atX own ic X ix rx Y r := List.mem_append_right _ (List.mem_append_right _ (List.mem_append_right _ (List.mem_append_left _ h)))
theorem q_at5 {own X Y : String} {ic ix : Nat} {rx : ByteArray} {r : List String} {w : Cond} (i : Nat) (h : ([.methodLink own ic (Bundle.initS X), .instantiable X 6, .castable X X, .selects X Bundle.tFill0 Bundle.tFill0, .selects X Bundle.tFill Bundle.tFill,
   .lays X Bundle.tN "cause" "Ljava/lang/Throwable;", .lays X Bundle.tN "stackTrace" Bundle.steD, .lays X Bundle.tN "suppressedExceptions" Bundle.listD, .lays X Bundle.tN "detailMessage" "Ljava/lang/String;",
   .isRef (.static Bundle.tN "UNASSIGNED_STACK" Bundle.steD), .isRef (.static Bundle.tN "SUPPRESSED_SENTINEL" Bundle.listD),
   .fieldLink Bundle.tN 198 Bundle.tN "backtrace" "Ljava/lang/Object;", .lays Bundle.tN Bundle.tN "backtrace" "Ljava/lang/Object;", .lays X Bundle.tN "backtrace" "Ljava/lang/Object;"] : List Cond)[i]? = some w) : w ∈ q_atX own ic X ix rx Y r := List.mem_append_right _ (List.mem_append_right _ (List.mem_append_right _ (List.mem_append_right _ (List.mem_of_getElem? h))))
variable {p : Program} {l : Launch} {e : Env} {R : Room} {s : State} {m₀ : MethodId} {args : Array Value} {below : List Frame} {meth : Method} {c : Code} {W9 : State} {locs : List Loc} {cells slots : Nat}
set_option maxHeartbeats 4000000 in
theorem q_ctorX (X : Stand p l e R s m₀ args below meth c W9 locs cells slots) (hexec : p.tables.exec = Jvm.exec) (htr : e.platform.stackTraces = false) {own cls Y9 : String} {r9 : List String} {ic ix : Nat} {rx : ByteArray}
    (x0 : decode rx 0 = .ok (.aload_n 0, 1)) (x1 : decode rx 1 = .ok (.aload_n 1, 1)) (x2 : decode rx 2 = .ok (.invokespecial ix, 3)) (x5 : decode rx 5 = .ok (.return_, 1))
    (hown : s.vm.findClass own = some m₀.cls) (hcls : Bundle.fit cls = true) (hY9 : Bundle.fit Y9 = true) (hnames : ∀ n ∈ r9, Bundle.fit n = true)
    (h : ∀ a ∈ q_atX own ic cls ix rx Y9 r9, a.before args s = true)
    (hlocs : ∀ x ∈ locs, ∀ cell, s.heap[x.base]? = some cell → cell.vm.isStatics = false)
    {a : Addr} {cX : ClassId} {kX : Class} (hfoundX : s.vm.findClass cls = some cX) (hkX : s.vm.classes[cX]? = some kX) (hcell : W9.heap[a]? = some (freshCell cX kX)) (hnew : s.heap.size ≤ a)
    {msg : Value} (hmsg : msg.isRef = true)
    {g : JFrame} (hg : g.method = m₀) (hsize : g.locals.size = c.maxLocals) (hlocked : g.locked = none) (hentered : g.entered = []) {rest : List Value} (hstack : g.stack = msg :: .ref a :: .ref a :: rest)
    (hd6 : decode c.code g.pc = .ok (.invokespecial ic, 3)) (hd9 : decode c.code (g.pc + 3) = .ok (.athrow, 1)) (hout : ∀ x ∈ c.exceptionTable.toList, covers x (g.pc + 3) = false)
    (hRframes : r9.length + 4 < R.frames) (hRlocals : 2 * g.monitorRoom + ((Value.ref a :: rest).map fun v => v.category).sum + (13 * (r9.length + 2) + 42) ≤ R.locals) (hlocks : meth.locks = false) :
    ∃ U : State, Steps p.tables e below (W9.setTop g) U ∧ U.status = .running ∧ Ended U below (.threw a) ∧ s.WarmedH U.vm ∧ s.sameButNew ({ U with vm := s.vm } : State) locs cells slots ∧
      ∃ ce, U.heap[a]? = some ce ∧ s.vm.findClass cls = some ce.cls ∧ ce.vm = .none := by
  have howns : e.platform.frameOwnsMonitors = true := by rw [X.admits.platform]
  have hfin : e.platform.finalization = false := by rw [X.admits.platform]
  have hpl : e.platform.magicAccessors = ({} : Platform).magicAccessors := by rw [X.admits.platform]
  obtain ⟨T, Z0, L, -, Y⟩ := ThrowableC.of_atoms (args := args) howns hfin hpl (fun x hx => h x (q_at1 hx))
  obtain ⟨Z, M, LZ, LM, hnZ⟩ := Init0T.ofS_atoms (args := args) hpl L Y (fun x hx => h x (q_at2 hx))
  obtain ⟨P1, L1, hP1m, hs1⟩ := PassC.ofS_atoms (args := args) (s := s) hpl (X := cls) (Y := Y9) (Bundle.fit_spec hcls).1 (Bundle.fit_spec hY9).2 x0 x1 x2 x5 (fun x hx => h x (q_at3 hx))
  obtain ⟨P2, Ps2, hlen2, L2, hL2, hP2m, hlink2, hlinkR⟩ := Bundle.chainS (args := args) hpl hnZ r9 Y9 hY9 hnames (fun x hx => h x (q_at4 hx))
  have hlink1 : P1.sup = P2.m := Option.some.inj (hs1.symm.trans hP2m)
  have hfound : s.vm.findClass cls = some P1.m.cls := findClass_of_methodNamed hP1m
  cases Option.some.inj (hfoundX.symm.trans hfound)
  have hI := h (.instantiable cls 6) (q_at5 1 rfl)
  obtain ⟨c1, kX', hc1, hk, hord, -, -, hn6⟩ := Cond.instantiable_spec hI
  cases Option.some.inj (hc1.symm.trans hfound)
  cases Option.some.inj (hkX.symm.trans hk)
  have hsel0 : selectMethod e.platform s.vm P1.m.cls T.fill0 = .method T.fill0 := by
    obtain ⟨c2, r2, m2, q1, q2, q3, q4, -⟩ := Cond.selects_spec (h (.selects cls Bundle.tFill0 Bundle.tFill0) (q_at5 3 rfl))
    cases Option.some.inj (q1.symm.trans hfound)
    cases Option.some.inj (q2.symm.trans (State.methodFound?_of_named Y.fill0 (by decide)))
    cases Option.some.inj (q3.symm.trans Y.fill0)
    rw [Launch.admits_selectMethod X.admits]; exact q4
  have hselF : selectMethod e.platform s.vm P1.m.cls T.fill = .method T.fill := by
    obtain ⟨c2, r2, m2, q1, q2, q3, q4, -⟩ := Cond.selects_spec (h (.selects cls Bundle.tFill Bundle.tFill) (q_at5 4 rfl))
    cases Option.some.inj (q1.symm.trans hfound)
    cases Option.some.inj (q2.symm.trans (State.methodFound?_of_named Y.fill (by decide)))
    cases Option.some.inj (q3.symm.trans Y.fill)
    rw [Launch.admits_selectMethod X.admits]; exact q4
  obtain ⟨cellS0, hcS0, hiss⟩ := Y.statics
  obtain ⟨u0, hu0⟩ := Cond.staticRefV Y.unassigned L.unassignedStatic L.statics hcS0 hiss (h (.isRef (.static Bundle.tN "UNASSIGNED_STACK" Bundle.steD)) (q_at5 9 rfl))
  obtain ⟨sen, hsen⟩ := Cond.staticRefV Y.sentinel L.sentinelStatic L.statics hcS0 hiss (h (.isRef (.static Bundle.tN "SUPPRESSED_SENTINEL" Bundle.listD)) (q_at5 10 rfl))
  obtain ⟨ci198, i198, fB, hk198, hg198, ha198, hsB, -, hnB, htB, hffB⟩ := Cond.ownField (t := .object "java/lang/Object") Y.found L.cls (by decide +kernel) (h (.fieldLink Bundle.tN 198 Bundle.tN "backtrace" "Ljava/lang/Object;") (q_at5 11 rfl)) (h (.lays Bundle.tN Bundle.tN "backtrace" "Ljava/lang/Object;") (q_at5 12 rfl)) e.platform hpl
  obtain ⟨cellS, hcS', heS, -, hkeep⟩ := X.same.2.2.2.2.2 T.aS cellS0 hcS0
  have hcellS : W9.heap[T.aS]? = some cellS := hcS'
  have hout' : ∀ i, (⟨T.aS, i⟩ : Loc) ∉ locs := fun i hmem => by
    have := hlocs _ hmem cellS0 hcS0
    rw [hiss] at this; cases this
  have hknownS : cellS.vm ≠ .unknown := by
    rw [heS]; intro hu
    rw [show cellS0.vm = .unknown from hu] at hiss
    cases hiss
  have hneS : T.aS ≠ a := Nat.ne_of_lt (Nat.lt_of_lt_of_le (Array.getElem?_eq_some_iff.mp hcS0).1 hnew)
  obtain ⟨iM, hffM⟩ := Y.msg
  obtain ⟨tyC, dC, hdC, hdnC⟩ := Cond.laysAt hfound hk Y.cause (h (.lays cls Bundle.tN "cause" "Ljava/lang/Throwable;") (q_at5 5 rfl))
  obtain ⟨tyS, dS, hdS, hdnS⟩ := Cond.laysAt hfound hk Y.stack (h (.lays cls Bundle.tN "stackTrace" Bundle.steD) (q_at5 6 rfl))
  obtain ⟨tyP, dP, hdP, hdnP⟩ := Cond.laysAt hfound hk Y.supp (h (.lays cls Bundle.tN "suppressedExceptions" Bundle.listD) (q_at5 7 rfl))
  obtain ⟨tyM, dM, hdM, hdnM⟩ := Cond.laysAt hfound hk hffM (h (.lays cls Bundle.tN "detailMessage" "Ljava/lang/String;") (q_at5 8 rfl))
  obtain ⟨tyB, dB, hdB, hdnB⟩ := Cond.laysAt hfound hk hffB (h (.lays cls Bundle.tN "backtrace" "Ljava/lang/Object;") (q_at5 13 rfl))
  have bC := Cond.laysApart hdB hdC hdnB hdnC (by rw [hnB, Y.causeName]; decide)
  have bS := Cond.laysApart hdB hdS hdnB hdnS (by rw [hnB, Y.stackName]; decide)
  have bP := Cond.laysApart hdB hdP hdnB hdnP (by rw [hnB, Y.suppName]; decide)
  have hskip : SkipFacts T e.platform s (fun u => u) u0 ((preparedCellV T.toThrowableT (freshCell P1.m.cls kX) a u0 sen).withEntry W9.cur) :=
    ⟨{ ci198 := ci198, i198 := i198, fBack := fB }, ⟨hk198, hg198, ha198, hsB⟩, by
      have := fresh_default (c := P1.m.cls) tyB
      rw [htB] at this
      simpa [preparedCellV, Cell.setSlot, Cell.withEntry, Array.getElem?_setIfInBounds, bC, bS, bP, bC.symm, bS.symm, bP.symm, defaultValue] using this, fun _ _ => rfl⟩
  obtain ⟨tm, methC, cdC, kC, vm₁, hnC, -, -, -, -, -, -, -, hW₁, st1⟩ := Steps.initColdS (tb := p.tables) (e := e) (below := below) (s := s) (U := W9) X.here hexec X.warmed hpl hown (t := Bundle.initS cls) rfl rfl (Bundle.fit_spec hcls).2
    (h (.methodLink own ic (Bundle.initS cls)) (q_at5 0 rfl)) (h (.instanceMethod (Bundle.initS cls)) (q_at3 (by simp [Bundle.passSAtoms]))) (bytes := rx) (maxL := 2) (h (.code (Bundle.initS cls) rx 2 none) (q_at3 (by simp [Bundle.passSAtoms])))
    (f := g) hg (a := a) (msg := msg) (rest := .ref a :: rest) hstack hd6
  cases Option.some.inj (hnC.symm.trans hP1m)
  have X₁ := X.noted hW₁
  obtain ⟨vm₂, X₂, st2⟩ := X₁.ctorMessageOffV hexec (g := { g with stack := .ref a :: rest }) hg hsize T L Z LZ M LM (P1 :: P2 :: Ps2)
    (fun P hP => by
      rcases List.mem_cons.mp hP with rfl | hP
      · exact L1
      · rcases List.mem_cons.mp hP with rfl | hP
        · exact L2
        · exact hL2 P hP) ⟨hlink1, hlink2, hlinkR⟩ (u0 := u0) (sen := sen) (self := a) hmsg (cell := freshCell P1.m.cls kX) (cellS := cellS)
    hcell (fun _ => by simp) (by simp) rfl rfl hsel0 hselF hcellS hneS hknownS (by rw [hkeep _ (hout' _)]; exact hu0) (by rw [hkeep _ (hout' _)]; exact hsen)
    (Takes.of_laid hk hord tyC (by rw [Y.causeType]; rfl)) (Takes.of_laid hk hord tyS (by rw [Y.stackType]; exact fits_refV_array _ u0)) (Takes.of_laid hk hord tyP (by rw [Y.suppType]; exact fits_refV_object _ sen))
    (Takes.of_laid hk hord tyM (by rw [Y.msgType]; exact fits_refV_object _ ⟨msg, hmsg⟩)) Y.objLocals hskip htr [] hd6
    (by simp only [List.length_cons, hlen2]; omega) (by simp only [List.length_cons, hlen2]; exact hRlocals)
  obtain ⟨hwalk, hrun, hended, hWU, hsame⟩ := X₂.athrowLeaves hexec (g := { g with stack := .ref a :: rest, pc := g.pc + 3 }) hg hlocked hentered hout (a := a) (rest := rest) rfl hd9
  have hlt : a < ((W9.setVm vm₁).setVm vm₂).heap.size := (Array.getElem?_eq_some_iff.mp hcell).1
  have hU := heapAt_setCell_self (s := (W9.setVm vm₁).setVm vm₂) (plainBareV T.toThrowableT (freshCell P1.m.cls kX) a u0 sen msg) hlt
  refine ⟨_, st1 _ (fun acts => ?_), hrun, hended, hWU, hsame.weaken (fun y hy hlt' => ?_) (Nat.le_refl _) (Nat.le_refl _), _, hU, hfound, rfl⟩
  · rw [doInvoke_state]
    exact st2 _ hwalk
  · rcases List.mem_append.mp hy with h1 | h1
    · exact h1
    · exfalso
      have hb : y.base = a := by
        simp only [List.mem_cons, List.not_mem_nil, or_false] at h1
        rcases h1 with rfl | rfl | rfl | rfl | rfl <;> rfl
      rw [hb] at hlt'
      exact Nat.not_lt.mpr hnew hlt'
end QTH
section QTW
variable {p : Program} {l : Launch} {e : Env} {R : Room} {s : State} {m : MethodId} {args : Array Value} {below : List Frame} {meth : Method} {c : Code} {H : Heap} {locs : List Loc} {cells slots : Nat} {Q : State → Prop}
variable {free : Addr → Prop} {ls : Array Slot} {rest : List Value}
variable {Qc : Array Value → State → Outcome → State → Prop} {XC : String → State → State → Prop}
set_option maxHeartbeats 4000000 in
theorem q_throwX {cc : ByteArray} {pc : Nat} (hexec : p.tables.exec = Jvm.exec) (hb : c.code = cc) (hl : l.stackTraces = false) {own cls text Y9 : String} {r9 : List String} {rx : ByteArray} {ik is ic ix mc ms sa : Nat} {A : Nat → Prop}
    (hown : s.vm.findClass own = some m.cls) (x0 : decode rx 0 = .ok (.aload_n 0, 1)) (x1 : decode rx 1 = .ok (.aload_n 1, 1)) (x2 : decode rx 2 = .ok (.invokespecial ix, 3)) (x5 : decode rx 5 = .ok (.return_, 1)) (hcls : Bundle.fit cls = true) (hY9 : Bundle.fit Y9 = true) (hnames : ∀ n ∈ r9, Bundle.fit n = true)
    (hk : (Cond.classLink own ik cls).before args s = true) (hini : (Cond.initialized cls).before args s = true) (hstr : vk_R own is text sa s) (hat : ∀ w ∈ (q_atX own ic cls ix rx Y9 r9).filter vx_no, w.before args s = true)
    (hgood : ∀ w ∈ Cond.classLink own ik cls :: Cond.initialized cls :: (q_atX own ic cls ix rx Y9 r9).filter vx_no, vx_ot w = true)
    (hU : vx_Zq Bundle.tN "UNASSIGNED_STACK" Bundle.steD A s s.heap) (hN : vx_Zq Bundle.tN "SUPPRESSED_SENTINEL" Bundle.listD A s s.heap) (hS : va_S A s.heap H locs) (hsize : ls.size = c.maxLocals)
    (d0 : decode cc pc = .ok (.new ik, 3)) (d3 : decode cc (pc + 3) = .ok (.dup, 1)) (d4 : decode cc (pc + 4) = .ok (.ldc is, 2)) (d6 : decode cc (pc + 6) = .ok (.invokespecial ic, 3)) (d9 : decode cc (pc + 9) = .ok (.athrow, 1))
    (hout : ∀ x ∈ c.exceptionTable.toList, covers x (pc + 9) = false)
    (hRframes : r9.length + 4 < R.frames) (hRlocals : (rest.map fun v => v.category).sum + (13 * (r9.length + 2) + 43) ≤ R.locals) (hRcells : cells + 1 ≤ R.cells) (hRslots : slots + 6 ≤ R.slots) (hlocks : meth.locks = false)
    (hx : ∀ t : State, s.vm.Alike t.vm → H.size ≤ t.heap.size → (∀ q : Nat, q < H.size → t.heap[q]? = H[q]?) → XC cls s t)
    (hf : ∀ z ∈ locs, free z.base) (hc : cells + 1 ≤ mc) (hs : slots + 6 ≤ ms) :
    W p l e R s m args below meth c H locs cells slots (vx_MQ below Qc XC args s mc ms free) (F0 m pc ls rest) := by
  intro T hT X
  have htr : e.platform.stackTraces = false := (show e.platform.stackTraces = l.stackTraces by rw [X.admits.platform]).trans hl
  have Y := vx_rebase X (R' := { frames := R.frames, locals := R.locals, cells := 1, slots := 6 }) (Nat.le_refl _) (Nat.le_refl _) hRcells hRslots
  obtain ⟨s', hA⟩ : ∃ z, z = (T.setVm s.vm).setFrames (.invoking m args :: below) := ⟨_, rfl⟩
  rw [← hA] at Y
  have hvm : s'.vm = s.vm := by rw [hA]; rfl
  have hhp : s'.heap = H := by rw [hA]; exact hT
  have hW0 : s.WarmedH s'.vm := by rw [hvm]; exact State.WarmedH.refl s
  have hat' : ∀ w ∈ (q_atX own ic cls ix rx Y9 r9).filter vx_no, w.before args s' = true := fun w hw => vx_ot_at hW0 hvm.symm (hgood w (List.mem_cons_of_mem _ (List.mem_cons_of_mem _ hw))) (hat w hw)
  have hk' : (Cond.classLink own ik cls).before args s' = true := vx_ot_at hW0 hvm.symm (hgood _ List.mem_cons_self) hk
  have hini' : (Cond.initialized cls).before args s' = true := vx_ot_at hW0 hvm.symm (hgood _ (List.mem_cons_of_mem _ List.mem_cons_self)) hini
  have hU' : vx_Zq Bundle.tN "UNASSIGNED_STACK" Bundle.steD A s' s'.heap := by rw [hhp]; exact vx_Zq.moved hW0.alike (hU.kept hS.2.1)
  have hN' : vx_Zq Bundle.tN "SUPPRESSED_SENTINEL" Bundle.listD A s' s'.heap := by rw [hhp]; exact vx_Zq.moved hW0.alike (hN.kept hS.2.1)
  have h : ∀ w ∈ q_atX own ic cls ix rx Y9 r9, w.before args s' = true := vx_own hat' (vx_isRefq hU'.1) (vx_isRefq hN'.1) hU'.2.word hN'.2.word
  have hown' : s'.vm.findClass own = some m.cls := by rw [hvm]; exact hown
  have hins : (Cond.instantiable cls 6).before args s' = true := h (.instantiable cls 6) (q_at5 1 rfl)
  obtain ⟨vm₁, cX, kX, hfX, hkX, -, -, X₁, st1⟩ := Y.newCold hexec (own := own) (C := cls) (index := ik) (n := 6) hown' hk' hins hini'
    (g := F0 m pc ls rest) rfl (by rw [hb]; exact d0) (Nat.le_refl _) (Nat.le_refl _)
  generalize hT1 : (T.setVm vm₁).pushCell { cls := cX, slots := kX.instanceTypes.map defaultValue, vm := .none } = T1 at X₁ st1
  have hcat : (Value.ref T.heap.size).category = 1 := rfl
  have hcellA : T1.heap[T.heap.size]? = some (freshCell cX kX) := by rw [← hT1]; exact State.heap_pushCell_size _ _
  have d3' : decode c.code (pc + 3) = .ok (.dup, 1) := by rw [hb]; exact d3
  have d4' : decode c.code (pc + 4) = .ok (.ldc is, 2) := by rw [hb]; exact d4
  have hstr' : vk_R own is text sa s' := vk_R.warm hW0 hstr
  obtain ⟨U, hsteps, hrun, hend, hW, hsame, ce, hce, hOc, hOv⟩ := q_ctorX X₁ hexec htr (own := own) (cls := cls) (Y9 := Y9) (r9 := r9) (ic := ic) (ix := ix) (rx := rx) x0 x1 x2 x5 hown' hcls hY9 hnames h (fun x hx => nomatch hx) hfX hkX hcellA (by rw [hhp, hT]; exact Nat.le_refl _) (msg := .ref sa) rfl
    (g := { method := m, pc := pc + 6, locals := ls, stack := .ref sa :: .ref T.heap.size :: .ref T.heap.size :: rest, locked := none }) rfl hsize rfl rfl (rest := rest) rfl
    (by rw [hb]; exact d6) (by rw [hb]; exact d9) hout hRframes (by simp only [List.map_cons, List.sum_cons, hcat]; omega) hlocks
  obtain ⟨f1, f2⟩ := vx_frame hsame
  rw [hhp] at f1 f2
  have hWs : s.WarmedH U.vm := State.WarmedH.trans hW0 hW
  have hcl : s.vm.findClass cls = some ce.cls := by
    have h9 := hOc
    rw [hvm] at h9
    exact h9
  have hall : s.sameButNew ({ U with vm := s.vm } : State) locs mc ms := by
    subst hA
    obtain ⟨e1, e2⟩ := hsame
    rw [State.setFrames_setFrames] at e1
    have h2 : (T.setVm s.vm).sameButNew ({ U with vm := s.vm } : State) [] (0 + 1) (0 + 6) := ⟨e1, e2⟩
    have h3 := X.same.trans h2
    rw [List.append_nil] at h3
    exact h3.mono hc hs
  refine ⟨U, ?_, .threw T.heap.size, hrun, hend, Or.inr ⟨T.heap.size, rfl, cls, ce, locs, hx U hWs.alike f1 (fun q hq => f2 q hq (fun z hz => nomatch hz)), hce, hOv, hcl, hWs, hall, hf⟩⟩
  refine st1 _ ?_
  show Steps p.tables e below (T1.setTop { method := m, pc := pc + 3, locals := ls, stack := .ref T.heap.size :: rest, locked := none }) _
  jvm_step X₁.here [X₁.here.top, hexec, d3', Value.category]
  exact X₁.ldcString hexec (own := own) (text := text) (index := is) (a := sa) hown' hstr'.1 hstr'.2
    (g := { method := m, pc := pc + 4, locals := ls, stack := .ref T.heap.size :: .ref T.heap.size :: rest, locked := none }) rfl d4' _ hsteps
set_option maxHeartbeats 4000000 in
theorem q_throwXW {cc : ByteArray} {pc : Nat} (hexec : p.tables.exec = Jvm.exec) (hb : c.code = cc) (hl : l.stackTraces = false) {own cls text Y9 : String} {r9 : List String} {rx : ByteArray} {ik is ic ix mc ms sa : Nat} {A : Nat → Prop}
    (hown : s.vm.findClass own = some m.cls) (x0 : decode rx 0 = .ok (.aload_n 0, 1)) (x1 : decode rx 1 = .ok (.aload_n 1, 1)) (x2 : decode rx 2 = .ok (.invokespecial ix, 3)) (x5 : decode rx 5 = .ok (.return_, 1)) (hcls : Bundle.fit cls = true) (hY9 : Bundle.fit Y9 = true) (hnames : ∀ n ∈ r9, Bundle.fit n = true)
    (hk : (Cond.classLink own ik cls).before args s = true) (hini : (Cond.initialized cls).before args s = true) (hstr : vk_R own is text sa s) (hat : ∀ w ∈ (q_atX own ic cls ix rx Y9 r9).filter vx_no, w.before args s = true)
    (hgood : ∀ w ∈ Cond.classLink own ik cls :: Cond.initialized cls :: (q_atX own ic cls ix rx Y9 r9).filter vx_no, vx_ot w = true)
    (hU : vx_Zq Bundle.tN "UNASSIGNED_STACK" Bundle.steD A s s.heap) (hN : vx_Zq Bundle.tN "SUPPRESSED_SENTINEL" Bundle.listD A s s.heap) (hS : va_S A s.heap H locs) (hsize : ls.size = c.maxLocals)
    (d0 : decode cc pc = .ok (.new ik, 3)) (d3 : decode cc (pc + 3) = .ok (.dup, 1)) (d4 : decode cc (pc + 4) = .ok (.ldc_w is, 3)) (d7 : decode cc (pc + 7) = .ok (.invokespecial ic, 3)) (d10 : decode cc (pc + 10) = .ok (.athrow, 1))
    (hout : ∀ x ∈ c.exceptionTable.toList, covers x (pc + 10) = false)
    (hRframes : r9.length + 4 < R.frames) (hRlocals : (rest.map fun v => v.category).sum + (13 * (r9.length + 2) + 43) ≤ R.locals) (hRcells : cells + 1 ≤ R.cells) (hRslots : slots + 6 ≤ R.slots) (hlocks : meth.locks = false)
    (hx : ∀ t : State, s.vm.Alike t.vm → H.size ≤ t.heap.size → (∀ q : Nat, q < H.size → t.heap[q]? = H[q]?) → XC cls s t)
    (hf : ∀ z ∈ locs, free z.base) (hc : cells + 1 ≤ mc) (hs : slots + 6 ≤ ms) :
    W p l e R s m args below meth c H locs cells slots (vx_MQ below Qc XC args s mc ms free) (F0 m pc ls rest) := by
  intro T hT X
  have htr : e.platform.stackTraces = false := (show e.platform.stackTraces = l.stackTraces by rw [X.admits.platform]).trans hl
  have Y := vx_rebase X (R' := { frames := R.frames, locals := R.locals, cells := 1, slots := 6 }) (Nat.le_refl _) (Nat.le_refl _) hRcells hRslots
  obtain ⟨s', hA⟩ : ∃ z, z = (T.setVm s.vm).setFrames (.invoking m args :: below) := ⟨_, rfl⟩
  rw [← hA] at Y
  have hvm : s'.vm = s.vm := by rw [hA]; rfl
  have hhp : s'.heap = H := by rw [hA]; exact hT
  have hW0 : s.WarmedH s'.vm := by rw [hvm]; exact State.WarmedH.refl s
  have hat' : ∀ w ∈ (q_atX own ic cls ix rx Y9 r9).filter vx_no, w.before args s' = true := fun w hw => vx_ot_at hW0 hvm.symm (hgood w (List.mem_cons_of_mem _ (List.mem_cons_of_mem _ hw))) (hat w hw)
  have hk' : (Cond.classLink own ik cls).before args s' = true := vx_ot_at hW0 hvm.symm (hgood _ List.mem_cons_self) hk
  have hini' : (Cond.initialized cls).before args s' = true := vx_ot_at hW0 hvm.symm (hgood _ (List.mem_cons_of_mem _ List.mem_cons_self)) hini
  have hU' : vx_Zq Bundle.tN "UNASSIGNED_STACK" Bundle.steD A s' s'.heap := by rw [hhp]; exact vx_Zq.moved hW0.alike (hU.kept hS.2.1)
  have hN' : vx_Zq Bundle.tN "SUPPRESSED_SENTINEL" Bundle.listD A s' s'.heap := by rw [hhp]; exact vx_Zq.moved hW0.alike (hN.kept hS.2.1)
  have h : ∀ w ∈ q_atX own ic cls ix rx Y9 r9, w.before args s' = true := vx_own hat' (vx_isRefq hU'.1) (vx_isRefq hN'.1) hU'.2.word hN'.2.word
  have hown' : s'.vm.findClass own = some m.cls := by rw [hvm]; exact hown
  have hins : (Cond.instantiable cls 6).before args s' = true := h (.instantiable cls 6) (q_at5 1 rfl)
  obtain ⟨vm₁, cX, kX, hfX, hkX, -, -, X₁, st1⟩ := Y.newCold hexec (own := own) (C := cls) (index := ik) (n := 6) hown' hk' hins hini'
    (g := F0 m pc ls rest) rfl (by rw [hb]; exact d0) (Nat.le_refl _) (Nat.le_refl _)
  generalize hT1 : (T.setVm vm₁).pushCell { cls := cX, slots := kX.instanceTypes.map defaultValue, vm := .none } = T1 at X₁ st1
  have hcat : (Value.ref T.heap.size).category = 1 := rfl
  have hcellA : T1.heap[T.heap.size]? = some (freshCell cX kX) := by rw [← hT1]; exact State.heap_pushCell_size _ _
  have d3' : decode c.code (pc + 3) = .ok (.dup, 1) := by rw [hb]; exact d3
  have d4' : decode c.code (pc + 4) = .ok (.ldc_w is, 3) := by rw [hb]; exact d4
  have hstr' : vk_R own is text sa s' := vk_R.warm hW0 hstr
  obtain ⟨U, hsteps, hrun, hend, hW, hsame, ce, hce, hOc, hOv⟩ := q_ctorX X₁ hexec htr (own := own) (cls := cls) (Y9 := Y9) (r9 := r9) (ic := ic) (ix := ix) (rx := rx) x0 x1 x2 x5 hown' hcls hY9 hnames h (fun x hx => nomatch hx) hfX hkX hcellA (by rw [hhp, hT]; exact Nat.le_refl _) (msg := .ref sa) rfl
    (g := { method := m, pc := pc + 7, locals := ls, stack := .ref sa :: .ref T.heap.size :: .ref T.heap.size :: rest, locked := none }) rfl hsize rfl rfl (rest := rest) rfl
    (by rw [hb]; exact d7) (by rw [hb]; exact d10) hout hRframes (by simp only [List.map_cons, List.sum_cons, hcat]; omega) hlocks
  obtain ⟨f1, f2⟩ := vx_frame hsame
  rw [hhp] at f1 f2
  have hWs : s.WarmedH U.vm := State.WarmedH.trans hW0 hW
  have hcl : s.vm.findClass cls = some ce.cls := by
    have h9 := hOc
    rw [hvm] at h9
    exact h9
  have hall : s.sameButNew ({ U with vm := s.vm } : State) locs mc ms := by
    subst hA
    obtain ⟨e1, e2⟩ := hsame
    rw [State.setFrames_setFrames] at e1
    have h2 : (T.setVm s.vm).sameButNew ({ U with vm := s.vm } : State) [] (0 + 1) (0 + 6) := ⟨e1, e2⟩
    have h3 := X.same.trans h2
    rw [List.append_nil] at h3
    exact h3.mono hc hs
  refine ⟨U, ?_, .threw T.heap.size, hrun, hend, Or.inr ⟨T.heap.size, rfl, cls, ce, locs, hx U hWs.alike f1 (fun q hq => f2 q hq (fun z hz => nomatch hz)), hce, hOv, hcl, hWs, hall, hf⟩⟩
  refine st1 _ ?_
  show Steps p.tables e below (T1.setTop { method := m, pc := pc + 3, locals := ls, stack := .ref T.heap.size :: rest, locked := none }) _
  jvm_step X₁.here [X₁.here.top, hexec, d3', Value.category]
  exact X₁.ldcStringW hexec (own := own) (text := text) (index := is) (a := sa) hown' hstr'.1 hstr'.2
    (g := { method := m, pc := pc + 4, locals := ls, stack := .ref T.heap.size :: .ref T.heap.size :: rest, locked := none }) rfl d4' _ hsteps
end QTW
end
section
def q_GW : List Cond := lw_tbl.filter goodWord
theorem q_in {i : Nat} {w : Cond} (h : lw_tbl[i]? = some w) (g : goodWord w = true) : w ∈ q_GW := List.mem_filter.mpr ⟨List.mem_of_getElem? h, g⟩
def q_wat (i : Nat) (w : Cond) : Bool := decide (lw_tbl[i]? = some w) && goodWord w
theorem q_wat_in {i : Nat} {w : Cond} (h : q_wat i w = true) : w ∈ q_GW := by
  simp only [q_wat, Bool.and_eq_true, decide_eq_true_eq] at h
  exact q_in h.1 h.2
def q_fl : List (Nat × Nat × Nat × Nat × Nat) := [(0, 14, 0, 0, 264), (0, 20, 0, 1, 266), (0, 23, 0, 2, 267), (0, 26, 0, 3, 268), (1, 14, 1, 5, 215), (1, 20, 1, 6, 216), (1, 23, 1, 7, 217), (1, 26, 1, 8, 218), (1, 29, 1, 0, 208), (1, 33, 1, 1, 209), (1, 37, 1, 2, 210), (1, 46, 1, 3, 211), (1, 53, 1, 4, 213), (1, 57, 1, 10, 220), (1, 61, 1, 9, 219), (1, 64, 1, 11, 221), (1, 67, 1, 12, 223), (2, 9, 2, 0, 115), (2, 15, 2, 1, 116), (3, 14, 3, 2, 149), (3, 20, 3, 3, 152), (3, 23, 3, 4, 153), (3, 26, 3, 0, 147), (3, 30, 3, 1, 148), (3, 42, 3, 5, 154), (4, 14, 4, 2, 188), (4, 20, 4, 3, 192), (4, 23, 4, 4, 193), (4, 26, 4, 5, 194), (4, 29, 4, 0, 186), (4, 33, 4, 1, 187), (5, 13, 5, 0, 62), (6, 14, 6, 0, 67), (6, 20, 6, 1, 68), (6, 23, 6, 2, 69), (6, 26, 6, 3, 70), (7, 14, 7, 0, 94), (8, 14, 8, 1, 126), (8, 25, 8, 2, 128), (8, 29, 8, 3, 129), (8, 32, 8, 0, 125), (9, 12, 9, 0, 279), (9, 19, 9, 1, 280), (9, 28, 9, 2, 281), (9, 41, 9, 3, 282), (9, 45, 9, 4, 283), (9, 53, 9, 5, 284), (9, 60, 9, 6, 285), (9, 69, 9, 7, 286), (9, 72, 9, 8, 287), (9, 78, 9, 9, 288), (9, 82, 9, 10, 289), (9, 86, 9, 11, 290)]
theorem q_fl_ok : (q_fl.all (fun q => decide (q.2.2.2.1 < q_N q.2.2.1) && decide (q.2.2.1 < 10) && q_wat q.2.2.2.2 (.fieldLink (q_rn q.1) q.2.1 (q_T q.2.2.1 q.2.2.2.1).1 (q_T q.2.2.1 q.2.2.2.1).2.1 (q_T q.2.2.1 q.2.2.2.1).2.2.1))) = true := by decide +kernel
def q_fn : List (Nat × Nat × Nat × Nat) := [(0, 38, 4, 2), (1, 102, 3, 2), (1, 129, 4, 2), (3, 74, 6, 3), (4, 74, 7, 1), (9, 34, 8, 1), (9, 105, 6, 3), (9, 160, 7, 0), (9, 172, 7, 1), (9, 202, 1, 3), (9, 211, 1, 4), (9, 214, 4, 2), (9, 217, 1, 11), (9, 220, 1, 12), (9, 242, 0, 3), (9, 187, 3, 2), (9, 314, 0, 0)]
theorem q_fn_ok : (q_fn.all (fun q => decide (q.2.2.2 < q_N q.2.2.1) && decide (q.2.2.1 < 10))) = true := by decide +kernel
def q_nw : List (Nat × Nat × Nat × Nat) := [(0, 9, 5, 262), (1, 9, 5, 174), (1, 41, 3, 176), (1, 50, 4, 178), (3, 9, 5, 145), (4, 9, 5, 184), (6, 9, 5, 53), (7, 9, 5, 88), (8, 9, 2, 109), (8, 20, 5, 122), (9, 9, 6, 47), (9, 16, 7, 82), (9, 23, 8, 103), (9, 32, 3, 139), (9, 48, 1, 168), (9, 57, 4, 252), (9, 64, 2, 254), (9, 75, 0, 256), (11, 20, 9, 39)]
theorem q_nw_ok : (q_nw.all (fun q => decide (q.2.2.1 < 10) && q_wat q.2.2.2 (.classLink (q_rn q.1) q.2.1 (q_rn q.2.2.1)))) = true := by decide +kernel
def q_cw : List (Nat × Nat × List Nat) := [(257, 29, [270, 272, 274, 276]), (169, 27, [225, 227, 229, 231, 233, 235, 237, 239, 241, 243, 245, 247, 249]), (110, 25, [117, 119]), (140, 26, [155, 157, 159, 161, 163, 165]), (179, 28, [195, 197, 199, 201, 203, 205]), (54, 21, [63]), (48, 20, [73, 75, 77, 79]), (83, 23, [98, 100]), (104, 24, [130, 132, 134, 136]), (40, 19, [291, 293, 295, 297, 299, 301, 303, 305, 307, 309, 311, 313])]
theorem q_cw_ok : ((List.range 10).all (fun ci => match q_cw[ci]? with
  | some (a, b, l) => q_wat a (.instantiable (q_rn ci) (q_N ci)) && q_wat b (.initialized (q_rn ci)) && (List.range (q_N ci)).all (fun k => match l[k]? with
    | some i => q_wat i (u_lay (q_rn ci) (q_T ci) k)
    | none => false)
  | none => false)) = true := by decide +kernel
theorem q_cl_at : ∀ ci, ci < 10 → q_cl[ci]? = some (q_rn ci, q_T ci, q_N ci) := by
  intro ci h
  match ci, h with
  | 0, _ => rfl
  | 1, _ => rfl
  | 2, _ => rfl
  | 3, _ => rfl
  | 4, _ => rfl
  | 5, _ => rfl
  | 6, _ => rfl
  | 7, _ => rfl
  | 8, _ => rfl
  | 9, _ => rfl
  | i + 10, h => exact absurd h (by omega)
theorem q_ty_ok : ∀ ci, ci < 10 → ∀ k, k < q_N ci → parseFieldDescriptor (q_T ci k).2.2.1 = some (q_ty ci k) := by
  intro ci h
  match ci, h with
  | 0, _ => exact tyX0_ok
  | 1, _ => exact tyX1_ok
  | 2, _ => exact tyX2_ok
  | 3, _ => exact tyX3_ok
  | 4, _ => exact tyX4_ok
  | 5, _ => exact tyX5_ok
  | 6, _ => exact tyX6_ok
  | 7, _ => exact tyX7_ok
  | 8, _ => exact tyX8_ok
  | 9, _ => exact tyX9_ok
  | i + 10, h => exact absurd h (by omega)
theorem q_nm_ok : ∀ ci, ci < 10 → ∀ a, a < q_N ci → ∀ b, b < q_N ci → a ≠ b → (q_T ci a).2.1 ≠ (q_T ci b).2.1 := by
  intro ci h
  match ci, h with
  | 0, _ => exact nmX0
  | 1, _ => exact nmX1
  | 2, _ => exact nmX2
  | 3, _ => exact nmX3
  | 4, _ => exact nmX4
  | 5, _ => exact nmX5
  | 6, _ => exact nmX6
  | 7, _ => exact nmX7
  | 8, _ => exact nmX8
  | 9, _ => exact nmX9
  | i + 10, h => exact absurd h (by omega)
theorem q_df_ok : ∀ ci, ci < 10 → ∀ k, k < q_N ci → defaultValue (q_ty ci k) = vp_V (q_df ci) k := by decide +kernel
def q_ct : List (Nat × Nat × Nat × Nat) := [(1, 132, 1103515245, 516), (1, 133, 2147483647, 517), (9, 120, 99999, 710), (9, 293, 40503, 468), (9, 294, 104729, 478), (12, 265, 1431655765, 494), (12, 266, 858993459, 495), (12, 267, 252645135, 496), (11, 7, 40503, 548), (11, 8, 2147483647, 552), (11, 65, 100000, 705)]
theorem q_ct_ok : (q_ct.all (fun q => q_wat q.2.2.2 (.constant (q_rn q.1) q.2.1 (Int32.ofNat q.2.2.1)))) = true := by decide +kernel
def q_mw : List (Nat × Nat × Nat × Nat × Nat) := [(260, 29, 2, 259, 0), (649, 29, 0, 647, 648), (820, 29, 0, 818, 819), (826, 29, 0, 824, 825), (536, 29, 0, 534, 535), (541, 29, 0, 539, 540), (532, 29, 0, 530, 531), (172, 27, 2, 171, 0), (482, 27, 0, 480, 481), (487, 27, 0, 486, 10), (507, 27, 0, 506, 11), (511, 27, 0, 510, 12), (515, 27, 0, 514, 13), (528, 27, 0, 527, 14), (113, 25, 2, 112, 0), (700, 25, 0, 698, 699), (327, 25, 0, 325, 326), (766, 25, 0, 764, 765), (335, 25, 0, 333, 334), (339, 25, 0, 337, 338), (331, 25, 0, 329, 330), (143, 26, 2, 142, 0), (409, 26, 0, 407, 408), (415, 26, 0, 413, 414), (419, 26, 0, 418, 2), (429, 26, 0, 427, 428), (435, 26, 0, 434, 3), (442, 26, 0, 441, 4), (182, 28, 2, 181, 0), (323, 28, 0, 321, 322), (359, 28, 0, 357, 358), (373, 28, 0, 371, 372), (795, 28, 0, 793, 794), (377, 28, 0, 375, 376), (385, 28, 0, 384, 0), (57, 21, 2, 56, 0), (343, 21, 0, 341, 342), (364, 21, 0, 362, 363), (93, 21, 0, 91, 92), (51, 20, 2, 50, 0), (653, 20, 0, 651, 652), (658, 20, 0, 657, 16), (666, 20, 0, 664, 665), (405, 20, 0, 403, 404), (351, 20, 0, 349, 350), (472, 20, 0, 470, 471), (347, 20, 0, 345, 346), (381, 20, 0, 379, 380), (424, 20, 0, 422, 423), (500, 20, 0, 498, 499), (521, 20, 0, 519, 520), (86, 23, 2, 85, 0), (368, 23, 0, 366, 367), (107, 24, 2, 106, 0), (696, 24, 0, 694, 695), (343, 21, 0, 341, 342), (343, 21, 0, 341, 342), (343, 21, 0, 341, 342), (400, 24, 0, 398, 399), (395, 24, 0, 393, 394), (43, 19, 2, 42, 0), (556, 19, 0, 554, 555), (709, 19, 0, 707, 708), (691, 19, 0, 689, 690), (343, 21, 0, 341, 342), (343, 21, 0, 341, 342), (343, 21, 0, 341, 342), (662, 19, 0, 660, 661), (704, 19, 0, 702, 703), (343, 21, 0, 341, 342), (343, 21, 0, 341, 342), (343, 21, 0, 341, 342), (715, 19, 0, 713, 714), (755, 19, 0, 753, 754), (762, 19, 0, 760, 761), (725, 19, 0, 723, 724), (721, 19, 0, 719, 720), (729, 19, 0, 727, 728), (799, 19, 0, 797, 798), (812, 19, 0, 810, 811), (835, 19, 0, 833, 834), (848, 19, 0, 846, 847), (841, 19, 0, 839, 840), (853, 19, 0, 851, 852), (787, 19, 0, 785, 786), (343, 21, 0, 341, 342), (791, 19, 0, 789, 790), (319, 19, 0, 317, 318), (452, 19, 1, 451, 0), (559, 19, 1, 558, 0), (815, 19, 1, 814, 0), (355, 19, 1, 354, 0), (438, 19, 1, 437, 0), (749, 19, 0, 748, 17), (467, 19, 0, 466, 8), (477, 19, 0, 476, 9), (456, 19, 0, 455, 6), (460, 19, 0, 459, 7), (391, 19, 0, 390, 1), (449, 19, 0, 448, 5), (493, 36, 1, 492, 0), (547, 18, 1, 546, 0), (551, 18, 1, 550, 0), (544, 18, 1, 543, 0), (758, 18, 1, 757, 0), (803, 18, 1, 802, 0), (687, 18, 1, 686, 0), (830, 18, 1, 829, 0), (844, 18, 1, 843, 0), (806, 18, 1, 805, 0), (0, 0, 0, 0, 0)]
def q_word (j : Nat) : Cond := if q_hh j = [] then .code (q_y j) (q_b j) (q_mL j) (q_rt j) else .codeWith (q_y j) (q_b j) (q_mL j) (q_rt j) (q_hh j)
def q_mt (j : Nat) : Nat := match q_mw[j]? with
  | some q => q.2.2.1
  | none => 9
def q_mokB (j : Nat) : Bool := match q_mw[j]? with
  | some (c, i, t, w, sl) => q_wat c (q_word j) && (q_wat i (.initialized (q_y j).cls) && (decide ((q_y j).cls = q_rn (q_oc j)) && (plainName (q_y j).cls && (decide ((q_y j).cls ≠ "java/lang/invoke/MethodHandle") && (decide ((q_y j).cls ≠ "java/lang/invoke/VarHandle") && (decide ((parseMethodDescriptor (q_y j).desc).map (fun d => d.parameters.length) = some (q_np j)) && (match t with
    | 1 => q_wat w (.static (q_y j))
    | 2 => q_wat w (.instanceMethod (q_y j)) && decide ((q_y j).name = "<init>") && decide (q_rt j = none)
    | _ => q_wat w (.instanceMethod (q_y j)) && q_wat sl (.selects (q_y j).cls (q_y j) (q_y j)))))))))
  | none => false
theorem q_mok_0 : ((List.range 20).all (fun i => q_mokB (0 + i))) = true := by decide +kernel
theorem q_mok_20 : ((List.range 20).all (fun i => q_mokB (20 + i))) = true := by decide +kernel
theorem q_mok_40 : ((List.range 20).all (fun i => q_mokB (40 + i))) = true := by decide +kernel
theorem q_mok_60 : ((List.range 20).all (fun i => q_mokB (60 + i))) = true := by decide +kernel
theorem q_mok_80 : ((List.range 20).all (fun i => q_mokB (80 + i))) = true := by decide +kernel
theorem q_mok_100 : ((List.range 1).all (fun i => q_mokB (100 + i))) = true := by decide +kernel
theorem q_mok_101 : ((List.range 1).all (fun i => q_mokB (101 + i))) = true := by decide +kernel
theorem q_mok_102 : ((List.range 1).all (fun i => q_mokB (102 + i))) = true := by decide +kernel
theorem q_mok_103 : ((List.range 1).all (fun i => q_mokB (103 + i))) = true := by decide +kernel
theorem q_mok_104 : ((List.range 1).all (fun i => q_mokB (104 + i))) = true := by decide +kernel
theorem q_mok_105 : ((List.range 1).all (fun i => q_mokB (105 + i))) = true := by decide +kernel
theorem q_mok_106 : ((List.range 1).all (fun i => q_mokB (106 + i))) = true := by decide +kernel
theorem q_mok_107 : ((List.range 1).all (fun i => q_mokB (107 + i))) = true := by decide +kernel
theorem q_mok_108 : ((List.range 1).all (fun i => q_mokB (108 + i))) = true := by decide +kernel
theorem q_mok_109 : ((List.range 1).all (fun i => q_mokB (109 + i))) = true := by decide +kernel
theorem q_mok (j : Nat) (h : j < 110) : q_mokB j = true := by
  have key : ∀ (a b : Nat), a ≤ j → j < a + b → ((List.range b).all (fun i => q_mokB (a + i))) = true → q_mokB j = true := by
    intro a b h1 h2 h3
    have h4 := List.all_eq_true.mp h3 (j - a) (List.mem_range.mpr (by omega))
    rwa [show a + (j - a) = j by omega] at h4
  rcases (show (0 ≤ j ∧ j < 0 + 20) ∨ (20 ≤ j ∧ j < 20 + 20) ∨ (40 ≤ j ∧ j < 40 + 20) ∨ (60 ≤ j ∧ j < 60 + 20) ∨ (80 ≤ j ∧ j < 80 + 20) ∨ (100 ≤ j ∧ j < 100 + 1) ∨ (101 ≤ j ∧ j < 101 + 1) ∨ (102 ≤ j ∧ j < 102 + 1) ∨ (103 ≤ j ∧ j < 103 + 1) ∨ (104 ≤ j ∧ j < 104 + 1) ∨ (105 ≤ j ∧ j < 105 + 1) ∨ (106 ≤ j ∧ j < 106 + 1) ∨ (107 ≤ j ∧ j < 107 + 1) ∨ (108 ≤ j ∧ j < 108 + 1) ∨ (109 ≤ j ∧ j < 109 + 1) by omega) with h | h | h | h | h | h | h | h | h | h | h | h | h | h | h
  · exact key 0 20 h.1 h.2 q_mok_0
  · exact key 20 20 h.1 h.2 q_mok_20
  · exact key 40 20 h.1 h.2 q_mok_40
  · exact key 60 20 h.1 h.2 q_mok_60
  · exact key 80 20 h.1 h.2 q_mok_80
  · exact key 100 1 h.1 h.2 q_mok_100
  · exact key 101 1 h.1 h.2 q_mok_101
  · exact key 102 1 h.1 h.2 q_mok_102
  · exact key 103 1 h.1 h.2 q_mok_103
  · exact key 104 1 h.1 h.2 q_mok_104
  · exact key 105 1 h.1 h.2 q_mok_105
  · exact key 106 1 h.1 h.2 q_mok_106
  · exact key 107 1 h.1 h.2 q_mok_107
  · exact key 108 1 h.1 h.2 q_mok_108
  · exact key 109 1 h.1 h.2 q_mok_109
def q_iv : List (Nat × Nat × Nat × Nat × Nat) := [(0, 3, 998, 6, 261), (0, 11, 35, 4, 263), (0, 30, 36, 0, 537), (0, 34, 37, 0, 827), (0, 41, 4, 0, 533), (0, 45, 5, 0, 538), (1, 3, 998, 6, 173), (1, 11, 35, 4, 175), (1, 43, 21, 4, 177), (1, 52, 28, 4, 180), (1, 70, 23, 0, 483), (1, 73, 9, 0, 484), (1, 77, 10, 0, 504), (1, 81, 11, 0, 508), (1, 84, 12, 0, 512), (1, 87, 31, 0, 524), (1, 91, 13, 0, 525), (1, 94, 38, 0, 488), (1, 97, 16, 0, 489), (1, 105, 36, 0, 490), (1, 109, 100, 2, 491), (1, 114, 49, 0, 497), (1, 119, 37, 0, 502), (1, 123, 52, 0, 503), (1, 134, 50, 0, 518), (1, 138, 22, 0, 523), (2, 3, 998, 6, 114), (2, 18, 18, 0, 332), (2, 22, 19, 0, 336), (3, 3, 998, 6, 144), (3, 11, 35, 4, 146), (3, 34, 37, 0, 410), (3, 38, 36, 0, 411), (3, 46, 24, 0, 416), (3, 49, 20, 0, 420), (3, 55, 48, 0, 421), (3, 60, 22, 0, 425), (3, 63, 38, 0, 430), (3, 66, 16, 0, 431), (3, 70, 26, 0, 432), (3, 77, 92, 3, 436), (3, 81, 27, 0, 439), (3, 84, 46, 0, 443), (4, 3, 998, 6, 183), (4, 11, 35, 4, 185), (4, 37, 16, 0, 324), (4, 43, 20, 0, 328), (4, 47, 36, 0, 340), (4, 51, 46, 0, 344), (4, 57, 38, 0, 360), (4, 60, 37, 0, 361), (4, 64, 52, 0, 365), (4, 70, 31, 0, 370), (4, 78, 33, 0, 374), (4, 81, 47, 0, 378), (4, 85, 34, 0, 382), (4, 88, 44, 0, 386), (4, 91, 91, 3, 387), (5, 1, 998, 6, 58), (5, 7, 999, 7, 59), (6, 3, 998, 6, 52), (6, 11, 35, 4, 55), (6, 30, 37, 0, 654), (6, 34, 41, 0, 655), (6, 38, 36, 0, 352), (6, 42, 44, 0, 348), (6, 46, 91, 3, 353), (6, 49, 92, 3, 501), (6, 53, 49, 0, 522), (7, 3, 998, 6, 87), (7, 11, 35, 4, 89), (7, 20, 38, 0, 90), (7, 23, 36, 0, 369), (8, 3, 998, 6, 108), (8, 11, 14, 4, 111), (8, 22, 35, 4, 123), (8, 36, 38, 0, 124), (8, 39, 15, 0, 697), (8, 42, 36, 0, 401), (8, 58, 43, 0, 402), (8, 64, 16, 0, 396), (8, 67, 58, 0, 397), (8, 70, 22, 0, 406), (9, 3, 998, 6, 44), (9, 11, 39, 5, 49), (9, 18, 51, 4, 84), (9, 25, 53, 4, 105), (9, 38, 21, 4, 141), (9, 50, 7, 4, 170), (9, 59, 28, 4, 253), (9, 66, 14, 4, 255), (9, 77, 0, 5, 258), (9, 90, 89, 2, 557), (9, 94, 88, 2, 450), (9, 113, 1, 0, 646), (9, 116, 40, 0, 650), (9, 125, 54, 0, 693), (9, 128, 16, 0, 444), (9, 140, 42, 0, 663), (9, 164, 36, 0, 445), (9, 169, 37, 0, 684), (9, 180, 59, 0, 392), (9, 205, 8, 0, 479), (9, 132, 17, 0, 763), (9, 228, 93, 0, 746), (9, 231, 33, 0, 800), (9, 234, 90, 2, 813), (9, 239, 2, 0, 817), (9, 245, 4, 0, 822), (9, 249, 96, 0, 453), (9, 252, 95, 0, 474), (9, 255, 3, 0, 823), (9, 261, 5, 0, 837), (9, 266, 94, 0, 464), (9, 270, 32, 0, 792), (9, 273, 29, 0, 320), (9, 277, 30, 0, 356), (9, 281, 98, 0, 388), (9, 284, 99, 0, 446), (9, 287, 58, 0, 750), (9, 290, 92, 2, 751), (9, 295, 97, 0, 457), (9, 299, 22, 0, 473), (9, 302, 18, 0, 461), (9, 305, 19, 0, 462), (9, 308, 43, 0, 463), (9, 311, 45, 0, 469), (9, 184, 23, 0, 412), (9, 195, 25, 0, 426), (9, 317, 6, 0, 529), (11, 9, 101, 2, 545), (11, 15, 102, 2, 549), (11, 19, 61, 0, 553), (11, 25, 67, 0, 659), (11, 28, 73, 0, 752), (11, 32, 74, 0, 759), (11, 36, 84, 0, 784), (11, 40, 86, 0, 788), (11, 44, 78, 0, 796), (11, 48, 75, 0, 722), (11, 51, 76, 0, 718), (11, 54, 72, 0, 712), (11, 58, 63, 0, 688), (11, 61, 68, 0, 701), (11, 66, 62, 0, 706), (11, 69, 77, 0, 726), (11, 72, 104, 2, 756), (11, 76, 105, 2, 801), (11, 80, 80, 0, 832), (11, 86, 107, 2, 828), (11, 90, 81, 0, 845), (11, 96, 79, 0, 809), (11, 100, 82, 0, 838), (11, 103, 108, 2, 842), (11, 107, 83, 0, 850), (11, 110, 60, 4, 41), (11, 113, 103, 2, 542), (11, 117, 106, 2, 685), (11, 121, 109, 2, 804), (11, 125, 87, 0, 316)]
def q_ivB (q : Nat × Nat × Nat × Nat × Nat) : Bool := match q with
  | (oc, idx, a, c, i) => match c with
    | 0 => decide (a < 110) && decide (q_mt a = 0) && q_wat i (.methodLink (q_rn oc) idx (q_y a)) && decide (q_oc a < 10)
    | 2 => decide (a < 110) && decide (q_mt a = 1) && q_wat i (.methodLink (q_rn oc) idx (q_y a))
    | 3 => decide (a < 110) && decide (q_mt a = 1)
    | 4 => decide (a < 110) && decide (q_mt a = 2) && q_wat i (.methodLink (q_rn oc) idx (q_y a))
    | 5 => decide (a < 110) && decide (q_mt a = 2)
    | 6 => decide (a = 998) && q_wat i (.methodLink (q_rn oc) idx Lib.objectInit)
    | 7 => decide (a = 999) && q_wat i (.methodLink (q_rn oc) idx Lib.Math.max.name)
    | _ => false
theorem q_iv_ok : (q_iv.all q_ivB) = true := by decide +kernel
def q_NW : List Cond := [.fieldLinkNest (q_rn 0) 38 (q_T 4 2).1 (q_T 4 2).2.1 (q_T 4 2).2.2.1 "Tilehold", .fieldLinkNest (q_rn 1) 102 (q_T 3 2).1 (q_T 3 2).2.1 (q_T 3 2).2.2.1 "Tilehold", .fieldLinkNest (q_rn 1) 129 (q_T 4 2).1 (q_T 4 2).2.1 (q_T 4 2).2.2.1 "Tilehold", .fieldLinkNest (q_rn 3) 74 (q_T 6 3).1 (q_T 6 3).2.1 (q_T 6 3).2.2.1 "Tilehold", .fieldLinkNest (q_rn 4) 74 (q_T 7 1).1 (q_T 7 1).2.1 (q_T 7 1).2.2.1 "Tilehold", .fieldLinkNest (q_rn 9) 34 (q_T 8 1).1 (q_T 8 1).2.1 (q_T 8 1).2.2.1 "Tilehold", .fieldLinkNest (q_rn 9) 105 (q_T 6 3).1 (q_T 6 3).2.1 (q_T 6 3).2.2.1 "Tilehold", .fieldLinkNest (q_rn 9) 160 (q_T 7 0).1 (q_T 7 0).2.1 (q_T 7 0).2.2.1 "Tilehold", .fieldLinkNest (q_rn 9) 172 (q_T 7 1).1 (q_T 7 1).2.1 (q_T 7 1).2.2.1 "Tilehold", .fieldLinkNest (q_rn 9) 202 (q_T 1 3).1 (q_T 1 3).2.1 (q_T 1 3).2.2.1 "Tilehold", .fieldLinkNest (q_rn 9) 211 (q_T 1 4).1 (q_T 1 4).2.1 (q_T 1 4).2.2.1 "Tilehold", .fieldLinkNest (q_rn 9) 214 (q_T 4 2).1 (q_T 4 2).2.1 (q_T 4 2).2.2.1 "Tilehold", .fieldLinkNest (q_rn 9) 217 (q_T 1 11).1 (q_T 1 11).2.1 (q_T 1 11).2.2.1 "Tilehold", .fieldLinkNest (q_rn 9) 220 (q_T 1 12).1 (q_T 1 12).2.1 (q_T 1 12).2.2.1 "Tilehold", .fieldLinkNest (q_rn 9) 242 (q_T 0 3).1 (q_T 0 3).2.1 (q_T 0 3).2.2.1 "Tilehold", .fieldLinkNest (q_rn 9) 187 (q_T 3 2).1 (q_T 3 2).2.1 (q_T 3 2).2.2.1 "Tilehold", .fieldLinkNest (q_rn 9) 314 (q_T 0 0).1 (q_T 0 0).2.1 (q_T 0 0).2.2.1 "Tilehold", .methodLinkNest (q_rn 3) 77 (q_y 92) "Tilehold", .methodLinkNest (q_rn 4) 91 (q_y 91) "Tilehold", .methodLinkNest (q_rn 6) 46 (q_y 91) "Tilehold", .methodLinkNest (q_rn 6) 49 (q_y 92) "Tilehold", .methodLinkNest (q_rn 9) 11 (q_y 39) "Tilehold", .methodLinkNest (q_rn 9) 77 (q_y 0) "Tilehold", .castable "java/lang/IllegalArgumentException" "java/lang/IllegalArgumentException", .castable "java/lang/IndexOutOfBoundsException" "java/lang/IndexOutOfBoundsException", .castable "java/util/NoSuchElementException" "java/util/NoSuchElementException", .declares ⟨"java/lang/RuntimeException", "<init>", "(Ljava/lang/String;)V"⟩, .declares ⟨"java/lang/Exception", "<init>", "(Ljava/lang/String;)V"⟩, .declares ⟨"java/lang/Throwable", "<init>", "(Ljava/lang/String;)V"⟩, .castable "java/lang/IllegalStateException" "java/lang/IllegalStateException", .castable "java/lang/UnsupportedOperationException" "java/lang/UnsupportedOperationException"]
def q_NWi : List Nat := [189, 150, 190, 72, 96, 127, 71, 95, 97, 212, 214, 191, 222, 224, 269, 151, 265, 436, 387, 353, 501, 49, 258, 562, 769, 669, 564, 566, 568, 632, 732]
theorem q_NW_at : (q_NW.map some) = q_NWi.map (fun i => lw_tbl[i]?) := by decide +kernel
theorem q_NW_in : ∀ w ∈ q_NW, w ∈ lw_tbl := by
  intro w hw
  have h1 : some w ∈ q_NW.map some := List.mem_map.mpr ⟨w, hw, rfl⟩
  rw [q_NW_at] at h1
  obtain ⟨i, -, hi⟩ := List.mem_map.mp h1
  exact List.mem_of_getElem? hi
/-- what a word is that isn't good, but stays -/
def q_nk (w : Cond) : Bool := match w with
  | .fieldLinkNest _ _ _ _ _ _ => true
  | .methodLinkNest _ _ _ _ => true
  | .castable _ _ => true
  | .declares _ => true
  | _ => false
theorem q_NW_nk : q_NW.all q_nk = true := by decide +kernel
theorem q_arr : q_wat 66 (.arrayClass .int) = true ∧ q_wat 854 (.arrayClass .char) = true := by decide +kernel
theorem q_AO_in : (Cond.arrayOver (.array .int)) ∈ lw_tbl := List.mem_of_getElem? (i := 808) (by decide +kernel)
theorem q_libw : q_wat 45 (.instanceMethod Lib.objectInit) = true ∧ q_wat 46 (.code Lib.objectInit ⟨#[0xb1]⟩ 1 none) = true ∧ q_wat 60 (.static Lib.Math.max.name) = true ∧ q_wat 22 (.initialized "java/lang/Math") = true ∧ q_wat 61 (.code Lib.Math.max.name Lib.Math.max.code 2 (some .int)) = true := by decide +kernel
def q_xs : List String := ["java/lang/IllegalArgumentException", "java/lang/IllegalStateException", "java/lang/IndexOutOfBoundsException", "java/util/NoSuchElementException", "java/lang/UnsupportedOperationException"]
def q_x (e : Nat) : String := q_xs.getD e ""
def q_ns : List String := ["java/lang/RuntimeException", "java/lang/Exception"]
def q_th : List ((Nat × Nat) × (Nat × Nat × Nat × Nat) × Nat × Nat × Nat × String) := [((61, 40), (0, 98, 100, 102), 0, 560, 33, "a colour or the weight is out of range"), ((61, 62), (1, 108, 110, 112), 0, 630, 34, "there are 8 tiles"), ((62, 10), (0, 98, 121, 102), 0, 560, 33, "the seed is out of range"), ((63, 20), (0, 98, 123, 102), 0, 560, 33, "the width or the height is out of range"), ((67, 11), (3, 141, 143, 145), 0, 667, 35, "there is no such tile"), ((67, 31), (0, 98, 158, 102), 0, 560, 33, "the number of cells is out of range"), ((72, 11), (0, 98, 198, 102), 0, 560, 33, "the limit is out of range"), ((72, 31), (1, 108, 200, 112), 0, 630, 34, "there are no tiles"), ((74, 14), (2, 135, 137, 139), 0, 767, 38, "there is no such cell"), ((74, 31), (1, 108, 209, 112), 0, 630, 34, "the world is not filled"), ((77, 14), (4, 223, 225, 227), 0, 730, 37, "the world has more than 4 cells"), ((78, 7), (1, 108, 209, 112), 0, 630, 34, "the world is not filled"), ((79, 8), (0, 98, 237, 102), 0, 560, 33, "the place is out of range"), ((79, 55), (1, 108, 243, 112), 0, 630, 34, "there are no tiles, or 30 other chunks are kept"), ((80, 8), (0, 98, 237, 102), 0, 560, 33, "the place is out of range"), ((80, 49), (3, 141, 259, 145), 1, 667, 35, "the chunk is not kept, or is not filled"), ((80, 71), (2, 135, 137, 139), 0, 767, 38, "there is no such cell"), ((81, 18), (0, 98, 264, 102), 1, 560, 33, "a number is out of range"), ((84, 7), (1, 108, 209, 112), 0, 630, 34, "the world is not filled"), ((86, 7), (1, 108, 209, 112), 0, 630, 34, "the world is not filled")]
def q_ST : List (Nat × String) := [(100, "a colour or the weight is out of range"), (110, "there are 8 tiles"), (121, "the seed is out of range"), (123, "the width or the height is out of range"), (143, "there is no such tile"), (158, "the number of cells is out of range"), (198, "the limit is out of range"), (200, "there are no tiles"), (137, "there is no such cell"), (209, "the world is not filled"), (225, "the world has more than 4 cells"), (237, "the place is out of range"), (243, "there are no tiles, or 30 other chunks are kept"), (259, "the chunk is not kept, or is not filled"), (264, "a number is out of range")]
def q_thB (q : (Nat × Nat) × (Nat × Nat × Nat × Nat) × Nat × Nat × Nat × String) : Bool := match q with
  | ((j, pc), (e, ik, si, ic), w, i1, i2, tx) => decide (e < 5) && (decide (j < 110) && (decide (q_oc j = 9) && (decide (q_hh j = []) && (q_wat i1 (.classLink (q_rn 9) ik (q_x e)) && (q_wat i2 (.initialized (q_x e)) && (decide ((si, tx) ∈ q_ST) && (decide (6 ≤ q_fr j) && (decide (98 ≤ q_lo j) && (match w with
    | 0 => decide (decode (q_b j) pc = .ok (.new ik, 3)) && (decide (decode (q_b j) (pc + 3) = .ok (.dup, 1)) && (decide (decode (q_b j) (pc + 4) = .ok (.ldc si, 2)) && (decide (decode (q_b j) (pc + 6) = .ok (.invokespecial ic, 3)) && decide (decode (q_b j) (pc + 9) = .ok (.athrow, 1)))))
    | _ => decide (decode (q_b j) pc = .ok (.new ik, 3)) && (decide (decode (q_b j) (pc + 3) = .ok (.dup, 1)) && (decide (decode (q_b j) (pc + 4) = .ok (.ldc_w si, 3)) && (decide (decode (q_b j) (pc + 7) = .ok (.invokespecial ic, 3)) && decide (decode (q_b j) (pc + 10) = .ok (.athrow, 1))))))))))))))
theorem q_th_ok : (q_th.all q_thB) = true := by decide +kernel
/-- the words of the throws, by constructor entry and kind -/
def q_rx (e : Nat) : ByteArray := if e = 3 then ⟨#[0x2a, 0x2b, 0xb7, 0x00, 0x0d, 0xb1]⟩ else ⟨#[0x2a, 0x2b, 0xb7, 0x00, 0x07, 0xb1]⟩
def q_ix (e : Nat) : Nat := if e = 3 then 13 else 7
theorem q_rx_ok : ∀ e, e < 5 → decode (q_rx e) 0 = .ok (.aload_n 0, 1) ∧ decode (q_rx e) 1 = .ok (.aload_n 1, 1) ∧ decode (q_rx e) 2 = .ok (.invokespecial (q_ix e), 3) ∧ decode (q_rx e) 5 = .ok (.return_, 1) ∧ Bundle.fit (q_x e) = true := by decide +kernel
def q_atw (ic e : Nat) : List Cond := (q_atX (q_rn 9) ic (q_x e) (q_ix e) (q_rx e) "java/lang/RuntimeException" ["java/lang/Exception"]).filter vx_no
def q_ic : List (Nat × Nat × List Nat) := [(102, 0, [30, 582, 591, 597, 600, 602, 583, 584, 45, 46, 585, 590, 598, 618, 572, 619, 574, 620, 576, 586, 588, 578, 614, 615, 617, 578, 605, 606, 607, 608, 0, 608, 609, 610, 611, 0, 611, 612, 613, 614, 0, 604, 561, 0, 569, 570, 571, 573, 575, 577, 581, 580, 579]), (112, 1, [30, 582, 591, 597, 600, 602, 583, 584, 45, 46, 585, 590, 598, 618, 572, 619, 574, 620, 576, 586, 588, 578, 614, 615, 617, 578, 641, 642, 643, 608, 0, 608, 609, 610, 611, 0, 611, 612, 613, 614, 0, 640, 631, 0, 633, 593, 634, 635, 636, 637, 581, 580, 638]), (139, 2, [30, 582, 591, 597, 600, 602, 583, 584, 45, 46, 585, 590, 598, 618, 572, 619, 574, 620, 576, 586, 588, 578, 614, 615, 617, 578, 778, 779, 780, 608, 0, 608, 609, 610, 611, 0, 611, 612, 613, 614, 0, 777, 768, 0, 770, 594, 771, 772, 773, 774, 581, 580, 775]), (145, 3, [30, 582, 591, 597, 600, 602, 583, 584, 45, 46, 585, 590, 598, 618, 572, 619, 574, 620, 576, 586, 588, 578, 614, 615, 617, 578, 678, 679, 680, 608, 0, 608, 609, 610, 611, 0, 611, 612, 613, 614, 0, 677, 668, 0, 670, 596, 671, 672, 673, 674, 581, 580, 675]), (227, 4, [30, 582, 591, 597, 600, 602, 583, 584, 45, 46, 585, 590, 598, 618, 572, 619, 574, 620, 576, 586, 588, 578, 614, 615, 617, 578, 741, 742, 743, 608, 0, 608, 609, 610, 611, 0, 611, 612, 613, 614, 0, 740, 731, 0, 733, 595, 734, 735, 736, 737, 581, 580, 738])]
theorem q_ic_in : ((q_th.map (fun q => (q.2.1.2.2.2, q.2.1.1))).all (fun q => decide (q ∈ q_ic.map (fun z => (z.1, z.2.1))))) = true := by decide +kernel
theorem q_ic_ok : (q_ic.all (fun q => decide ((q_atw q.1 q.2.1).length = q.2.2.length) && ((q_atw q.1 q.2.1).zip q.2.2).all (fun z => q_wat z.2 z.1 || decide (z.1 ∈ q_NW)))) = true := by decide +kernel
theorem q_ic_ot : (q_ic.all (fun q => (q_atw q.1 q.2.1).all vx_ot)) = true := by decide +kernel
theorem q_th_ot : (q_th.all (fun q => vx_ot (.classLink (q_rn 9) q.2.1.2.1 (q_x q.2.1.1)) && vx_ot (.initialized (q_x q.2.1.1)))) = true := by decide +kernel
end
section
def q_len (i : Instr) : Nat := match i with
  | .bipush _ => 2
  | .sipush _ => 3
  | .iload _ => 2
  | .lload _ => 2
  | .fload _ => 2
  | .dload _ => 2
  | .aload _ => 2
  | .istore _ => 2
  | .lstore _ => 2
  | .fstore _ => 2
  | .dstore _ => 2
  | .astore _ => 2
  | .getfield _ => 3
  | .putfield _ => 3
  | .iinc _ _ => 3
  | .newarray _ => 2
  | .anewarray _ => 3
  | .multianewarray _ _ => 4
  | _ => 1
def q_isfl (oc idx a b : Nat) : Bool := q_fl.any (fun q => q.1 == oc && (q.2.1 == idx && (q.2.2.1 == a && q.2.2.2.1 == b)))
def q_isnw (oc idx a : Nat) : Bool := q_nw.any (fun q => q.1 == oc && (q.2.1 == idx && q.2.2.1 == a))
def q_isiv (oc idx a c : Nat) : Bool := q_iv.any (fun q => q.1 == oc && (q.2.1 == idx && (q.2.2.1 == a && q.2.2.2.1 == c)))
def q_isct (oc idx a : Nat) : Bool := q_ct.any (fun q => q.1 == oc && (q.2.1 == idx && q.2.2.1 == a))
def q_isth (j pc e : Nat) : Bool := q_th.any (fun q => q.1.1 == j && (q.1.2 == pc && q.2.1.1 == e))
def q_bud (j a : Nat) : Bool := decide (q_fr a + 1 ≤ q_fr j) && decide (8 + (q_mL a + 11) + q_lo a ≤ q_lo j)
def q_chk (j pc : Nat) (x : qX) : Bool := match x with
  | (i, len, a, b, c) => decide (decode (q_b j) pc = .ok (i, len)) && (match i with
    | .getfield idx => decide (len = 3) && ((decide (c = 0) && q_isfl (q_oc j) idx a b) || (decide (c = 1) && decide ((q_oc j, idx, a, b) ∈ q_fn)))
    | .putfield idx => decide (len = 3) && ((decide (c = 0) && (q_isfl (q_oc j) idx a b && decide ((q_T a b).2.2.2 = false))) || ((decide (c = 1) && (decide ((q_oc j, idx, a, b) ∈ q_fn) && decide ((q_T a b).2.2.2 = false))) || (decide (c = 2) && (q_isfl (q_oc j) idx a b && (decide ((q_T a b).2.2.2 = true) && (decide ((q_y j).name = "<init>") && decide ((q_T a b).1 = q_rn (q_oc j))))))))
    | .new idx => decide (len = 3) && ((decide (a < 10) && q_isnw (q_oc j) idx a) || (decide (1000 ≤ a) && q_isth j pc (a - 1000)))
    | .invokevirtual idx => decide (len = 3) && (q_isiv (q_oc j) idx a c && (decide (c = 0) && (decide (b = q_np a + 1) && q_bud j a)))
    | .invokestatic idx => decide (len = 3) && (q_isiv (q_oc j) idx a c && ((decide (c = 2 ∨ c = 3) && (decide (b = q_np a) && q_bud j a)) || (decide (c = 7) && (decide (b = 2) && (decide (1 ≤ q_fr j) && decide (21 ≤ q_lo j))))))
    | .invokespecial idx => decide (len = 3) && (q_isiv (q_oc j) idx a c && ((decide (c = 4 ∨ c = 5) && (decide (b = q_np a + 1) && q_bud j a)) || (decide (c = 6) && (decide (b = 1) && (decide (1 ≤ q_fr j) && decide (20 ≤ q_lo j))))))
    | .ldc idx => decide (len = 2) && q_isct (q_oc j) idx a
    | .ldc_w idx => decide (len = 3) && q_isct (q_oc j) idx a
    | .goto o => decide (len = 3) && decide ((pc : Int) + o = (a : Int))
    | .ifCond _ o => decide (len = 3) && decide ((pc : Int) + o = (a : Int))
    | .if_icmp _ o => decide (len = 3) && decide ((pc : Int) + o = (a : Int))
    | .anewarray idx => decide (len = 3) && q_wat a (.classLink (q_rn (q_oc j)) idx "[I")
    | .multianewarray idx d => decide (len = 4) && (decide (d = 2) && q_wat a (.classLink (q_rn (q_oc j)) idx "[[I"))
    | .tableswitch _ _ _ _ => true
    | i => decide (len = q_len i))
theorem q_v0 : (q_c0.all (fun q => q_chk 0 q.1 q.2)) = true := by decide +kernel
theorem q_v1 : (q_c1.all (fun q => q_chk 1 q.1 q.2)) = true := by decide +kernel
theorem q_v2 : (q_c2.all (fun q => q_chk 2 q.1 q.2)) = true := by decide +kernel
theorem q_v3 : (q_c3.all (fun q => q_chk 3 q.1 q.2)) = true := by decide +kernel
theorem q_v4 : (q_c4.all (fun q => q_chk 4 q.1 q.2)) = true := by decide +kernel
theorem q_v5 : (q_c5.all (fun q => q_chk 5 q.1 q.2)) = true := by decide +kernel
theorem q_v6 : (q_c6.all (fun q => q_chk 6 q.1 q.2)) = true := by decide +kernel
theorem q_v7 : (q_c7.all (fun q => q_chk 7 q.1 q.2)) = true := by decide +kernel
theorem q_v8 : (q_c8.all (fun q => q_chk 8 q.1 q.2)) = true := by decide +kernel
theorem q_v9 : (q_c9.all (fun q => q_chk 9 q.1 q.2)) = true := by decide +kernel
theorem q_v10 : (q_c10.all (fun q => q_chk 10 q.1 q.2)) = true := by decide +kernel
theorem q_v11 : (q_c11.all (fun q => q_chk 11 q.1 q.2)) = true := by decide +kernel
theorem q_v12 : (q_c12.all (fun q => q_chk 12 q.1 q.2)) = true := by decide +kernel
theorem q_v13 : (q_c13.all (fun q => q_chk 13 q.1 q.2)) = true := by decide +kernel
theorem q_v14 : (q_c14.all (fun q => q_chk 14 q.1 q.2)) = true := by decide +kernel
theorem q_v15 : (q_c15.all (fun q => q_chk 15 q.1 q.2)) = true := by decide +kernel
theorem q_v16 : (q_c16.all (fun q => q_chk 16 q.1 q.2)) = true := by decide +kernel
theorem q_v17 : (q_c17.all (fun q => q_chk 17 q.1 q.2)) = true := by decide +kernel
theorem q_v18 : (q_c18.all (fun q => q_chk 18 q.1 q.2)) = true := by decide +kernel
theorem q_v19 : (q_c19.all (fun q => q_chk 19 q.1 q.2)) = true := by decide +kernel
theorem q_v20 : (q_c20.all (fun q => q_chk 20 q.1 q.2)) = true := by decide +kernel
theorem q_v21 : (q_c21.all (fun q => q_chk 21 q.1 q.2)) = true := by decide +kernel
theorem q_v22 : (q_c22.all (fun q => q_chk 22 q.1 q.2)) = true := by decide +kernel
theorem q_v23 : (q_c23.all (fun q => q_chk 23 q.1 q.2)) = true := by decide +kernel
theorem q_v24 : (q_c24.all (fun q => q_chk 24 q.1 q.2)) = true := by decide +kernel
theorem q_v25 : (q_c25.all (fun q => q_chk 25 q.1 q.2)) = true := by decide +kernel
theorem q_v26 : (q_c26.all (fun q => q_chk 26 q.1 q.2)) = true := by decide +kernel
theorem q_v27 : (q_c27.all (fun q => q_chk 27 q.1 q.2)) = true := by decide +kernel
theorem q_v28 : (q_c28.all (fun q => q_chk 28 q.1 q.2)) = true := by decide +kernel
theorem q_v29 : (q_c29.all (fun q => q_chk 29 q.1 q.2)) = true := by decide +kernel
theorem q_v30 : (q_c30.all (fun q => q_chk 30 q.1 q.2)) = true := by decide +kernel
theorem q_v31 : (q_c31.all (fun q => q_chk 31 q.1 q.2)) = true := by decide +kernel
theorem q_v32 : (q_c32.all (fun q => q_chk 32 q.1 q.2)) = true := by decide +kernel
theorem q_v33 : (q_c33.all (fun q => q_chk 33 q.1 q.2)) = true := by decide +kernel
theorem q_v34 : (q_c34.all (fun q => q_chk 34 q.1 q.2)) = true := by decide +kernel
theorem q_v35 : (q_c35.all (fun q => q_chk 35 q.1 q.2)) = true := by decide +kernel
theorem q_v36 : (q_c36.all (fun q => q_chk 36 q.1 q.2)) = true := by decide +kernel
theorem q_v37 : (q_c37.all (fun q => q_chk 37 q.1 q.2)) = true := by decide +kernel
theorem q_v38 : (q_c38.all (fun q => q_chk 38 q.1 q.2)) = true := by decide +kernel
theorem q_v39 : (q_c39.all (fun q => q_chk 39 q.1 q.2)) = true := by decide +kernel
theorem q_v40 : (q_c40.all (fun q => q_chk 40 q.1 q.2)) = true := by decide +kernel
theorem q_v41 : (q_c41.all (fun q => q_chk 41 q.1 q.2)) = true := by decide +kernel
theorem q_v42 : (q_c42.all (fun q => q_chk 42 q.1 q.2)) = true := by decide +kernel
theorem q_v43 : (q_c43.all (fun q => q_chk 43 q.1 q.2)) = true := by decide +kernel
theorem q_v44 : (q_c44.all (fun q => q_chk 44 q.1 q.2)) = true := by decide +kernel
theorem q_v45 : (q_c45.all (fun q => q_chk 45 q.1 q.2)) = true := by decide +kernel
theorem q_v46 : (q_c46.all (fun q => q_chk 46 q.1 q.2)) = true := by decide +kernel
theorem q_v47 : (q_c47.all (fun q => q_chk 47 q.1 q.2)) = true := by decide +kernel
theorem q_v48 : (q_c48.all (fun q => q_chk 48 q.1 q.2)) = true := by decide +kernel
theorem q_v49 : (q_c49.all (fun q => q_chk 49 q.1 q.2)) = true := by decide +kernel
theorem q_v50 : (q_c50.all (fun q => q_chk 50 q.1 q.2)) = true := by decide +kernel
theorem q_v51 : (q_c51.all (fun q => q_chk 51 q.1 q.2)) = true := by decide +kernel
theorem q_v52 : (q_c52.all (fun q => q_chk 52 q.1 q.2)) = true := by decide +kernel
theorem q_v53 : (q_c53.all (fun q => q_chk 53 q.1 q.2)) = true := by decide +kernel
theorem q_v54 : (q_c54.all (fun q => q_chk 54 q.1 q.2)) = true := by decide +kernel
theorem q_v55 : (q_c55.all (fun q => q_chk 55 q.1 q.2)) = true := by decide +kernel
theorem q_v56 : (q_c56.all (fun q => q_chk 56 q.1 q.2)) = true := by decide +kernel
theorem q_v57 : (q_c57.all (fun q => q_chk 57 q.1 q.2)) = true := by decide +kernel
theorem q_v58 : (q_c58.all (fun q => q_chk 58 q.1 q.2)) = true := by decide +kernel
theorem q_v59 : (q_c59.all (fun q => q_chk 59 q.1 q.2)) = true := by decide +kernel
theorem q_v60 : (q_c60.all (fun q => q_chk 60 q.1 q.2)) = true := by decide +kernel
theorem q_v61 : (q_c61.all (fun q => q_chk 61 q.1 q.2)) = true := by decide +kernel
theorem q_v62 : (q_c62.all (fun q => q_chk 62 q.1 q.2)) = true := by decide +kernel
theorem q_v63 : (q_c63.all (fun q => q_chk 63 q.1 q.2)) = true := by decide +kernel
theorem q_v64 : (q_c64.all (fun q => q_chk 64 q.1 q.2)) = true := by decide +kernel
theorem q_v65 : (q_c65.all (fun q => q_chk 65 q.1 q.2)) = true := by decide +kernel
theorem q_v66 : (q_c66.all (fun q => q_chk 66 q.1 q.2)) = true := by decide +kernel
theorem q_v67 : (q_c67.all (fun q => q_chk 67 q.1 q.2)) = true := by decide +kernel
theorem q_v68 : (q_c68.all (fun q => q_chk 68 q.1 q.2)) = true := by decide +kernel
theorem q_v69 : (q_c69.all (fun q => q_chk 69 q.1 q.2)) = true := by decide +kernel
theorem q_v70 : (q_c70.all (fun q => q_chk 70 q.1 q.2)) = true := by decide +kernel
theorem q_v71 : (q_c71.all (fun q => q_chk 71 q.1 q.2)) = true := by decide +kernel
theorem q_v72 : (q_c72.all (fun q => q_chk 72 q.1 q.2)) = true := by decide +kernel
theorem q_v73 : (q_c73.all (fun q => q_chk 73 q.1 q.2)) = true := by decide +kernel
theorem q_v74 : (q_c74.all (fun q => q_chk 74 q.1 q.2)) = true := by decide +kernel
theorem q_v75 : (q_c75.all (fun q => q_chk 75 q.1 q.2)) = true := by decide +kernel
theorem q_v76 : (q_c76.all (fun q => q_chk 76 q.1 q.2)) = true := by decide +kernel
theorem q_v77 : (q_c77.all (fun q => q_chk 77 q.1 q.2)) = true := by decide +kernel
theorem q_v78 : (q_c78.all (fun q => q_chk 78 q.1 q.2)) = true := by decide +kernel
theorem q_v79 : (q_c79.all (fun q => q_chk 79 q.1 q.2)) = true := by decide +kernel
theorem q_v80 : (q_c80.all (fun q => q_chk 80 q.1 q.2)) = true := by decide +kernel
theorem q_v81 : (q_c81.all (fun q => q_chk 81 q.1 q.2)) = true := by decide +kernel
theorem q_v82 : (q_c82.all (fun q => q_chk 82 q.1 q.2)) = true := by decide +kernel
theorem q_v83 : (q_c83.all (fun q => q_chk 83 q.1 q.2)) = true := by decide +kernel
theorem q_v84 : (q_c84.all (fun q => q_chk 84 q.1 q.2)) = true := by decide +kernel
theorem q_v85 : (q_c85.all (fun q => q_chk 85 q.1 q.2)) = true := by decide +kernel
theorem q_v86 : (q_c86.all (fun q => q_chk 86 q.1 q.2)) = true := by decide +kernel
theorem q_v87 : (q_c87.all (fun q => q_chk 87 q.1 q.2)) = true := by decide +kernel
theorem q_v88 : (q_c88.all (fun q => q_chk 88 q.1 q.2)) = true := by decide +kernel
theorem q_v89 : (q_c89.all (fun q => q_chk 89 q.1 q.2)) = true := by decide +kernel
theorem q_v90 : (q_c90.all (fun q => q_chk 90 q.1 q.2)) = true := by decide +kernel
theorem q_v91 : (q_c91.all (fun q => q_chk 91 q.1 q.2)) = true := by decide +kernel
theorem q_v92 : (q_c92.all (fun q => q_chk 92 q.1 q.2)) = true := by decide +kernel
theorem q_v93 : (q_c93.all (fun q => q_chk 93 q.1 q.2)) = true := by decide +kernel
theorem q_v94 : (q_c94.all (fun q => q_chk 94 q.1 q.2)) = true := by decide +kernel
theorem q_v95 : (q_c95.all (fun q => q_chk 95 q.1 q.2)) = true := by decide +kernel
theorem q_v96 : (q_c96.all (fun q => q_chk 96 q.1 q.2)) = true := by decide +kernel
theorem q_v97 : (q_c97.all (fun q => q_chk 97 q.1 q.2)) = true := by decide +kernel
theorem q_v98 : (q_c98.all (fun q => q_chk 98 q.1 q.2)) = true := by decide +kernel
theorem q_v99 : (q_c99.all (fun q => q_chk 99 q.1 q.2)) = true := by decide +kernel
theorem q_v100 : (q_c100.all (fun q => q_chk 100 q.1 q.2)) = true := by decide +kernel
theorem q_v101 : (q_c101.all (fun q => q_chk 101 q.1 q.2)) = true := by decide +kernel
theorem q_v102 : (q_c102.all (fun q => q_chk 102 q.1 q.2)) = true := by decide +kernel
theorem q_v103 : (q_c103.all (fun q => q_chk 103 q.1 q.2)) = true := by decide +kernel
theorem q_v104_0 : (q_c104_0.all (fun q => q_chk 104 q.1 q.2)) = true := by decide +kernel
theorem q_v104_1 : (q_c104_1.all (fun q => q_chk 104 q.1 q.2)) = true := by decide +kernel
theorem q_v104_2 : (q_c104_2.all (fun q => q_chk 104 q.1 q.2)) = true := by decide +kernel
theorem q_v104_3 : (q_c104_3.all (fun q => q_chk 104 q.1 q.2)) = true := by decide +kernel
theorem q_v104 : (q_c104.all (fun q => q_chk 104 q.1 q.2)) = true := by
  unfold q_c104
  simp only [List.all_append, Bool.and_eq_true]
  exact ⟨q_v104_0, q_v104_1, q_v104_2, q_v104_3⟩
theorem q_v105 : (q_c105.all (fun q => q_chk 105 q.1 q.2)) = true := by decide +kernel
theorem q_v106 : (q_c106.all (fun q => q_chk 106 q.1 q.2)) = true := by decide +kernel
theorem q_v107 : (q_c107.all (fun q => q_chk 107 q.1 q.2)) = true := by decide +kernel
theorem q_v108 : (q_c108.all (fun q => q_chk 108 q.1 q.2)) = true := by decide +kernel
theorem q_v109_0 : (q_c109_0.all (fun q => q_chk 109 q.1 q.2)) = true := by decide +kernel
theorem q_v109_1 : (q_c109_1.all (fun q => q_chk 109 q.1 q.2)) = true := by decide +kernel
theorem q_v109_2 : (q_c109_2.all (fun q => q_chk 109 q.1 q.2)) = true := by decide +kernel
theorem q_v109_3 : (q_c109_3.all (fun q => q_chk 109 q.1 q.2)) = true := by decide +kernel
theorem q_v109 : (q_c109.all (fun q => q_chk 109 q.1 q.2)) = true := by
  unfold q_c109
  simp only [List.all_append, Bool.and_eq_true]
  exact ⟨q_v109_0, q_v109_1, q_v109_2, q_v109_3⟩
theorem q_v110 : (q_c110.all (fun q => q_chk 110 q.1 q.2)) = true := by decide +kernel
theorem q_codes_len : q_codes.length = 111 := by decide +kernel
theorem q_vs0 : ∀ i, i < 20 → ((q_codes.getD (0 + i) []).all (fun q => q_chk (0 + i) q.1 q.2)) = true := by
  intro i h
  match i, h with
  | 0, _ => exact q_v0
  | 1, _ => exact q_v1
  | 2, _ => exact q_v2
  | 3, _ => exact q_v3
  | 4, _ => exact q_v4
  | 5, _ => exact q_v5
  | 6, _ => exact q_v6
  | 7, _ => exact q_v7
  | 8, _ => exact q_v8
  | 9, _ => exact q_v9
  | 10, _ => exact q_v10
  | 11, _ => exact q_v11
  | 12, _ => exact q_v12
  | 13, _ => exact q_v13
  | 14, _ => exact q_v14
  | 15, _ => exact q_v15
  | 16, _ => exact q_v16
  | 17, _ => exact q_v17
  | 18, _ => exact q_v18
  | 19, _ => exact q_v19
  | i + 20, h => exact absurd h (by omega)
theorem q_vs20 : ∀ i, i < 20 → ((q_codes.getD (20 + i) []).all (fun q => q_chk (20 + i) q.1 q.2)) = true := by
  intro i h
  match i, h with
  | 0, _ => exact q_v20
  | 1, _ => exact q_v21
  | 2, _ => exact q_v22
  | 3, _ => exact q_v23
  | 4, _ => exact q_v24
  | 5, _ => exact q_v25
  | 6, _ => exact q_v26
  | 7, _ => exact q_v27
  | 8, _ => exact q_v28
  | 9, _ => exact q_v29
  | 10, _ => exact q_v30
  | 11, _ => exact q_v31
  | 12, _ => exact q_v32
  | 13, _ => exact q_v33
  | 14, _ => exact q_v34
  | 15, _ => exact q_v35
  | 16, _ => exact q_v36
  | 17, _ => exact q_v37
  | 18, _ => exact q_v38
  | 19, _ => exact q_v39
  | i + 20, h => exact absurd h (by omega)
theorem q_vs40 : ∀ i, i < 20 → ((q_codes.getD (40 + i) []).all (fun q => q_chk (40 + i) q.1 q.2)) = true := by
  intro i h
  match i, h with
  | 0, _ => exact q_v40
  | 1, _ => exact q_v41
  | 2, _ => exact q_v42
  | 3, _ => exact q_v43
  | 4, _ => exact q_v44
  | 5, _ => exact q_v45
  | 6, _ => exact q_v46
  | 7, _ => exact q_v47
  | 8, _ => exact q_v48
  | 9, _ => exact q_v49
  | 10, _ => exact q_v50
  | 11, _ => exact q_v51
  | 12, _ => exact q_v52
  | 13, _ => exact q_v53
  | 14, _ => exact q_v54
  | 15, _ => exact q_v55
  | 16, _ => exact q_v56
  | 17, _ => exact q_v57
  | 18, _ => exact q_v58
  | 19, _ => exact q_v59
  | i + 20, h => exact absurd h (by omega)
theorem q_vs60 : ∀ i, i < 20 → ((q_codes.getD (60 + i) []).all (fun q => q_chk (60 + i) q.1 q.2)) = true := by
  intro i h
  match i, h with
  | 0, _ => exact q_v60
  | 1, _ => exact q_v61
  | 2, _ => exact q_v62
  | 3, _ => exact q_v63
  | 4, _ => exact q_v64
  | 5, _ => exact q_v65
  | 6, _ => exact q_v66
  | 7, _ => exact q_v67
  | 8, _ => exact q_v68
  | 9, _ => exact q_v69
  | 10, _ => exact q_v70
  | 11, _ => exact q_v71
  | 12, _ => exact q_v72
  | 13, _ => exact q_v73
  | 14, _ => exact q_v74
  | 15, _ => exact q_v75
  | 16, _ => exact q_v76
  | 17, _ => exact q_v77
  | 18, _ => exact q_v78
  | 19, _ => exact q_v79
  | i + 20, h => exact absurd h (by omega)
theorem q_vs80 : ∀ i, i < 20 → ((q_codes.getD (80 + i) []).all (fun q => q_chk (80 + i) q.1 q.2)) = true := by
  intro i h
  match i, h with
  | 0, _ => exact q_v80
  | 1, _ => exact q_v81
  | 2, _ => exact q_v82
  | 3, _ => exact q_v83
  | 4, _ => exact q_v84
  | 5, _ => exact q_v85
  | 6, _ => exact q_v86
  | 7, _ => exact q_v87
  | 8, _ => exact q_v88
  | 9, _ => exact q_v89
  | 10, _ => exact q_v90
  | 11, _ => exact q_v91
  | 12, _ => exact q_v92
  | 13, _ => exact q_v93
  | 14, _ => exact q_v94
  | 15, _ => exact q_v95
  | 16, _ => exact q_v96
  | 17, _ => exact q_v97
  | 18, _ => exact q_v98
  | 19, _ => exact q_v99
  | i + 20, h => exact absurd h (by omega)
theorem q_vs100 : ∀ i, i < 11 → ((q_codes.getD (100 + i) []).all (fun q => q_chk (100 + i) q.1 q.2)) = true := by
  intro i h
  match i, h with
  | 0, _ => exact q_v100
  | 1, _ => exact q_v101
  | 2, _ => exact q_v102
  | 3, _ => exact q_v103
  | 4, _ => exact q_v104
  | 5, _ => exact q_v105
  | 6, _ => exact q_v106
  | 7, _ => exact q_v107
  | 8, _ => exact q_v108
  | 9, _ => exact q_v109
  | 10, _ => exact q_v110
  | i + 11, h => exact absurd h (by omega)
theorem q_ok {j pc : Nat} {x : qX} (h : q_code j pc = some x) : q_chk j pc x = true ∧ j < 111 := by
  have hj : j < 111 := by
    rcases Nat.lt_or_ge j 111 with q | q
    · exact q
    · unfold q_code at h
      rw [List.getD_eq_getElem?_getD, List.getElem?_eq_none (by rw [q_codes_len]; exact q)] at h
      cases h
  refine ⟨?_, hj⟩
  have hm : (pc, x) ∈ q_codes.getD j [] := by
    unfold q_code at h
    generalize q_codes.getD j [] = l at h
    induction l with
    | nil => cases h
    | cons a l ih =>
      obtain ⟨a1, a2⟩ := a
      rw [List.lookup_cons] at h
      by_cases hp : pc = a1
      · subst hp
        simp at h
        subst h
        exact List.mem_cons_self
      · have : (pc == a1) = false := by simpa using hp
        rw [this] at h
        exact List.mem_cons_of_mem _ (ih h)
  have key : ((q_codes.getD j []).all (fun q => q_chk j q.1 q.2)) = true := by
    rcases (show (0 ≤ j ∧ j < 20) ∨ (20 ≤ j ∧ j < 40) ∨ (40 ≤ j ∧ j < 60) ∨ (60 ≤ j ∧ j < 80) ∨ (80 ≤ j ∧ j < 100) ∨ (100 ≤ j ∧ j < 111) by omega) with q | q | q | q | q | q
    · have := q_vs0 (j - 0) (by omega)
      rwa [show 0 + (j - 0) = j by omega] at this
    · have := q_vs20 (j - 20) (by omega)
      rwa [show 20 + (j - 20) = j by omega] at this
    · have := q_vs40 (j - 40) (by omega)
      rwa [show 40 + (j - 40) = j by omega] at this
    · have := q_vs60 (j - 60) (by omega)
      rwa [show 60 + (j - 60) = j by omega] at this
    · have := q_vs80 (j - 80) (by omega)
      rwa [show 80 + (j - 80) = j by omega] at this
    · have := q_vs100 (j - 100) (by omega)
      rwa [show 100 + (j - 100) = j by omega] at this
  exact List.all_eq_true.mp key (pc, x) hm
def q_NC : List (String × String) := []
def q_cc : List (Nat × Nat × String) := [(84, 831, "java/util/NoSuchElementException")]
theorem q_cc_ok : (q_cc.all (fun q => q_wat q.2.1 (.classLink (q_rn 11) q.1 q.2.2))) = true := by decide +kernel
def q_cn (c : Nat) : String := ((q_cc.find? (fun q => q.1 == c)).map (fun q => q.2.2)).getD ""
/-- where a throw e at a call's pc is caught: the row's place in the table -/
def q_hi (j pc e : Nat) : Nat := match (q_hh j).findIdx? (fun z => q_cn z.2.2.2 == q_x e) with
  | some i => i
  | none => 0
def q_hnB (q : (Nat × Nat × Nat) × Nat × Nat) : Bool := match q with
  | ((j, pc, e), h, p) => decide (e < 5) && (decide (q_oc j = 11) && (match (q_hh j)[q_hi j pc e]? with
    | some z => decide (z.1 ≤ pc) && (decide (pc < z.2.1) && (decide (z.2.2.2 ≠ 0) && (decide (z.2.2.2 ∈ q_cc.map (fun q => q.1)) && (decide (q_cn z.2.2.2 = q_x e) && ((decide (p < 4) && (decide (h = z.2.2.1 + 1) && decide (decode (q_b j) z.2.2.1 = .ok (.astore_n (Fin.ofNat 4 p), 1)))) || (decide (h = z.2.2.1 + 2) && decide (decode (q_b j) z.2.2.1 = .ok (.astore p, 2))))))))
    | none => false) && ((q_hh j).take (q_hi j pc e)).all (fun z => decide (z.2.2.2 ≠ 0) && (decide (z.2.2.2 ∈ q_cc.map (fun q => q.1)) && decide ((q_x e, q_cn z.2.2.2) ∈ q_NC))))
theorem q_hn_ok : (q_hn.all q_hnB) = true := by decide +kernel
end
section
/-! how the small machine's things lie in the machine's -/
def qt (ad : Nat → Nat) (v : Value) : Value := match v with
  | .ref a => .ref (ad a)
  | v => v
/-- what a row of references refers to -/
def qop (ad : Nat → Nat) (fs : List Value) (k : Nat) : Option Nat := match fs[k]? with
  | some (.ref a) => some (ad a)
  | _ => none
def qtE (CA : Nat → ClassId) (ad : Nat → Nat) (e : qE) : va_E := match e with
  | .inl (t, a) => .inl (CA t, a)
  | .inr (ci, fs) => if ci = 11 then .inl (CA 2, fs.length, .inr (.inr (.inr (.inr (qop ad fs))))) else .inr (ci, fs.map (qt ad))
theorem qtE_o {CA : Nat → ClassId} {ad : Nat → Nat} {ci : Nat} {fs : List Value} (h : ci < 10) : qtE CA ad (.inr (ci, fs)) = .inr (ci, fs.map (qt ad)) := if_neg (by omega)
theorem qtE_r {CA : Nat → ClassId} {ad : Nat → Nat} {fs : List Value} : qtE CA ad (.inr (11, fs)) = .inl (CA 2, fs.length, .inr (.inr (.inr (.inr (qop ad fs))))) := rfl
def qW (CA : Nat → ClassId) (ad : Nat → Nat) (M : qM) : va_W := M.zipIdx.map (fun p => (ad p.2, qtE CA ad p.1))
theorem qt_cat (ad : Nat → Nat) (v : Value) : (qt ad v).category = v.category := by cases v <;> rfl
theorem qcs_map (ad : Nat → Nat) (st : List Value) : ((st.map (qt ad)).map fun v => v.category).sum = q_cts st := by
  unfold q_cts
  rw [List.map_map]
  have : ((fun v : Value => v.category) ∘ qt ad) = (fun v => v.category) := funext (fun v => qt_cat ad v)
  rw [this]
theorem qt_int (ad : Nat → Nat) (x : Int32) : qt ad (.int x) = .int x := rfl
theorem qW_get (CA : Nat → ClassId) (ad : Nat → Nat) (M : qM) (k : Nat) : (qW CA ad M)[k]? = M[k]?.map (fun e => (ad k, qtE CA ad e)) := by
  simp only [qW, List.getElem?_map, List.getElem?_zipIdx, Option.map_map]
  cases M[k]? <;> simp
theorem qW_at {CA : Nat → ClassId} {ad : Nat → Nat} {M : qM} {k : Nat} {e : qE} (h : M[k]? = some e) : (qW CA ad M)[k]? = some (ad k, qtE CA ad e) := by
  rw [qW_get, h]; rfl
theorem qW_set {CA : Nat → ClassId} {ad : Nat → Nat} {M : qM} {k : Nat} {e : qE} : (qW CA ad M).set k (ad k, qtE CA ad e) = qW CA ad (M.set k e) := by
  apply List.ext_getElem?
  intro i
  rw [qW_get, List.getElem?_set, List.getElem?_set, qW_get]
  have hl : (qW CA ad M).length = M.length := by simp [qW]
  by_cases h : k = i
  · subst h
    simp only [if_true, hl]
    by_cases h2 : k < M.length <;> simp [h2]
  · simp only [if_neg h]
theorem qW_len (CA : Nat → ClassId) (ad : Nat → Nat) (M : qM) : (qW CA ad M).length = M.length := by simp [qW]
/-- two namings of the cells agree below n, and at the script -/
def qAg (n : Nat) (ad ad' : Nat → Nat) : Prop := ∀ k, k < n ∨ k = qSCR → ad' k = ad k
theorem qAg.rf {n : Nat} {ad : Nat → Nat} : qAg n ad ad := fun _ _ => rfl
theorem qAg.tr {n n2 : Nat} {a b c : Nat → Nat} (h : qAg n a b) (h2 : qAg n2 b c) (hn : n ≤ n2) : qAg n a c := fun k hk => (h2 k (hk.elim (fun q => Or.inl (by omega)) Or.inr)).trans (h k hk)
theorem qt_ag {n : Nat} {ad ad' : Nat → Nat} (h : qAg n ad ad') {v : Value} (hv : qscV n v = true) : qt ad' v = qt ad v := by
  cases v with
  | ref a =>
    simp only [qscV, Bool.or_eq_true, decide_eq_true_eq] at hv
    simp only [qt]
    rw [h a hv]
  | _ => rfl
theorem qtS_ag {n : Nat} {ad ad' : Nat → Nat} (h : qAg n ad ad') : ∀ {st : List Value}, qscS n st = true → st.map (qt ad') = st.map (qt ad)
  | [], _ => rfl
  | v :: st, hv => by
    simp only [qscS, List.all_cons, Bool.and_eq_true] at hv
    simp only [List.map_cons]
    rw [qt_ag h hv.1, qtS_ag h (st := st) hv.2]
/-- the known places of the locals -/
def ql (ad : Nat → Nat) (L : qL) : List (Nat × Value) := L.zipIdx.filterMap (fun p => p.1.map (fun v => (p.2, qt ad v)))
theorem ql_mem {ad : Nat → Nat} {L : qL} {i : Nat} {w : Value} : (i, w) ∈ ql ad L ↔ ∃ v, L[i]? = some (some v) ∧ w = qt ad v := by
  simp only [ql, List.mem_filterMap, Option.map_eq_some_iff, Prod.mk.injEq]
  constructor
  · rintro ⟨⟨o, j⟩, hm, v, ho, h1, h2⟩
    have h3 := List.mk_mem_zipIdx_iff_getElem?.mp hm
    simp only at ho h1
    subst h1
    subst ho
    exact ⟨v, h3, h2.symm⟩
  · rintro ⟨v, hv, rfl⟩
    refine ⟨(some v, i), ?_, v, rfl, rfl, rfl⟩
    rw [List.mk_mem_zipIdx_iff_getElem?]
    exact hv
def qLs (ad : Nat → Nat) (ls : Array Slot) (nL : Nat) (L : qL) : Prop := L.length = nL ∧ lv_has ls nL (ql ad L)
theorem lv_mono {ls : Array Slot} {nL : Nat} {l l' : List (Nat × Value)} (h : lv_has ls nL l) (hs : ∀ q ∈ l', q ∈ l) : lv_has ls nL l' := ⟨h.1, h.2.1, fun q hq => h.2.2 q (hs q hq)⟩
theorem qLs.ld {ad : Nat → Nat} {ls : Array Slot} {nL : Nat} {L : qL} (h : qLs ad ls nL L) {i : Nat} {v : Value} (hv : L[i]? = some (some v)) : ls[i]? = some (.val (qt ad v)) := h.2.2.2 (i, qt ad v) (ql_mem.mpr ⟨v, hv, rfl⟩)
theorem qLs.ag {ad ad' : Nat → Nat} {ls : Array Slot} {nL n : Nat} {L : qL} (h : qLs ad ls nL L) (ha : qAg n ad ad') (hL : qscL n L = true) : qLs ad' ls nL L := by
  refine ⟨h.1, lv_mono h.2 ?_⟩
  rintro ⟨i, w⟩ hq
  obtain ⟨v, hv, rfl⟩ := ql_mem.mp hq
  refine ql_mem.mpr ⟨v, hv, ?_⟩
  have h1 := List.all_eq_true.mp hL (some v) (List.mem_of_getElem? hv)
  exact qt_ag ha h1
theorem qinvL_len (L : qL) (n : Nat) : (qinvL L n).length = L.length := by
  unfold qinvL
  split
  · rfl
  · split <;> simp
theorem qinvL_get {L : qL} {n i : Nat} {v : Value} (h : (qinvL L n)[i]? = some (some v)) : L[i]? = some (some v) ∧ ¬ (i + 1 = n ∧ v.category = 2) := by
  unfold qinvL at h
  split at h
  · exact ⟨h, by omega⟩
  · rename_i m
    split at h
    · rename_i o ho
      rw [List.getElem?_set] at h
      by_cases hmi : m = i
      · subst hmi
        rw [if_pos rfl] at h
        split at h
        · simp only [Option.some.injEq] at h
          unfold qinv at h
          split at h
          · rename_i w
            split at h
            · rename_i hc
              simp only [Option.some.injEq] at h
              subst h
              simp only [qcat1, beq_iff_eq] at hc
              exact ⟨ho, by omega⟩
            · cases h
          · cases h
        · cases h
      · rw [if_neg hmi] at h
        exact ⟨h, by omega⟩
    · rename_i ho
      refine ⟨h, ?_⟩
      rintro ⟨h1, -⟩
      have : i = m := by omega
      subst this
      rw [ho] at h
      cases h
theorem qset1_len (L : qL) (n : Nat) (o : Option Value) : (qset1 L n o).length = L.length := by simp [qset1, qinvL_len]
theorem qset2_len (L : qL) (n : Nat) (o : Option Value) : (qset2 L n o).length = L.length := by simp [qset2, qinvL_len]
theorem qLs.st1 {ad : Nat → Nat} {ls ls' : Array Slot} {nL n : Nat} {L : qL} {w : Value} (h : qLs ad ls nL L) (v : Option Value) (hv : ∀ x, v = some x → w = qt ad x)
    (h2 : lv_has ls' nL ((n, w) :: (ql ad L).filter (fun q => !(q.1 == n) && !(q.1 + 1 == n && q.2.category == 2)))) : qLs ad ls' nL (qset1 L n v) := by
  refine ⟨(qset1_len L n v).trans h.1, lv_mono h2 ?_⟩
  rintro ⟨i, u⟩ hq
  obtain ⟨x, hx, rfl⟩ := ql_mem.mp hq
  unfold qset1 at hx
  rw [List.getElem?_set] at hx
  by_cases hni : n = i
  · subst hni
    rw [if_pos rfl] at hx
    split at hx
    · simp only [Option.some.injEq] at hx
      rw [hv x hx]
      exact List.mem_cons_self
    · cases hx
  · rw [if_neg hni] at hx
    obtain ⟨h3, h4⟩ := qinvL_get hx
    refine List.mem_cons_of_mem _ (List.mem_filter.mpr ⟨ql_mem.mpr ⟨x, h3, rfl⟩, ?_⟩)
    simp only [qt_cat, Bool.and_eq_true, Bool.not_eq_true', beq_eq_false_iff_ne, ne_eq, Bool.and_eq_false_iff, beq_eq_false_iff_ne]
    refine ⟨fun q => hni q.symm, ?_⟩
    by_cases h5 : i + 1 = n
    · exact Or.inr (fun q => h4 ⟨h5, q⟩)
    · exact Or.inl h5
theorem qLs.st2 {ad : Nat → Nat} {ls ls' : Array Slot} {nL n : Nat} {L : qL} {w v : Value} (h : qLs ad ls nL L) (hv : w = qt ad v)
    (h2 : lv_has ls' nL ((n, w) :: (ql ad L).filter (fun q => !(q.1 == n) && (!(q.1 == n + 1) && !(q.1 + 1 == n && q.2.category == 2))))) : qLs ad ls' nL (qset2 L n (some v)) := by
  refine ⟨(qset2_len L n _).trans h.1, lv_mono h2 ?_⟩
  rintro ⟨i, u⟩ hq
  obtain ⟨x, hx, rfl⟩ := ql_mem.mp hq
  unfold qset2 at hx
  rw [List.getElem?_set] at hx
  by_cases hn1 : n + 1 = i
  · rw [if_pos hn1] at hx
    split at hx <;> cases hx
  · rw [if_neg hn1, List.getElem?_set] at hx
    by_cases hni : n = i
    · subst hni
      rw [if_pos rfl] at hx
      split at hx
      · simp only [Option.some.injEq] at hx
        rw [hv, hx]
        exact List.mem_cons_self
      · cases hx
    · rw [if_neg hni] at hx
      obtain ⟨h3, h4⟩ := qinvL_get hx
      refine List.mem_cons_of_mem _ (List.mem_filter.mpr ⟨ql_mem.mpr ⟨x, h3, rfl⟩, ?_⟩)
      simp only [qt_cat, Bool.and_eq_true, Bool.not_eq_true', beq_eq_false_iff_ne, ne_eq, Bool.and_eq_false_iff, beq_eq_false_iff_ne]
      refine ⟨fun q => hni q.symm, fun q => hn1 q.symm, ?_⟩
      by_cases h5 : i + 1 = n
      · exact Or.inr (fun q => h4 ⟨h5, q⟩)
      · exact Or.inl h5
/-- the entry's locals -/
theorem qexp_get : ∀ (vs : List Value) (i k : Nat) (v : Value), (qexp vs)[k]? = some (some v) → (i + k, v) ∈ lv_args i vs
  | [], i, k, v, h => by simp [qexp] at h
  | w :: vs, i, k, v, h => by
    unfold qexp at h
    unfold lv_args
    split at h
    · rename_i hc
      simp only [qcat1, beq_iff_eq] at hc
      rw [if_neg (by omega)]
      cases k with
      | zero =>
        simp only [List.getElem?_cons_zero, Option.some.injEq] at h
        subst h
        exact List.mem_cons_self
      | succ k =>
        rw [List.getElem?_cons_succ] at h
        have := qexp_get vs (i + 1) k v h
        rw [show i + (k + 1) = i + 1 + k by omega]
        exact List.mem_cons_of_mem _ this
    · rename_i hc
      have hc2 : w.category = 2 := by
        have := lv_cat w
        simp only [qcat1, beq_iff_eq] at hc
        omega
      rw [if_pos hc2]
      cases k with
      | zero =>
        simp only [List.getElem?_cons_zero, Option.some.injEq] at h
        subst h
        exact List.mem_cons_self
      | succ k =>
        rw [List.getElem?_cons_succ] at h
        cases k with
        | zero => simp at h
        | succ k =>
          rw [List.getElem?_cons_succ] at h
          have := qexp_get vs (i + 2) k v h
          rw [show i + (k + 1 + 1) = i + 2 + k by omega]
          exact List.mem_cons_of_mem _ this
theorem lv_args_map (ad : Nat → Nat) : ∀ (vs : List Value) (i : Nat), lv_args i (vs.map (qt ad)) = (lv_args i vs).map (fun q => (q.1, qt ad q.2))
  | [], _ => rfl
  | v :: vs, i => by
    simp only [List.map_cons, lv_args, qt_cat]
    split <;> rw [lv_args_map ad vs]
theorem qexp_len : ∀ (ad : Nat → Nat) (vs : List Value), (lg_sl (vs.map (qt ad))).length = (qexp vs).length
  | _, [] => rfl
  | ad, v :: vs => by
    have ih := qexp_len ad vs
    have e : lg_sl ((v :: vs).map (qt ad)) = (if (qt ad v).category = 2 then [.val (qt ad v), .second] else [.val (qt ad v)]) ++ lg_sl (vs.map (qt ad)) := rfl
    rw [e]
    unfold qexp
    rcases lv_cat v with h | h
    · rw [qt_cat, if_neg (by omega), if_pos (by simp [qcat1, h])]
      simp [ih]
    · rw [qt_cat, if_pos h, if_neg (by simp [qcat1, h])]
      simp [ih]
theorem qloc_ok {ad : Nat → Nat} {j : Nat} {vs : List Value} (h : (qexp vs).length ≤ q_mL j) :
    qLs ad ((lg_sl (vs.map (qt ad)) ++ List.replicate (q_mL j - (lg_sl (vs.map (qt ad))).length) Slot.unset).toArray) (q_mL j) (qloc j vs) := by
  refine ⟨by simp only [qloc, List.length_append, List.length_replicate]; omega, lv_mono (lv_entry (vs.map (qt ad)) (n := q_mL j) (by rw [qexp_len]; exact h)) ?_⟩
  rintro ⟨i, u⟩ hq
  obtain ⟨x, hx, rfl⟩ := ql_mem.mp hq
  unfold qloc at hx
  have h1 : (qexp vs)[i]? = some (some x) := by
    by_cases hi : i < (qexp vs).length
    · rwa [List.getElem?_append_left hi] at hx
    · rw [List.getElem?_append_right (by omega), List.getElem?_replicate] at hx
      split at hx <;> cases hx
  have h2 := qexp_get vs 0 i x h1
  rw [Nat.zero_add] at h2
  rw [lv_args_map]
  exact List.mem_map.mpr ⟨(i, x), h2, rfl⟩
end
section
/-! ===== BEGIN a constructor that throws (launches without stack traces) ===== -/
section VXIA
variable {p : Program} {l : Launch} {e : Env} {R : Room} {s : State} {m : MethodId} {args : Array Value} {below : List Frame} {meth : Method} {c : Code} {T : State} {locs : List Loc} {cells slots : Nat}
theorem vx_callI (X : Stand p l e R s m args below meth c T locs cells slots) (hexec : p.tables.exec = Jvm.exec) {own : String} {index : Nat} {y : MethodName} {bytes : ByteArray} {maxL : Nat}
    (hown : s.vm.findClass own = some m.cls) (hy1 : y.name = "<init>") (hlink : (Cond.methodLink own index y).before args s = true) (hinst : (Cond.instanceMethod y).before args s = true)
    (hcode : (Cond.code y bytes maxL none).before args s = true) (hy : y.cls ≠ "java/lang/invoke/MethodHandle" ∧ y.cls ≠ "java/lang/invoke/VarHandle")
    {W9 : Nat} {Pre : Pt → Array Value → Prop} {Post : Pt → Array Value → Option Value → Pt → Prop} {PostX : Pt → Array Value → Addr → Pt → Prop} (hK : vx_Back l R p e below s args y 3 W9 Pre Post PostX)
    {g : JFrame} (hg : g.method = m) (hsize : g.locals.size = c.maxLocals) {a : Addr} {argsL rest : List Value} (hlen : ∀ sig, parseMethodDescriptor y.desc = some sig → argsL.length = sig.parameters.length)
    (hstack : g.stack = argsL.reverse ++ .ref a :: rest) (hW : 2 * g.monitorRoom + (rest.map fun v => v.category).sum ≤ W9) (hdg : decode c.code g.pc = .ok (.invokespecial index, 3))
    (hpre : ∀ vm₁, s.WarmedH vm₁ → Pre ⟨T.setVm vm₁, locs, cells, slots⟩ (Value.ref a :: argsL).toArray) :
    (∃ (v : Option Value) (vm₁ : Vm) (B : Pt), s.WarmedH vm₁ ∧ Stand p l e R s m args below meth c B.U B.locs B.cells B.slots ∧ Post ⟨T.setVm vm₁, locs, cells, slots⟩ (Value.ref a :: argsL).toArray v B ∧
      ∀ target, Steps p.tables e below (B.U.setTop { g with pc := g.pc + 3, stack := v.toList ++ rest }) target → Steps p.tables e below (T.setTop g) target) ∨
    (∃ (q : Addr) (vm₁ : Vm) (B : Pt), s.WarmedH vm₁ ∧ Stand p l e R s m args below meth c B.U B.locs B.cells B.slots ∧ PostX ⟨T.setVm vm₁, locs, cells, slots⟩ (Value.ref a :: argsL).toArray q B ∧
      Steps p.tables e below (T.setTop g) ((B.U.setTop { g with stack := rest }).pushFrame (.throwing q))) := by
  subst hg
  have hpl : e.platform.magicAccessors = ({} : Platform).magicAccessors := by rw [X.admits.platform]
  obtain ⟨mk, methM, cM, kP, vm₁, hnamed, hmethM, hcodeM, -, hlocalsM, -, hkP, -, hW₁, hstep₁⟩ := Steps.initColdArgs (e := e) X.here hexec X.warmed hpl hown hy1 hy hlink hinst hcode (f := g) rfl hlen hstack hdg
  have X₁ := X.noted hW₁
  rcases hK g.method meth c ⟨T.setVm vm₁, locs, cells, slots⟩ { g with stack := rest } (.invokespecial index) mk (Value.ref a :: argsL).toArray X₁ rfl hsize hdg hW (X₁.named hnamed) (hpre vm₁ X₁.warmed) with ⟨v, B, X', hpost, hsteps⟩ | ⟨q, B, X', hpost, hsteps⟩
  · exact Or.inl ⟨v, vm₁, B, X₁.warmed, X', hpost, fun target h => hstep₁ _ fun acts => by rw [doInvoke_state]; exact hsteps.trans h⟩
  · exact Or.inr ⟨q, vm₁, B, X₁.warmed, X', hpost, hstep₁ _ fun acts => by rw [doInvoke_state]; exact hsteps⟩
end VXIA
section VXIB
variable {p : Program} {l : Launch} {e : Env} {R : Room} {s : State} {m : MethodId} {args : Array Value} {below : List Frame} {meth : Method} {c : Code} {H : Heap} {locs : List Loc} {cells slots : Nat}
variable {y : MethodName} {bytes cc : ByteArray} {maxL nL mc ms n index : Nat} {ret : Option FieldType} {ws : List Cond} {rm : Room} {Pc : Array Value → State → Prop} {Qc : Array Value → State → Outcome → State → Prop} {XC : String → State → State → Prop} {free : Addr → Prop} {Ts : List Cond} {own C : String} {b : Addr} {As rest : List Value} {g : JFrame}
theorem vx_runI (S : CallFix p m c cc nL s args Ts own) (hM : vx_Met l y ws rm Pc Qc XC mc ms free) (cw : CallB R s args own index y bytes maxL none ws rm mc ms n ∧ y.name = "<init>" ∧ (Cond.instanceMethod y).before args s = true) (hp : PreS s H Pc (.ref b :: As))
    (hg : g.method = m) (hn : As.length = n) (hsize : g.locals.size = nL) (hstack : g.stack = As.reverse ++ .ref b :: rest) (hW : 2 * g.monitorRoom + (rest.map fun v => v.category).sum ≤ 8) (hdg : decode cc g.pc = .ok (.invokespecial index, 3)) (hf : cells + mc ≤ R.cells ∧ slots + ms ≤ R.slots) :
    vx_Run p l e R s m args below meth c H locs cells slots mc ms g rest (Qc (Value.ref b :: As).toArray) XC free := by
  have hK : vx_Back l R p e below s args y 3 8 (PreOf R mc ms Pc) (PostOf Qc mc ms free) (vx_Post XC mc ms free) := vx_callBack cw.1 hM hp.1
  obtain ⟨⟨-, -, -, -, -, -, hcode, -, hy, hlen, hl⟩, hy1, hin⟩ := cw
  obtain ⟨hx, hb, hml, ho, -⟩ := S
  have hPc := hp.2
  intro T hT X
  rcases vx_callI X hx (bytes := bytes) (maxL := maxL) ho hy1 hl hin hcode hy hK hg (hsize.trans hml.symm) (a := b) (argsL := As) (rest := rest) (fun sig h => hn.trans (hlen sig h)) hstack hW (by rw [hb]; exact hdg)
    (fun vm₁ hW₁ => ⟨hf.1, hf.2, hPc (T.setVm vm₁) hT hW₁⟩) with ⟨v, vm₁, ⟨U', l2, c2, s2⟩, hW₁, X', ⟨g', mk, t, L, e1, e2, hq, h1, hL, h2, h3⟩, st⟩ | ⟨q, vm₁, ⟨U', l2, c2, s2⟩, hW₁, X', ⟨g', mk, t, L, E, ce, e1, e2, hq, hce, hcv, hcl, h1, hL, h2, h3⟩, st⟩
  · dsimp only [Pt.U, Pt.locs, Pt.cells, Pt.slots] at X' e1 e2 h1 h2 h3 st
    subst h1; subst h2; subst h3
    exact Or.inl ⟨v, (T.setVm vm₁).calling g' mk (Value.ref b :: As).toArray, t, U', L, hT, X', hL, e1, e2, hq, st⟩
  · dsimp only [Pt.U, Pt.locs, Pt.cells, Pt.slots] at X' e1 e2 h1 h2 h3 st hcl
    subst h1; subst h2; subst h3
    exact Or.inr ⟨q, (T.setVm vm₁).calling g' mk (Value.ref b :: As).toArray, t, U', L, E, ce, hT, X', hL, e1, e2, hq, hce, hcv, vx_cls hW₁ hcl, st⟩
end VXIB
/-! ===== END ===== -/
/-! ===== BEGIN a private constructor of a nest mate that throws ===== -/
section VXIC
variable {p : Program} {l : Launch} {e : Env} {R : Room} {s : State} {m : MethodId} {args : Array Value} {below : List Frame} {meth : Method} {c : Code} {T : State} {locs : List Loc} {cells slots : Nat}
theorem vx_callIN (X : Stand p l e R s m args below meth c T locs cells slots) (hexec : p.tables.exec = Jvm.exec) {own : String} {index : Nat} {host : String} {y : MethodName} {bytes : ByteArray} {maxL : Nat}
    (hown : s.vm.findClass own = some m.cls) (hy1 : y.name = "<init>") (hlink : (Cond.methodLinkNest own index y host).before args s = true) (hinst : (Cond.instanceMethod y).before args s = true)
    (hcode : (Cond.code y bytes maxL none).before args s = true) (hy : y.cls ≠ "java/lang/invoke/MethodHandle" ∧ y.cls ≠ "java/lang/invoke/VarHandle")
    {W9 : Nat} {Pre : Pt → Array Value → Prop} {Post : Pt → Array Value → Option Value → Pt → Prop} {PostX : Pt → Array Value → Addr → Pt → Prop} (hK : vx_Back l R p e below s args y 3 W9 Pre Post PostX)
    {g : JFrame} (hg : g.method = m) (hsize : g.locals.size = c.maxLocals) {a : Addr} {argsL rest : List Value} (hlen : ∀ sig, parseMethodDescriptor y.desc = some sig → argsL.length = sig.parameters.length)
    (hstack : g.stack = argsL.reverse ++ .ref a :: rest) (hW : 2 * g.monitorRoom + (rest.map fun v => v.category).sum ≤ W9) (hdg : decode c.code g.pc = .ok (.invokespecial index, 3))
    (hpre : ∀ vm₁, s.WarmedH vm₁ → Pre ⟨T.setVm vm₁, locs, cells, slots⟩ (Value.ref a :: argsL).toArray) :
    (∃ (v : Option Value) (vm₁ : Vm) (B : Pt), s.WarmedH vm₁ ∧ Stand p l e R s m args below meth c B.U B.locs B.cells B.slots ∧ Post ⟨T.setVm vm₁, locs, cells, slots⟩ (Value.ref a :: argsL).toArray v B ∧
      ∀ target, Steps p.tables e below (B.U.setTop { g with pc := g.pc + 3, stack := v.toList ++ rest }) target → Steps p.tables e below (T.setTop g) target) ∨
    (∃ (q : Addr) (vm₁ : Vm) (B : Pt), s.WarmedH vm₁ ∧ Stand p l e R s m args below meth c B.U B.locs B.cells B.slots ∧ PostX ⟨T.setVm vm₁, locs, cells, slots⟩ (Value.ref a :: argsL).toArray q B ∧
      Steps p.tables e below (T.setTop g) ((B.U.setTop { g with stack := rest }).pushFrame (.throwing q))) := by
  subst hg
  have hpl : e.platform.magicAccessors = ({} : Platform).magicAccessors := by rw [X.admits.platform]
  obtain ⟨mk, methM, cM, kP, vm₁, hnamed, hmethM, hcodeM, -, hlocalsM, -, hkP, -, hW₁, hstep₁⟩ := Steps.initColdArgsNest (e := e) X.here hexec X.warmed hpl hown hy1 hy hlink hinst hcode (f := g) rfl hlen hstack hdg
  have X₁ := X.noted hW₁
  rcases hK g.method meth c ⟨T.setVm vm₁, locs, cells, slots⟩ { g with stack := rest } (.invokespecial index) mk (Value.ref a :: argsL).toArray X₁ rfl hsize hdg hW (X₁.named hnamed) (hpre vm₁ X₁.warmed) with ⟨v, B, X', hpost, hsteps⟩ | ⟨q, B, X', hpost, hsteps⟩
  · exact Or.inl ⟨v, vm₁, B, X₁.warmed, X', hpost, fun target h => hstep₁ _ fun acts => by rw [doInvoke_state]; exact hsteps.trans h⟩
  · exact Or.inr ⟨q, vm₁, B, X₁.warmed, X', hpost, hstep₁ _ fun acts => by rw [doInvoke_state]; exact hsteps⟩
end VXIC
section VXID
variable {p : Program} {l : Launch} {e : Env} {R : Room} {s : State} {m : MethodId} {args : Array Value} {below : List Frame} {meth : Method} {c : Code} {H : Heap} {locs : List Loc} {cells slots : Nat}
theorem vx_runIN {y : MethodName} {bytes cc : ByteArray} {maxL nL mc ms n index : Nat} {ws : List Cond} {rm : Room} {Pc : Array Value → State → Prop} {Qc : Array Value → State → Outcome → State → Prop} {XC : String → State → State → Prop} {free : Addr → Prop} {Ts : List Cond} {own host : String} {b : Addr} {As rest : List Value} {g : JFrame}
    (S : CallFix p m c cc nL s args Ts own) (hM : vx_Met l y ws rm Pc Qc XC mc ms free) (cw : va_CN R s args own index y host bytes maxL none ws rm mc ms n ∧ y.name = "<init>" ∧ (Cond.instanceMethod y).before args s = true) (hp : PreS s H Pc (.ref b :: As))
    (hg : g.method = m) (hn : As.length = n) (hsize : g.locals.size = nL) (hstack : g.stack = As.reverse ++ .ref b :: rest) (hW : 2 * g.monitorRoom + (rest.map fun v => v.category).sum ≤ 8) (hdg : decode cc g.pc = .ok (.invokespecial index, 3)) (hf : cells + mc ≤ R.cells ∧ slots + ms ≤ R.slots) :
    vx_Run p l e R s m args below meth c H locs cells slots mc ms g rest (Qc (Value.ref b :: As).toArray) XC free := by
  obtain ⟨⟨⟨hrc, hrs, hfr, hlo, hws, hcw⟩, hcode, hini, hy, hlen, hl⟩, hx1, hx2⟩ := cw
  have hK : vx_Back l R p e below s args y 3 8 (PreOf R mc ms Pc) (PostOf Qc mc ms free) (vx_Post XC mc ms free) := vx_back (bytes := bytes) (maxL := maxL) (ret := none) hM hp.1 hrc hrs hfr hlo hws hcw (fun a' U hW => word_at hW (Or.inl (by first | rfl | simp [Cond.onTables, Cond.keeps, Cond.steady])) hini)
  obtain ⟨hx, hb, hml, ho, -⟩ := S
  have hPc := hp.2
  intro T hT X
  rcases vx_callIN X hx (bytes := bytes) (maxL := maxL) ho hx1 hl hx2 hcode hy hK hg (hsize.trans hml.symm) (a := b) (argsL := As) (rest := rest) (fun sig h => hn.trans (hlen sig h)) hstack hW (by rw [hb]; exact hdg)
    (fun vm₁ hW₁ => ⟨hf.1, hf.2, hPc (T.setVm vm₁) hT hW₁⟩) with ⟨v, vm₁, ⟨U', l2, c2, s2⟩, hW₁, X', ⟨g', mk, t, L, e1, e2, hq, h1, hL, h2, h3⟩, st⟩ | ⟨q, vm₁, ⟨U', l2, c2, s2⟩, hW₁, X', ⟨g', mk, t, L, E, ce, e1, e2, hq, hce, hcv, hcl, h1, hL, h2, h3⟩, st⟩
  · dsimp only [Pt.U, Pt.locs, Pt.cells, Pt.slots] at X' e1 e2 h1 h2 h3 st
    subst h1; subst h2; subst h3
    exact Or.inl ⟨v, (T.setVm vm₁).calling g' mk (Value.ref b :: As).toArray, t, U', L, hT, X', hL, e1, e2, hq, st⟩
  · dsimp only [Pt.U, Pt.locs, Pt.cells, Pt.slots] at X' e1 e2 h1 h2 h3 st hcl
    subst h1; subst h2; subst h3
    exact Or.inr ⟨q, (T.setVm vm₁).calling g' mk (Value.ref b :: As).toArray, t, U', L, E, ce, hT, X', hL, e1, e2, hq, hce, hcv, vx_cls hW₁ hcl, st⟩
end VXID
/-! ===== END ===== -/
/-! ===== BEGIN a private method of a nest mate that may throw (follows va_callVN, va_callSN, va_runVN, va_runSN) ===== -/
section
variable {p : Program} {l : Launch} {e : Env} {R : Room} {s : State} {m : MethodId} {args : Array Value} {below : List Frame} {meth : Method} {c : Code} {H : Heap} {locs : List Loc} {cells slots : Nat}
variable {T : State}
theorem vx_callVN (X : Stand p l e R s m args below meth c T locs cells slots) (hexec : p.tables.exec = Jvm.exec) {own C : String} {index : Nat} {host : String} {y : MethodName} {bytes : ByteArray} {maxL : Nat} {ret : Option FieldType}
    (hown : s.vm.findClass own = some m.cls) (hlink : (Cond.methodLinkNest own index y host).before args s = true) (hinst : (Cond.instanceMethod y).before args s = true) (hsel : (Cond.selects C y y).before args s = true)
    (hcode : (Cond.code y bytes maxL ret).before args s = true) (hy : y.cls ≠ "java/lang/invoke/MethodHandle" ∧ y.cls ≠ "java/lang/invoke/VarHandle")
    {W : Nat} {Pre : Pt → Array Value → Prop} {Post : Pt → Array Value → Option Value → Pt → Prop} {PostX : Pt → Array Value → Addr → Pt → Prop} (hK : vx_Back l R p e below s args y 3 W Pre Post PostX)
    {b : Addr} {cellB : Cell} (hcell : T.heap[b]? = some cellB) (hobj : cellB.vm.isStatics = false) (hcls : s.vm.findClass C = some cellB.cls)
    {g : JFrame} (hg : g.method = m) (hsize : g.locals.size = c.maxLocals) {argsL rest : List Value} (hlen : ∀ sig, parseMethodDescriptor y.desc = some sig → argsL.length = sig.parameters.length)
    (hstack : g.stack = argsL.reverse ++ .ref b :: rest) (hW : 2 * g.monitorRoom + (rest.map fun v => v.category).sum ≤ W) (hdg : decode c.code g.pc = .ok (.invokevirtual index, 3))
    (hpre : ∀ vm₁, s.WarmedH vm₁ → Pre ⟨T.setVm vm₁, locs, cells, slots⟩ (Value.ref b :: argsL).toArray) :
    (∃ (v : Option Value) (vm₁ : Vm) (B : Pt), s.WarmedH vm₁ ∧ Stand p l e R s m args below meth c B.U B.locs B.cells B.slots ∧ Post ⟨T.setVm vm₁, locs, cells, slots⟩ (Value.ref b :: argsL).toArray v B ∧
      ∀ target, Steps p.tables e below (B.U.setTop { g with pc := g.pc + 3, stack := v.toList ++ rest }) target → Steps p.tables e below (T.setTop g) target) ∨
    (∃ (q : Addr) (vm₁ : Vm) (B : Pt), s.WarmedH vm₁ ∧ Stand p l e R s m args below meth c B.U B.locs B.cells B.slots ∧ PostX ⟨T.setVm vm₁, locs, cells, slots⟩ (Value.ref b :: argsL).toArray q B ∧
      Steps p.tables e below (T.setTop g) ((B.U.setTop { g with stack := rest }).pushFrame (.throwing q))) := by
  obtain ⟨mk, methM, hnamed, hmethM, hstM, habM⟩ := Cond.instanceMethod_spec hinst
  obtain ⟨methM', cM, hmethM', -, -, -, -, -, -, hsigM⟩ := Cond.code_spec hnamed hcode
  cases hmethM.symm.trans hmethM'
  obtain ⟨c2, r2, m2, q1, q2, q3, q4, kP, hkP, hkPi⟩ := Cond.selects_spec hsel
  cases hcls.symm.trans q1
  cases (State.methodFound?_of_named hnamed hy).symm.trans q2
  cases hnamed.symm.trans q3
  have hselP : selectMethod e.platform s.vm cellB.cls mk = .method mk := by rw [Launch.admits_selectMethod X.admits]; exact q4
  obtain ⟨vm₁, X₁, hstep₁⟩ := X.invokevirtualNest hexec hown hlink hnamed hmethM hstM hkP hkPi hy (a := b) (cell := cellB) hcell
    (fun z h => by rw [h] at hobj; cases hobj) hselP hmethM habM hkP hkPi (g := g) hg (argsL := argsL) (rest := rest) (hlen _ hsigM) hstack hdg
  rcases hK m meth c ⟨T.setVm vm₁, locs, cells, slots⟩ { g with stack := rest } (.invokevirtual index) mk (Value.ref b :: argsL).toArray X₁ hg hsize hdg hW (X₁.named hnamed) (hpre vm₁ X₁.warmed) with ⟨v, B, X', hpost, hsteps⟩ | ⟨q, B, X', hpost, hsteps⟩
  · exact Or.inl ⟨v, vm₁, B, X₁.warmed, X', hpost, fun target h => hstep₁ _ fun acts => by rw [doInvoke_state]; exact hsteps.trans h⟩
  · exact Or.inr ⟨q, vm₁, B, X₁.warmed, X', hpost, hstep₁ _ fun acts => by rw [doInvoke_state]; exact hsteps⟩
theorem vx_callSN (X : Stand p l e R s m args below meth c T locs cells slots) (hexec : p.tables.exec = Jvm.exec) {own : String} {index : Nat} {host : String} {y : MethodName} {bytes : ByteArray} {maxL : Nat} {ret : Option FieldType}
    (hown : s.vm.findClass own = some m.cls) (hlink : (Cond.methodLinkNest own index y host).before args s = true) (hstat : (Cond.static y).before args s = true) (hinit : (Cond.initialized y.cls).before args s = true)
    (hcode : (Cond.code y bytes maxL ret).before args s = true) (hy : y.cls ≠ "java/lang/invoke/MethodHandle" ∧ y.cls ≠ "java/lang/invoke/VarHandle")
    {W : Nat} {Pre : Pt → Array Value → Prop} {Post : Pt → Array Value → Option Value → Pt → Prop} {PostX : Pt → Array Value → Addr → Pt → Prop} (hK : vx_Back l R p e below s args y 3 W Pre Post PostX)
    {g : JFrame} (hg : g.method = m) (hsize : g.locals.size = c.maxLocals) {argsL rest : List Value} (hlen : ∀ sig, parseMethodDescriptor y.desc = some sig → argsL.length = sig.parameters.length)
    (hstack : g.stack = argsL.reverse ++ rest) (hW : 2 * g.monitorRoom + (rest.map fun v => v.category).sum ≤ W) (hdg : decode c.code g.pc = .ok (.invokestatic index, 3))
    (hpre : ∀ vm₁, s.WarmedH vm₁ → Pre ⟨T.setVm vm₁, locs, cells, slots⟩ argsL.toArray) :
    (∃ (v : Option Value) (vm₁ : Vm) (B : Pt), s.WarmedH vm₁ ∧ Stand p l e R s m args below meth c B.U B.locs B.cells B.slots ∧ Post ⟨T.setVm vm₁, locs, cells, slots⟩ argsL.toArray v B ∧
      ∀ target, Steps p.tables e below (B.U.setTop { g with pc := g.pc + 3, stack := v.toList ++ rest }) target → Steps p.tables e below (T.setTop g) target) ∨
    (∃ (q : Addr) (vm₁ : Vm) (B : Pt), s.WarmedH vm₁ ∧ Stand p l e R s m args below meth c B.U B.locs B.cells B.slots ∧ PostX ⟨T.setVm vm₁, locs, cells, slots⟩ argsL.toArray q B ∧
      Steps p.tables e below (T.setTop g) ((B.U.setTop { g with stack := rest }).pushFrame (.throwing q))) := by
  obtain ⟨mk, hnamed⟩ := Cond.code_named hcode
  obtain ⟨methM, cM, hmethM, -, -, -, -, -, -, hsigM⟩ := Cond.code_spec hnamed hcode
  have hstatic : methM.isStatic = true := Cond.static_spec hnamed hmethM hstat
  obtain ⟨kP, hkP, -⟩ := className_of_methodNamed hnamed
  have hinitP : kP.init = .initialized := Cond.initialized_spec (findClass_of_methodNamed hnamed) hkP hinit
  obtain ⟨vm₁, X₁, hstep₁⟩ := X.invokestaticNest hexec hown hlink hnamed hmethM hstatic hkP hinitP hy (g := g) hg (argsL := argsL) (rest := rest) (hlen _ hsigM) hstack hdg
  rcases hK m meth c ⟨T.setVm vm₁, locs, cells, slots⟩ { g with stack := rest } (.invokestatic index) mk argsL.toArray X₁ hg hsize hdg hW (X₁.named hnamed) (hpre vm₁ X₁.warmed) with ⟨v, B, X', hpost, hsteps⟩ | ⟨q, B, X', hpost, hsteps⟩
  · exact Or.inl ⟨v, vm₁, B, X₁.warmed, X', hpost, fun target h => hstep₁ _ fun acts => by rw [doInvoke_state]; exact hsteps.trans h⟩
  · exact Or.inr ⟨q, vm₁, B, X₁.warmed, X', hpost, hstep₁ _ fun acts => by rw [doInvoke_state]; exact hsteps⟩
theorem vx_runVN {y : MethodName} {bytes cc : ByteArray} {maxL nL mc ms n index : Nat} {ret : Option FieldType} {ws : List Cond} {rm : Room} {Pc : Array Value → State → Prop} {Qc : Array Value → State → Outcome → State → Prop} {XC : String → State → State → Prop} {free : Addr → Prop} {Ts : List Cond} {own C host : String} {b : Addr} {As rest : List Value} {g : JFrame}
    (S : CallFix p m c cc nL s args Ts own) (hM : vx_Met l y ws rm Pc Qc XC mc ms free) (cw : va_CN R s args own index y host bytes maxL ret ws rm mc ms n ∧ (Cond.instanceMethod y).before args s = true ∧ (Cond.selects C y y).before args s = true) (hp : PreV s H C b Pc As)
    (hg : g.method = m) (hn : As.length = n) (hsize : g.locals.size = nL) (hstack : g.stack = As.reverse ++ .ref b :: rest) (hW : 2 * g.monitorRoom + (rest.map fun v => v.category).sum ≤ 8) (hdg : decode cc g.pc = .ok (.invokevirtual index, 3)) (hf : cells + mc ≤ R.cells ∧ slots + ms ≤ R.slots) :
    vx_Run p l e R s m args below meth c H locs cells slots mc ms g rest (Qc (Value.ref b :: As).toArray) XC free := by
  obtain ⟨⟨⟨hrc, hrs, hfr, hlo, hws, hcw⟩, hcode, hini, hy, hlen, hl⟩, hx1, hx2⟩ := cw
  have hK : vx_Back l R p e below s args y 3 8 (PreOf R mc ms Pc) (PostOf Qc mc ms free) (vx_Post XC mc ms free) := vx_back (bytes := bytes) (maxL := maxL) (ret := ret) hM hp.1 hrc hrs hfr hlo hws hcw (fun a' U hW => word_at hW (Or.inl (by first | rfl | simp [Cond.onTables, Cond.keeps, Cond.steady])) hini)
  obtain ⟨hx, hb, hml, ho, -⟩ := S
  obtain ⟨-, ⟨cellB, hcB, hoB, hclB⟩, hPc⟩ := hp
  intro T hT X
  rcases vx_callVN X hx (C := C) (bytes := bytes) (maxL := maxL) (ret := ret) ho hl hx1 hx2 hcode hy hK (by rw [hT]; exact hcB) hoB hclB hg (hsize.trans hml.symm) (argsL := As) (rest := rest) (fun sig h => hn.trans (hlen sig h)) hstack hW (by rw [hb]; exact hdg)
    (fun vm₁ hW₁ => ⟨hf.1, hf.2, hPc (T.setVm vm₁) hT hW₁⟩) with ⟨v, vm₁, ⟨U', l2, c2, s2⟩, hW₁, X', ⟨g', mk, t, L, e1, e2, hq, h1, hL, h2, h3⟩, st⟩ | ⟨q, vm₁, ⟨U', l2, c2, s2⟩, hW₁, X', ⟨g', mk, t, L, E, ce, e1, e2, hq, hce, hcv, hcl, h1, hL, h2, h3⟩, st⟩
  · dsimp only [Pt.U, Pt.locs, Pt.cells, Pt.slots] at X' e1 e2 h1 h2 h3 st
    subst h1; subst h2; subst h3
    exact Or.inl ⟨v, (T.setVm vm₁).calling g' mk (Value.ref b :: As).toArray, t, U', L, hT, X', hL, e1, e2, hq, st⟩
  · dsimp only [Pt.U, Pt.locs, Pt.cells, Pt.slots] at X' e1 e2 h1 h2 h3 st hcl
    subst h1; subst h2; subst h3
    exact Or.inr ⟨q, (T.setVm vm₁).calling g' mk (Value.ref b :: As).toArray, t, U', L, E, ce, hT, X', hL, e1, e2, hq, hce, hcv, vx_cls hW₁ hcl, st⟩
theorem vx_runSN {y : MethodName} {bytes cc : ByteArray} {maxL nL mc ms n index : Nat} {ret : Option FieldType} {ws : List Cond} {rm : Room} {Pc : Array Value → State → Prop} {Qc : Array Value → State → Outcome → State → Prop} {XC : String → State → State → Prop} {free : Addr → Prop} {Ts : List Cond} {own host : String} {As rest : List Value} {g : JFrame}
    (S : CallFix p m c cc nL s args Ts own) (hM : vx_Met l y ws rm Pc Qc XC mc ms free) (cw : va_CN R s args own index y host bytes maxL ret ws rm mc ms n ∧ (Cond.static y).before args s = true ∧ True) (hp : PreS s H Pc As)
    (hg : g.method = m) (hn : As.length = n) (hsize : g.locals.size = nL) (hstack : g.stack = As.reverse ++ rest) (hW : 2 * g.monitorRoom + (rest.map fun v => v.category).sum ≤ 8) (hdg : decode cc g.pc = .ok (.invokestatic index, 3)) (hf : cells + mc ≤ R.cells ∧ slots + ms ≤ R.slots) :
    vx_Run p l e R s m args below meth c H locs cells slots mc ms g rest (Qc As.toArray) XC free := by
  obtain ⟨⟨⟨hrc, hrs, hfr, hlo, hws, hcw⟩, hcode, hini, hy, hlen, hl⟩, hx1, hx2⟩ := cw
  have hK : vx_Back l R p e below s args y 3 8 (PreOf R mc ms Pc) (PostOf Qc mc ms free) (vx_Post XC mc ms free) := vx_back (bytes := bytes) (maxL := maxL) (ret := ret) hM hp.1 hrc hrs hfr hlo hws hcw (fun a' U hW => word_at hW (Or.inl (by first | rfl | simp [Cond.onTables, Cond.keeps, Cond.steady])) hini)
  obtain ⟨hx, hb, hml, ho, -⟩ := S
  have hPc := hp.2
  intro T hT X
  rcases vx_callSN X hx (bytes := bytes) (maxL := maxL) (ret := ret) ho hl hx1 hini hcode hy hK hg (hsize.trans hml.symm) (argsL := As) (rest := rest) (fun sig h => hn.trans (hlen sig h)) hstack hW (by rw [hb]; exact hdg)
    (fun vm₁ hW₁ => ⟨hf.1, hf.2, hPc (T.setVm vm₁) hT hW₁⟩) with ⟨v, vm₁, ⟨U', l2, c2, s2⟩, hW₁, X', ⟨g', mk, t, L, e1, e2, hq, h1, hL, h2, h3⟩, st⟩ | ⟨q, vm₁, ⟨U', l2, c2, s2⟩, hW₁, X', ⟨g', mk, t, L, E, ce, e1, e2, hq, hce, hcv, hcl, h1, hL, h2, h3⟩, st⟩
  · dsimp only [Pt.U, Pt.locs, Pt.cells, Pt.slots] at X' e1 e2 h1 h2 h3 st
    subst h1; subst h2; subst h3
    exact Or.inl ⟨v, (T.setVm vm₁).calling g' mk As.toArray, t, U', L, hT, X', hL, e1, e2, hq, st⟩
  · dsimp only [Pt.U, Pt.locs, Pt.cells, Pt.slots] at X' e1 e2 h1 h2 h3 st hcl
    subst h1; subst h2; subst h3
    exact Or.inr ⟨q, (T.setVm vm₁).calling g' mk As.toArray, t, U', L, E, ce, hT, X', hL, e1, e2, hq, hce, hcv, vx_cls hW₁ hcl, st⟩
end
/-! ===== END ===== -/
end
section
/-! one step of the small machine is a step of the machine: stack, locals, branches -/
theorem qi1_inv {g : Int32 → Option Value} {st st' : List Value} (h : qi1 g st = some st') : ∃ x r v, st = .int x :: r ∧ g x = some v ∧ st' = v :: r := by
  unfold qi1 at h
  split at h
  · rename_i x r
    obtain ⟨v, h1, h2⟩ := Option.map_eq_some_iff.mp h
    exact ⟨x, r, v, rfl, h1, h2.symm⟩
  · cases h
theorem qi2_inv {g : Int32 → Int32 → Option Value} {st st' : List Value} (h : qi2 g st = some st') : ∃ x y r v, st = .int y :: .int x :: r ∧ g x y = some v ∧ st' = v :: r := by
  unfold qi2 at h
  split at h
  · rename_i y x r
    obtain ⟨v, h1, h2⟩ := Option.map_eq_some_iff.mp h
    exact ⟨x, y, r, v, rfl, h1, h2.symm⟩
  · cases h
theorem ql2_inv {g : Int64 → Int64 → Option Value} {st st' : List Value} (h : ql2 g st = some st') : ∃ x y r v, st = .long y :: .long x :: r ∧ g x y = some v ∧ st' = v :: r := by
  unfold ql2 at h
  split at h
  · rename_i y x r
    obtain ⟨v, h1, h2⟩ := Option.map_eq_some_iff.mp h
    exact ⟨x, y, r, v, rfl, h1, h2.symm⟩
  · cases h
theorem qf2_inv {g : UInt32 → UInt32 → Option Value} {st st' : List Value} (h : qf2 g st = some st') : ∃ x y r v, st = .float y :: .float x :: r ∧ g x y = some v ∧ st' = v :: r := by
  unfold qf2 at h
  split at h
  · rename_i y x r
    obtain ⟨v, h1, h2⟩ := Option.map_eq_some_iff.mp h
    exact ⟨x, y, r, v, rfl, h1, h2.symm⟩
  · cases h
theorem qd2_inv {g : UInt64 → UInt64 → Option Value} {st st' : List Value} (h : qd2 g st = some st') : ∃ x y r v, st = .double y :: .double x :: r ∧ g x y = some v ∧ st' = v :: r := by
  unfold qd2 at h
  split at h
  · rename_i y x r
    obtain ⟨v, h1, h2⟩ := Option.map_eq_some_iff.mp h
    exact ⟨x, y, r, v, rfl, h1, h2.symm⟩
  · cases h
theorem qf1_inv {g : UInt32 → Option Value} {st st' : List Value} (h : qf1 g st = some st') : ∃ x r v, st = .float x :: r ∧ g x = some v ∧ st' = v :: r := by
  unfold qf1 at h
  split at h
  · rename_i x r
    obtain ⟨v, h1, h2⟩ := Option.map_eq_some_iff.mp h
    exact ⟨x, r, v, rfl, h1, h2.symm⟩
  · cases h
theorem qif_some {α : Type} {c : Prop} {d : Decidable c} {a b : α} (h : @ite (Option α) c d (some a) none = some b) : c ∧ a = b := by
  by_cases hc : c
  · rw [if_pos hc] at h
    exact ⟨hc, Option.some.inj h⟩
  · rw [if_neg hc] at h
    cases h
theorem qif_none {α : Type} {c : Prop} {d : Decidable c} {a b : α} (h : @ite (Option α) c d none (some a) = some b) : ¬ c ∧ a = b := by
  by_cases hc : c
  · rw [if_pos hc] at h
    cases h
  · rw [if_neg hc] at h
    exact ⟨hc, Option.some.inj h⟩
section QS1
variable {p : Program} {l : Launch} {e : Env} {R : Room} {s : State} {m : MethodId} {args : Array Value} {below : List Frame} {meth : Method} {c : Code} {H : Heap} {locs : List Loc} {cells slots : Nat} {Q : State → Prop}
variable {cc : ByteArray} {pc : Nat} {ls : Array Slot} {ad : Nat → Nat}
set_option maxHeartbeats 4000000 in
theorem qs_pl (hx : p.tables.exec = Jvm.exec) (hb : c.code = cc) {i : Instr} {st st' : List Value} (h : q_pl i st = some st') (hd : decode cc pc = .ok (i, q_len i))
    (k : W p l e R s m args below meth c H locs cells slots Q (F0 m (pc + q_len i) ls (st'.map (qt ad)))) : W p l e R s m args below meth c H locs cells slots Q (F0 m pc ls (st.map (qt ad))) := by
  cases i
  case iconst n =>
    cases (show some _ = some st' from h)
    exact lv_iconst hx hb hd rfl k
  case bipush n =>
    cases (show some _ = some st' from h)
    exact lv_bipush hx hb hd rfl k
  case sipush n =>
    cases (show some _ = some st' from h)
    exact lv_sipush hx hb hd rfl k
  case lconst n =>
    cases (show some _ = some st' from h)
    exact lv_lconst hx hb hd rfl k
  case fconst n =>
    obtain ⟨hn, hv⟩ := qif_some (show (if n = 0 then some (Value.float FP.fconst0 :: st) else none) = some st' from h)
    subst hn
    cases hv
    exact lv_fconst0 hx hb hd k
  case dconst n =>
    obtain ⟨hn, hv⟩ := qif_some (show (if n = 0 then some (Value.double FP.dconst0 :: st) else none) = some st' from h)
    subst hn
    cases hv
    exact lv_dconst0 hx hb hd k
  case iadd =>
    obtain ⟨x, y, r, v, rfl, hg, rfl⟩ := qi2_inv h
    cases hg
    exact lv_iadd hx hb hd k
  case isub =>
    obtain ⟨x, y, r, v, rfl, hg, rfl⟩ := qi2_inv h
    cases hg
    exact lv_isub hx hb hd k
  case imul =>
    obtain ⟨x, y, r, v, rfl, hg, rfl⟩ := qi2_inv h
    cases hg
    exact lv_imul hx hb hd k
  case iand =>
    obtain ⟨x, y, r, v, rfl, hg, rfl⟩ := qi2_inv h
    cases hg
    exact lv_iand hx hb hd k
  case ior =>
    obtain ⟨x, y, r, v, rfl, hg, rfl⟩ := qi2_inv h
    cases hg
    exact lv_ior hx hb hd k
  case ixor =>
    obtain ⟨x, y, r, v, rfl, hg, rfl⟩ := qi2_inv h
    cases hg
    exact lv_ixor hx hb hd k
  case ishl =>
    obtain ⟨x, y, r, v, rfl, hg, rfl⟩ := qi2_inv h
    cases hg
    exact lv_ishl hx hb hd k
  case ishr =>
    obtain ⟨x, y, r, v, rfl, hg, rfl⟩ := qi2_inv h
    cases hg
    exact lv_ishr hx hb hd k
  case iushr =>
    obtain ⟨x, y, r, v, rfl, hg, rfl⟩ := qi2_inv h
    cases hg
    exact lv_iushr hx hb hd rfl k
  case idiv =>
    obtain ⟨x, y, r, v, rfl, hg, rfl⟩ := qi2_inv h
    obtain ⟨hne, rfl⟩ := qif_none hg
    exact lv_idiv hx hb hd hne k
  case irem =>
    obtain ⟨x, y, r, v, rfl, hg, rfl⟩ := qi2_inv h
    obtain ⟨hne, rfl⟩ := qif_none hg
    exact lv_irem hx hb hd hne k
  case i2c =>
    obtain ⟨x, r, v, rfl, hg, rfl⟩ := qi1_inv h
    cases hg
    exact lv_i2c hx hb hd rfl k
  case i2l =>
    obtain ⟨x, r, v, rfl, hg, rfl⟩ := qi1_inv h
    cases hg
    exact lv_i2l hx hb hd rfl k
  case i2d =>
    obtain ⟨x, r, v, rfl, hg, rfl⟩ := qi1_inv h
    cases hg
    exact lv_i2d hx hb hd k
  case i2f =>
    obtain ⟨x, r, v, rfl, hg, rfl⟩ := qi1_inv h
    cases hg
    exact lv_i2f hx hb hd k
  case ladd =>
    obtain ⟨x, y, r, v, rfl, hg, rfl⟩ := ql2_inv h
    cases hg
    exact lv_ladd hx hb hd k
  case lmul =>
    obtain ⟨x, y, r, v, rfl, hg, rfl⟩ := ql2_inv h
    cases hg
    exact lv_lmul hx hb hd k
  case lcmp =>
    obtain ⟨x, y, r, v, rfl, hg, rfl⟩ := ql2_inv h
    cases hg
    exact W.lcmp hx hb hd k
  case ddiv =>
    obtain ⟨x, y, r, v, rfl, hg, rfl⟩ := qd2_inv h
    obtain ⟨hne, rfl⟩ := qif_some hg
    exact lv_ddiv hx hb hd hne k
  case fdiv =>
    obtain ⟨x, y, r, v, rfl, hg, rfl⟩ := qf2_inv h
    obtain ⟨hne, rfl⟩ := qif_some hg
    exact lv_fdiv hx hb hd hne k
  case f2d =>
    obtain ⟨x, r, v, rfl, hg, rfl⟩ := qf1_inv h
    obtain ⟨hne, rfl⟩ := qif_some hg
    exact lv_f2d hx hb hd hne k
  case dcmp op =>
    obtain ⟨x, y, r, v, rfl, hg, rfl⟩ := qd2_inv h
    cases hg
    exact lv_dcmp hx hb hd k
  case fcmp op =>
    obtain ⟨x, y, r, v, rfl, hg, rfl⟩ := qf2_inv h
    cases hg
    exact lv_fcmp hx hb hd k
  case dup =>
    cases st with
    | nil => exact absurd (show (none : Option (List Value)) = some st' from h) (fun q => by cases q)
    | cons v r =>
      obtain ⟨hc, rfl⟩ := qif_some (show (if qcat1 v = true then some (v :: v :: r) else none) = some st' from h)
      exact lv_dup hx hb hd ((qt_cat ad v).trans (by simpa [qcat1] using hc)) k
  case dup2 =>
    cases st with
    | nil => exact absurd (show (none : Option (List Value)) = some st' from h) (fun q => by cases q)
    | cons v r =>
      cases r with
      | nil => exact absurd (show (none : Option (List Value)) = some st' from h) (fun q => by cases q)
      | cons w r =>
        obtain ⟨hc, rfl⟩ := qif_some (show (if qcat1 v = true ∧ qcat1 w = true then some (v :: w :: v :: w :: r) else none) = some st' from h)
        exact lv_dup2_11 hx hb hd ((qt_cat ad v).trans (by simpa [qcat1] using hc.1)) ((qt_cat ad w).trans (by simpa [qcat1] using hc.2)) k
  all_goals exact absurd (show (none : Option (List Value)) = some st' from h) (fun q => by cases q)
theorem qdoLd_inv {kd n : Nat} {L : qL} {st st' : List Value} (h : qdoLd kd n L st = some st') : ∃ v, L[n]? = some (some v) ∧ q_kind v = kd ∧ st' = v :: st := by
  unfold qdoLd at h
  split at h
  · rename_i v hv
    obtain ⟨h1, h2⟩ := qif_some h
    exact ⟨v, hv, h1, h2.symm⟩
  · cases h
theorem qk0 {v : Value} (h : q_kind v = 0) : ∃ x, v = .int x := by cases v <;> first | exact ⟨_, rfl⟩ | exact absurd h (by simp [q_kind])
theorem qk1 {v : Value} (h : q_kind v = 1) : ∃ x, v = .long x := by cases v <;> first | exact ⟨_, rfl⟩ | exact absurd h (by simp [q_kind])
theorem qk2 {v : Value} (h : q_kind v = 2) : ∃ x, v = .float x := by cases v <;> first | exact ⟨_, rfl⟩ | exact absurd h (by simp [q_kind])
theorem qk3 {v : Value} (h : q_kind v = 3) : ∃ x, v = .double x := by cases v <;> first | exact ⟨_, rfl⟩ | exact absurd h (by simp [q_kind])
theorem qk4 {v : Value} (h : q_kind v = 4) : ∃ x, v = .ref x := by cases v <;> first | exact ⟨_, rfl⟩ | exact absurd h (by simp [q_kind])
set_option maxHeartbeats 4000000 in
theorem qs_ld (hx : p.tables.exec = Jvm.exec) (hb : c.code = cc) {i : Instr} {kd n nL : Nat} {L : qL} {st st' : List Value} (hi : q_ld i = some (kd, n)) (h : qdoLd kd n L st = some st') (hl : qLs ad ls nL L) (hd : decode cc pc = .ok (i, q_len i))
    (k : W p l e R s m args below meth c H locs cells slots Q (F0 m (pc + q_len i) ls (st'.map (qt ad)))) : W p l e R s m args below meth c H locs cells slots Q (F0 m pc ls (st.map (qt ad))) := by
  obtain ⟨v, hv, hkd, rfl⟩ := qdoLd_inv h
  have hls := hl.ld hv
  cases i
  case iload z =>
    cases (show some (0, z) = some (kd, n) from hi)
    obtain ⟨x, rfl⟩ := qk0 hkd
    exact lv_iload hx hb hd hls k
  case lload z =>
    cases (show some (1, z) = some (kd, n) from hi)
    obtain ⟨x, rfl⟩ := qk1 hkd
    exact lv_lload hx hb hd hls k
  case fload z =>
    cases (show some (2, z) = some (kd, n) from hi)
    obtain ⟨x, rfl⟩ := qk2 hkd
    exact lv_fload hx hb hd hls k
  case dload z =>
    cases (show some (3, z) = some (kd, n) from hi)
    obtain ⟨x, rfl⟩ := qk3 hkd
    exact lv_dload hx hb hd hls k
  case aload z =>
    cases (show some (4, z) = some (kd, n) from hi)
    obtain ⟨x, rfl⟩ := qk4 hkd
    exact lv_aload hx hb hd hls k
  case iload_n z =>
    cases (show some (0, (z : Nat)) = some (kd, n) from hi)
    obtain ⟨x, rfl⟩ := qk0 hkd
    exact lv_iload_n hx hb hd rfl hls k
  case lload_n z =>
    cases (show some (1, (z : Nat)) = some (kd, n) from hi)
    obtain ⟨x, rfl⟩ := qk1 hkd
    exact lv_lload_n hx hb hd rfl hls k
  case aload_n z =>
    cases (show some (4, (z : Nat)) = some (kd, n) from hi)
    obtain ⟨x, rfl⟩ := qk4 hkd
    exact lv_aload_n hx hb hd rfl hls k
  all_goals exact absurd (show (none : Option (Nat × Nat)) = some (kd, n) from hi) (fun q => by cases q)
theorem qdoSt_inv {kd n : Nat} {L L' : qL} {st st' : List Value} (h : qdoSt kd n L st = some (L', st')) : ∃ v, st = v :: st' ∧ q_kind v = kd ∧ (((kd = 1 ∨ kd = 3) ∧ n + 1 < L.length ∧ L' = qset2 L n (some v)) ∨ (¬ (kd = 1 ∨ kd = 3) ∧ n < L.length ∧ L' = qset1 L n (some v))) := by
  unfold qdoSt at h
  split at h
  · rename_i v r
    by_cases h1 : q_kind v = kd
    · rw [if_pos h1] at h
      by_cases h2 : kd = 1 ∨ kd = 3
      · rw [if_pos h2] at h
        obtain ⟨h3, h4⟩ := qif_some h
        cases h4
        exact ⟨v, rfl, h1, Or.inl ⟨h2, h3, rfl⟩⟩
      · rw [if_neg h2] at h
        obtain ⟨h3, h4⟩ := qif_some h
        cases h4
        exact ⟨v, rfl, h1, Or.inr ⟨h2, h3, rfl⟩⟩
    · rw [if_neg h1] at h
      cases h
  · cases h
set_option maxHeartbeats 4000000 in
theorem qs_st (hx : p.tables.exec = Jvm.exec) (hb : c.code = cc) {i : Instr} {kd n nL : Nat} {L L' : qL} {st st' : List Value} (hi : q_sto i = some (kd, n)) (h : qdoSt kd n L st = some (L', st')) (hl : qLs ad ls nL L) (hd : decode cc pc = .ok (i, q_len i))
    (k : ∀ ls', qLs ad ls' nL L' → W p l e R s m args below meth c H locs cells slots Q (F0 m (pc + q_len i) ls' (st'.map (qt ad)))) : W p l e R s m args below meth c H locs cells slots Q (F0 m pc ls (st.map (qt ad))) := by
  obtain ⟨v, rfl, hkd, hL⟩ := qdoSt_inv h
  have hlen := hl.1
  cases i
  case istore z =>
    cases (show some (0, z) = some (kd, n) from hi)
    obtain ⟨x, rfl⟩ := qk0 hkd
    rcases hL with ⟨h3, -⟩ | ⟨-, h3, rfl⟩
    · exact absurd h3 (by decide)
    · exact lv_istore hx hb hd hl.2 (by omega) rfl (fun ls' hl' => k ls' (hl.st1 _ (fun y hy => by cases hy; rfl) hl'))
  case lstore z =>
    cases (show some (1, z) = some (kd, n) from hi)
    obtain ⟨x, rfl⟩ := qk1 hkd
    rcases hL with ⟨-, h3, rfl⟩ | ⟨h3, -⟩
    · exact lv_lstore hx hb hd hl.2 (by omega) rfl (fun ls' hl' => k ls' (hl.st2 rfl hl'))
    · exact absurd h3 (by decide)
  case fstore z =>
    cases (show some (2, z) = some (kd, n) from hi)
    obtain ⟨x, rfl⟩ := qk2 hkd
    rcases hL with ⟨h3, -⟩ | ⟨-, h3, rfl⟩
    · exact absurd h3 (by decide)
    · exact lv_fstore hx hb hd hl.2 (by omega) rfl (fun ls' hl' => k ls' (hl.st1 _ (fun y hy => by cases hy; rfl) hl'))
  case dstore z =>
    cases (show some (3, z) = some (kd, n) from hi)
    obtain ⟨x, rfl⟩ := qk3 hkd
    rcases hL with ⟨-, h3, rfl⟩ | ⟨h3, -⟩
    · exact lv_dstore hx hb hd hl.2 (by omega) rfl (fun ls' hl' => k ls' (hl.st2 rfl hl'))
    · exact absurd h3 (by decide)
  case astore z =>
    cases (show some (4, z) = some (kd, n) from hi)
    obtain ⟨x, rfl⟩ := qk4 hkd
    rcases hL with ⟨h3, -⟩ | ⟨-, h3, rfl⟩
    · exact absurd h3 (by decide)
    · exact lv_astore hx hb hd hl.2 (by omega) rfl (fun ls' hl' => k ls' (hl.st1 _ (fun y hy => by cases hy; rfl) hl'))
  case istore_n z =>
    cases (show some (0, (z : Nat)) = some (kd, n) from hi)
    obtain ⟨x, rfl⟩ := qk0 hkd
    rcases hL with ⟨h3, -⟩ | ⟨-, h3, rfl⟩
    · exact absurd h3 (by decide)
    · exact lv_istore_n hx hb hd rfl hl.2 (by omega) rfl (fun ls' hl' => k ls' (hl.st1 _ (fun y hy => by cases hy; rfl) hl'))
  case lstore_n z =>
    cases (show some (1, (z : Nat)) = some (kd, n) from hi)
    obtain ⟨x, rfl⟩ := qk1 hkd
    rcases hL with ⟨-, h3, rfl⟩ | ⟨h3, -⟩
    · exact lv_lstore_n hx hb hd rfl hl.2 (by omega) rfl (fun ls' hl' => k ls' (hl.st2 rfl hl'))
    · exact absurd h3 (by decide)
  case astore_n z =>
    cases (show some (4, (z : Nat)) = some (kd, n) from hi)
    obtain ⟨x, rfl⟩ := qk4 hkd
    rcases hL with ⟨h3, -⟩ | ⟨-, h3, rfl⟩
    · exact absurd h3 (by decide)
    · exact lv_astore_n hx hb hd rfl hl.2 (by omega) rfl (fun ls' hl' => k ls' (hl.st1 _ (fun y hy => by cases hy; rfl) hl'))
  all_goals exact absurd (show (none : Option (Nat × Nat)) = some (kd, n) from hi) (fun q => by cases q)
set_option maxHeartbeats 4000000 in
theorem qs_br (hx : p.tables.exec = Jvm.exec) (hb : c.code = cc) {i : Instr} {a : Nat} {t : Bool} {st st' : List Value} (h : q_br i st = some (t, st')) (hd : decode cc pc = .ok (i, 3)) (ha : (pc : Int) + q_off i = (a : Int))
    (k : W p l e R s m args below meth c H locs cells slots Q (F0 m (if t = true then a else pc + 3) ls (st'.map (qt ad)))) : W p l e R s m args below meth c H locs cells slots Q (F0 m pc ls (st.map (qt ad))) := by
  cases i
  case goto z =>
    cases (show some (true, st) = some (t, st') from h)
    exact lv_goto hx hb hd ha k
  case ifCond cnd z =>
    cases st with
    | nil => exact absurd (show (none : Option (Bool × List Value)) = some (t, st') from h) (fun q => by cases q)
    | cons v r =>
      cases v with
      | int x =>
        cases cnd
        case eq =>
          cases (show some (decide (x = 0), r) = some (t, st') from h)
          exact lv_if_eq hx hb hd ha (fun q => by simpa [q] using k) (fun q => by simpa [q] using k)
        case ne =>
          cases (show some (decide (¬ x = 0), r) = some (t, st') from h)
          exact lv_if_ne hx hb hd ha (fun q => by simpa [q] using k) (fun q => by simpa [q] using k)
        case lt =>
          cases (show some (decide (x < 0), r) = some (t, st') from h)
          exact lv_if_lt hx hb hd ha (fun q => by simpa [q] using k) (fun q => by simpa [q] using k)
        case ge =>
          cases (show some (decide (0 ≤ x), r) = some (t, st') from h)
          exact lv_if_ge hx hb hd ha (fun q => by simpa [q] using k) (fun q => by simpa [q] using k)
        case gt =>
          cases (show some (decide (0 < x), r) = some (t, st') from h)
          exact lv_if_gt hx hb hd ha (fun q => by simpa [q] using k) (fun q => by simpa [q] using k)
        case le =>
          cases (show some (decide (x ≤ 0), r) = some (t, st') from h)
          exact lv_if_le hx hb hd ha (fun q => by simpa [q] using k) (fun q => by simpa [q] using k)
      | _ => exact absurd (show (none : Option (Bool × List Value)) = some (t, st') from h) (fun q => by cases q)
  case if_icmp cnd z =>
    cases st with
    | nil => exact absurd (show (none : Option (Bool × List Value)) = some (t, st') from h) (fun q => by cases q)
    | cons v r =>
      cases r with
      | nil => exact absurd h (by cases v <;> exact fun q => by cases q)
      | cons w r =>
        cases v with
        | int y =>
          cases w with
          | int x =>
            cases cnd
            case eq =>
              cases (show some (decide (x = y), r) = some (t, st') from h)
              exact lv_icmp_eq hx hb hd ha (fun q => by simpa [q] using k) (fun q => by simpa [q] using k)
            case ne =>
              cases (show some (decide (¬ x = y), r) = some (t, st') from h)
              exact lv_icmp_ne hx hb hd ha (fun q => by simpa [q] using k) (fun q => by simpa [q] using k)
            case lt =>
              cases (show some (decide (x < y), r) = some (t, st') from h)
              exact lv_icmp_lt hx hb hd ha (fun q => by simpa [q] using k) (fun q => by simpa [q] using k)
            case ge =>
              cases (show some (decide (y ≤ x), r) = some (t, st') from h)
              exact lv_icmp_ge hx hb hd ha (fun q => by simpa [q] using k) (fun q => by simpa [q] using k)
            case gt =>
              cases (show some (decide (y < x), r) = some (t, st') from h)
              exact lv_icmp_gt hx hb hd ha (fun q => by simpa [q] using k) (fun q => by simpa [q] using k)
            case le =>
              cases (show some (decide (x ≤ y), r) = some (t, st') from h)
              exact lv_icmp_le hx hb hd ha (fun q => by simpa [q] using k) (fun q => by simpa [q] using k)
          | _ => exact absurd (show (none : Option (Bool × List Value)) = some (t, st') from h) (fun q => by cases q)
        | _ => exact absurd (show (none : Option (Bool × List Value)) = some (t, st') from h) (fun q => by cases q)
  all_goals exact absurd (show (none : Option (Bool × List Value)) = some (t, st') from h) (fun q => by cases q)
end QS1
end
section
/-! the context of a body, and the steps that touch the heap -/
def qTy (CA : Nat → ClassId) : List (ClassId × FieldType) := [(CA 0, .int), (CA 1, .char), (CA 2, .array .int)]
def qXB (A : Nat → Prop) (U : State) (H : Heap) : Prop := vx_Zq Bundle.tN "UNASSIGNED_STACK" Bundle.steD A U H ∧ vx_Zq Bundle.tN "SUPPRESSED_SENTINEL" Bundle.listD A U H ∧ (∀ w ∈ q_NW, va_Nw w U) ∧ (∀ q ∈ q_NC, va_Nc q.1 q.2 U) ∧ (∀ q ∈ q_ST, ∃ a, vk_R (q_rn 9) q.1 q.2 a U) ∧ va_Nw (.arrayOver (.array .int)) U
theorem q_AO_warm {s U : State} (hW : s.WarmedH U.vm) (h : va_Nw (.arrayOver (.array .int)) s) : va_Nw (.arrayOver (.array .int)) U := by
  have hvm := hW.alike
  obtain ⟨comp, c, k, h1, h2, h3, h4, h5⟩ := arrayOverA_spec h
  obtain ⟨k', hk', he⟩ := hvm.2.2 _ _ h3
  have hi : (U.vm.classes.findIdx? fun (x : Class) => match x.kind with | .array component _ => component == comp | _ => false) = some c := by
    rw [hvm.findIdx?_eq _ (fun _ => rfl)]
    exact h2
  have hkind : k'.kind = .array comp (.array .int) := by rw [he]; exact h4
  have f1 : U.vm.findClass (FieldType.array .int).toString = some comp := by rw [hvm.findClass]; exact h1
  have f2 : U.vm.findClass ("[" ++ (FieldType.array .int).toString) = some c := by rw [hvm.findClass]; exact h5
  unfold va_Nw Cond.before Cond.holds
  simp only [Cond.value]
  rw [f1, Option.bind_some]
  refine (congrArg (fun o : Option Nat => (o.bind (fun c => (U.vm.classes[c]?).map fun (k : Class) => match k.kind with | .array _ ty => decide (ty = FieldType.array .int) && decide (U.vm.findClass ("[" ++ (FieldType.array .int).toString) = some c) | _ => false) == some true)) hi).trans ?_
  simp [hk', hkind, f2]
theorem q_nw_warm {w : Cond} (hk : q_nk w = true) {s U : State} (hW : s.WarmedH U.vm) (h : va_Nw w s) : va_Nw w U := by
  cases w
  case fieldLinkNest => exact va_Nw.warmF hW h
  case methodLinkNest => exact va_Nw.warmM hW h
  case castable => exact va_Nw.warmC hW h
  case declares => exact va_Nw.warmD hW h
  all_goals exact absurd (show false = true from hk) (by decide)
theorem qXB.warm {A : Nat → Prop} {s U : State} {H : Heap} (hW : s.WarmedH U.vm) (h : qXB A s H) : qXB A U H := by
  obtain ⟨h1, h2, h3, h4, h5, h6⟩ := h
  refine ⟨vx_Zq.moved hW.alike h1, vx_Zq.moved hW.alike h2, fun w hw => q_nw_warm (List.all_eq_true.mp q_NW_nk w hw) hW (h3 w hw), fun q hq => va_Nc.moved hW.alike (h4 q hq), fun q hq => ?_, q_AO_warm hW h6⟩
  obtain ⟨a, ha⟩ := h5 q hq
  exact ⟨a, vk_R.warm hW ha⟩
theorem qXB.kept {A : Nat → Prop} {U : State} {H H1 : Heap} (h : qXB A U H) (hq : ∀ a : Nat, a < H.size → ¬ A a → H1[a]? = H[a]?) : qXB A U H1 := ⟨vx_Zq.kept h.1 hq, vx_Zq.kept h.2.1 hq, h.2.2⟩
theorem qXB.narrow {A B : Nat → Prop} {U : State} {H : Heap} (h : qXB A U H) (hAB : ∀ q, B q → A q) : qXB B U H := ⟨vx_Zq.narrow h.1 hAB, vx_Zq.narrow h.2.1 hAB, h.2.2⟩
def qScr_ok (scr : qScr) (A : Nat → Prop) (ad : Nat → Nat) (s : State) : Prop := match scr with
  | none => True
  | some (L, xs) => va_X (ad qSCR) L xs s s.heap ∧ ad qSCR < s.heap.size ∧ ¬ A (ad qSCR) ∧ L < 2147483648
theorem qScr_ok.ag {scr : qScr} {A : Nat → Prop} {ad ad' : Nat → Nat} {s : State} {n : Nat} (h : qScr_ok scr A ad s) (ha : qAg n ad ad') : qScr_ok scr A ad' s := by
  cases scr with
  | none => exact trivial
  | some z =>
    obtain ⟨L, xs⟩ := z
    have e : ad' qSCR = ad qSCR := ha qSCR (Or.inr rfl)
    unfold qScr_ok at h ⊢
    simp only [e]
    exact h
theorem qScr_ok.sub {scr : qScr} {A B : Nat → Prop} {ad : Nat → Nat} {s U : State} (h : qScr_ok scr A ad s) (hW : s.vm.Alike U.vm) (hsz : s.heap.size ≤ U.heap.size) (hq : ∀ a : Nat, a < s.heap.size → ¬ A a → U.heap[a]? = s.heap[a]?) (hB : ∀ q, B q → A q) : qScr_ok scr B ad U := by
  cases scr with
  | none => exact trivial
  | some z =>
    obtain ⟨L, xs⟩ := z
    unfold qScr_ok at h ⊢
    obtain ⟨h1, h2, h3, h4⟩ := h
    exact ⟨va_X.moved hW (h1.kept (hq _ h2 h3)), Nat.lt_of_lt_of_le h2 hsz, fun q => h3 (hB _ q), h4⟩
/-- what holds throughout a body of method j -/
def qCx (p : Program) (l : Launch) (s : State) (m : MethodId) (args : Array Value) (meth : Method) (c : Code) (R : Room) (j : Nat) (Ts : List Cond) (CA : Nat → ClassId) (D : va_G) (A : Nat → Prop) : Prop :=
  (p.tables.exec = Jvm.exec ∧ c.code = q_b j ∧ c.maxLocals = q_mL j ∧ s.vm.findClass (q_rn (q_oc j)) = some m.cls) ∧ ((∀ w ∈ Ts, w.before args s = true) ∧ (∀ w ∈ q_GW, w ∈ Ts)) ∧
  (meth.sig.returnType = q_rt j ∧ meth.locks = false ∧ ((q_y j).name = "<init>" → meth.name = "<init>") ∧ (q_oc j = 9 ∨ q_hh j ≠ [] → c.exceptionTable.toList = tableOf (q_hh j))) ∧ (R.frames = q_fr j ∧ R.locals = q_lo j ∧ R.cells = q_mc j ∧ R.slots = q_ms j) ∧
  (l.stackTraces = false ∧ va_K D q_cl (qTy CA) s ∧ (∀ q, s.heap.size ≤ q → A q) ∧ qXB A s s.heap)
theorem q_fl_spec {oc idx a b : Nat} (h : q_isfl oc idx a b = true) : b < q_N a ∧ a < 10 ∧ Cond.fieldLink (q_rn oc) idx (q_T a b).1 (q_T a b).2.1 (q_T a b).2.2.1 ∈ q_GW := by
  obtain ⟨q, hq, h1⟩ := List.any_eq_true.mp h
  simp only [Bool.and_eq_true, beq_iff_eq] at h1
  have h2 := List.all_eq_true.mp q_fl_ok q hq
  simp only [Bool.and_eq_true, decide_eq_true_eq] at h2
  obtain ⟨e1, e2, e3, e4⟩ := h1
  rw [e1, e2, e3, e4] at h2
  exact ⟨h2.1.1, h2.1.2, q_wat_in h2.2⟩
theorem q_fn_nw : ∀ q ∈ q_fn, Cond.fieldLinkNest (q_rn q.1) q.2.1 (q_T q.2.2.1 q.2.2.2).1 (q_T q.2.2.1 q.2.2.2).2.1 (q_T q.2.2.1 q.2.2.2).2.2.1 "Tilehold" ∈ q_NW := by decide +kernel
theorem q_fn_spec {oc idx a b : Nat} (h : (oc, idx, a, b) ∈ q_fn) : b < q_N a ∧ a < 10 ∧ Cond.fieldLinkNest (q_rn oc) idx (q_T a b).1 (q_T a b).2.1 (q_T a b).2.2.1 "Tilehold" ∈ q_NW := by
  have h2 := List.all_eq_true.mp q_fn_ok _ h
  simp only [Bool.and_eq_true, decide_eq_true_eq] at h2
  exact ⟨h2.1, h2.2, q_fn_nw _ h⟩
theorem q_cws {ci : Nat} (h : ci < 10) : (∀ w ∈ u_ws (q_rn ci) (q_T ci) (q_N ci), w ∈ q_GW) ∧ Cond.instantiable (q_rn ci) (q_N ci) ∈ q_GW ∧ Cond.initialized (q_rn ci) ∈ q_GW := by
  have h1 := List.all_eq_true.mp q_cw_ok ci (List.mem_range.mpr h)
  cases h2 : q_cw[ci]? with
  | none => rw [h2] at h1; cases h1
  | some z =>
    obtain ⟨a, b, l⟩ := z
    rw [h2] at h1
    simp only [Bool.and_eq_true] at h1
    refine ⟨fun w hw => ?_, q_wat_in h1.1.1, q_wat_in h1.1.2⟩
    obtain ⟨k, hk, rfl⟩ := List.mem_map.mp hw
    have h3 := List.all_eq_true.mp h1.2 k hk
    cases h4 : l[k]? with
    | none => rw [h4] at h3; cases h3
    | some i => rw [h4] at h3; exact q_wat_in h3
theorem q_fit_spec {ty : FieldType} {v : Value} (h : q_fit ty v = true) (ad : Nat → Nat) : narrow ty (qt ad v) = qt ad v ∧ fits ty (qt ad v) = true := by
  cases ty <;> cases v
  case int.int x => exact ⟨rfl, rfl⟩
  case boolean.int x =>
    have h : (decide (x = 0) || decide (x = 1)) = true := h
    simp only [Bool.or_eq_true, decide_eq_true_eq] at h
    rcases h with rfl | rfl <;> exact ⟨rfl, rfl⟩
  case object.ref => exact ⟨rfl, rfl⟩
  case array.ref => exact ⟨rfl, rfl⟩
  all_goals exact absurd (show false = true from h) (by decide)
theorem qIn_spec {i : Int32} {n : Nat} (h : qIn i n = true) : vp_in i n := by
  unfold qIn at h
  simp only [Bool.and_eq_true, decide_eq_true_eq] at h
  exact vp_in_iff.mpr h
theorem qget_inv {M : qM} {o ci k : Nat} {v : Value} (h : qget M o ci k = some v) : ∃ fs, M[o]? = some (.inr (ci, fs)) ∧ fs[k]? = some v := by
  unfold qget at h
  split at h
  · rename_i c fs hM
    by_cases hc : c = ci
    · subst hc
      rw [if_pos rfl] at h
      exact ⟨fs, hM, h⟩
    · rw [if_neg hc] at h
      cases h
  · cases h
theorem qput_inv {M M' : qM} {o ci k : Nat} {v : Value} (h : qput M o ci k v = some M') : ∃ fs, M[o]? = some (.inr (ci, fs)) ∧ k < fs.length ∧ q_fit (q_ty ci k) v = true ∧ M' = M.set o (.inr (ci, fs.set k v)) := by
  unfold qput at h
  split at h
  · rename_i c fs hM
    obtain ⟨⟨h1, h2, h3⟩, h4⟩ := qif_some h
    subst h1
    exact ⟨fs, hM, h2, h3, h4.symm⟩
  · cases h
section QS2
variable {p : Program} {l : Launch} {e : Env} {R : Room} {s : State} {m : MethodId} {args : Array Value} {below : List Frame} {meth : Method} {c : Code} {H : Heap} {locs : List Loc} {cells slots : Nat} {Q : State → Prop}
variable {pc j : Nat} {ls : Array Slot} {ad : Nat → Nat} {Ts : List Cond} {CA : Nat → ClassId} {D : va_G} {A : Nat → Prop} {M : qM}
theorem qW_ob {o a : Nat} {fs : List Value} (hM : M[o]? = some (.inr (a, fs))) (h : a < 10) : (qW CA ad M)[o]? = some (ad o, .inr (a, fs.map (qt ad))) := by
  rw [qW_at hM, qtE_o h]
theorem qs_get (C : qCx p l s m args meth c R j Ts CA D A) (hP : va_P D q_cl (qW CA ad M) H) {idx o a b z : Nat} {v : Value} {r : List Value} (h : qget M o a b = some v) (hd : decode (q_b j) pc = .ok (.getfield idx, 3))
    (hk : (z = 0 ∧ q_isfl (q_oc j) idx a b = true) ∨ (z = 1 ∧ (q_oc j, idx, a, b) ∈ q_fn))
    (k : W p l e R s m args below meth c H locs cells slots Q (F0 m (pc + 3) ls (List.map (qt ad) (v :: r)))) : W p l e R s m args below meth c H locs cells slots Q (F0 m pc ls (List.map (qt ad) (.ref o :: r))) := by
  obtain ⟨⟨hx, hb, -, hown⟩, ⟨hts, hgw⟩, -, -, ⟨-, hK, -, hX⟩⟩ := C
  obtain ⟨fs, hM, hv⟩ := qget_inv h
  have hv' : (fs.map (qt ad))[b]? = some (qt ad v) := by rw [List.getElem?_map, hv]; rfl
  rcases hk with ⟨-, hk⟩ | ⟨-, hk⟩
  · obtain ⟨h1, h2, h3⟩ := q_fl_spec hk
    exact va_get hx hb hts (fun w hw => hgw w ((q_cws h2).1 w hw)) hown hK hP o (qW_ob hM h2) (q_cl_at a h2) b h1 (hts _ (hgw _ h3)) (fun _ h9 => h9) hv' hd k
  · obtain ⟨h1, h2, h3⟩ := q_fn_spec hk
    exact va_getN hx hb hts (fun w hw => hgw w ((q_cws h2).1 w hw)) hown hK hP o (qW_ob hM h2) (q_cl_at a h2) b h1 (va_Nw.use rfl (hX.2.2.1 _ h3)) (fun _ h9 => h9) hv' hd k
theorem qs_put (C : qCx p l s m args meth c R j Ts CA D A) (hP : va_P D q_cl (qW CA ad M) H) (hD : va_D A (qW CA ad M)) (hS : va_S A s.heap H locs) {idx o a b z : Nat} {v : Value} {r : List Value} {M' : qM} (h : qput M o a b v = some M') (hd : decode (q_b j) pc = .ok (.putfield idx, 3))
    (hk : (z = 0 ∧ q_isfl (q_oc j) idx a b = true ∧ (q_T a b).2.2.2 = false) ∨ (z = 1 ∧ (q_oc j, idx, a, b) ∈ q_fn ∧ (q_T a b).2.2.2 = false) ∨ (z = 2 ∧ q_isfl (q_oc j) idx a b = true ∧ (q_T a b).2.2.2 = true ∧ (q_y j).name = "<init>" ∧ (q_T a b).1 = q_rn (q_oc j)))
    (k : ∀ (H1 : Heap) (locs1 : List Loc), va_P D q_cl (qW CA ad M') H1 → va_D A (qW CA ad M') → va_S A s.heap H1 locs1 → W p l e R s m args below meth c H1 locs1 cells slots Q (F0 m (pc + 3) ls (List.map (qt ad) r))) : W p l e R s m args below meth c H locs cells slots Q (F0 m pc ls (List.map (qt ad) (v :: .ref o :: r))) := by
  obtain ⟨⟨hx, hb, -, hown⟩, ⟨hts, hgw⟩, ⟨-, -, hnm, -⟩, -, ⟨-, hK, -, hX⟩⟩ := C
  obtain ⟨fs, hM, hl, hf, rfl⟩ := qput_inv h
  obtain ⟨f1, f2⟩ := q_fit_spec hf ad
  have hl' : b < (fs.map (qt ad)).length := by rw [List.length_map]; exact hl
  have h2a : a < 10 := by
    rcases hk with ⟨-, hk, -⟩ | ⟨-, hk, -⟩ | ⟨-, hk, -⟩
    · exact (q_fl_spec hk).2.1
    · exact (q_fn_spec hk).2.1
    · exact (q_fl_spec hk).2.1
  have hee : (qW CA ad M).set o (ad o, .inr (a, (fs.map (qt ad)).set b (qt ad v))) = qW CA ad (M.set o (.inr (a, fs.set b v))) := by
    rw [← qW_set, ← List.map_set, qtE_o h2a]
  have k' : ∀ (H1 : Heap) (locs1 : List Loc), va_P D q_cl ((qW CA ad M).set o (ad o, .inr (a, (fs.map (qt ad)).set b (qt ad v)))) H1 → va_D A ((qW CA ad M).set o (ad o, .inr (a, (fs.map (qt ad)).set b (qt ad v)))) → va_S A s.heap H1 locs1 → W p l e R s m args below meth c H1 locs1 cells slots Q (F0 m (pc + 3) ls (List.map (qt ad) r)) := by
    rw [hee]; exact k
  rcases hk with ⟨-, hk, hfin⟩ | ⟨-, hk, hfin⟩ | ⟨-, hk, hfin, hin, hdc⟩
  · obtain ⟨h1, h2, h3⟩ := q_fl_spec hk
    exact va_put hx hb hts (fun w hw => hgw w ((q_cws h2).1 w hw)) (q_ty a) (q_ty_ok a h2) (q_nm_ok a h2) hown hK hP hD hS o (qW_ob hM h2) (q_cl_at a h2) b h1 (hts _ (hgw _ h3)) (fun _ h9 => h9) hfin (q_ty_ok a h2 b h1) f1 f2 hl' hd k'
  · obtain ⟨h1, h2, h3⟩ := q_fn_spec hk
    exact va_putN hx hb hts (fun w hw => hgw w ((q_cws h2).1 w hw)) (q_ty a) (q_ty_ok a h2) (q_nm_ok a h2) hown hK hP hD hS o (qW_ob hM h2) (q_cl_at a h2) b h1 (va_Nw.use rfl (hX.2.2.1 _ h3)) (fun _ h9 => h9) hfin (q_ty_ok a h2 b h1) f1 f2 hl' hd k'
  · obtain ⟨h1, h2, h3⟩ := q_fl_spec hk
    exact va_putF hx hb hts (fun w hw => hgw w ((q_cws h2).1 w hw)) (q_ty a) (q_ty_ok a h2) (q_nm_ok a h2) hown hK hP hD hS o (qW_ob hM h2) (q_cl_at a h2) b h1 (hts _ (hgw _ h3)) (fun _ h9 => h9) hfin (hnm hin) hdc (q_ty_ok a h2 b h1) f1 f2 hl' hd k'
theorem qald_inv {scr : qScr} {o t : Nat} {i : Int32} {v : Value} (h : qald scr M o t i = some v) :
    (∃ n f, M[o]? = some (.inl (t, n, .inl f)) ∧ (t = 0 ∨ t = 1) ∧ qIn i n = true ∧ v = .int (f i.toNatClampNeg)) ∨
    (∃ L xs, scr = some (L, xs) ∧ o = qSCR ∧ t = 0 ∧ qIn i L = true ∧ v = .int (xs i.toNatClampNeg)) := by
  unfold qald at h
  split at h
  · rename_i u n f hM
    obtain ⟨⟨h1, h2, h3⟩, h4⟩ := qif_some h
    subst h1
    exact Or.inl ⟨n, f, hM, h2, h3, h4.symm⟩
  · cases h
  · split at h
    · rename_i L xs
      obtain ⟨⟨h1, h2, h3⟩, h4⟩ := qif_some h
      exact Or.inr ⟨L, xs, rfl, h1, h2, h3, h4.symm⟩
    · cases h
theorem qs_iald (C : qCx p l s m args meth c R j Ts CA D A) (hP : va_P D q_cl (qW CA ad M) H) (hS : va_S A s.heap H locs) {scr : qScr} (hscr : qScr_ok scr A ad s) {o : Nat} {i : Int32} {v : Value} {r : List Value} (h : qald scr M o 0 i = some v) (hd : decode (q_b j) pc = .ok (.iaload, 1))
    (k : W p l e R s m args below meth c H locs cells slots Q (F0 m (pc + 1) ls (List.map (qt ad) (v :: r)))) : W p l e R s m args below meth c H locs cells slots Q (F0 m pc ls (List.map (qt ad) (.int i :: .ref o :: r))) := by
  obtain ⟨⟨hx, hb, -, hown⟩, ⟨hts, hgw⟩, -, -, ⟨-, hK, -, hX⟩⟩ := C
  rcases qald_inv h with ⟨n, f, hM, -, hi, rfl⟩ | ⟨L, xs, rfl, rfl, -, hi, rfl⟩
  · exact va_iald hx hb hK hP o 0 (qW_at hM) rfl (qIn_spec hi) hd k
  · exact va_sld hx hb hscr.1 hscr.2.1 hscr.2.2.1 hS (qIn_spec hi) hd k
theorem qs_cald (C : qCx p l s m args meth c R j Ts CA D A) (hP : va_P D q_cl (qW CA ad M) H) {o : Nat} {i : Int32} {v : Value} {r : List Value} (h : qald none M o 1 i = some v) (hd : decode (q_b j) pc = .ok (.caload, 1))
    (k : W p l e R s m args below meth c H locs cells slots Q (F0 m (pc + 1) ls (List.map (qt ad) (v :: r)))) : W p l e R s m args below meth c H locs cells slots Q (F0 m pc ls (List.map (qt ad) (.int i :: .ref o :: r))) := by
  obtain ⟨⟨hx, hb, -, hown⟩, ⟨hts, hgw⟩, -, -, ⟨-, hK, -, hX⟩⟩ := C
  rcases qald_inv h with ⟨n, f, hM, -, hi, rfl⟩ | ⟨L, xs, hq, -⟩
  · exact va_cald hx hb hK hP o 1 (qW_at hM) rfl (qIn_spec hi) hd k
  · cases hq
theorem q_char {x : Int32} (h0 : 0 ≤ x) (h1 : x ≤ 65535) : vp_nar .char x = x := by
  rw [vp_nar_char]
  have a0 : (0 : Int) ≤ x.toInt := by simpa using Int32.le_iff_toInt_le.mp h0
  have a1 : x.toInt ≤ 65535 := by simpa using Int32.le_iff_toInt_le.mp h1
  apply Int32.toInt_inj.mp
  have e : x.toUInt32.toNat = x.toInt.toNat := by
    have := x.toBitVec.toInt_eq_toNat_cond
    have h2 : x.toInt = x.toBitVec.toInt := rfl
    have h3 : x.toUInt32.toNat = x.toBitVec.toNat := rfl
    rw [h2] at a0 a1 ⊢
    rw [h3]
    have h4 := x.toBitVec.isLt
    split at this <;> omega
  have e2 : x.toUInt32.toUInt16.toUInt32 = x.toUInt32 := by
    apply UInt32.toNat_inj.mp
    simp only [UInt16.toNat_toUInt32, UInt32.toNat_toUInt16]
    rw [e]
    omega
  rw [e2]
  rfl
theorem qasti_inv {o t : Nat} {i x : Int32} {M' : qM} (h : qasti M o t i x = some M') : ∃ n f, M[o]? = some (.inl (t, n, .inl f)) ∧ (t = 0 ∨ (t = 1 ∧ 0 ≤ x ∧ x ≤ 65535)) ∧ qIn i n = true ∧ M' = M.set o (.inl (t, n, .inl (upd f i.toNatClampNeg x))) := by
  unfold qasti at h
  split at h
  · rename_i u n f hM
    obtain ⟨⟨h1, h2, h3⟩, h4⟩ := qif_some h
    subst h1
    exact ⟨n, f, hM, h2, h3, h4.symm⟩
  · cases h
theorem qs_iast (C : qCx p l s m args meth c R j Ts CA D A) (hP : va_P D q_cl (qW CA ad M) H) (hD : va_D A (qW CA ad M)) (hS : va_S A s.heap H locs) {o : Nat} {i x : Int32} {r : List Value} {M' : qM} (h : qasti M o 0 i x = some M') (hd : decode (q_b j) pc = .ok (.iastore, 1))
    (k : ∀ (H1 : Heap) (locs1 : List Loc), va_P D q_cl (qW CA ad M') H1 → va_D A (qW CA ad M') → va_S A s.heap H1 locs1 → W p l e R s m args below meth c H1 locs1 cells slots Q (F0 m (pc + 1) ls (List.map (qt ad) r))) : W p l e R s m args below meth c H locs cells slots Q (F0 m pc ls (List.map (qt ad) (.int x :: .int i :: .ref o :: r))) := by
  obtain ⟨⟨hx, hb, -, hown⟩, ⟨hts, hgw⟩, -, -, ⟨-, hK, -, hX⟩⟩ := C
  obtain ⟨n, f, hM, -, hi, rfl⟩ := qasti_inv h
  refine va_iast hx hb hK hP hD hS o 0 (qW_at hM) rfl (qIn_spec hi) hd (fun H1 locs1 h1 h2 h3 => ?_)
  rw [show ((ad o, Sum.inl (CA 0, n, Sum.inl (upd f i.toNatClampNeg x))) : Nat × va_E) = (ad o, qtE CA ad (.inl (0, n, .inl (upd f i.toNatClampNeg x)))) from rfl, qW_set] at h1 h2
  exact k H1 locs1 h1 h2 h3
theorem qs_cast (C : qCx p l s m args meth c R j Ts CA D A) (hP : va_P D q_cl (qW CA ad M) H) (hD : va_D A (qW CA ad M)) (hS : va_S A s.heap H locs) {o : Nat} {i x : Int32} {r : List Value} {M' : qM} (h : qasti M o 1 i x = some M') (hd : decode (q_b j) pc = .ok (.castore, 1))
    (k : ∀ (H1 : Heap) (locs1 : List Loc), va_P D q_cl (qW CA ad M') H1 → va_D A (qW CA ad M') → va_S A s.heap H1 locs1 → W p l e R s m args below meth c H1 locs1 cells slots Q (F0 m (pc + 1) ls (List.map (qt ad) r))) : W p l e R s m args below meth c H locs cells slots Q (F0 m pc ls (List.map (qt ad) (.int x :: .int i :: .ref o :: r))) := by
  obtain ⟨⟨hx, hb, -, hown⟩, ⟨hts, hgw⟩, -, -, ⟨-, hK, -, hX⟩⟩ := C
  obtain ⟨n, f, hM, h5, hi, rfl⟩ := qasti_inv h
  rcases h5 with h5 | ⟨-, h5, h6⟩
  · cases h5
  refine va_cast hx hb hK hP hD hS o 1 (qW_at hM) rfl (qIn_spec hi) hd (fun H1 locs1 h1 h2 h3 => ?_)
  rw [q_char h5 h6] at h1 h2
  rw [show ((ad o, Sum.inl (CA 1, n, Sum.inl (upd f i.toNatClampNeg x))) : Nat × va_E) = (ad o, qtE CA ad (.inl (1, n, .inl (upd f i.toNatClampNeg x)))) from rfl, qW_set] at h1 h2
  exact k H1 locs1 h1 h2 h3
theorem qs_len (C : qCx p l s m args meth c R j Ts CA D A) (hP : va_P D q_cl (qW CA ad M) H) (hS : va_S A s.heap H locs) {scr : qScr} (hscr : qScr_ok scr A ad s) {o : Nat} {v : Int32} {r : List Value} (h : qlen scr M o = some v) (hd : decode (q_b j) pc = .ok (.arraylength, 1))
    (k : W p l e R s m args below meth c H locs cells slots Q (F0 m (pc + 1) ls (List.map (qt ad) (.int v :: r)))) : W p l e R s m args below meth c H locs cells slots Q (F0 m pc ls (List.map (qt ad) (.ref o :: r))) := by
  obtain ⟨⟨hx, hb, -, hown⟩, ⟨hts, hgw⟩, -, -, ⟨-, hK, -, hX⟩⟩ := C
  unfold qlen at h
  split at h
  · rename_i u n f hM
    obtain ⟨h1, h4⟩ := qif_some h
    subst h4
    have ht : ∃ ty, (qTy CA)[u]? = some (CA u, ty) := by
      rcases (show u = 0 ∨ u = 1 by omega) with rfl | rfl <;> exact ⟨_, rfl⟩
    obtain ⟨ty, ht⟩ := ht
    exact va_alen hx hb hK hP o u (qW_at hM) ht rfl hd k
  · cases h
  · split at h
    · rename_i L xs
      obtain ⟨h1, h4⟩ := qif_some h
      subst h1
      subst h4
      exact va_slen hx hb hscr.1 hscr.2.1 hscr.2.2.1 hS hd k
    · cases h
end QS2
end
section
/-! what is made, and one step altogether -/
theorem q_nw_spec {oc idx a : Nat} (h : q_isnw oc idx a = true) : a < 10 ∧ Cond.classLink (q_rn oc) idx (q_rn a) ∈ q_GW := by
  obtain ⟨q, hq, h1⟩ := List.any_eq_true.mp h
  simp only [Bool.and_eq_true, beq_iff_eq] at h1
  have h2 := List.all_eq_true.mp q_nw_ok q hq
  simp only [Bool.and_eq_true, decide_eq_true_eq] at h2
  obtain ⟨e1, e2, e3⟩ := h1
  rw [e1, e2, e3] at h2
  exact ⟨h2.1, q_wat_in h2.2⟩
theorem q_ct_spec {oc idx a : Nat} (h : q_isct oc idx a = true) : Cond.constant (q_rn oc) idx (Int32.ofNat a) ∈ q_GW := by
  obtain ⟨q, hq, h1⟩ := List.any_eq_true.mp h
  simp only [Bool.and_eq_true, beq_iff_eq] at h1
  have h2 := List.all_eq_true.mp q_ct_ok q hq
  obtain ⟨e1, e2, e3⟩ := h1
  rw [e1, e2, e3] at h2
  exact q_wat_in h2
theorem q_df_no : ∀ ci, ci < 10 → (q_df ci).all (fun v => decide (q_kind v ≠ 4)) = true := by decide +kernel
theorem q_df_qt {ci : Nat} (h : ci < 10) (ad : Nat → Nat) : (q_df ci).map (qt ad) = q_df ci := by
  have h1 := List.all_eq_true.mp (q_df_no ci h)
  have : ∀ v ∈ q_df ci, qt ad v = v := by
    intro v hv
    have h2 := h1 v hv
    cases v <;> first | rfl | exact absurd h2 (by simp [q_kind])
  rw [List.map_congr_left this]
  exact List.map_id' _
def qadd (ad : Nat → Nat) (n q : Nat) : Nat → Nat := fun k => if k = n then q else ad k
theorem qadd_ag {ad : Nat → Nat} {n q : Nat} (h : n < qSCR) : qAg n ad (qadd ad n q) := by
  intro k hk
  unfold qadd
  rw [if_neg]
  rcases hk with hk | hk <;> omega
theorem qtE_ag {CA : Nat → ClassId} {n : Nat} {ad ad' : Nat → Nat} (h : qAg n ad ad') {e : qE} (he : qscM n [e] = true) : qtE CA ad' e = qtE CA ad e := by
  cases e with
  | inl a => rfl
  | inr b =>
    obtain ⟨ci, fs⟩ := b
    have h1 : qscS n fs = true := by simpa [qscM] using he
    unfold qtE
    by_cases hc : ci = 11
    · simp only [hc, if_true]
      have e : qop ad' fs = qop ad fs := by
        funext k
        unfold qop
        cases hk : fs[k]? with
        | none => rfl
        | some v =>
          cases v with
          | ref a =>
            have h2 := List.all_eq_true.mp h1 (.ref a) (List.mem_of_getElem? hk)
            have h3 := qt_ag h (v := .ref a) h2
            simp only [qt, Value.ref.injEq] at h3
            simp only [h3]
          | _ => rfl
      rw [e]
    · simp only [hc, if_false]
      rw [qtS_ag h h1]
theorem qscM_at {n : Nat} {M : qM} (h : qscM n M = true) {k : Nat} {e : qE} (he : M[k]? = some e) : qscM n [e] = true := by
  have h1 := List.all_eq_true.mp h e (List.mem_of_getElem? he)
  simp only [qscM, List.all_cons, List.all_nil, Bool.and_true]
  exact h1
theorem qW_push {CA : Nat → ClassId} {ad ad' : Nat → Nat} {M : qM} {e : qE} (h : qAg M.length ad ad') (hs : qscM M.length M = true) : qW CA ad' (M ++ [e]) = qW CA ad M ++ [(ad' M.length, qtE CA ad' e)] := by
  apply List.ext_getElem?
  intro i
  rw [qW_get]
  rcases Nat.lt_trichotomy i M.length with h1 | h1 | h1
  · rw [List.getElem?_append_left h1, List.getElem?_append_left (by rw [qW_len]; exact h1), qW_get]
    cases hM : M[i]? with
    | none => rfl
    | some x =>
      simp only [Option.map_some]
      rw [h i (Or.inl h1), qtE_ag h (qscM_at hs hM)]
  · subst h1
    rw [List.getElem?_append_right (Nat.le_refl _), List.getElem?_append_right (by rw [qW_len]; exact Nat.le_refl _), qW_len]
    simp
  · rw [List.getElem?_append_right (by omega), List.getElem?_append_right (by rw [qW_len]; omega), qW_len]
    rw [List.getElem?_eq_none (by simp; omega), List.getElem?_eq_none (by simp; omega)]
    rfl
theorem qmk_inv {al : Bool} {L : qL} {st st' : List Value} {M M' : qM} {e : qE} (h : qmk al L st M e = some (st', M')) : al = true ∧ M.length < qSCR ∧ qscM M.length M = true ∧ qscL M.length L = true ∧ qscS M.length st = true ∧ qscM M.length [e] = true ∧ st' = .ref M.length :: st ∧ M' = M ++ [e] := by
  unfold qmk at h
  obtain ⟨⟨h1, h2, h3, h4, h5, h6⟩, h7⟩ := qif_some h
  cases h7
  exact ⟨h1, h2, h3, h4, h5, h6, rfl, rfl⟩
section QS3
variable {p : Program} {l : Launch} {e : Env} {R : Room} {s : State} {m : MethodId} {args : Array Value} {below : List Frame} {meth : Method} {c : Code} {H : Heap} {locs : List Loc} {cells slots : Nat} {Q : State → Prop}
variable {pc j : Nat} {ls : Array Slot} {ad : Nat → Nat} {Ts : List Cond} {CA : Nat → ClassId} {D : va_G} {A : Nat → Prop} {M : qM}
theorem qs_new (C : qCx p l s m args meth c R j Ts CA D A) (hP : va_P D q_cl (qW CA ad M) H) (hD : va_D A (qW CA ad M)) (hS : va_S A s.heap H locs) {idx a nL : Nat} {L : qL} {st st' : List Value} {M' : qM} (h : qmk (q_al j) L st M (.inr (a, q_df a)) = some (st', M')) (hl : qLs ad ls nL L)
    (hk : q_isnw (q_oc j) idx a = true) (hc : cells + 1 ≤ q_mc j) (hn : slots + q_N a ≤ q_ms j) (hd : decode (q_b j) pc = .ok (.new idx, 3))
    (k : ∀ (ad' : Nat → Nat) (H1 : Heap), qAg M.length ad ad' → va_P D q_cl (qW CA ad' M') H1 → va_D A (qW CA ad' M') → va_S A s.heap H1 locs → qLs ad' ls nL L → W p l e R s m args below meth c H1 locs (cells + 1) (slots + q_N a) Q (F0 m (pc + 3) ls (List.map (qt ad') st'))) : W p l e R s m args below meth c H locs cells slots Q (F0 m pc ls (List.map (qt ad) st)) := by
  obtain ⟨⟨hx, hb, -, hown⟩, ⟨hts, hgw⟩, -, ⟨-, -, hr1, hr2⟩, ⟨-, hK, hA, hX⟩⟩ := C
  obtain ⟨-, h2, h3, h4, h5, h6, rfl, rfl⟩ := qmk_inv h
  obtain ⟨h7, h8⟩ := q_nw_spec hk
  obtain ⟨w1, w2, w3⟩ := q_cws h7
  refine va_new hx hb hts (fun w hw => hgw w (w1 w hw)) (q_ty a) (q_ty_ok a h7) hown (hts _ (hgw _ h8)) (hts _ (hgw _ w2)) (hts _ (hgw _ w3)) hK hP hD hS hA (q_cl_at a h7) (q_df_ok a h7) (by rw [hr1]; exact hc) (by rw [hr2]; exact hn) hd (fun q H1 g1 g2 g3 => ?_)
  have ha := qadd_ag (ad := ad) (q := q) h2
  have eW : qW CA (qadd ad M.length q) (M ++ [.inr (a, q_df a)]) = qW CA ad M ++ [(q, .inr (a, q_df a))] := by
    rw [qW_push ha h3, show qadd ad M.length q M.length = q by simp [qadd]]
    rw [qtE_o h7, q_df_qt h7]
  have := k (qadd ad M.length q) H1 ha (by rw [eW]; exact g1) (by rw [eW]; exact g2) g3 (hl.ag ha h4)
  rw [List.map_cons, qtS_ag ha h5] at this
  simpa [qt, qadd] using this
theorem q_at_inv {t : ArrayType} {u : Nat} {g : Nat → vp_A} (h : q_at t = some (u, g)) : ∃ ty, newarray.typeOf t = ty ∧ (qTy CA)[u]? = some (CA u, ty) ∧ (∀ (n : Nat) (cA : ClassId), vp_cell cA (g n) = arrV cA n (fun _ => defaultValue ty)) ∧ Cond.arrayClass ty ∈ q_GW ∧ componentBytes ty ≤ 8 := by
  obtain ⟨a1, a2⟩ := q_arr
  cases t
  case int => cases (show some (0, _) = some (u, g) from h); exact ⟨.int, rfl, rfl, fun _ _ => rfl, q_wat_in a1, by decide⟩
  case char => cases (show some (1, _) = some (u, g) from h); exact ⟨.char, rfl, rfl, fun _ _ => rfl, q_wat_in a2, by decide⟩
  all_goals exact absurd (show (none : Option (Nat × (Nat → vp_A))) = some (u, g) from h) (fun q => by cases q)
theorem qs_newa (C : qCx p l s m args meth c R j Ts CA D A) (hP : va_P D q_cl (qW CA ad M) H) (hD : va_D A (qW CA ad M)) (hS : va_S A s.heap H locs) {t : ArrayType} {u nL : Nat} {g : Nat → vp_A} {y : Int32} {L : qL} {st st' : List Value} {M' : qM} (ht : q_at t = some (u, g)) (hy : 0 ≤ y) (hy2 : y.toNatClampNeg ≤ 10000) (h : qmk (q_al j) L st M (.inl (u, g y.toNatClampNeg)) = some (st', M')) (hl : qLs ad ls nL L)
    (hc : cells + 1 ≤ q_mc j) (hn : slots + y.toNatClampNeg ≤ q_ms j) (hd : decode (q_b j) pc = .ok (.newarray t, 2))
    (k : ∀ (ad' : Nat → Nat) (H1 : Heap), qAg M.length ad ad' → va_P D q_cl (qW CA ad' M') H1 → va_D A (qW CA ad' M') → va_S A s.heap H1 locs → qLs ad' ls nL L → W p l e R s m args below meth c H1 locs (cells + 1) (slots + y.toNatClampNeg) Q (F0 m (pc + 2) ls (List.map (qt ad') st'))) : W p l e R s m args below meth c H locs cells slots Q (F0 m pc ls (List.map (qt ad) (.int y :: st))) := by
  obtain ⟨⟨hx, hb, -, hown⟩, ⟨hts, hgw⟩, -, ⟨-, -, hr1, hr2⟩, ⟨-, hK, hA, hX⟩⟩ := C
  obtain ⟨-, h2, h3, h4, h5, h6, rfl, rfl⟩ := qmk_inv h
  obtain ⟨ty, t1, t2, t3, t4, t5⟩ := q_at_inv (CA := CA) ht
  refine va_newa hx hb (by rw [t1]; exact hts _ (hgw _ t4)) t1 hK hP hD hS hA (a0 := g y.toNatClampNeg) (N' := y.toNatClampNeg) (t3 _) (by exact Int32.not_lt.mpr hy) rfl (by
      have : y.toNatClampNeg * componentBytes ty ≤ 10000 * 8 := Nat.mul_le_mul hy2 t5
      omega) (by rw [hr1]; exact hc) (by rw [hr2]; exact hn) hd (fun q cA H1 g0 g1 g2 g3 => ?_)
  have hcA : cA = CA u := by
    have e1 := (g0.2 3 (cA, ty) rfl).2
    have e2 := (hK.2 u (CA u, ty) t2).2
    subst t1
    cases t
    all_goals first
      | exact Option.some.inj ((show s.vm.findClass _ = some cA from e1).symm.trans (show s.vm.findClass _ = some (CA u) from e2))
  subst hcA
  have ha := qadd_ag (ad := ad) (q := q) h2
  have eW : qW CA (qadd ad M.length q) (M ++ [.inl (u, g y.toNatClampNeg)]) = qW CA ad M ++ [(q, .inl (CA u, g y.toNatClampNeg))] := by
    rw [qW_push ha h3, show qadd ad M.length q M.length = q by simp [qadd]]
    rfl
  have := k (qadd ad M.length q) H1 ha (by rw [eW]; exact g1) (by rw [eW]; exact g2) g3 (hl.ag ha h4)
  rw [List.map_cons, qtS_ag ha h5] at this
  simpa [qt, qadd] using this
/-- the plain rest of q_step -/
def q_gen (i : Instr) (len a : Nat) (F : qF) : Option qF := match F with
  | (pc, L, st, M, k, n) => match q_ld i with
    | some (kd, p) => (qdoLd kd p L st).map (fun s => (pc + len, L, s, M, k, n))
    | none => match q_sto i with
      | some (kd, p) => (qdoSt kd p L st).map (fun s => (pc + len, s.1, s.2, M, k, n))
      | none => match q_br i st with
        | some (t, r) => some (if t = true then a else pc + 3, L, r, M, k, n)
        | none => (q_pl i st).map (fun s => (pc + len, L, s, M, k, n))
theorem q_br_off {i : Instr} {st : List Value} {z : Bool × List Value} (h : q_br i st = some z) {len a b c9 : Nat} (hc : q_chk j pc (i, len, a, b, c9) = true) : len = 3 ∧ (pc : Int) + q_off i = (a : Int) := by
  unfold q_chk at hc
  simp only [Bool.and_eq_true, decide_eq_true_eq] at hc
  cases i
  case goto => simpa [q_off] using hc.2
  case ifCond => simpa [q_off] using hc.2
  case if_icmp => simpa [q_off] using hc.2
  all_goals exact absurd (show (none : Option (Bool × List Value)) = some z from h) (fun q => by cases q)
def q_nb (i : Instr) : Bool := match i with
  | .anewarray _ => false
  | .multianewarray _ _ => false
  | .getfield _ => false
  | .putfield _ => false
  | .new _ => false
  | .invokevirtual _ => false
  | .invokestatic _ => false
  | .invokespecial _ => false
  | .ldc _ => false
  | .ldc_w _ => false
  | .goto _ => false
  | .ifCond _ _ => false
  | .if_icmp _ _ => false
  | .tableswitch _ _ _ _ => false
  | _ => true
theorem q_chk_len {i : Instr} (hi : q_nb i = true) {len a b c9 : Nat} (hc : q_chk j pc (i, len, a, b, c9) = true) : len = q_len i := by
  unfold q_chk at hc
  simp only [Bool.and_eq_true, decide_eq_true_eq] at hc
  cases i
  case getfield => exact absurd hi (by simp [q_nb])
  case putfield => exact absurd hi (by simp [q_nb])
  case new => exact absurd hi (by simp [q_nb])
  case invokevirtual => exact absurd hi (by simp [q_nb])
  case invokestatic => exact absurd hi (by simp [q_nb])
  case invokespecial => exact absurd hi (by simp [q_nb])
  case ldc => exact absurd hi (by simp [q_nb])
  case ldc_w => exact absurd hi (by simp [q_nb])
  case goto => exact absurd hi (by simp [q_nb])
  case ifCond => exact absurd hi (by simp [q_nb])
  case if_icmp => exact absurd hi (by simp [q_nb])
  case tableswitch => exact absurd hi (by simp [q_nb])
  case anewarray => exact absurd hi (by simp [q_nb])
  case multianewarray => exact absurd hi (by simp [q_nb])
  all_goals exact of_decide_eq_true (show decide (len = _) = true from hc.2)
theorem q_chk_dec {x : qX} (hc : q_chk j pc x = true) : decode (q_b j) pc = .ok (x.1, x.2.1) := by
  obtain ⟨i, len, a, b, c9⟩ := x
  unfold q_chk at hc
  simp only [Bool.and_eq_true, decide_eq_true_eq] at hc
  exact hc.1
theorem q_ld_nb {i : Instr} {z : Nat × Nat} (h : q_ld i = some z) : q_nb i = true := by
  cases i <;> first | rfl | exact absurd (show (none : Option (Nat × Nat)) = some z from h) (fun q => by cases q)
theorem q_sto_nb {i : Instr} {z : Nat × Nat} (h : q_sto i = some z) : q_nb i = true := by
  cases i <;> first | rfl | exact absurd (show (none : Option (Nat × Nat)) = some z from h) (fun q => by cases q)
theorem q_pl_nb {i : Instr} {st : List Value} {z : List Value} (h : q_pl i st = some z) : q_nb i = true := by
  cases i <;> first | rfl | exact absurd (show (none : Option (List Value)) = some z from h) (fun q => by cases q)
theorem qs_gen (C : qCx p l s m args meth c R j Ts CA D A) {i : Instr} {len a b c9 k n nL : Nat} {L : qL} {st : List Value} {F' : qF} (hc : q_chk j pc (i, len, a, b, c9) = true) (h : q_gen i len a (pc, L, st, M, k, n) = some F') (hl : qLs ad ls nL L)
    (kk : ∀ ls', F'.2.2.2 = (M, k, n) → qLs ad ls' nL F'.2.1 → W p l e R s m args below meth c H locs cells slots Q (F0 m F'.1 ls' (List.map (qt ad) F'.2.2.1))) : W p l e R s m args below meth c H locs cells slots Q (F0 m pc ls (List.map (qt ad) st)) := by
  obtain ⟨⟨hx, hb, -, -⟩, -, -, -, -⟩ := C
  have hd := q_chk_dec hc
  unfold q_gen at h
  simp only at h hd
  split at h
  · rename_i kd q hld
    obtain ⟨st', h1, rfl⟩ := Option.map_eq_some_iff.mp h
    have hlen := q_chk_len (q_ld_nb hld) hc
    subst hlen
    exact qs_ld hx hb hld h1 hl hd (kk ls rfl hl)
  · split at h
    · rename_i kd q hst
      obtain ⟨⟨L', st'⟩, h1, rfl⟩ := Option.map_eq_some_iff.mp h
      have hlen := q_chk_len (q_sto_nb hst) hc
      subst hlen
      exact qs_st hx hb hst h1 hl hd (fun ls' hl' => kk ls' rfl hl')
    · split at h
      · rename_i t r hbr
        cases h
        obtain ⟨h1, h2⟩ := q_br_off hbr hc
        subst h1
        exact qs_br hx hb hbr hd h2 (kk ls rfl hl)
      · obtain ⟨st', h1, rfl⟩ := Option.map_eq_some_iff.mp h
        have hlen := q_chk_len (q_pl_nb h1) hc
        subst hlen
        exact qs_pl hx hb h1 hd (kk ls rfl hl)
end QS3
end
section
/-! four rows of nine ints, and the row of them: the machine's own instruction -/
def mnI (cI : ClassId) : Cell := { cls := cI, slots := Array.replicate 9 (.int 0), vm := .none }
def mnO (cA : ClassId) : Cell := { cls := cA, slots := Array.replicate 4 .null, vm := .none }
/-- one row more, at the place i -/
def mnN (cI : ClassId) (h : Nat) (o : Cell) (i : Nat) (U : State) : State := (U.pushCell (mnI cI)).setCell h (o.setSlot i (.ref U.heap.size))
theorem mnN_f {cI : ClassId} {h : Nat} {o : Cell} {i : Nat} {U : State} (ho : U.heap[h]? = some o) : (mnN cI h o i U).heap.size = U.heap.size + 1 ∧ (mnN cI h o i U).heap[h]? = some (o.setSlot i (.ref U.heap.size)) ∧ (mnN cI h o i U).heap[U.heap.size]? = some (mnI cI) ∧ (∀ q : Nat, q < U.heap.size → q ≠ h → (mnN cI h o i U).heap[q]? = U.heap[q]?) ∧ (mnN cI h o i U).vm = U.vm ∧ (mnN cI h o i U).slotsUsed = U.slotsUsed + 9 := by
  have hlt : h < U.heap.size := (Array.getElem?_eq_some_iff.mp ho).1
  have hc : (U.pushCell (mnI cI)).heap[h]? = some o := by rw [State.heap_pushCell_of_lt (h := hlt)]; exact ho
  refine ⟨?_, State.heap_setCell_self hc, ?_, fun q hq hn => ?_, by simp [mnN], ?_⟩
  · simp [mnN, State.setCell]
  · show ((U.pushCell (mnI cI)).setCell h _).heap[U.heap.size]? = _
    rw [State.heap_setCell_other (show h ≠ U.heap.size by omega)]
    exact State.heap_pushCell_size _ _
  · show ((U.pushCell (mnI cI)).setCell h _).heap[q]? = _
    rw [State.heap_setCell_other (show h ≠ q from fun z => hn z.symm), State.heap_pushCell_of_lt (h := hq)]
  · simp [mnN, mnI]
theorem mnN_top {cI : ClassId} {h : Nat} {o : Cell} {i : Nat} {U : State} {f : JFrame} : mnN cI h o i (U.setTop f) = (mnN cI h o i U).setTop f := by
  simp only [mnN, State.heap_setTop, State.pushCell_setTop, State.setCell_setTop]
theorem mn_fits {t : FieldType} (h : t.isReference = true) (v : Value) (hv : v = .null ∨ ∃ a, v = .ref a) : fits t v = true := by
  rcases hv with rfl | ⟨a, rfl⟩ <;> cases t <;> simp [FieldType.isReference] at h <;> rfl
section MN
variable {E : CtlPost} {e : Env} {d : Bool} {acts : List Action} {s : State}
theorem mn_new {c comp : ClassId} {k : Class} {ty : FieldType} {len : Nat} {init : Value} (hk : s.vm.classes[c]? = some k) (hkind : k.kind = .array comp ty) (hl : ¬ len > e.platform.arrayLengthLimit) (hh : ¬ len * componentBytes ty > e.platform.maxHeapBytes) (hfit : fits ty init = true)
    (h1 : s.heap.size < e.platform.maxCells) (h2 : s.slotsUsed + len ≤ e.platform.maxSlots) {Q : Addr → Pre} (hq : ∀ a, Q s.heap.size d a (s.pushCell { cls := c, slots := Array.replicate len init, vm := .none })) : wp (Jvm.newArray c len init) Q E e d acts s := by
  have hfits : ∀ i v, (Array.replicate len init)[i]? = some v → s.fitsSlot c .none i v = true := by
    intro i v hv
    simp only [Array.getElem?_replicate] at hv
    split at hv
    · cases hv
      simp [State.fitsSlot, State.slotType?, hk, hkind, hfit]
    · cases hv
  simp only [Jvm.newArray, Jvm.arrayFits, wp_bind', W.ask, W.ite, hl, if_false, wp_pure', W.theClass, hk, hkind, hh, W.alloc, W.stop, Option.some.injEq, exists_eq_left', Array.size_replicate]
  rw [if_neg (by omega)]
  exact ⟨h1, h2, hfits, hq _⟩
/-- a row of nine ints is made -/
theorem mn_row {cI cc : ClassId} {kI : Class} (hkI : s.vm.classes[cI]? = some kI) (hkindI : kI.kind = .array cc .int) (hl : ¬ 9 > e.platform.arrayLengthLimit) (hh : ¬ 9 * componentBytes .int > e.platform.maxHeapBytes) (h1 : s.heap.size < e.platform.maxCells) (h2 : s.slotsUsed + 9 ≤ e.platform.maxSlots)
    {K : Addr → Pre} (hq : ∀ a', K s.heap.size d a' (s.pushCell (mnI cI))) : wp (multianewarray.make cI [9]) K E e d acts s := by
  rw [multianewarray.make]
  simp only [wp_bind', W.ite, show ¬ (9 : Int32) < 0 by decide, if_false, wp_pure', W.theClass, hkI, hkindI, Option.some.injEq, exists_eq_left', show (9 : Int32).toNatClampNeg = 9 by decide]
  exact mn_new hkI hkindI hl hh rfl h1 h2 hq
/-- and written into the outer row -/
theorem mn_wr {cA cI : ClassId} {kA : Class} {h i : Nat} {o : Cell} (hkA : s.vm.classes[cA]? = some kA) (hkindA : kA.kind = .array cI (.array .int)) (ho : s.heap[h]? = some o) (ho1 : o.cls = cA) (ho2 : o.vm = .none) (ho3 : o.slots.size = 4) (hi : i < 4)
    {Q : Unit → Pre} (hq : ∀ d' a', Q () d' a' (mnN cI h o i s)) : wp (Jvm.writeLoc h i (.ref s.heap.size)) Q E e d acts (s.pushCell (mnI cI)) := by
  have hlt : h < s.heap.size := (Array.getElem?_eq_some_iff.mp ho).1
  rw [W.writeLoc]
  refine ⟨o, by rw [State.heap_pushCell_of_lt (h := hlt)]; exact ho, by rw [ho2]; simp, by rw [ho3]; exact hi, ?_, hq _ _⟩
  rw [ho1, ho2]
  simp [State.fitsSlot, State.slotType?, hkA, hkindA, mn_fits (t := .array .int) rfl _ (Or.inr ⟨_, rfl⟩)]
end MN
section MNW
variable {p : Program} {l : Launch} {e : Env} {R : Room} {s : State} {m : MethodId} {args : Array Value} {below : List Frame} {meth : Method} {c : Code} {H : Heap} {locs : List Loc} {cells slots : Nat} {Q : State → Prop}
variable {cc : ByteArray} {pc : Nat} {ls : Array Slot} {rest : List Value}
theorem mnN_s {T : State} (X : Stand p l e R s m args below meth c T locs cells slots) (cI : ClassId) {h : Nat} {o : Cell} (i : Nat) (ho : T.heap[h]? = some o) : Stand p l e R s m args below meth c (mnN cI h o i T) (locs ++ [⟨h, i⟩]) (cells + 1) (slots + 9) := by
  have hlt : h < T.heap.size := (Array.getElem?_eq_some_iff.mp ho).1
  have X1 := X.pushed (mnI cI)
  have e9 : (mnI cI).slots.size = 9 := by simp [mnI]
  rw [e9] at X1
  exact X1.stored (by rw [State.heap_pushCell_of_lt (h := hlt)]; exact ho) i _
set_option maxHeartbeats 4000000 in
theorem W_mna4 (hexec : p.tables.exec = Jvm.exec) (hb : c.code = cc) {own : String} {index : Nat} {cA cI c9 : ClassId} {kA kI : Class} (hown : s.vm.findClass own = some m.cls) (hclink : (Cond.classLink own index "[[I").before args s = true) (fA : s.vm.findClass "[[I" = some cA)
    (hkA : s.vm.classes[cA]? = some kA) (hkindA : kA.kind = .array cI (.array .int)) (hkI : s.vm.classes[cI]? = some kI) (hkindI : kI.kind = .array c9 .int) (hcells : cells + 5 ≤ R.cells) (hslots : slots + 40 ≤ R.slots) (hdg : decode cc pc = .ok (.multianewarray index 2, 4))
    (kk : ∀ H' : Heap, H'.size = H.size + 5 → (∀ q : Nat, q < H.size → H'[q]? = H[q]?) → H'[H.size]? = some (arrV cA 4 (fun j => va_rf (if j < 4 then some (H.size + 1 + j) else none))) → (∀ j, j < 4 → H'[H.size + 1 + j]? = some (arrV cI 9 (fun _ => .int 0))) → W p l e R s m args below meth c H' (locs ++ [⟨H.size, 0⟩, ⟨H.size, 1⟩, ⟨H.size, 2⟩, ⟨H.size, 3⟩]) (cells + 5) (slots + 40) Q (F0 m (pc + 4) ls (.ref H.size :: rest))) : W p l e R s m args below meth c H locs cells slots Q (F0 m pc ls (.int 9 :: .int 4 :: rest)) := by
  intro T hT X
  subst hT; subst hb
  have hpl : e.platform.magicAccessors = ({} : Platform).magicAccessors := by rw [X.admits.platform]
  obtain ⟨c0, hfc0, hcl⟩ := Cond.classLink_spec hown hclink e.platform hpl
  cases fA.symm.trans hfc0
  obtain ⟨hg₁, hwarm₁, hready₁⟩ := State.classEntry (e := e) X.warmed hcl
  generalize T.vm.noted m.cls index (.cls cA) = vm₁ at hg₁ hwarm₁ hready₁
  have hal : s.vm.Alike vm₁ := hwarm₁.alike
  obtain ⟨kA₁, hkA₁, heA⟩ := hal.2.2 _ _ hkA
  obtain ⟨kI₁, hkI₁, heI⟩ := hal.2.2 _ _ hkI
  have hkindA₁ : kA₁.kind = .array cI (.array .int) := by rw [heA]; exact hkindA
  have hkindI₁ : kI₁.kind = .array c9 .int := by rw [heI]; exact hkindI
  have X₁ := X.noted hwarm₁
  obtain ⟨hr1, hr2⟩ := X.roomAbove hcells hslots
  have hl1 : ¬ 4 > e.platform.arrayLengthLimit := by rw [Launch.admits_arrayLengthLimit X.admits]; omega
  have hh1 : ¬ 4 * componentBytes (.array .int) > e.platform.maxHeapBytes := by
    rw [Launch.admits_maxHeapBytes X.admits]; show ¬ 4 * 4 > 536870912; omega
  have hl2 : ¬ 9 > e.platform.arrayLengthLimit := by rw [Launch.admits_arrayLengthLimit X.admits]; omega
  have hh2 : ¬ 9 * componentBytes .int > e.platform.maxHeapBytes := by
    rw [Launch.admits_maxHeapBytes X.admits]; show ¬ 9 * 4 > 536870912; omega
  have b0 : (T.setVm vm₁).heap = T.heap := rfl
  obtain ⟨U0, hU0⟩ : ∃ U0, U0 = (T.setVm vm₁).pushCell (mnO cA) := ⟨_, rfl⟩
  have X0 : Stand p l e R s m args below meth c U0 locs (cells + 1) (slots + 4) := by
    have h := X₁.pushed (mnO cA)
    rw [show (mnO cA).slots.size = 4 by simp [mnO]] at h
    rw [hU0]
    exact h
  have s0 : U0.heap.size = T.heap.size + 1 := by rw [hU0]; simp
  have g0 : U0.heap[T.heap.size]? = some (mnO cA) := by rw [hU0]; exact State.heap_pushCell_size _ _
  have q0 : ∀ q : Nat, q < T.heap.size → U0.heap[q]? = T.heap[q]? := fun q hq => by rw [hU0]; exact State.heap_pushCell_of_lt _ _ hq
  have v0 : U0.vm = vm₁ := by rw [hU0]; rfl
  have u0 : U0.slotsUsed = T.slotsUsed + 4 := by rw [hU0]; simp [mnO]
  obtain ⟨o0, ho0⟩ : ∃ o0, o0 = mnO cA := ⟨_, rfl⟩
  rw [← ho0] at g0
  obtain ⟨s1, g1, n1, q1, v1, u1⟩ := mnN_f (cI := cI) (i := 0) g0
  have X1 := mnN_s X0 cI 0 g0
  obtain ⟨o1, ho1⟩ : ∃ o1, o1 = o0.setSlot 0 (.ref U0.heap.size) := ⟨_, rfl⟩
  obtain ⟨U1, hU1⟩ : ∃ U1, U1 = mnN cI T.heap.size o0 0 U0 := ⟨_, rfl⟩
  rw [← ho1, ← hU1] at g1
  rw [← hU1] at s1 n1 q1 v1 u1 X1
  obtain ⟨s2, g2, n2, q2, v2, u2⟩ := mnN_f (cI := cI) (i := 1) g1
  have X2 := mnN_s X1 cI 1 g1
  obtain ⟨o2, ho2⟩ : ∃ o2, o2 = o1.setSlot 1 (.ref U1.heap.size) := ⟨_, rfl⟩
  obtain ⟨U2, hU2⟩ : ∃ U2, U2 = mnN cI T.heap.size o1 1 U1 := ⟨_, rfl⟩
  rw [← ho2, ← hU2] at g2
  rw [← hU2] at s2 n2 q2 v2 u2 X2
  obtain ⟨s3, g3, n3, q3, v3, u3⟩ := mnN_f (cI := cI) (i := 2) g2
  have X3 := mnN_s X2 cI 2 g2
  obtain ⟨o3, ho3⟩ : ∃ o3, o3 = o2.setSlot 2 (.ref U2.heap.size) := ⟨_, rfl⟩
  obtain ⟨U3, hU3⟩ : ∃ U3, U3 = mnN cI T.heap.size o2 2 U2 := ⟨_, rfl⟩
  rw [← ho3, ← hU3] at g3
  rw [← hU3] at s3 n3 q3 v3 u3 X3
  obtain ⟨s4, g4, n4, q4, v4, u4⟩ := mnN_f (cI := cI) (i := 3) g3
  have X4 := mnN_s X3 cI 3 g3
  obtain ⟨U4, hU4⟩ : ∃ U4, U4 = mnN cI T.heap.size o3 3 U3 := ⟨_, rfl⟩
  rw [← hU4] at g4
  rw [← hU4] at s4 n4 q4 v4 u4 X4
  have eo : o3.setSlot 3 (.ref U3.heap.size) = arrV cA 4 (fun j => va_rf (if j < 4 then some (T.heap.size + 1 + j) else none)) := by
    rw [ho3, ho2, ho1, ho0, mnO, arrV_new, arrV_store, arrV_store, arrV_store, arrV_store, s3, s2, s1, s0]
    refine congrArg (arrV cA 4) (funext fun j => ?_)
    match j with
    | 0 => simp [updV, va_rf]
    | 1 => simp [updV, va_rf]
    | 2 => simp [updV, va_rf]
    | 3 => simp [updV, va_rf]
    | j + 4 =>
      have h : ∀ i, i < 4 → ¬ j + 4 = i := fun i hi => by omega
      rw [if_neg (by omega)]
      simp [updV, va_rf, h 3 (by decide), h 2 (by decide), h 1 (by decide)]
  have X5 : Stand p l e R s m args below meth c U4 (locs ++ [⟨T.heap.size, 0⟩, ⟨T.heap.size, 1⟩, ⟨T.heap.size, 2⟩, ⟨T.heap.size, 3⟩]) (cells + 5) (slots + 40) := by
    simpa [List.append_assoc, Nat.add_assoc] using X4
  have eI : mnI cI = arrV cI 9 (fun _ => .int 0) := arrV_new cI 9 (.int 0)
  obtain ⟨t', a1, b1⟩ := kk U4.heap (by omega) (fun q hq => by
    rw [q4 q (by omega) (by omega), q3 q (by omega) (by omega), q2 q (by omega) (by omega), q1 q (by omega) (by omega)]
    exact q0 q hq) (by rw [g4, eo]) (fun j hj => by
    rw [← eI]
    match j, hj with
    | 0, _ =>
      rw [show T.heap.size + 1 + 0 = U0.heap.size by omega, q4 _ (by omega) (by omega), q3 _ (by omega) (by omega), q2 _ (by omega) (by omega)]
      exact n1
    | 1, _ =>
      rw [show T.heap.size + 1 + 1 = U1.heap.size by omega, q4 _ (by omega) (by omega), q3 _ (by omega) (by omega)]
      exact n2
    | 2, _ =>
      rw [show T.heap.size + 1 + 2 = U2.heap.size by omega, q4 _ (by omega) (by omega)]
      exact n3
    | 3, _ =>
      rw [show T.heap.size + 1 + 3 = U3.heap.size by omega]
      exact n4) U4 rfl X5
  refine ⟨t', ?_, b1⟩
  have z0 : o0.cls = cA ∧ o0.vm = .none ∧ o0.slots.size = 4 := by rw [ho0]; exact ⟨rfl, rfl, by simp [mnO]⟩
  have z1 : o1.cls = cA ∧ o1.vm = .none ∧ o1.slots.size = 4 := by rw [ho1]; exact ⟨z0.1, z0.2.1, by simp [Cell.setSlot, z0.2.2]⟩
  have z2 : o2.cls = cA ∧ o2.vm = .none ∧ o2.slots.size = 4 := by rw [ho2]; exact ⟨z1.1, z1.2.1, by simp [Cell.setSlot, z1.2.2]⟩
  have z3 : o3.cls = cA ∧ o3.vm = .none ∧ o3.slots.size = 4 := by rw [ho3]; exact ⟨z2.1, z2.2.1, by simp [Cell.setSlot, z2.2.2]⟩
  jvm_step X.here [hexec, hdg]
  simp only [multianewarray.sem, wp_bind', W.resolveClassAt_links (State.method?_setTop (F0 m pc ls (.int 9 :: .int 4 :: rest)) X.here.top) hg₁]
  rw [W.popN, if_neg (by decide)]
  refine ⟨F0 m pc ls (.int 9 :: .int 4 :: rest), State.topJava?_setTop' (s := T.setVm vm₁) _ X.here.top, [.int 4, .int 9], rest, rfl, rfl, ?_⟩
  simp only [List.mapM_cons, List.mapM_nil, wp_bind', wp_pure']
  have eS : ((T.setTop (F0 m pc ls (.int 9 :: .int 4 :: rest))).setVm vm₁).setTop { method := m, pc := pc, locals := ls, stack := rest, locked := none } = (T.setVm vm₁).setTop { method := m, pc := pc, locals := ls, stack := rest, locked := none } := by
    show ((T.setVm vm₁).setTop (F0 m pc ls (.int 9 :: .int 4 :: rest))).setTop _ = _
    rw [State.setTop_setTop]
  rw [eS, multianewarray.make]
  simp only [wp_bind', W.ite, show ¬ (4 : Int32) < 0 by decide, if_false, wp_pure', W.theClass]
  refine ⟨kA₁, hkA₁, ?_⟩
  simp only [hkindA₁, show ((4 : Int32) == 0) = false by decide, Bool.false_eq_true, if_false, wp_bind', wp_pure', show (4 : Int32).toNatClampNeg = 4 by decide]
  refine mn_new (k := kA₁) hkA₁ hkindA₁ hl1 hh1 rfl (by show T.heap.size < _; omega) (by show T.slotsUsed + 4 ≤ _; omega) (fun a => ?_)
  have eP : ((T.setVm vm₁).setTop { method := m, pc := pc, locals := ls, stack := rest, locked := none }).pushCell { cls := cA, slots := Array.replicate 4 .null, vm := .none } = U0.setTop { method := m, pc := pc, locals := ls, stack := rest, locked := none } := by
    rw [hU0, State.pushCell_setTop]
    rfl
  rw [eP]
  simp only [State.heap_setTop, b0]
  rw [wp_bind', Std.Legacy.Range.forIn_eq_forIn_range']
  rw [show List.range' ([:4] : Std.Legacy.Range).start ([:4] : Std.Legacy.Range).size ([:4] : Std.Legacy.Range).step = [0, 1, 2, 3] by decide]
  simp only [List.forIn_cons, List.forIn_nil, wp_bind', wp_pure']
  have top : ∀ U : State, (U.setTop { method := m, pc := pc, locals := ls, stack := rest, locked := none }).heap = U.heap := fun U => State.heap_setTop _ _
  have vms : ∀ U : State, (U.setTop { method := m, pc := pc, locals := ls, stack := rest, locked := none }).vm = U.vm := fun U => by simp
  have slt : ∀ U : State, (U.setTop { method := m, pc := pc, locals := ls, stack := rest, locked := none }).slotsUsed = U.slotsUsed := fun U => by simp
  refine mn_row (kI := kI₁) (by rw [vms, v0]; exact hkI₁) hkindI₁ hl2 hh2 (by rw [top]; omega) (by rw [slt]; omega) (fun a' => ?_)
  rw [wp_bind']
  refine mn_wr (kA := kA₁) (cA := cA) (by rw [vms, v0]; exact hkA₁) hkindA₁ (by rw [top]; exact g0) z0.1 z0.2.1 z0.2.2 (by decide) (fun d' a' => ?_)
  rw [wp_pure', mnN_top, ← hU1]
  simp only [wp_bind', wp_pure']
  refine mn_row (kI := kI₁) (by rw [vms, v1, v0]; exact hkI₁) hkindI₁ hl2 hh2 (by rw [top]; omega) (by rw [slt]; omega) (fun a' => ?_)
  rw [wp_bind']
  refine mn_wr (kA := kA₁) (cA := cA) (by rw [vms, v1, v0]; exact hkA₁) hkindA₁ (by rw [top]; exact g1) z1.1 z1.2.1 z1.2.2 (by decide) (fun d' a' => ?_)
  rw [wp_pure', mnN_top, ← hU2]
  simp only [wp_bind', wp_pure']
  refine mn_row (kI := kI₁) (by rw [vms, v2, v1, v0]; exact hkI₁) hkindI₁ hl2 hh2 (by rw [top]; omega) (by rw [slt]; omega) (fun a' => ?_)
  rw [wp_bind']
  refine mn_wr (kA := kA₁) (cA := cA) (by rw [vms, v2, v1, v0]; exact hkA₁) hkindA₁ (by rw [top]; exact g2) z2.1 z2.2.1 z2.2.2 (by decide) (fun d' a' => ?_)
  rw [wp_pure', mnN_top, ← hU3]
  simp only [wp_bind', wp_pure']
  refine mn_row (kI := kI₁) (by rw [vms, v3, v2, v1, v0]; exact hkI₁) hkindI₁ hl2 hh2 (by rw [top]; omega) (by rw [slt]; omega) (fun a' => ?_)
  rw [wp_bind']
  refine mn_wr (kA := kA₁) (cA := cA) (by rw [vms, v3, v2, v1, v0]; exact hkA₁) hkindA₁ (by rw [top]; exact g3) z3.1 z3.2.1 z3.2.2 (by decide) (fun d' a' => ?_)
  rw [wp_pure', mnN_top, ← hU4]
  simp only [wp_pure', wp_bind', W.mark, W.pushRef, State.topJava?_setTop' _ X5.here.top, Option.some.injEq, exists_eq_left', State.setTop_setTop]
  intro acts
  simp [jvm, X5.here.top]
  exact a1
end MNW
end
section
/-! rows of references: read, written, made -/
theorem qaald_inv {M : qM} {o : Nat} {i : Int32} {v : Value} (h : qaald M o i = some v) : ∃ fs a, M[o]? = some (.inr (11, fs)) ∧ qIn i fs.length = true ∧ fs[i.toNatClampNeg]? = some (.ref a) ∧ v = .ref a := by
  unfold qaald at h
  split at h
  · rename_i c fs hM
    by_cases hc : c = 11 ∧ qIn i fs.length = true
    · rw [if_pos hc] at h
      obtain ⟨rfl, hi⟩ := hc
      split at h
      · rename_i a ha
        cases h
        exact ⟨fs, a, hM, hi, ha, rfl⟩
      · cases h
    · rw [if_neg hc] at h
      cases h
  · cases h
theorem q_isI_inv {M : qM} {a : Nat} (h : q_isI M a = true) : ∃ n f, M[a]? = some (.inl (0, n, .inl f)) := by
  unfold q_isI at h
  split at h
  · rename_i u n f hM
    have := of_decide_eq_true h
    subst this
    exact ⟨n, f, hM⟩
  · cases h
theorem qaast_inv {M M' : qM} {o y : Nat} {i : Int32} (h : qaast M o i y = some M') : ∃ fs n f, M[o]? = some (.inr (11, fs)) ∧ qIn i fs.length = true ∧ M[y]? = some (.inl (0, n, .inl f)) ∧ M' = M.set o (.inr (11, fs.set i.toNatClampNeg (.ref y))) := by
  unfold qaast at h
  split at h
  · rename_i c fs hM
    obtain ⟨⟨rfl, h2, h3⟩, h4⟩ := qif_some h
    obtain ⟨n, f, h5⟩ := q_isI_inv h3
    exact ⟨fs, n, f, hM, h2, h5, h4.symm⟩
  · cases h
theorem qaast_len {M M' : qM} {o y : Nat} {i : Int32} (h : qaast M o i y = some M') : M'.length = M.length := by
  obtain ⟨fs, n, f, -, -, -, rfl⟩ := qaast_inv h
  simp
theorem qmk4_inv {al : Bool} {L : qL} {st st' : List Value} {M M' : qM} (h : qmk4 al L st M = some (st', M')) : al = true ∧ M.length + 4 < qSCR ∧ qscM M.length M = true ∧ qscL M.length L = true ∧ qscS M.length st = true ∧ st' = .ref M.length :: st ∧ M' = M ++ [.inr (11, [.ref (M.length + 1), .ref (M.length + 2), .ref (M.length + 3), .ref (M.length + 4)]), .inl (0, 9, .inl (fun _ => 0)), .inl (0, 9, .inl (fun _ => 0)), .inl (0, 9, .inl (fun _ => 0)), .inl (0, 9, .inl (fun _ => 0))] := by
  unfold qmk4 at h
  obtain ⟨⟨h1, h2, h3, h4, h5⟩, h7⟩ := qif_some h
  cases h7
  exact ⟨h1, h2, h3, h4, h5, rfl, rfl⟩
theorem q_self_assign (vm : Vm) (c : ClassId) : vm.assignable c c = true := by
  have key : ∀ n : Nat, vm.assignableAux (n + 1) c c = true := by
    intro n
    rw [Vm.assignableAux]
    simp
  exact key 255
section QR
variable {p : Program} {l : Launch} {e : Env} {R : Room} {s : State} {m : MethodId} {args : Array Value} {below : List Frame} {meth : Method} {c : Code} {H : Heap} {locs : List Loc} {cells slots : Nat} {Q : State → Prop}
variable {pc j : Nat} {ls : Array Slot} {ad : Nat → Nat} {Ts : List Cond} {CA : Nat → ClassId} {D : va_G} {A : Nat → Prop} {M : qM}
theorem qs_aald (C : qCx p l s m args meth c R j Ts CA D A) (hP : va_P D q_cl (qW CA ad M) H) {o : Nat} {i : Int32} {v : Value} {r : List Value} (h : qaald M o i = some v) (hd : decode (q_b j) pc = .ok (.aaload, 1))
    (k : W p l e R s m args below meth c H locs cells slots Q (F0 m (pc + 1) ls (List.map (qt ad) (v :: r)))) : W p l e R s m args below meth c H locs cells slots Q (F0 m pc ls (List.map (qt ad) (.int i :: .ref o :: r))) := by
  obtain ⟨⟨hx, hb, -, hown⟩, ⟨hts, hgw⟩, -, -, ⟨-, hK, -, hX⟩⟩ := C
  obtain ⟨fs, a, hM, hi, hf, rfl⟩ := qaald_inv h
  have hw : (qW CA ad M)[o]? = some (ad o, .inl (CA 2, fs.length, .inr (.inr (.inr (.inr (qop ad fs)))))) := by rw [qW_at hM, qtE_r]
  have hin := qIn_spec hi
  have hlt : i.toNatClampNeg < fs.length := Nat.not_le.mp fun q => hin (Or.inr q)
  have ev : va_rf (qop ad fs i.toNatClampNeg) = .ref (ad a) := by simp [qop, hf, va_rf]
  refine W.aald (v := va_rf (qop ad fs i.toNatClampNeg)) (ty := .array .int) hx hb (hP o _ hw) ((hK.2 2 _ rfl).1 fs.length (fun j => va_rf (qop ad fs j))) rfl (fun q => by cases q) (by show ¬ (i < 0 ∨ (arrV _ _ _).slots.size ≤ _); rw [arrV_size]; exact hin) (by show (arrV _ _ _).slots[_]? = _; rw [arrV_read _ _ hlt]) rfl rfl hd ?_
  rw [ev]
  exact k
/-- the classes of the rows of ints and of the row of them -/
theorem q_aov (C : qCx p l s m args meth c R j Ts CA D A) : (Cond.arrayOver (.array .int)).before args s = true ∧ s.vm.findClass ("[" ++ (FieldType.array .int).toString) = some (CA 2) ∧ s.vm.findClass (FieldType.array .int).toString = some (CA 0) ∧ ∃ kA : Class, s.vm.classes[CA 2]? = some kA ∧ kA.kind = .array (CA 0) (.array .int) := by
  obtain ⟨-, -, -, -, ⟨-, hK, -, hX⟩⟩ := C
  have h0 : (Cond.arrayOver (.array .int)).before args s = true := hX.2.2.2.2.2
  have e2 : s.vm.findClass ("[" ++ (FieldType.array .int).toString) = some (CA 2) := (hK.2 2 _ rfl).2
  have e0 : s.vm.findClass ("[" ++ FieldType.int.toString) = some (CA 0) := (hK.2 0 _ rfl).2
  obtain ⟨comp, cA, kA, h1, h2, h3, h4, h5⟩ := arrayOverA_spec h0
  have ec : cA = CA 2 := Option.some.inj (h5.symm.trans e2)
  have eo : comp = CA 0 := Option.some.inj (h1.symm.trans e0)
  subst ec
  subst eo
  exact ⟨h0, e2, h1, kA, h3, h4⟩
theorem qs_aast (C : qCx p l s m args meth c R j Ts CA D A) (hP : va_P D q_cl (qW CA ad M) H) (hD : va_D A (qW CA ad M)) (hS : va_S A s.heap H locs) {o y : Nat} {i : Int32} {r : List Value} {M' : qM} (h : qaast M o i y = some M') (hd : decode (q_b j) pc = .ok (.aastore, 1))
    (k : ∀ (H1 : Heap) (locs1 : List Loc), va_P D q_cl (qW CA ad M') H1 → va_D A (qW CA ad M') → va_S A s.heap H1 locs1 → W p l e R s m args below meth c H1 locs1 cells slots Q (F0 m (pc + 1) ls (List.map (qt ad) r))) : W p l e R s m args below meth c H locs cells slots Q (F0 m pc ls (List.map (qt ad) (.ref y :: .int i :: .ref o :: r))) := by
  obtain ⟨h0, e2, e0, kA, k1, k2⟩ := q_aov C
  obtain ⟨⟨hx, hb, -, hown⟩, ⟨hts, hgw⟩, -, -, ⟨-, hK, -, hX⟩⟩ := C
  obtain ⟨fs, n, f, hM, hi, hy, rfl⟩ := qaast_inv h
  have hw : (qW CA ad M)[o]? = some (ad o, .inl (CA 2, fs.length, .inr (.inr (.inr (.inr (qop ad fs)))))) := by rw [qW_at hM, qtE_r]
  have hwy : (qW CA ad M)[y]? = some (ad y, .inl (CA 0, n, .inl f)) := qW_at hy
  have hin := qIn_spec hi
  have hlt : i.toNatClampNeg < fs.length := Nat.not_le.mp fun q => hin (Or.inr q)
  have hi0 : ¬ i < 0 := fun q => hin (Or.inl q)
  obtain ⟨-, kC, hkC, -, -⟩ := (hK.2 0 _ rfl).1 0 (fun _ => .null)
  refine W.aast hx hb (hP o _ hw) (fun q h => by cases h) (fun h => by cases h) k1 k2 rfl hkC ⟨hi0, by show _ < (arrV _ _ _).slots.size; rw [arrV_size]; exact hlt⟩ (hP y _ hwy) (fun q h => by cases h) hkC (q_self_assign _ _) rfl rfl hd fun H1 e z oq => ?_
  have hee : (ad o, qtE CA ad (.inr (11, fs.set i.toNatClampNeg (.ref y)))) = ((ad o, .inl (CA 2, fs.length, .inr (.inr (.inr (.inr (va_up (qop ad fs) i.toNatClampNeg (some (ad y)))))))) : Nat × va_E) := by
    rw [qtE_r, List.length_set]
    have e3 : qop ad (fs.set i.toNatClampNeg (.ref y)) = va_up (qop ad fs) i.toNatClampNeg (some (ad y)) := by
      funext q
      unfold qop va_up
      rw [List.getElem?_set]
      by_cases hq : i.toNatClampNeg = q
      · subst hq
        simp [hlt]
      · rw [if_neg hq, if_neg (fun z => hq z.symm)]
    rw [e3]
  have h1 : va_P D q_cl ((qW CA ad M).set o (ad o, .inl (CA 2, fs.length, .inr (.inr (.inr (.inr (va_up (qop ad fs) i.toNatClampNeg (some (ad y))))))))) H1 := by
    refine hP.set hD hw ?_ oq
    show H1[ad o]? = some (vp_cell _ _)
    rw [e]
    rw [vp_cell_q, vp_cell_q, arrV_store]
    congr 2
    funext q
    by_cases hq : q = i.toNatClampNeg
    · subst hq
      simp [updV, va_up, va_rf]
    · simp [updV, va_up, hq]
  have h2 : va_D A ((qW CA ad M).set o (ad o, .inl (CA 2, fs.length, .inr (.inr (.inr (.inr (va_up (qop ad fs) i.toNatClampNeg (some (ad y))))))))) := hD.set hw
  rw [← hee, qW_set] at h1 h2
  exact k H1 _ h1 h2 (hS.put z oq (hD.2 o _ hw))
theorem qop_null (ad : Nat → Nat) (n : Nat) : qop ad (List.replicate n .null) = fun _ => none := by
  funext k
  unfold qop
  rw [List.getElem?_replicate]
  by_cases h : k < n
  · simp [h]
  · simp [h]
theorem qs_newr (C : qCx p l s m args meth c R j Ts CA D A) (hP : va_P D q_cl (qW CA ad M) H) (hD : va_D A (qW CA ad M)) (hS : va_S A s.heap H locs) {idx nL : Nat} {y : Int32} {L : qL} {st st' : List Value} {M' : qM} (hy : 0 ≤ y) (hy2 : y.toNatClampNeg ≤ 10000) (h : qmk (q_al j) L st M (.inr (11, List.replicate y.toNatClampNeg .null)) = some (st', M')) (hl : qLs ad ls nL L)
    (hcl : Cond.classLink (q_rn (q_oc j)) idx "[I" ∈ q_GW) (hc : cells + 1 ≤ q_mc j) (hn : slots + y.toNatClampNeg ≤ q_ms j) (hd : decode (q_b j) pc = .ok (.anewarray idx, 3))
    (k : ∀ (ad' : Nat → Nat) (H1 : Heap), qAg M.length ad ad' → va_P D q_cl (qW CA ad' M') H1 → va_D A (qW CA ad' M') → va_S A s.heap H1 locs → qLs ad' ls nL L → W p l e R s m args below meth c H1 locs (cells + 1) (slots + y.toNatClampNeg) Q (F0 m (pc + 3) ls (List.map (qt ad') st'))) : W p l e R s m args below meth c H locs cells slots Q (F0 m pc ls (List.map (qt ad) (.int y :: st))) := by
  obtain ⟨h0, f2, f0, kA0, k1, k2⟩ := q_aov C
  obtain ⟨⟨hx, hb, -, hown⟩, ⟨hts, hgw⟩, -, ⟨-, -, hr1, hr2⟩, ⟨-, hK, hA, hX⟩⟩ := C
  obtain ⟨-, h2, h3, h4, h5, h6, rfl, rfl⟩ := qmk_inv h
  refine W.anewA (t := .int) hx hb hown (hts _ (hgw _ hcl)) h0 rfl hd rfl (Int32.not_lt.mpr hy) (by omega) (by rw [hr1]; exact hc) (by rw [hr2]; exact hn) fun cA kA comp g1 g2 g3 g4 => ?_
  have ecA : cA = CA 2 := Option.some.inj (g1.symm.trans f2)
  subst ecA
  generalize hH1 : H.push ({ cls := CA 2, slots := Array.replicate y.toNatClampNeg .null, vm := .none } : Cell) = H1
  have z1 : H1.size = H.size + 1 := by rw [← hH1, Array.size_push]
  have e1 : H1[H.size]? = some (arrV (CA 2) y.toNatClampNeg (fun _ => .null)) := by rw [← hH1, Array.getElem?_push_size, ← arrV_new]
  have o1 : ∀ q : Nat, q < H.size → H1[q]? = H[q]? := fun q hq => by rw [← hH1, Array.getElem?_push, if_neg (Nat.ne_of_lt hq)]
  have hk : ∀ (k : Nat) (x : Nat × va_E), (qW CA ad M)[k]? = some x → H1[x.1]? = H[x.1]? := fun k x hx => o1 x.1 ((hP k x hx).lt)
  have ha := qadd_ag (ad := ad) (q := H.size) h2
  have eW : qW CA (qadd ad M.length H.size) (M ++ [.inr (11, List.replicate y.toNatClampNeg .null)]) = qW CA ad M ++ [(H.size, .inl (CA 2, y.toNatClampNeg, .inr (.inr (.inr (.inr (fun _ => none))))))] := by
    rw [qW_push ha h3, show qadd ad M.length H.size M.length = H.size by simp [qadd], qtE_r, qop_null, List.length_replicate]
  have this := k (qadd ad M.length H.size) H1 ha (by
    rw [eW]
    refine (hP.kept hk).app (fun k x hx => ?_)
    have hz : k < 1 := (List.getElem?_eq_some_iff.mp hx).1
    rw [show k = 0 by omega] at hx
    cases hx
    show H1[H.size]? = some (vp_cell _ _)
    rw [vp_cell_q]
    exact e1) (by rw [eW]; exact hD.push hP rfl (hA _ hS.1)) ⟨Nat.le_trans hS.1 (by omega), fun x h1 h2 => (o1 x (Nat.lt_of_lt_of_le h1 hS.1)).trans (hS.2.1 x h1 h2), hS.2.2⟩ (hl.ag ha h4)
  rw [List.map_cons, qtS_ag ha h5] at this
  simpa [qt, qadd] using this
theorem qs_new4 (C : qCx p l s m args meth c R j Ts CA D A) (hP : va_P D q_cl (qW CA ad M) H) (hD : va_D A (qW CA ad M)) (hS : va_S A s.heap H locs) {idx nL : Nat} {L : qL} {st st' : List Value} {M' : qM} (h : qmk4 (q_al j) L st M = some (st', M')) (hl : qLs ad ls nL L)
    (hcl : Cond.classLink (q_rn (q_oc j)) idx "[[I" ∈ q_GW) (hc : cells + 5 ≤ q_mc j) (hn : slots + 40 ≤ q_ms j) (hd : decode (q_b j) pc = .ok (.multianewarray idx 2, 4))
    (k : ∀ (ad' : Nat → Nat) (H1 : Heap) (locs1 : List Loc), qAg M.length ad ad' → va_P D q_cl (qW CA ad' M') H1 → va_D A (qW CA ad' M') → va_S A s.heap H1 locs1 → qLs ad' ls nL L → W p l e R s m args below meth c H1 locs1 (cells + 5) (slots + 40) Q (F0 m (pc + 4) ls (List.map (qt ad') st'))) : W p l e R s m args below meth c H locs cells slots Q (F0 m pc ls (List.map (qt ad) (.int 9 :: .int 4 :: st))) := by
  obtain ⟨h0, f2, f0, kA, k1, k2⟩ := q_aov C
  obtain ⟨⟨hx, hb, -, hown⟩, ⟨hts, hgw⟩, -, ⟨-, -, hr1, hr2⟩, ⟨-, hK, hA, hX⟩⟩ := C
  obtain ⟨-, h2, h3, h4, h5, rfl, rfl⟩ := qmk4_inv h
  obtain ⟨-, kC, hkC, comp9, hkindC⟩ := (hK.2 0 _ rfl).1 0 (fun _ => .null)
  refine W_mna4 hx hb hown (hts _ (hgw _ hcl)) f2 k1 k2 hkC hkindC (by rw [hr1]; exact hc) (by rw [hr2]; exact hn) hd fun H1 z1 o1 e0 e1 => ?_
  have hHs := hS.1
  have ha : qAg M.length ad (fun i => if i < M.length ∨ i = qSCR then ad i else H.size + (i - M.length)) := fun i hi => if_pos hi
  have at0 : ∀ i, i < 5 → (fun i => if i < M.length ∨ i = qSCR then ad i else H.size + (i - M.length)) (M.length + i) = H.size + i := by
    intro i hi
    show (if M.length + i < M.length ∨ M.length + i = qSCR then _ else _) = _
    rw [if_neg (by omega)]
    omega
  revert ha at0
  generalize (fun i => if i < M.length ∨ i = qSCR then ad i else H.size + (i - M.length)) = ad'
  intro ha at0
  have eW : qW CA ad' (M ++ [.inr (11, [.ref (M.length + 1), .ref (M.length + 2), .ref (M.length + 3), .ref (M.length + 4)]), .inl (0, 9, .inl (fun _ => 0)), .inl (0, 9, .inl (fun _ => 0)), .inl (0, 9, .inl (fun _ => 0)), .inl (0, 9, .inl (fun _ => 0))]) = qW CA ad M ++ [(H.size, .inl (CA 2, 4, .inr (.inr (.inr (.inr (fun i => if i < 4 then some (H.size + 1 + i) else none)))))), (H.size + 1, .inl (CA 0, 9, .inl (fun _ => 0))), (H.size + 2, .inl (CA 0, 9, .inl (fun _ => 0))), (H.size + 3, .inl (CA 0, 9, .inl (fun _ => 0))), (H.size + 4, .inl (CA 0, 9, .inl (fun _ => 0)))] := by
    have hq : qop ad' [.ref (M.length + 1), .ref (M.length + 2), .ref (M.length + 3), .ref (M.length + 4)] = fun i => if i < 4 then some (H.size + 1 + i) else none := by
      funext i
      match i with
      | 0 => show some (ad' (M.length + 1)) = some (H.size + 1 + 0); rw [at0 1 (by decide)]
      | 1 => show some (ad' (M.length + 2)) = some (H.size + 1 + 1); rw [at0 2 (by decide)]
      | 2 => show some (ad' (M.length + 3)) = some (H.size + 1 + 2); rw [at0 3 (by decide)]
      | 3 => show some (ad' (M.length + 4)) = some (H.size + 1 + 3); rw [at0 4 (by decide)]
      | i + 4 => simp [qop]
    apply List.ext_getElem?
    intro i
    rw [qW_get]
    rcases Nat.lt_or_ge i M.length with hi | hi
    · rw [List.getElem?_append_left hi, List.getElem?_append_left (by rw [qW_len]; exact hi), qW_get]
      cases hM : M[i]? with
      | none => rfl
      | some x =>
        simp only [Option.map_some]
        rw [ha i (Or.inl hi), qtE_ag ha (qscM_at h3 hM)]
    · rw [List.getElem?_append_right hi, List.getElem?_append_right (by rw [qW_len]; exact hi), qW_len]
      have ei : i = M.length + (i - M.length) := by omega
      generalize i - M.length = d at ei ⊢
      subst ei
      match d with
      | 0 => 
        show some (ad' (M.length + 0), qtE CA ad' (.inr (11, _))) = some _
        rw [at0 0 (by decide), qtE_r, hq]
        rfl
      | 1 => show some (ad' (M.length + 1), _) = some _; rw [at0 1 (by decide)]; rfl
      | 2 => show some (ad' (M.length + 2), _) = some _; rw [at0 2 (by decide)]; rfl
      | 3 => show some (ad' (M.length + 3), _) = some _; rw [at0 3 (by decide)]; rfl
      | 4 => show some (ad' (M.length + 4), _) = some _; rw [at0 4 (by decide)]; rfl
      | d + 5 => rfl
  have hold : ∀ (k : Nat) (x : Nat × va_E), (qW CA ad M)[k]? = some x → H1[x.1]? = H[x.1]? := fun k x hx => o1 x.1 ((hP k x hx).lt)
  have hP1 : va_P D q_cl (qW CA ad M ++ [(H.size, .inl (CA 2, 4, .inr (.inr (.inr (.inr (fun i => if i < 4 then some (H.size + 1 + i) else none)))))), (H.size + 1, .inl (CA 0, 9, .inl (fun _ => 0))), (H.size + 2, .inl (CA 0, 9, .inl (fun _ => 0))), (H.size + 3, .inl (CA 0, 9, .inl (fun _ => 0))), (H.size + 4, .inl (CA 0, 9, .inl (fun _ => 0)))]) H1 := by
    refine (hP.kept hold).app (fun k x hx => ?_)
    match k, hx with
    | 0, hx =>
      cases hx
      show H1[H.size]? = some (vp_cell _ _)
      rw [vp_cell_q]
      exact e0
    | 1, hx => cases hx; exact e1 0 (by decide)
    | 2, hx => cases hx; exact e1 1 (by decide)
    | 3, hx => cases hx; exact e1 2 (by decide)
    | 4, hx => cases hx; exact e1 3 (by decide)
  have hD1 : va_D A (qW CA ad M ++ [(H.size, .inl (CA 2, 4, .inr (.inr (.inr (.inr (fun i => if i < 4 then some (H.size + 1 + i) else none)))))), (H.size + 1, .inl (CA 0, 9, .inl (fun _ => 0))), (H.size + 2, .inl (CA 0, 9, .inl (fun _ => 0))), (H.size + 3, .inl (CA 0, 9, .inl (fun _ => 0))), (H.size + 4, .inl (CA 0, 9, .inl (fun _ => 0)))]) := by
    have hr : ∀ (k : Nat) (x : Nat × va_E), ([(H.size, .inl (CA 2, 4, .inr (.inr (.inr (.inr (fun i => if i < 4 then some (H.size + 1 + i) else none)))))), (H.size + 1, .inl (CA 0, 9, .inl (fun _ => 0))), (H.size + 2, .inl (CA 0, 9, .inl (fun _ => 0))), (H.size + 3, .inl (CA 0, 9, .inl (fun _ => 0))), (H.size + 4, .inl (CA 0, 9, .inl (fun _ => 0)))] : va_W)[k]? = some x → x.1 = H.size + k := by
      intro k x hx
      match k, hx with
      | 0, hx => cases hx; rfl
      | 1, hx => cases hx; rfl
      | 2, hx => cases hx; rfl
      | 3, hx => cases hx; rfl
      | 4, hx => cases hx; rfl
    refine hD.app ⟨fun i j p q hi hj hpq => ?_, fun k q hk => ?_⟩ (fun i j p q hi hj => ?_)
    · have := hr i p hi
      have := hr j q hj
      omega
    · have := hr k q hk
      exact hA _ (by omega)
    · have := hr j q hj
      have := (hP i p hi).lt
      omega
  rw [← eW] at hP1 hD1
  have hS1 : va_S A s.heap H1 (locs ++ [⟨H.size, 0⟩, ⟨H.size, 1⟩, ⟨H.size, 2⟩, ⟨H.size, 3⟩]) := by
    refine ⟨by omega, fun x h1 h2 => (o1 x (Nat.lt_of_lt_of_le h1 hS.1)).trans (hS.2.1 x h1 h2), fun q hq => ?_⟩
    rcases List.mem_append.mp hq with hq | hq
    · exact hS.2.2 q hq
    · simp only [List.mem_cons, List.not_mem_nil, or_false] at hq
      rcases hq with rfl | rfl | rfl | rfl <;> exact hA _ hS.1
  have this := k ad' H1 _ ha hP1 hD1 hS1 (hl.ag ha h4)
  rw [List.map_cons, qtS_ag ha h5] at this
  have e9 : ad' M.length = H.size := at0 0 (by decide)
  simpa [qt, e9] using this
end QR
end
section
/-! one step of the small machine, whichever -/
section QS4
variable {p : Program} {l : Launch} {e : Env} {R : Room} {s : State} {m : MethodId} {args : Array Value} {below : List Frame} {meth : Method} {c : Code} {H : Heap} {locs : List Loc} {Q : State → Prop}
variable {pc j : Nat} {ls : Array Slot} {ad : Nat → Nat} {Ts : List Cond} {CA : Nat → ClassId} {D : va_G} {A : Nat → Prop} {M : qM}
theorem qset_len_le {M M' : qM} (h : M'.length = M.length) : M.length ≤ M'.length := Nat.le_of_eq h.symm
theorem qput_len {M M' : qM} {o ci k : Nat} {v : Value} (h : qput M o ci k v = some M') : M'.length = M.length := by
  obtain ⟨fs, -, -, -, rfl⟩ := qput_inv h
  simp
theorem qasti_len {M M' : qM} {o t : Nat} {i x : Int32} (h : qasti M o t i x = some M') : M'.length = M.length := by
  obtain ⟨n, f, -, -, -, rfl⟩ := qasti_inv h
  simp
theorem qs_step (C : qCx p l s m args meth c R j Ts CA D A) {scr : qScr} (hscr : qScr_ok scr A ad s) {x : qX} {L : qL} {st : List Value} {k n nL : Nat} {F' : qF} (hc : q_chk j pc x = true) (hnw : ∀ idx, x.1 = .new idx → q_isnw (q_oc j) idx x.2.2.1 = true) (h : q_step scr j x (pc, L, st, M, k, n) = some F')
    (hP : va_P D q_cl (qW CA ad M) H) (hD : va_D A (qW CA ad M)) (hS : va_S A s.heap H locs) (hl : qLs ad ls nL L) (hk : k ≤ q_mc j) (hn : n ≤ q_ms j)
    (kk : ∀ (ad' : Nat → Nat) (H' : Heap) (locs' : List Loc) (ls' : Array Slot), qAg M.length ad ad' → (q_al j = false → ad' = ad) → M.length ≤ F'.2.2.2.1.length → va_P D q_cl (qW CA ad' F'.2.2.2.1) H' → va_D A (qW CA ad' F'.2.2.2.1) → va_S A s.heap H' locs' → qLs ad' ls' nL F'.2.1 → F'.2.2.2.2.1 ≤ q_mc j → F'.2.2.2.2.2 ≤ q_ms j →
      W p l e R s m args below meth c H' locs' F'.2.2.2.2.1 F'.2.2.2.2.2 Q (F0 m F'.1 ls' (List.map (qt ad') F'.2.2.1))) :
    W p l e R s m args below meth c H locs k n Q (F0 m pc ls (List.map (qt ad) st)) := by
  obtain ⟨i, len, a, b, c9⟩ := x
  have hd := q_chk_dec hc
  simp only at hd
  have hx := C.1.1
  have hb := C.1.2.1
  have hown := C.1.2.2.2
  have hts := C.2.1.1
  have hgw := C.2.1.2
  have same : ∀ (ls' : Array Slot) (pc' : Nat) (L' : qL) (st' : List Value), F' = (pc', L', st', M, k, n) → qLs ad ls' nL L' → W p l e R s m args below meth c H locs k n Q (F0 m pc' ls' (List.map (qt ad) st')) := by
    intro ls' pc' L' st' hF hl'
    subst hF
    exact kk ad H locs ls' qAg.rf (fun _ => rfl) (Nat.le_refl _) hP hD hS hl' hk hn
  have wrote : ∀ (M' : qM) (pc' : Nat) (st' : List Value), M'.length = M.length → F' = (pc', L, st', M', k, n) → ∀ (H1 : Heap) (locs1 : List Loc), va_P D q_cl (qW CA ad M') H1 → va_D A (qW CA ad M') → va_S A s.heap H1 locs1 → W p l e R s m args below meth c H1 locs1 k n Q (F0 m pc' ls (List.map (qt ad) st')) := by
    intro M' pc' st' hM' hF H1 locs1 h1 h2 h3
    subst hF
    exact kk ad H1 locs1 ls qAg.rf (fun _ => rfl) (qset_len_le hM') h1 h2 h3 hl hk hn
  have gen : q_gen i len a (pc, L, st, M, k, n) = some F' → W p l e R s m args below meth c H locs k n Q (F0 m pc ls (List.map (qt ad) st)) := by
    intro hg
    refine qs_gen C hc hg hl (fun ls' hF hl' => ?_)
    obtain ⟨pc', L', st', z⟩ := F'
    simp only at hF hl'
    subst hF
    exact same ls' pc' L' st' rfl hl'
  unfold q_chk at hc
  simp only [Bool.and_eq_true, decide_eq_true_eq] at hc
  obtain ⟨-, hc⟩ := hc
  cases i
  case getfield idx =>
    cases st with
    | nil => exact absurd (show (none : Option qF) = some F' from h) (fun q => by cases q)
    | cons v r =>
      cases v with
      | ref o =>
        obtain ⟨v, h1, rfl⟩ := Option.map_eq_some_iff.mp (show (qget M o a b).map _ = some F' from h)
        simp only [Bool.or_eq_true, Bool.and_eq_true, decide_eq_true_eq] at hc
        obtain ⟨rfl, hc⟩ := hc
        exact qs_get C hP h1 hd hc (same ls _ _ _ rfl hl)
      | _ => exact absurd (show (none : Option qF) = some F' from h) (fun q => by cases q)
  case putfield idx =>
    cases st with
    | nil => exact absurd (show (none : Option qF) = some F' from h) (fun q => by cases q)
    | cons v r =>
      cases r with
      | nil => exact absurd (show (none : Option qF) = some F' from h) (fun q => by cases q)
      | cons w r =>
        cases w with
        | ref o =>
          obtain ⟨M', h1, rfl⟩ := Option.map_eq_some_iff.mp (show (qput M o a b v).map _ = some F' from h)
          simp only [Bool.or_eq_true, Bool.and_eq_true, decide_eq_true_eq] at hc
          obtain ⟨rfl, hc⟩ := hc
          exact qs_put C hP hD hS h1 hd hc (wrote M' _ _ (qput_len h1) rfl)
        | _ => exact absurd (show (none : Option qF) = some F' from h) (fun q => by cases q)
  case iaload =>
    cases st with
    | nil => exact absurd (show (none : Option qF) = some F' from h) (fun q => by cases q)
    | cons v r =>
      cases v with
      | int i =>
        cases r with
        | nil => exact absurd (show (none : Option qF) = some F' from h) (fun q => by cases q)
        | cons w r =>
          cases w with
          | ref o =>
            obtain ⟨v, h1, rfl⟩ := Option.map_eq_some_iff.mp (show (qald scr M o 0 i).map _ = some F' from h)
            have hc : len = 1 := of_decide_eq_true (show decide (len = 1) = true from hc)
            subst hc
            exact qs_iald C hP hS hscr h1 hd (same ls _ _ _ rfl hl)
          | _ => exact absurd (show (none : Option qF) = some F' from h) (fun q => by cases q)
      | _ => exact absurd (show (none : Option qF) = some F' from h) (fun q => by cases q)
  case caload =>
    cases st with
    | nil => exact absurd (show (none : Option qF) = some F' from h) (fun q => by cases q)
    | cons v r =>
      cases v with
      | int i =>
        cases r with
        | nil => exact absurd (show (none : Option qF) = some F' from h) (fun q => by cases q)
        | cons w r =>
          cases w with
          | ref o =>
            obtain ⟨v, h1, rfl⟩ := Option.map_eq_some_iff.mp (show (qald none M o 1 i).map _ = some F' from h)
            have hc : len = 1 := of_decide_eq_true (show decide (len = 1) = true from hc)
            subst hc
            exact qs_cald C hP h1 hd (same ls _ _ _ rfl hl)
          | _ => exact absurd (show (none : Option qF) = some F' from h) (fun q => by cases q)
      | _ => exact absurd (show (none : Option qF) = some F' from h) (fun q => by cases q)
  case iastore =>
    cases st with
    | nil => exact absurd (show (none : Option qF) = some F' from h) (fun q => by cases q)
    | cons v r =>
      cases v with
      | int y =>
        cases r with
        | nil => exact absurd (show (none : Option qF) = some F' from h) (fun q => by cases q)
        | cons w r =>
          cases w with
          | int i =>
            cases r with
            | nil => exact absurd (show (none : Option qF) = some F' from h) (fun q => by cases q)
            | cons u r =>
              cases u with
              | ref o =>
                obtain ⟨M', h1, rfl⟩ := Option.map_eq_some_iff.mp (show (qasti M o 0 i y).map _ = some F' from h)
                have hc : len = 1 := of_decide_eq_true (show decide (len = 1) = true from hc)
                subst hc
                exact qs_iast C hP hD hS h1 hd (wrote M' _ _ (qasti_len h1) rfl)
              | _ => exact absurd (show (none : Option qF) = some F' from h) (fun q => by cases q)
          | _ => exact absurd (show (none : Option qF) = some F' from h) (fun q => by cases q)
      | _ => exact absurd (show (none : Option qF) = some F' from h) (fun q => by cases q)
  case castore =>
    cases st with
    | nil => exact absurd (show (none : Option qF) = some F' from h) (fun q => by cases q)
    | cons v r =>
      cases v with
      | int y =>
        cases r with
        | nil => exact absurd (show (none : Option qF) = some F' from h) (fun q => by cases q)
        | cons w r =>
          cases w with
          | int i =>
            cases r with
            | nil => exact absurd (show (none : Option qF) = some F' from h) (fun q => by cases q)
            | cons u r =>
              cases u with
              | ref o =>
                obtain ⟨M', h1, rfl⟩ := Option.map_eq_some_iff.mp (show (qasti M o 1 i y).map _ = some F' from h)
                have hc : len = 1 := of_decide_eq_true (show decide (len = 1) = true from hc)
                subst hc
                exact qs_cast C hP hD hS h1 hd (wrote M' _ _ (qasti_len h1) rfl)
              | _ => exact absurd (show (none : Option qF) = some F' from h) (fun q => by cases q)
          | _ => exact absurd (show (none : Option qF) = some F' from h) (fun q => by cases q)
      | _ => exact absurd (show (none : Option qF) = some F' from h) (fun q => by cases q)
  case arraylength =>
    cases st with
    | nil => exact absurd (show (none : Option qF) = some F' from h) (fun q => by cases q)
    | cons v r =>
      cases v with
      | ref o =>
        obtain ⟨v, h1, rfl⟩ := Option.map_eq_some_iff.mp (show (qlen scr M o).map _ = some F' from h)
        have hc : len = 1 := of_decide_eq_true (show decide (len = 1) = true from hc)
        subst hc
        exact qs_len C hP hS hscr h1 hd (same ls _ _ _ rfl hl)
      | _ => exact absurd (show (none : Option qF) = some F' from h) (fun q => by cases q)
  case aaload =>
    cases st with
    | nil => exact absurd (show (none : Option qF) = some F' from h) (fun q => by cases q)
    | cons v r =>
      cases v with
      | int i =>
        cases r with
        | nil => exact absurd (show (none : Option qF) = some F' from h) (fun q => by cases q)
        | cons w r =>
          cases w with
          | ref o =>
            obtain ⟨v, h1, rfl⟩ := Option.map_eq_some_iff.mp (show (qaald M o i).map _ = some F' from h)
            have hc : len = 1 := of_decide_eq_true (show decide (len = 1) = true from hc)
            subst hc
            exact qs_aald C hP h1 hd (same ls _ _ _ rfl hl)
          | _ => exact absurd (show (none : Option qF) = some F' from h) (fun q => by cases q)
      | _ => exact absurd (show (none : Option qF) = some F' from h) (fun q => by cases q)
  case aastore =>
    cases st with
    | nil => exact absurd (show (none : Option qF) = some F' from h) (fun q => by cases q)
    | cons v r =>
      cases v with
      | ref y =>
        cases r with
        | nil => exact absurd (show (none : Option qF) = some F' from h) (fun q => by cases q)
        | cons w r =>
          cases w with
          | int i =>
            cases r with
            | nil => exact absurd (show (none : Option qF) = some F' from h) (fun q => by cases q)
            | cons u r =>
              cases u with
              | ref o =>
                obtain ⟨M', h1, rfl⟩ := Option.map_eq_some_iff.mp (show (qaast M o i y).map _ = some F' from h)
                have hc : len = 1 := of_decide_eq_true (show decide (len = 1) = true from hc)
                subst hc
                exact qs_aast C hP hD hS h1 hd (wrote M' _ _ (qaast_len h1) rfl)
              | _ => exact absurd (show (none : Option qF) = some F' from h) (fun q => by cases q)
          | _ => exact absurd (show (none : Option qF) = some F' from h) (fun q => by cases q)
      | _ => exact absurd (show (none : Option qF) = some F' from h) (fun q => by cases q)
  case anewarray idx =>
    cases st with
    | nil => exact absurd (show (none : Option qF) = some F' from h) (fun q => by cases q)
    | cons v r =>
      cases v with
      | int y =>
        simp only [Bool.and_eq_true, decide_eq_true_eq] at hc
        obtain ⟨rfl, hc⟩ := hc
        have h : (if 0 ≤ y ∧ y.toNatClampNeg ≤ 10000 ∧ k + 1 ≤ q_mc j ∧ n + y.toNatClampNeg ≤ q_ms j then (qmk (q_al j) L r M (.inr (11, List.replicate y.toNatClampNeg .null))).map (fun p => (pc + 3, L, p.1, p.2, k + 1, n + y.toNatClampNeg)) else none) = some F' := h
        by_cases hr : 0 ≤ y ∧ y.toNatClampNeg ≤ 10000 ∧ k + 1 ≤ q_mc j ∧ n + y.toNatClampNeg ≤ q_ms j
        · rw [if_pos hr] at h
          obtain ⟨⟨st', M'⟩, h1, rfl⟩ := Option.map_eq_some_iff.mp h
          obtain ⟨hal, -, -, -, -, -, -, hM'⟩ := qmk_inv h1
          refine qs_newr C hP hD hS hr.1 hr.2.1 h1 hl (q_wat_in hc) hr.2.2.1 hr.2.2.2 hd (fun ad' H1 g1 g2 g3 g4 g5 => ?_)
          exact kk ad' H1 locs ls g1 (fun q => by rw [hal] at q; cases q) (by rw [hM']; simp) g2 g3 g4 g5 hr.2.2.1 hr.2.2.2
        · rw [if_neg hr] at h
          cases h
      | _ => exact absurd (show (none : Option qF) = some F' from h) (fun q => by cases q)
  case multianewarray idx d =>
    cases st with
    | nil => exact absurd (show (none : Option qF) = some F' from h) (fun q => by cases q)
    | cons v r =>
      cases v with
      | int y =>
        cases r with
        | nil => exact absurd (show (none : Option qF) = some F' from h) (fun q => by cases q)
        | cons w r =>
          cases w with
          | int x =>
            simp only [Bool.and_eq_true, decide_eq_true_eq] at hc
            obtain ⟨rfl, rfl, hc⟩ := hc
            have h : (if x = 4 ∧ y = 9 ∧ k + 5 ≤ q_mc j ∧ n + 40 ≤ q_ms j then (qmk4 (q_al j) L r M).map (fun p => (pc + 4, L, p.1, p.2, k + 5, n + 40)) else none) = some F' := h
            by_cases hr : x = 4 ∧ y = 9 ∧ k + 5 ≤ q_mc j ∧ n + 40 ≤ q_ms j
            · rw [if_pos hr] at h
              obtain ⟨⟨st', M'⟩, h1, rfl⟩ := Option.map_eq_some_iff.mp h
              obtain ⟨rfl, rfl, hr3, hr4⟩ := hr
              obtain ⟨hal, -, -, -, -, -, hM'⟩ := qmk4_inv h1
              refine qs_new4 C hP hD hS h1 hl (q_wat_in hc) hr3 hr4 hd (fun ad' H1 locs1 g1 g2 g3 g4 g5 => ?_)
              exact kk ad' H1 locs1 ls g1 (fun q => by rw [hal] at q; cases q) (by rw [hM']; simp) g2 g3 g4 g5 hr3 hr4
            · rw [if_neg hr] at h
              cases h
          | _ => exact absurd (show (none : Option qF) = some F' from h) (fun q => by cases q)
      | _ => exact absurd (show (none : Option qF) = some F' from h) (fun q => by cases q)
  case iinc z d =>
    have hc : len = 3 := of_decide_eq_true (show decide (len = 3) = true from hc)
    subst hc
    have h : (match L[z]? with
        | some (some (.int y)) => some (pc + 3, qset1 L z (some (.int (y + Int32.ofInt d))), st, M, k, n)
        | _ => none) = some F' := h
    split at h
    · rename_i y hz
      cases h
      have hm : (z, Value.int y) ∈ ql ad L := ql_mem.mpr ⟨_, hz, rfl⟩
      obtain ⟨q, hq⟩ := List.getElem?_of_mem hm
      have hzl : z < nL := by
        have := (List.getElem?_eq_some_iff.mp hz).1
        rw [hl.1] at this
        exact this
      exact lv_iinc hx hb hd hl.2 hq rfl hzl rfl (fun ls' hl' => same ls' _ _ _ rfl (hl.st1 _ (fun w hw => by cases hw; rfl) hl'))
    · cases h
  case ldc idx =>
    cases (show some _ = some F' from h)
    simp only [Bool.and_eq_true, decide_eq_true_eq] at hc
    obtain ⟨rfl, hc⟩ := hc
    exact lv_ldc hx hb hown (hts _ (hgw _ (q_ct_spec hc))) hd (same ls _ _ _ rfl hl)
  case ldc_w idx =>
    cases (show some _ = some F' from h)
    simp only [Bool.and_eq_true, decide_eq_true_eq] at hc
    obtain ⟨rfl, hc⟩ := hc
    exact lv_ldcw hx hb hown (hts _ (hgw _ (q_ct_spec hc))) hd (same ls _ _ _ rfl hl)
  case tableswitch d lo hi offs =>
    cases st with
    | nil => exact absurd (show (none : Option qF) = some F' from h) (fun q => by cases q)
    | cons v r =>
      cases v with
      | int y =>
        obtain ⟨t, h1, rfl⟩ := Option.map_eq_some_iff.mp (show (q_tsw pc d lo hi offs y).map _ = some F' from h)
        unfold q_tsw at h1
        by_cases hr : y.toInt < lo ∨ hi < y.toInt
        · rw [if_pos hr] at h1
          obtain ⟨h2, rfl⟩ := qif_some h1
          exact lv_tableOut hx hb hd hr (Int.toNat_of_nonneg h2).symm (same ls _ _ _ rfl hl)
        · rw [if_neg hr] at h1
          split at h1
          · rename_i o ho
            obtain ⟨h2, rfl⟩ := qif_some h1
            exact lv_tableIn hx hb hd (fun q => hr (Or.inl q)) (fun q => hr (Or.inr q)) ho (Int.toNat_of_nonneg h2).symm (same ls _ _ _ rfl hl)
          · cases h1
      | _ => exact absurd (show (none : Option qF) = some F' from h) (fun q => by cases q)
  case new idx =>
    have hw := hnw idx rfl
    have hc : len = 3 := by
      simp only [Bool.and_eq_true, decide_eq_true_eq] at hc
      exact hc.1
    subst hc
    have h : (if k + 1 ≤ q_mc j ∧ n + q_N a ≤ q_ms j then (qmk (q_al j) L st M (.inr (a, q_df a))).map (fun p => (pc + 3, L, p.1, p.2, k + 1, n + q_N a)) else none) = some F' := h
    by_cases hr : k + 1 ≤ q_mc j ∧ n + q_N a ≤ q_ms j
    · rw [if_pos hr] at h
      obtain ⟨⟨st', M'⟩, h1, rfl⟩ := Option.map_eq_some_iff.mp h
      obtain ⟨hal, -, -, -, -, -, -, hM'⟩ := qmk_inv h1
      refine qs_new C hP hD hS h1 hl hw hr.1 hr.2 hd (fun ad' H1 g1 g2 g3 g4 g5 => ?_)
      exact kk ad' H1 locs ls g1 (fun q => by rw [hal] at q; cases q) (by rw [hM']; simp) g2 g3 g4 g5 hr.1 hr.2
    · rw [if_neg hr] at h
      cases h
  case newarray t =>
    cases st with
    | nil => exact absurd (show (none : Option qF) = some F' from h) (fun q => by cases q)
    | cons v r =>
      cases v with
      | int y =>
        have hc : len = 2 := of_decide_eq_true (show decide (len = 2) = true from hc)
        subst hc
        have h : (match q_at t with
          | some (u, g) => if 0 ≤ y ∧ y.toNatClampNeg ≤ 10000 ∧ k + 1 ≤ q_mc j ∧ n + y.toNatClampNeg ≤ q_ms j then (qmk (q_al j) L r M (.inl (u, g y.toNatClampNeg))).map (fun p => (pc + 2, L, p.1, p.2, k + 1, n + y.toNatClampNeg)) else none
          | none => none) = some F' := h
        split at h
        · rename_i u g ht
          by_cases hr : 0 ≤ y ∧ y.toNatClampNeg ≤ 10000 ∧ k + 1 ≤ q_mc j ∧ n + y.toNatClampNeg ≤ q_ms j
          · rw [if_pos hr] at h
            obtain ⟨⟨st', M'⟩, h1, rfl⟩ := Option.map_eq_some_iff.mp h
            obtain ⟨hal, -, -, -, -, -, -, hM'⟩ := qmk_inv h1
            refine qs_newa C hP hD hS ht hr.1 hr.2.1 h1 hl hr.2.2.1 hr.2.2.2 hd (fun ad' H1 g1 g2 g3 g4 g5 => ?_)
            exact kk ad' H1 locs ls g1 (fun q => by rw [hal] at q; cases q) (by rw [hM']; simp) g2 g3 g4 g5 hr.2.2.1 hr.2.2.2
          · rw [if_neg hr] at h
            cases h
        · cases h
      | _ => exact absurd (show (none : Option qF) = some F' from h) (fun q => by cases q)
  all_goals exact gen h
end QS4
end
section
/-! calls, ends, and the whole of it -/
def q_rchk (j : Nat) (i : Instr) : Bool := match i with
  | .return_ => decide (q_rt j = none)
  | .lreturn => decide (q_rt j = some .long)
  | .freturn => decide (q_rt j = some .float)
  | .dreturn => decide (q_rt j = some .double)
  | _ => true
theorem q_rchk_all : ((List.range 111).all (fun j => (q_codes.getD j []).all (fun q => q_rchk j q.2.1))) = true := by decide +kernel
theorem q_code_mem {j pc : Nat} {x : qX} (h : q_code j pc = some x) : (pc, x) ∈ q_codes.getD j [] := by
  unfold q_code at h
  generalize q_codes.getD j [] = l at h
  induction l with
  | nil => cases h
  | cons a l ih =>
    obtain ⟨a1, a2⟩ := a
    rw [List.lookup_cons] at h
    by_cases hp : pc = a1
    · subst hp
      simp at h
      subst h
      exact List.mem_cons_self
    · have : (pc == a1) = false := by simpa using hp
      rw [this] at h
      exact List.mem_cons_of_mem _ (ih h)
theorem q_rchk_at {j pc : Nat} {x : qX} (h : q_code j pc = some x) : q_rchk j x.1 = true :=
  List.all_eq_true.mp (List.all_eq_true.mp q_rchk_all j (List.mem_range.mpr (q_ok h).2)) (pc, x) (q_code_mem h)
theorem q_hh_inst : ∀ a, a < 110 → q_mt a ≠ 1 → q_hh a = [] := by decide +kernel
theorem q_iv3 : (q_iv.all (fun q => decide (q.2.2.2.1 = 3 → q_hh q.2.2.1 = []))) = true := by decide +kernel
def q_ws (j : Nat) : List Cond := q_word j :: q_GW
def q_rm (j : Nat) : Room := { frames := q_fr j, cells := q_mc j, slots := q_ms j, locals := q_lo j }
theorem q_m_spec {a : Nat} (h : a < 110) : q_word a ∈ q_GW ∧ Cond.initialized (q_y a).cls ∈ q_GW ∧ (q_y a).cls = q_rn (q_oc a) ∧ plainName (q_y a).cls = true ∧ (q_y a).cls ≠ "java/lang/invoke/MethodHandle" ∧ (q_y a).cls ≠ "java/lang/invoke/VarHandle" ∧ (parseMethodDescriptor (q_y a).desc).map (fun d => d.parameters.length) = some (q_np a) ∧
    (q_mt a = 1 → Cond.static (q_y a) ∈ q_GW) ∧ (q_mt a = 2 → Cond.instanceMethod (q_y a) ∈ q_GW ∧ (q_y a).name = "<init>" ∧ q_rt a = none) ∧ (q_mt a = 0 → Cond.instanceMethod (q_y a) ∈ q_GW ∧ Cond.selects (q_y a).cls (q_y a) (q_y a) ∈ q_GW) := by
  have h1 := q_mok a h
  unfold q_mokB at h1
  unfold q_mt
  cases hm : q_mw[a]? with
  | none => rw [hm] at h1; cases h1
  | some z =>
    obtain ⟨c, i, t, w, sl⟩ := z
    rw [hm] at h1
    simp only [Bool.and_eq_true, decide_eq_true_eq] at h1
    obtain ⟨g1, g2, g3, g4, g5, g6, g7, g8⟩ := h1
    refine ⟨q_wat_in g1, q_wat_in g2, g3, g4, g5, g6, g7, fun q => ?_, fun q => ?_, fun q => ?_⟩
    · simp only at q
      subst q
      exact q_wat_in g8
    · simp only at q
      subst q
      simp only [Bool.and_eq_true, decide_eq_true_eq] at g8
      exact ⟨q_wat_in g8.1.1, g8.1.2, g8.2⟩
    · simp only at q
      subst q
      simp only [Bool.and_eq_true] at g8
      exact ⟨q_wat_in g8.1, q_wat_in g8.2⟩
theorem q_GW_good {w : Cond} (h : w ∈ q_GW) : w ∈ lw_tbl ∧ goodWord w = true := List.mem_filter.mp h
theorem q_good {Ts : List Cond} (hgw : ∀ w ∈ q_GW, w ∈ Ts) {a : Nat} (ha : a < 110) : GoodIn Ts (q_ws a) := by
  intro w hw
  have h1 : w ∈ q_GW := by
    rcases List.mem_cons.mp hw with rfl | h
    · exact (q_m_spec ha).1
    · exact h
  exact ⟨hgw w h1, good_of_word (q_GW_good h1).2⟩
theorem q_iv_spec {oc idx a c : Nat} (h : q_isiv oc idx a c = true) : ∃ i, q_ivB (oc, idx, a, c, i) = true ∧ (c = 3 → q_hh a = []) := by
  obtain ⟨q, hq, h1⟩ := List.any_eq_true.mp h
  simp only [Bool.and_eq_true, beq_iff_eq] at h1
  have h2 := List.all_eq_true.mp q_iv_ok q hq
  have h3 := of_decide_eq_true (List.all_eq_true.mp q_iv3 q hq)
  obtain ⟨oc', idx', a', c', i⟩ := q
  obtain ⟨e1, e2, e3, e4⟩ := h1
  simp only at e1 e2 e3 e4 h3
  subst e1; subst e2; subst e3; subst e4
  exact ⟨i, h2, h3⟩
theorem q_iv_nest : (q_iv.all (fun q => decide ((q.2.2.2.1 = 3 ∨ q.2.2.2.1 = 5) → Cond.methodLinkNest (q_rn q.1) q.2.1 (q_y q.2.2.1) "Tilehold" ∈ q_NW))) = true := by decide +kernel
theorem q_iv_nw {oc idx a c : Nat} (h : q_isiv oc idx a c = true) (hc : c = 3 ∨ c = 5) : Cond.methodLinkNest (q_rn oc) idx (q_y a) "Tilehold" ∈ q_NW := by
  obtain ⟨q, hq, h1⟩ := List.any_eq_true.mp h
  simp only [Bool.and_eq_true, beq_iff_eq] at h1
  have h3 := of_decide_eq_true (List.all_eq_true.mp q_iv_nest q hq)
  obtain ⟨oc', idx', a', c', i⟩ := q
  obtain ⟨e1, e2, e3, e4⟩ := h1
  simp only at e1 e2 e3 e4 h3
  subst e1; subst e2; subst e3; subst e4
  exact h3 hc
theorem q_cat_sum : ∀ (st : List Value), (st.map fun v => v.category).sum ≤ 2 * st.length
  | [] => by simp
  | v :: st => by
    have := q_cat_sum st
    have := lv_cat v
    simp only [List.map_cons, List.sum_cons, List.length_cons]
    omega
/-- a callee's start, its end, its throw -/
def qPc (scr : qScr) (CA : Nat → ClassId) (D : va_G) (ad : Nat → Nat) (M : qM) (args : List Value) (sz : Nat) : Array Value → State → Prop := va_Pc (args.map (qt ad)) (fun U => U.heap.size = sz ∧ va_P D q_cl (qW CA ad M) U.heap ∧ va_K D q_cl (qTy CA) U ∧ va_D (fun _ => True) (qW CA ad M) ∧ qXB (va_A (qW CA ad M) sz) U U.heap ∧ qScr_ok scr (va_A (qW CA ad M) sz) ad U)
def qEnd (CA : Nat → ClassId) (D : va_G) (j : Nat) (ad : Nat → Nat) (M M' : qM) (sz : Nat) (ad' : Nat → Nat) (H : Heap) : Prop := qAg M.length ad ad' ∧ (q_al j = false → ad' = ad) ∧ M.length ≤ M'.length ∧ va_P D q_cl (qW CA ad' M') H ∧ va_D (va_A (qW CA ad M) sz) (qW CA ad' M')
def qQc (CA : Nat → ClassId) (D : va_G) (j : Nat) (ad : Nat → Nat) (M M' : qM) (sz : Nat) (r : qR) : Array Value → State → Outcome → State → Prop := fun _ st oc t => (∃ (v : Option Value) (ad' : Nat → Nat), r = .inl v ∧ oc = .returned (v.map (qt ad')) ∧ qEnd CA D j ad M M' sz ad' t.heap) ∧ va_F (va_A (qW CA ad M) sz) st t
def qXC (CA : Nat → ClassId) (D : va_G) (j : Nat) (ad : Nat → Nat) (M M' : qM) (sz : Nat) (r : qR) : String → State → State → Prop := fun E st t => (∃ (e9 : Nat) (ad' : Nat → Nat), r = .inr e9 ∧ E = q_x e9 ∧ qEnd CA D j ad M M' sz ad' t.heap) ∧ va_F (va_A (qW CA ad M) sz) st t
def qMt (l : Launch) (scr : qScr) (j : Nat) (CA : Nat → ClassId) (D : va_G) (ad : Nat → Nat) (M M' : qM) (args : List Value) (sz : Nat) (r : qR) : Prop :=
  vx_Met l (q_y j) (q_ws j) (q_rm j) (qPc scr CA D ad M args sz) (qQc CA D j ad M M' sz r) (qXC CA D j ad M M' sz r) (q_mc j) (q_ms j) (va_A (qW CA ad M) sz)
theorem qPc_blind {scr : qScr} {CA : Nat → ClassId} {D : va_G} {ad : Nat → Nat} {M : qM} {args : List Value} {sz : Nat} : FrameBlind (qPc scr CA D ad M args sz) := by
  intro a U g mk h
  obtain ⟨h1, h2, h3, h4, h5, h6, h7⟩ := h
  exact ⟨h1, h2, h3, va_K.moved (u := U) (U := U.calling g mk a) (Vm.Alike.refl U.vm) h4, h5, qXB.warm (s := U) (U := U.calling g mk a) (State.WarmedH.refl U) h6, h7.sub (U := U.calling g mk a) (Vm.Alike.refl U.vm) (Nat.le_refl _) (fun _ _ _ => rfl) (fun _ q => q)⟩
section QC
variable {p : Program} {l : Launch} {e : Env} {R : Room} {s : State} {m : MethodId} {args : Array Value} {below : List Frame} {meth : Method} {c : Code} {H : Heap} {locs : List Loc} {cells slots : Nat} {Q : State → Prop}
variable {pc j : Nat} {ls : Array Slot} {ad : Nat → Nat} {Ts : List Cond} {CA : Nat → ClassId} {D : va_G} {A : Nat → Prop} {M M' : qM} {a : Nat} {r : qR}
theorem qA_sub (hD : va_D A (qW CA ad M)) (hA : ∀ q, s.heap.size ≤ q → A q) (hS : va_S A s.heap H locs) : ∀ q, va_A (qW CA ad M) H.size q → A q := by
  intro q h
  rcases h with ⟨k, e9, h⟩ | h
  · exact hD.2 k (q, e9) h
  · exact hA q (Nat.le_trans hS.1 h)
theorem qPc_at (C : qCx p l s m args meth c R j Ts CA D A) (hP : va_P D q_cl (qW CA ad M) H) (hD : va_D A (qW CA ad M)) (hS : va_S A s.heap H locs) {scr : qScr} (hscr : qScr_ok scr A ad s) (as : List Value) : ∀ U : State, U.heap = H → s.WarmedH U.vm → qPc scr CA D ad M as H.size (as.map (qt ad)).toArray U := by
  obtain ⟨-, -, -, -, ⟨-, hK, hA, hX⟩⟩ := C
  intro U hU hW
  refine ⟨rfl, by rw [hU], by rw [hU]; exact hP, va_K.moved hW.alike hK, hD.weaken (fun _ _ _ _ => trivial), ?_, ?_⟩
  · rw [hU]
    exact ((hX.kept hS.2.1).warm hW).narrow (qA_sub hD hA hS)
  · exact hscr.sub hW.alike (by rw [hU]; exact hS.1) (by rw [hU]; exact hS.2.1) (qA_sub hD hA hS)
theorem q_bud_spec (h : q_bud j a = true) : q_fr a + 1 ≤ q_fr j ∧ 8 + (q_mL a + 11) + q_lo a ≤ q_lo j := by
  simpa [q_bud] using h
theorem q_word_code (h : q_hh a = []) : q_word a = .code (q_y a) (q_b a) (q_mL a) (q_rt a) := by
  unfold q_word
  rw [if_pos h]
/-- the call, as the kit runs it -/
theorem q_run (C : qCx p l s m args meth c R j Ts CA D A) {i : Instr} {len b c9 : Nat} {as : List Value} {rest st0 : List Value} (hc : q_chk j pc (i, len, a, b, c9) = true) (hi : q_kd i = 1) (ha : a < 900) {scr : qScr} (hscr : qScr_ok scr A ad s) (hM : qMt l scr a CA D ad M M' as H.size r)
    (hP : va_P D q_cl (qW CA ad M) H) (hD : va_D A (qW CA ad M)) (hS : va_S A s.heap H locs) (hl : ls.size = q_mL j) (hlen : as.length = b) (hst : st0 = (as.map (qt ad)).reverse ++ rest) (hrest : (rest.map fun v => v.category).sum ≤ 8) (hrcv : q_rcv M c9 a as = true)
    (hk : cells + q_mc a ≤ q_mc j) (hn : slots + q_ms a ≤ q_ms j) :
    vx_Run p l e R s m args below meth c H locs cells slots (q_mc a) (q_ms a) (F0 m pc ls st0) rest (qQc CA D a ad M M' H.size r (as.map (qt ad)).toArray) (qXC CA D a ad M M' H.size r) (va_A (qW CA ad M) H.size) := by
  have hPc := qPc_at C hP hD hS hscr as
  obtain ⟨⟨hx, hb, hml, hown⟩, ⟨hts, hgw⟩, -, ⟨hr1, hr2, hr3, hr4⟩, ⟨-, hK, hA, hX⟩⟩ := C
  have hd := q_chk_dec hc
  unfold q_chk at hc
  simp only [Bool.and_eq_true, decide_eq_true_eq] at hc hd
  obtain ⟨-, hc⟩ := hc
  have hS9 : CallFix p m c (q_b j) (q_mL j) s args Ts (q_rn (q_oc j)) := ⟨hx, hb, hml, hown, hts⟩
  have hroom : 2 * (F0 m pc ls st0).monitorRoom + (rest.map fun v => v.category).sum ≤ 8 := lv_room hrest
  have hf9 : cells + q_mc a ≤ R.cells ∧ slots + q_ms a ≤ R.slots := by rw [hr3, hr4]; exact ⟨hk, hn⟩
  have goR : ∀ {a9 : Nat}, q_bud j a9 = true → (q_rm a9).frames + 1 ≤ R.frames ∧ 8 + (q_mL a9 + 11) + (q_rm a9).locals ≤ R.locals := by
    intro a9 h
    rw [hr1, hr2]
    exact q_bud_spec h
  cases i
  case invokevirtual idx =>
    simp only [Bool.and_eq_true, decide_eq_true_eq] at hc
    obtain ⟨rfl, hv, rfl, hb9, hbud⟩ := hc
    obtain ⟨i9, h1, -⟩ := q_iv_spec hv
    simp only [q_ivB, Bool.and_eq_true, decide_eq_true_eq] at h1
    obtain ⟨⟨⟨h2, h3⟩, h4⟩, h11⟩ := h1
    obtain ⟨m1, m2, m3, m4, m5, m6, m7, -, -, m8⟩ := q_m_spec h2
    obtain ⟨m9, m10⟩ := m8 h3
    have hw := q_word_code (q_hh_inst a h2 (by rw [h3]; decide))
    have cb : CallB R s args (q_rn (q_oc j)) idx (q_y a) (q_b a) (q_mL a) (q_rt a) (q_ws a) (q_rm a) (q_mc a) (q_ms a) (q_np a) :=
      callB_of (ws' := q_GW) (q_np a) hts (q_good hgw h2) (by unfold q_ws; rw [hw]) rfl rfl (hts _ (hgw _ m2)) (hts _ (hgw _ (q_wat_in h4))) ⟨m5, m6, m7⟩ (goR hbud)
    have cw : CallW R s args (q_rn (q_oc j)) (q_y a).cls idx (q_y a) (q_b a) (q_mL a) (q_rt a) (q_ws a) (q_rm a) (q_mc a) (q_ms a) (q_np a) := ⟨cb, hts _ (hgw _ m9), hts _ (hgw _ m10)⟩
    unfold q_rcv at hrcv
    simp only at hrcv
    split at hrcv
    · rename_i o as'
      split at hrcv
      · rename_i ci fs hM9
        have hci := of_decide_eq_true hrcv
        subst hci
        have hrc := va_recv hK hP (q0 := o) (a := ad o) (ci := q_oc a) (fs := fs.map (qt ad)) (q_cl_at _ h11) (qW_ob hM9 h11)
        simp only [m3.symm] at hrc
        exact vx_runV hS9 hM cw (b := ad o) (As := as'.map (qt ad)) ⟨qPc_blind, hrc, hPc⟩ rfl (by simp at hlen ⊢; omega) hl (by rw [hst]; simp [qt]) hroom hd hf9
      · cases hrcv
    · cases hrcv
  case invokestatic idx =>
    simp only [Bool.and_eq_true, Bool.or_eq_true, decide_eq_true_eq] at hc
    obtain ⟨rfl, hv, hc⟩ := hc
    rcases hc with ⟨hc9, hb9, hbud⟩ | ⟨hc9, -⟩
    · obtain ⟨i9, h1, hh3⟩ := q_iv_spec hv
      rcases hc9 with rfl | rfl
      · simp only [q_ivB, Bool.and_eq_true, decide_eq_true_eq] at h1
        obtain ⟨⟨h2, h3⟩, h4⟩ := h1
        obtain ⟨m1, m2, m3, m4, m5, m6, m7, m8, -⟩ := q_m_spec h2
        by_cases hh : q_hh a = []
        · have hw := q_word_code hh
          have cb : CallB R s args (q_rn (q_oc j)) idx (q_y a) (q_b a) (q_mL a) (q_rt a) (q_ws a) (q_rm a) (q_mc a) (q_ms a) (q_np a) :=
            callB_of (ws' := q_GW) (q_np a) hts (q_good hgw h2) (by unfold q_ws; rw [hw]) rfl rfl (hts _ (hgw _ m2)) (hts _ (hgw _ (q_wat_in h4))) ⟨m5, m6, m7⟩ (goR hbud)
          exact vx_runS hS9 hM ⟨cb, hts _ (hgw _ (m8 h3))⟩ ⟨qPc_blind, hPc⟩ rfl (by simp; omega) hl hst hroom hd hf9
        · have hw : q_word a = .codeWith (q_y a) (q_b a) (q_mL a) (q_rt a) (q_hh a) := by
            unfold q_word
            rw [if_neg hh]
          have hG := q_good hgw h2
          have hcm : Cond.codeWith (q_y a) (q_b a) (q_mL a) (q_rt a) (q_hh a) ∈ q_ws a := by
            unfold q_ws
            rw [hw]
            exact List.mem_cons_self
          have cw : vx_CSW R s args (q_rn (q_oc j)) idx (q_y a) (q_b a) (q_mL a) (q_rt a) (q_hh a) (q_ws a) (q_rm a) (q_mc a) (q_ms a) (q_np a) := by
            refine ⟨⟨rfl, rfl, (goR hbud).1, (goR hbud).2, pay_in hts hG, hcm⟩, hts _ (hG _ hcm).1, hts _ (hgw _ m2), ⟨m5, m6⟩, fun sig h => ?_, hts _ (hgw _ (q_wat_in h4)), hts _ (hgw _ (m8 h3))⟩
            have h2 := m7
            rw [h] at h2
            exact (Option.some.inj h2).symm
          exact vx_runSX hS9 hM cw ⟨qPc_blind, hPc⟩ rfl (by simp; omega) hl hst hroom hd hf9
      · have hh := hh3 rfl
        have hnw := q_iv_nw hv (Or.inl rfl)
        simp only [q_ivB, Bool.and_eq_true, decide_eq_true_eq] at h1
        obtain ⟨h2, h3⟩ := h1
        obtain ⟨m1, m2, m3, m4, m5, m6, m7, m8, -⟩ := q_m_spec h2
        have hw := q_word_code hh
        have cn := va_cnB (R := R) (s := s) (args := args) (ws' := q_GW) (rm := q_rm a) (q_np a) hts (q_good hgw h2) (by unfold q_ws; rw [hw]) rfl rfl (hX.2.2.1 _ hnw) (hts _ (hgw _ m2)) ⟨m5, m6, m7⟩ (goR hbud)
        exact vx_runSN hS9 hM ⟨cn, hts _ (hgw _ (m8 h3)), trivial⟩ ⟨qPc_blind, hPc⟩ rfl (by simp; omega) hl hst hroom hd hf9
    · obtain ⟨i9, h1, -⟩ := q_iv_spec hv
      subst hc9
      simp only [q_ivB, Bool.and_eq_true, decide_eq_true_eq] at h1
      omega
  case invokespecial idx =>
    simp only [Bool.and_eq_true, Bool.or_eq_true, decide_eq_true_eq] at hc
    obtain ⟨rfl, hv, hc⟩ := hc
    rcases hc with ⟨hc9, hb9, hbud⟩ | ⟨hc9, -⟩
    · obtain ⟨i9, h1, -⟩ := q_iv_spec hv
      have hcase : q_mt a = 2 ∧ a < 110 := by
        rcases hc9 with rfl | rfl <;> simp only [q_ivB, Bool.and_eq_true, decide_eq_true_eq] at h1
        · exact ⟨h1.1.2, h1.1.1⟩
        · exact ⟨h1.2, h1.1⟩
      obtain ⟨h3, h2⟩ := hcase
      obtain ⟨m1, m2, m3, m4, m5, m6, m7, -, m8, -⟩ := q_m_spec h2
      obtain ⟨m9, m10, m11⟩ := m8 h3
      have hw := q_word_code (q_hh_inst a h2 (by rw [h3]; decide))
      rw [m11] at hw
      have hrc : ∃ o as', as = .ref o :: as' := by
        unfold q_rcv at hrcv
        rcases hc9 with rfl | rfl
        · simp only at hrcv
          split at hrcv
          · exact ⟨_, _, rfl⟩
          · cases hrcv
        · simp only at hrcv
          split at hrcv
          · exact ⟨_, _, rfl⟩
          · cases hrcv
      obtain ⟨o, as', rfl⟩ := hrc
      rcases hc9 with rfl | rfl
      · simp only [q_ivB, Bool.and_eq_true, decide_eq_true_eq] at h1
        obtain ⟨-, h4⟩ := h1
        have cb : CallB R s args (q_rn (q_oc j)) idx (q_y a) (q_b a) (q_mL a) none (q_ws a) (q_rm a) (q_mc a) (q_ms a) (q_np a) :=
          callB_of (ws' := q_GW) (q_np a) hts (q_good hgw h2) (by unfold q_ws; rw [hw]) rfl rfl (hts _ (hgw _ m2)) (hts _ (hgw _ (q_wat_in h4))) ⟨m5, m6, m7⟩ (goR hbud)
        exact vx_runI hS9 hM ⟨cb, m10, hts _ (hgw _ m9)⟩ (b := ad o) (As := as'.map (qt ad)) ⟨qPc_blind, hPc⟩ rfl (by simp at hlen ⊢; omega) hl (by rw [hst]; simp [qt]) hroom hd hf9
      · have hnw := q_iv_nw hv (Or.inr rfl)
        have cn := va_cnB (R := R) (s := s) (args := args) (bytes := q_b a) (maxL := q_mL a) (ret := none) (ws' := q_GW) (rm := q_rm a) (q_np a) hts (q_good hgw h2) (by unfold q_ws; rw [hw]) rfl rfl (hX.2.2.1 _ hnw) (hts _ (hgw _ m2)) ⟨m5, m6, m7⟩ (goR hbud)
        exact vx_runIN hS9 hM ⟨cn, m10, hts _ (hgw _ m9)⟩ (b := ad o) (As := as'.map (qt ad)) ⟨qPc_blind, hPc⟩ rfl (by simp at hlen ⊢; omega) hl (by rw [hst]; simp [qt]) hroom hd hf9
    · obtain ⟨i9, h1, -⟩ := q_iv_spec hv
      subst hc9
      simp only [q_ivB, Bool.and_eq_true, decide_eq_true_eq] at h1
      omega
  all_goals exact absurd hi (by simp [q_kd])
end QC
end
section
/-! the simulation: what the small machine ends with, the machine ends with -/
section QG
variable {p : Program} {l : Launch} {e : Env} {R : Room} {s : State} {m : MethodId} {args : Array Value} {below : List Frame} {meth : Method} {c : Code} {H : Heap} {locs : List Loc} {cells slots : Nat} {Q : State → Prop}
variable {pc j : Nat} {ls : Array Slot} {ad : Nat → Nat} {Ts : List Cond} {CA : Nat → ClassId} {D : va_G} {A : Nat → Prop} {M M' : qM} {a : Nat} {r : qR} {mc ms : Nat} {free : Addr → Prop} {a9 : Array Value}
theorem q_callsim {st0 rest : List Value} (hr : vx_Run p l e R s m args below meth c H locs cells slots mc ms (F0 m pc ls st0) rest (qQc CA D a ad M M' H.size r a9) (qXC CA D a ad M M' H.size r) free)
    (hS : va_S A s.heap H locs) (hsub : ∀ q, va_A (qW CA ad M) H.size q → A q) (hf : ∀ q, free q → A q)
    (kr : ∀ (v : Option Value) (ad' : Nat → Nat) (H1 : Heap) (locs1 : List Loc), r = .inl v → qEnd CA D a ad M M' H.size ad' H1 → va_S A s.heap H1 locs1 → W p l e R s m args below meth c H1 locs1 (cells + mc) (slots + ms) Q (F0 m (pc + 3) ls ((v.map (qt ad')).toList ++ rest)))
    (kx : ∀ (e9 : Nat) (ad' : Nat → Nat) (H1 : Heap) (locs1 : List Loc) (q9 : Addr) (ce : Cell), r = .inr e9 → qEnd CA D a ad M M' H.size ad' H1 → va_S A s.heap H1 locs1 → H1[q9]? = some ce → ce.vm = .none → s.vm.findClass (q_x e9) = some ce.cls → vx_W p l e R s m args below meth c H1 locs1 (cells + mc) (slots + ms) Q (F0 m pc ls rest) q9) :
    W p l e R s m args below meth c H locs cells slots Q (F0 m pc ls st0) := by
  intro T hT X
  rcases hr T hT X with ⟨v, st₀, t, T', L, h0, X', hL, e1, e2, ⟨⟨v', ad', hr', hv, hE⟩, hF⟩, st⟩ | ⟨q, st₀, t, T', L, E, ce, h0, X', hL, e1, e2, ⟨⟨e9, ad', hr', hE9, hE⟩, hF⟩, hce, hcv, hcl, st⟩
  · cases hv
    obtain ⟨k1, k2, k3⟩ := vx_keep h0 e1 hS (fun q _ => hsub q) hf hL hF
    obtain ⟨t2, a1, b1⟩ := kr v' ad' T'.heap (locs ++ L) hr' (by rw [e1]; exact hE) k3 T' rfl X'
    exact ⟨t2, st t2 a1, b1⟩
  · subst hE9
    obtain ⟨k1, k2, k3⟩ := vx_keep h0 e1 hS (fun q _ => hsub q) hf hL hF
    obtain ⟨t2, a1, b1⟩ := kx e9 ad' T'.heap (locs ++ L) q ce hr' (by rw [e1]; exact hE) k3 (by rw [e1]; exact hce) hcv hcl T' rfl X'
    exact ⟨t2, st.trans a1, b1⟩
theorem q_nw_cast : ∀ e9, e9 < 5 → Cond.castable (q_x e9) (q_x e9) ∈ q_NW := by decide +kernel
theorem q_cn_ok {cz : Nat} (h : cz ∈ q_cc.map (fun q => q.1)) : Cond.classLink (q_rn 11) cz (q_cn cz) ∈ q_GW := by
  have key : (q_cc.all (fun q => decide (q_cn q.1 = q.2.2))) = true := by decide +kernel
  obtain ⟨q, hq, rfl⟩ := List.mem_map.mp h
  have h1 := of_decide_eq_true (List.all_eq_true.mp key q hq)
  rw [h1]
  exact q_wat_in (List.all_eq_true.mp q_cc_ok q hq)
/-- a throw that this method catches -/
theorem q_catch (C : qCx p l s m args meth c R j Ts CA D A) {e9 h p9 nL : Nat} {L : qL} {rest : List Value} {q9 : Addr} {ce : Cell} (hh : q_hnd j pc e9 = some (h, p9)) (hl : qLs ad ls nL L) (hp : p9 < L.length)
    (hcell : H[q9]? = some ce) (hv : ce.vm = .none) (hcl : s.vm.findClass (q_x e9) = some ce.cls)
    (k : ∀ ls', qLs ad ls' nL (qset1 L p9 none) → W p l e R s m args below meth c H locs cells slots Q (F0 m h ls' [])) : vx_W p l e R s m args below meth c H locs cells slots Q (F0 m pc ls rest) q9 := by
  obtain ⟨⟨hx, hb, -, hown⟩, ⟨hts, hgw⟩, ⟨-, -, -, htab⟩, -, ⟨-, -, -, hX⟩⟩ := C
  have hm : ((j, pc, e9), (h, p9)) ∈ q_hn := by
    unfold q_hnd at hh
    generalize q_hn = l9 at hh
    induction l9 with
    | nil => cases hh
    | cons z l9 ih =>
      obtain ⟨z1, z2⟩ := z
      rw [List.lookup_cons] at hh
      by_cases hz : (j, pc, e9) = z1
      · subst hz
        simp at hh
        subst hh
        exact List.mem_cons_self
      · have : ((j, pc, e9) == z1) = false := by simpa using hz
        rw [this] at hh
        exact List.mem_cons_of_mem _ (ih hh)
  have h1 := List.all_eq_true.mp q_hn_ok _ hm
  unfold q_hnB at h1
  simp only [Bool.and_eq_true, decide_eq_true_eq] at h1
  obtain ⟨he, ⟨hoc, h2⟩, h3⟩ := h1
  rw [hoc] at hown
  cases hz : (q_hh j)[q_hi j pc e9]? with
  | none => rw [hz] at h2; cases h2
  | some z =>
    rw [hz] at h2
    simp only [Bool.and_eq_true, Bool.or_eq_true, decide_eq_true_eq] at h2
    obtain ⟨z1, z2, z3, z4, z5, z6⟩ := h2
    have hi := (List.getElem?_eq_some_iff.mp hz).1
    have hsp : q_hh j = (q_hh j).take (q_hi j pc e9) ++ z :: (q_hh j).drop (q_hi j pc e9 + 1) := by
      have hge : (q_hh j)[q_hi j pc e9] = z := (List.getElem?_eq_some_iff.mp hz).2
      conv => lhs; rw [← List.take_append_drop (q_hi j pc e9) (q_hh j), List.drop_eq_getElem_cons hi, hge]
    have hsplit : c.exceptionTable.toList = (tableOf ((q_hh j).take (q_hi j pc e9))) ++ (⟨z.1, z.2.1, z.2.2.1, z.2.2.2⟩ : ExceptionTableEntry) :: tableOf ((q_hh j).drop (q_hi j pc e9 + 1)) := by
      rw [htab (Or.inr (by intro hq; rw [hq] at hz; cases hz))]
      conv => lhs; rw [hsp]
      simp only [tableOf, List.map_append, List.map_cons]
    refine vx_catch (own := q_rn 11) (name := q_x e9) (E := q_x e9) (ce := ce) hown _ ⟨z.1, z.2.1, z.2.2.1, z.2.2.2⟩ _ hsplit (fun y hy => ?_) (by simp [covers]; omega) z3 ?_ (va_Nw.use rfl (hX.2.2.1 _ (q_nw_cast e9 he))) hcell hv hcl ?_
    · obtain ⟨y0, hy0, rfl⟩ := List.mem_map.mp hy
      have h4 := List.all_eq_true.mp h3 y0 hy0
      simp only [Bool.and_eq_true, decide_eq_true_eq] at h4
      exact Or.inr ⟨h4.1, q_cn y0.2.2.2, hts _ (hgw _ (q_cn_ok h4.2.1)), hX.2.2.2.1 _ h4.2.2⟩
    · have h5 := hts _ (hgw _ (q_cn_ok z4))
      rw [z5] at h5
      exact h5
    · have hpn : p9 < nL := by rw [← hl.1]; exact hp
      rcases z6 with ⟨g1, g2, g3⟩ | ⟨g2, g3⟩
      · subst g2
        exact lv_astore_n hx hb g3 (by simp [Fin.ofNat, Nat.mod_eq_of_lt g1]) hl.2 hpn rfl (fun ls' hl' => k ls' (hl.st1 none (fun x hx => by cases hx) hl'))
      · subst g2
        exact lv_astore hx hb g3 hl.2 hpn rfl (fun ls' hl' => k ls' (hl.st1 none (fun x hx => by cases hx) hl'))
end QG
/-- where a method's body may end: by a return (hR), or by a throw of its own (hX) -/
def qP (f : Nat) : Prop := ∀ (scr : qScr) (j pc k n : Nat) (L : qL) (st : List Value) (M : qM) (r : qR) (M' : qM), q_exec f scr j (pc, L, st, M, k, n) = some (r, M') →
  ∀ (p : Program) (l : Launch) (e : Env) (R : Room) (s : State) (m : MethodId) (args : Array Value) (below : List Frame) (meth : Method) (c : Code) (Ts : List Cond) (CA : Nat → ClassId) (D : va_G) (A : Nat → Prop), qCx p l s m args meth c R j Ts CA D A →
  ∀ (ad : Nat → Nat) (H : Heap) (locs : List Loc) (ls : Array Slot) (Q : State → Prop), qScr_ok scr A ad s → va_P D q_cl (qW CA ad M) H → va_D A (qW CA ad M) → va_S A s.heap H locs → qLs ad ls (q_mL j) L → k ≤ q_mc j → n ≤ q_ms j →
  (∀ (v : Option Value) (pc' : Nat) (x : qX) (ad' : Nat → Nat) (H' : Heap) (locs' : List Loc) (ls' : Array Slot) (k' n' : Nat), r = .inl v → q_code j pc' = some x → q_kd x.1 = 2 → q_ret j x.1 v.toList = some v → qAg M.length ad ad' → (q_al j = false → ad' = ad) → M.length ≤ M'.length → va_P D q_cl (qW CA ad' M') H' → va_D A (qW CA ad' M') → va_S A s.heap H' locs' → k' ≤ q_mc j → n' ≤ q_ms j →
    W p l e R s m args below meth c H' locs' k' n' Q (F0 m pc' ls' ((v.map (qt ad')).toList))) →
  (∀ (e9 : Nat) (pc' idx : Nat) (x : qX) (st' : List Value) (ad' : Nat → Nat) (H' : Heap) (locs' : List Loc) (ls' : Array Slot) (k' n' : Nat), r = .inr e9 → q_code j pc' = some x → x.1 = .new idx → x.2.2.1 = 1000 + e9 → ls'.size = q_mL j → st'.length ≤ 4 → qAg M.length ad ad' → (q_al j = false → ad' = ad) → M.length ≤ M'.length → va_P D q_cl (qW CA ad' M') H' → va_D A (qW CA ad' M') → va_S A s.heap H' locs' → k' + 1 ≤ q_mc j → n' + 6 ≤ q_ms j →
    W p l e R s m args below meth c H' locs' k' n' Q (F0 m pc' ls' st')) →
  W p l e R s m args below meth c H locs k n Q (F0 m pc ls (st.map (qt ad)))
end
section
/-! a method's contract, out of what the small machine ends with -/
theorem q_nk_ot {w : Cond} (h : q_nk w = true) : w.onTables = true := by
  cases w <;> first | rfl | exact absurd (show false = true from h) (by decide)
theorem q_th_spec {j pc e9 : Nat} (h : q_isth j pc e9 = true) : ∃ (ik si ic w i1 i2 : Nat) (tx : String), ((j, pc), (e9, ik, si, ic), w, i1, i2, tx) ∈ q_th ∧ q_thB ((j, pc), (e9, ik, si, ic), w, i1, i2, tx) = true := by
  obtain ⟨q, hq, h1⟩ := List.any_eq_true.mp h
  simp only [Bool.and_eq_true, beq_iff_eq] at h1
  have h2 := List.all_eq_true.mp q_th_ok q hq
  obtain ⟨⟨j', pc'⟩, ⟨e', ik, si, ic⟩, w, i1, i2, tx⟩ := q
  obtain ⟨e1, e2, e3⟩ := h1
  simp only at e1 e2 e3
  subst e1; subst e2; subst e3
  exact ⟨ik, si, ic, w, i1, i2, tx, hq, h2⟩
theorem q_ic_spec {j pc e9 ik si ic w i1 i2 : Nat} {tx : String} (h : ((j, pc), (e9, ik, si, ic), w, i1, i2, tx) ∈ q_th) : (∀ z ∈ q_atw ic e9, z ∈ q_GW ∨ z ∈ q_NW) ∧ (∀ z ∈ Cond.classLink (q_rn 9) ik (q_x e9) :: Cond.initialized (q_x e9) :: q_atw ic e9, vx_ot z = true) := by
  have h1 := of_decide_eq_true (List.all_eq_true.mp q_ic_in (ic, e9) (List.mem_map.mpr ⟨_, h, rfl⟩))
  obtain ⟨⟨a, b, l⟩, hq, he⟩ := List.mem_map.mp h1
  obtain ⟨rfl, rfl⟩ : ic = a ∧ e9 = b := by
    simp only [Prod.mk.injEq] at he
    exact ⟨he.1.symm, he.2.symm⟩
  have h2 := List.all_eq_true.mp q_ic_ok _ hq
  have h3 := List.all_eq_true.mp q_ic_ot _ hq
  have h4 := List.all_eq_true.mp q_th_ot _ h
  simp only [Bool.and_eq_true, decide_eq_true_eq] at h2 h4
  refine ⟨fun z hz => ?_, fun z hz => ?_⟩
  · obtain ⟨i, hi⟩ := List.getElem?_of_mem hz
    have hil := (List.getElem?_eq_some_iff.mp hi).1
    have hil2 : i < l.length := by
      have := h2.1
      omega
    have hz2 : (z, l[i]) ∈ (q_atw ic e9).zip l := by
      refine List.mem_of_getElem? (i := i) ?_
      rw [List.getElem?_zip_eq_some]
      exact ⟨hi, List.getElem?_eq_getElem hil2⟩
    have h5 := List.all_eq_true.mp h2.2 _ hz2
    simp only [Bool.or_eq_true, decide_eq_true_eq] at h5
    rcases h5 with h5 | h5
    · exact Or.inl (q_wat_in h5)
    · exact Or.inr h5
  · rcases List.mem_cons.mp hz with rfl | hz
    · exact h4.1
    · rcases List.mem_cons.mp hz with rfl | hz
      · exact h4.2
      · exact List.all_eq_true.mp h3 z hz
section QH
variable {p : Program} {l : Launch} {e : Env} {R : Room} {s : State} {m : MethodId} {args : Array Value} {below : List Frame} {meth : Method} {c : Code} {H : Heap} {locs : List Loc} {cells slots : Nat}
variable {pc j : Nat} {ls : Array Slot} {Ts : List Cond} {CA : Nat → ClassId} {D : va_G} {A : Nat → Prop}
variable {Qc : Array Value → State → Outcome → State → Prop} {XC : String → State → State → Prop} {free : Addr → Prop}
theorem q_throw (C : qCx p l s m args meth c R j Ts CA D A) {e9 : Nat} {rest : List Value} (h : q_isth j pc e9 = true) (hS : va_S A s.heap H locs) (hsize : ls.size = q_mL j) (hrest : rest.length ≤ 4) (hc : cells + 1 ≤ q_mc j) (hn : slots + 6 ≤ q_ms j)
    (hx : ∀ t : State, s.vm.Alike t.vm → H.size ≤ t.heap.size → (∀ q : Nat, q < H.size → t.heap[q]? = H[q]?) → XC (q_x e9) s t) (hf : ∀ z ∈ locs, free z.base) :
    W p l e R s m args below meth c H locs cells slots (vx_MQ below Qc XC args s (q_mc j) (q_ms j) free) (F0 m pc ls rest) := by
  obtain ⟨⟨hx9, hb, hml, hown⟩, ⟨hts, hgw⟩, ⟨-, hlk, -, htab⟩, ⟨hr1, hr2, hr3, hr4⟩, ⟨hst, hK, hA, hX⟩⟩ := C
  obtain ⟨ik, si, ic, w, i1, i2, tx, hq, hB⟩ := q_th_spec h
  obtain ⟨hat, hot⟩ := q_ic_spec hq
  unfold q_thB at hB
  simp only [Bool.and_eq_true, decide_eq_true_eq] at hB
  obtain ⟨b1, b2, b3, b4, b5, b6, b7, b8, b9, b10⟩ := hB
  rw [b3] at hown
  obtain ⟨x0, x1, x2, x5, xf⟩ := q_rx_ok e9 b1
  obtain ⟨sa, hstr⟩ := hX.2.2.2.2.1 (si, tx) b7
  have hat' : ∀ z ∈ q_atw ic e9, z.before args s = true := by
    intro z hz
    rcases hat z hz with h1 | h1
    · exact hts _ (hgw _ h1)
    · exact va_Nw.use (q_nk_ot (List.all_eq_true.mp q_NW_nk z h1)) (hX.2.2.1 _ h1)
  have hsum := q_cat_sum rest
  have hout : ∀ (d : Nat), ∀ x ∈ c.exceptionTable.toList, covers x d = false := by
    intro d x hx
    rw [htab (Or.inl b3), b4] at hx
    cases hx
  cases w with
  | zero =>
    simp only [Bool.and_eq_true, decide_eq_true_eq] at b10
    obtain ⟨d0, d3, d4, d6, d9⟩ := b10
    exact q_throwX (rx := q_rx e9) (ix := q_ix e9) (Y9 := "java/lang/RuntimeException") (r9 := ["java/lang/Exception"]) (sa := sa) hx9 hb hst hown x0 x1 x2 x5 xf (by decide +kernel) (by decide +kernel) (hts _ (hgw _ (q_wat_in b5))) (hts _ (hgw _ (q_wat_in b6))) hstr hat' hot hX.1 hX.2.1 hS (hsize.trans hml.symm)
      d0 d3 d4 d6 d9 (hout _) (by rw [hr1]; exact b8) (by rw [hr2]; simp only [List.length_cons, List.length_nil]; omega) (by rw [hr3]; exact hc) (by rw [hr4]; exact hn) hlk hx hf hc hn
  | succ w =>
    simp only [Bool.and_eq_true, decide_eq_true_eq] at b10
    obtain ⟨d0, d3, d4, d6, d9⟩ := b10
    exact q_throwXW (rx := q_rx e9) (ix := q_ix e9) (Y9 := "java/lang/RuntimeException") (r9 := ["java/lang/Exception"]) (sa := sa) hx9 hb hst hown x0 x1 x2 x5 xf (by decide +kernel) (by decide +kernel) (hts _ (hgw _ (q_wat_in b5))) (hts _ (hgw _ (q_wat_in b6))) hstr hat' hot hX.1 hX.2.1 hS (hsize.trans hml.symm)
      d0 d3 d4 d6 d9 (hout _) (by rw [hr1]; exact b8) (by rw [hr2]; simp only [List.length_cons, List.length_nil]; omega) (by rw [hr3]; exact hc) (by rw [hr4]; exact hn) hlk hx hf hc hn
/-- the end of a body by a return -/
theorem q_end (C : qCx p l s m args meth c R j Ts CA D A) {x : qX} {v : Option Value} {ad' : Nat → Nat} (hcode : q_code j pc = some x) (hk : q_kd x.1 = 2) (hr : q_ret j x.1 v.toList = some v)
    (hf : ∀ q ∈ locs, free q.base) (hc : cells ≤ q_mc j) (hn : slots ≤ q_ms j)
    (hq : ∀ t : State, t.heap = H → s.WarmedH t.vm → Qc args s (.returned (v.map (qt ad'))) t) :
    W p l e R s m args below meth c H locs cells slots (vx_MQ below Qc XC args s (q_mc j) (q_ms j) free) (F0 m pc ls ((v.map (qt ad')).toList)) := by
  obtain ⟨⟨hx9, hb, hml, hown⟩, -, ⟨hrt, hlk, -, -⟩, -, -⟩ := C
  have hd := q_chk_dec (q_ok hcode).1
  have hlen := (q_ok hcode).1
  have hrc := q_rchk_at hcode
  obtain ⟨i, len, a, b, c9⟩ := x
  simp only at hk hr hd hrc
  refine W.widen hc hn (vx_ret ?_)
  cases i
  case return_ =>
    have hl9 : len = 1 := q_chk_len (by rfl) hlen
    subst hl9
    have hrc : q_rt j = none := of_decide_eq_true hrc
    cases v with
    | none => exact W.vret hx9 hb (hrt.trans hrc) hq hf hd hlk
    | some v => exact absurd (show (none : Option (Option Value)) = some (some v) from hr) (fun q => by cases q)
  case ireturn =>
    have hl9 : len = 1 := q_chk_len (by rfl) hlen
    subst hl9
    cases v with
    | none => exact absurd (show (none : Option (Option Value)) = some none from hr) (fun q => by cases q)
    | some v =>
      cases v with
      | int x =>
        have hr : (match q_rt j with
          | some .int => some (some (Value.int x))
          | some .boolean => if x = 0 ∨ x = 1 then some (some (Value.int x)) else none
          | some .char => if 0 ≤ x ∧ x ≤ 65535 then some (some (Value.int x)) else none
          | _ => none) = some (some (Value.int x)) := hr
        split at hr
        · rename_i h9
          exact W.zret hx9 hb (hrt.trans h9) rfl hq hf hd hlk
        · rename_i h9
          obtain ⟨h1, -⟩ := qif_some hr
          exact W.zret hx9 hb (hrt.trans h9) (by rcases h1 with rfl | rfl <;> rfl) hq hf hd hlk
        · rename_i h9
          obtain ⟨h1, -⟩ := qif_some hr
          exact W.zret hx9 hb (hrt.trans h9) (by
            have := q_char h1.1 h1.2
            rw [vp_nar_char] at this
            show Value.int _ = Value.int x
            rw [this]) hq hf hd hlk
        · cases hr
      | _ => exact absurd hr (by simp [q_ret])
  case lreturn =>
    have hl9 : len = 1 := q_chk_len (by rfl) hlen
    subst hl9
    have hrc : q_rt j = some .long := of_decide_eq_true hrc
    cases v with
    | none => exact absurd (show (none : Option (Option Value)) = some none from hr) (fun q => by cases q)
    | some v =>
      cases v with
      | long x => exact W.lret hx9 hb (hrt.trans hrc) hq hf hd hlk
      | _ => exact absurd hr (by simp [q_ret])
  case freturn =>
    have hl9 : len = 1 := q_chk_len (by rfl) hlen
    subst hl9
    have hrc : q_rt j = some .float := of_decide_eq_true hrc
    cases v with
    | none => exact absurd (show (none : Option (Option Value)) = some none from hr) (fun q => by cases q)
    | some v =>
      cases v with
      | float x => exact W.fret hx9 hb (hrt.trans hrc) hq hf hd hlk
      | _ => exact absurd hr (by simp [q_ret])
  case dreturn =>
    have hl9 : len = 1 := q_chk_len (by rfl) hlen
    subst hl9
    have hrc : q_rt j = some .double := of_decide_eq_true hrc
    cases v with
    | none => exact absurd (show (none : Option (Option Value)) = some none from hr) (fun q => by cases q)
    | some v =>
      cases v with
      | double x => exact W.dret hx9 hb (hrt.trans hrc) hq hf hd hlk
      | _ => exact absurd hr (by simp [q_ret])
  all_goals exact absurd hk (by simp [q_kd])
end QH
theorem q_chk_th {j pc idx e9 : Nat} {x : qX} (h : q_code j pc = some x) (hi : x.1 = .new idx) (ha : x.2.2.1 = 1000 + e9) : q_isth j pc e9 = true := by
  have h1 := (q_ok h).1
  obtain ⟨i, len, a, b, c9⟩ := x
  simp only at hi ha
  subst hi
  subst ha
  unfold q_chk at h1
  simp only [Bool.and_eq_true, Bool.or_eq_true, decide_eq_true_eq] at h1
  rcases h1.2.2 with h2 | h2
  · omega
  · rw [Nat.add_sub_cancel_left] at h2
    exact h2.2
set_option maxHeartbeats 4000000 in
theorem q_met {f : Nat} (hPf : qP f) {l : Launch} (hst : l.stackTraces = false) {j : Nat} (hj : j < 110) {args : List Value} {M M' : qM} {r : qR} {scr : qScr} (hx : q_exec f scr j (0, qloc j args, [], M, 0, 0) = some (r, M')) (hlen : (qexp args).length ≤ q_mL j)
    (CA : Nat → ClassId) (D : va_G) (ad : Nat → Nat) (sz : Nat) : qMt l scr j CA D ad M M' args sz r := by
  obtain ⟨m1, m2, m3, m4, m5, m6, m7, -⟩ := q_m_spec hj
  have body : ∀ (p : Program) (e : Env) (s : State) (m : MethodId) (args9 : Array Value) (below : List Frame) (meth : Method) (c : Code) (s₁ : State), BodyLoose p l (q_y j) (headSpec (q_ws j) (q_rm j)) (q_b j) (q_mL j) (q_rt j) e s m args9 below meth c s₁ → c.maxLocals = q_mL j → c.exceptionTable.toList = tableOf (q_hh j) → qPc scr CA D ad M args sz args9 s →
      W p l e (headSpec (q_ws j) (q_rm j)).room s m args9 below meth c s.heap [] 0 0 (vx_MQ below (qQc CA D j ad M M' sz r) (qXC CA D j ad M M' sz r) args9 s (q_mc j) (q_ms j) (va_A (qW CA ad M) sz)) (entryFrame m args9 (q_mL j)) := by
    intro p e s m args9 below meth c s₁ B hml htab hv
    obtain ⟨rfl, hsz, hP, hK, hD0, hXB, hsc⟩ := hv
    subst hsz
    have hown : s.vm.findClass (q_rn (q_oc j)) = some m.cls := by
      rw [← m3]
      exact findClass_of_methodNamed B.named
    have hA : ∀ q : Nat, s.heap.size ≤ q → va_A (qW CA ad M) s.heap.size q := fun q h => Or.inr h
    have C : qCx p l s m (args.map (qt ad)).toArray meth c (headSpec (q_ws j) (q_rm j)).room j (q_ws j) CA D (va_A (qW CA ad M) s.heap.size) :=
      ⟨⟨B.exec, B.bytes, hml, hown⟩, ⟨atoms_spec (ws := q_ws j) B.pre, fun w hw => List.mem_cons_of_mem _ hw⟩, ⟨B.returns, B.notSynchronized, fun hq => (name_of_methodNamed B.named B.method).1.trans hq, fun _ => htab⟩, ⟨rfl, rfl, rfl, rfl⟩, ⟨hst, hK, hA, hXB⟩⟩
    rw [lg_entry_eq]
    have hl := qloc_ok (ad := ad) hlen
    have hD := hD0.self (sz := s.heap.size)
    refine hPf scr j 0 0 0 (qloc j args) [] M r M' hx p l e _ s m _ below meth c _ CA D _ C ad s.heap [] _ _ hsc hP hD va_S.rf hl (Nat.zero_le _) (Nat.zero_le _) ?_ ?_
    · intro v pc' x ad' H' locs' ls' k' n' hr hcode hkd hret h1 h2 h3 h4 h5 h6 h7 h8
      exact q_end C hcode hkd hret h6.2.2 h7 h8 (fun t ht hW => ⟨⟨v, ad', hr, rfl, h1, h2, h3, by rw [ht]; exact h4, h5⟩, h6.F ht⟩)
    · intro e9 pc' idx x st' ad' H' locs' ls' k' n' hr hcode hi ha hls hst9 h1 h2 h3 h4 h5 h6 h7 h8
      refine q_throw C (q_chk_th hcode hi ha) h6 hls hst9 h7 h8 (fun t hal hsz2 hkeep => ⟨⟨e9, ad', hr, rfl, h1, h2, h3, h4.kept (fun k q hk => hkeep q.1 ((h4 k q hk).lt)), h5⟩, Nat.le_trans h6.1 hsz2, fun q hq hn => ?_⟩) h6.2.2
      rw [hkeep q (Nat.lt_of_lt_of_le hq h6.1)]
      exact h6.2.1 q hq hn
  by_cases hh : q_hh j = []
  · have hw : q_ws j = Cond.code (q_y j) (q_b j) (q_mL j) (q_rt j) :: q_GW := by
      unfold q_ws
      rw [q_word_code hh]
    refine vx_ofW (cc := q_b j) (maxL := q_mL j) (ret := q_rt j) m4 hw ?_
    intro p e s m args9 below meth c s₁ B hml ht hv
    refine body p e s m args9 below meth c s₁ B hml ?_ hv
    rw [hh]
    exact List.eq_nil_iff_forall_not_mem.mpr (fun x hx => ht x hx)
  · have hw : q_ws j = Cond.codeWith (q_y j) (q_b j) (q_mL j) (q_rt j) (q_hh j) :: q_GW := by
      unfold q_ws q_word
      rw [if_neg hh]
    refine vx_ofWH (cc := q_b j) (maxL := q_mL j) (ret := q_rt j) (hh := q_hh j) m4 hw ?_
    intro p e s m args9 below meth c s₁ B hml hv
    refine body p e s m args9 below meth c s₁ B hml ?_ hv
    exact vx_table (x := q_y j) (y := q_y j) (bytes := q_b j) (maxL' := q_mL j) (ret' := q_rt j) B (atoms_spec (ws := q_ws j) B.pre _ (by rw [hw]; exact List.mem_cons_self))
end
section
/-! the simulation holds for every number of steps -/
theorem q_call_inv {x : qX} {st : List Value} {a : Nat} {as rest : List Value} (h : q_call x st = some (a, as, rest)) : a = x.2.2.1 ∧ as.length = x.2.2.2.1 ∧ st = as.reverse ++ rest ∧ q_cts rest ≤ 8 := by
  obtain ⟨i, len, a0, b, c9⟩ := x
  have key : (if b ≤ st.length ∧ q_cts (st.drop b) ≤ 8 then some (a0, (st.take b).reverse, st.drop b) else none) = some (a, as, rest) → a = a0 ∧ as.length = b ∧ st = as.reverse ++ rest ∧ q_cts rest ≤ 8 := by
    intro h
    obtain ⟨h1, h2⟩ := qif_some h
    cases h2
    refine ⟨rfl, by simp; omega, by simp, h1.2⟩
  cases i
  case invokevirtual => exact key h
  case invokestatic => exact key h
  case invokespecial => exact key h
  all_goals exact absurd (show (none : Option (Nat × List Value × List Value)) = some (a, as, rest) from h) (fun q => by cases q)
section QI
variable {p : Program} {l : Launch} {e : Env} {R : Room} {s : State} {m : MethodId} {args : Array Value} {below : List Frame} {meth : Method} {c : Code} {H : Heap} {locs : List Loc} {cells slots : Nat} {Q : State → Prop}
variable {pc j : Nat} {ls : Array Slot} {ad : Nat → Nat} {Ts : List Cond} {CA : Nat → ClassId} {D : va_G} {A : Nat → Prop} {M : qM}
theorem q_lib_inv {a : Nat} {as r : List Value} (h : q_lib a as = some r) : (a = 998 ∧ r = [] ∧ ∃ o, as = [.ref o]) ∨ (a = 999 ∧ ∃ x y, as = [.int x, .int y] ∧ r = [.int (if x < y then y else x)]) := by
  unfold q_lib at h
  split at h
  · rename_i o
    obtain ⟨h1, h2⟩ := qif_some h
    exact Or.inl ⟨h1, h2.symm, o, rfl⟩
  · rename_i x y
    obtain ⟨h1, h2⟩ := qif_some h
    exact Or.inr ⟨h1, x, y, rfl, h2.symm⟩
  · cases h
theorem qs_lib (C : qCx p l s m args meth c R j Ts CA D A) {x : qX} {as r rest st : List Value} (hc : q_chk j pc x = true) (hi : q_kd x.1 = 1) (h : q_lib x.2.2.1 as = some r) (hlen : as.length = x.2.2.2.1) (hst : st = as.reverse ++ rest) (hrest : q_cts rest ≤ 8) (hsz : ls.size = q_mL j) (hk : cells ≤ q_mc j) (hn : slots ≤ q_ms j)
    (k : W p l e R s m args below meth c H locs cells slots Q (F0 m (pc + 3) ls (List.map (qt ad) (r ++ rest)))) : W p l e R s m args below meth c H locs cells slots Q (F0 m pc ls (List.map (qt ad) st)) := by
  obtain ⟨⟨hx, hb, hml, hown⟩, ⟨hts, hgw⟩, -, ⟨hr1, hr2, hr3, hr4⟩, -⟩ := C
  obtain ⟨i, len, a, b, c9⟩ := x
  have hd := q_chk_dec hc
  unfold q_chk at hc
  simp only [Bool.and_eq_true, decide_eq_true_eq] at hc hd hi h hlen
  obtain ⟨-, hc⟩ := hc
  obtain ⟨w1, w2, w3, w4, w5⟩ := q_libw
  have hsum : ((List.map (qt ad) rest).map fun v => v.category).sum ≤ 8 := by rw [qcs_map]; exact hrest
  have lt9 : ∀ {oc idx cz : Nat}, q_isiv oc idx a cz = true → (cz = 0 ∨ cz = 2 ∨ cz = 3 ∨ cz = 4 ∨ cz = 5) → a < 110 := by
    intro oc idx cz h1 h2
    obtain ⟨i9, h3, -⟩ := q_iv_spec h1
    rcases h2 with rfl | rfl | rfl | rfl | rfl <;> simp only [q_ivB, Bool.and_eq_true, decide_eq_true_eq] at h3
    · exact h3.1.1.1
    · exact h3.1.1
    · exact h3.1
    · exact h3.1.1
    · exact h3.1
  have hbig : ¬ a < 110 := by
    rcases q_lib_inv h with ⟨rfl, -⟩ | ⟨rfl, -⟩ <;> omega
  cases i
  case invokevirtual idx =>
    simp only [Bool.and_eq_true, decide_eq_true_eq] at hc
    exact absurd (lt9 hc.2.1 (Or.inl hc.2.2.1)) hbig
  case invokestatic idx =>
    simp only [Bool.and_eq_true, Bool.or_eq_true, decide_eq_true_eq] at hc
    obtain ⟨rfl, hv, hc⟩ := hc
    rcases hc with ⟨hc9, -⟩ | ⟨hc9, hb9, hf1, hf2⟩
    · exact absurd (lt9 hv (by omega)) hbig
    · subst hc9
      obtain ⟨i9, h1, -⟩ := q_iv_spec hv
      simp only [q_ivB, Bool.and_eq_true, decide_eq_true_eq] at h1
      obtain ⟨ha9, h4⟩ := h1
      subst ha9
      rcases q_lib_inv h with ⟨hq, -⟩ | ⟨-, y1, y2, rfl, rfl⟩
      · omega
      · subst hst
        exact va_mmax (rest := List.map (qt ad) rest) hx hb (hml.trans hsz.symm) hown (hts _ (hgw _ (q_wat_in h4))) (hts _ (hgw _ (q_wat_in w3))) (hts _ (hgw _ (q_wat_in w4))) (hts _ (hgw _ (q_wat_in w5))) (by rw [hr1]; exact hf1) (by rw [hr2]; omega) (by rw [hr3]; exact hk) (by rw [hr4]; exact hn) hd k
  case invokespecial idx =>
    simp only [Bool.and_eq_true, Bool.or_eq_true, decide_eq_true_eq] at hc
    obtain ⟨rfl, hv, hc⟩ := hc
    rcases hc with ⟨hc9, -⟩ | ⟨hc9, hb9, hf1, hf2⟩
    · exact absurd (lt9 hv (by omega)) hbig
    · subst hc9
      obtain ⟨i9, h1, -⟩ := q_iv_spec hv
      simp only [q_ivB, Bool.and_eq_true, decide_eq_true_eq] at h1
      obtain ⟨ha9, h4⟩ := h1
      subst ha9
      rcases q_lib_inv h with ⟨-, rfl, o, rfl⟩ | ⟨hq, -⟩
      · subst hst
        refine W.objInit hx hb hown (hts _ (hgw _ (q_wat_in h4))) (hts _ (hgw _ (q_wat_in w1))) (hts _ (hgw _ (q_wat_in w2))) (a := ad o) (rest := List.map (qt ad) rest) rfl (hsz.trans hml.symm) rfl hd (by rw [hr1]; exact hf1) ?_ k
        exact Nat.le_trans (Nat.add_le_add_right (lv_room (st := List.map (qt ad) rest) (by omega)) 12) (by rw [hr2]; exact hf2)
      · omega
  all_goals exact absurd hi (by simp [q_kd])
end QI
def q_isn (i : Instr) : Bool := match i with
  | .new _ => true
  | _ => false
theorem q_exec0 {f j pc k n : Nat} {scr : qScr} {L : qL} {st : List Value} {M : qM} {x : qX} (hcode : q_code j pc = some x) (hkd : q_kd x.1 = 0) :
    q_exec (f + 1) scr j (pc, L, st, M, k, n) = (if 1000 ≤ x.2.2.1 ∧ x.2.2.1 < 1005 ∧ q_isn x.1 = true then (if k + 1 ≤ q_mc j ∧ n + 6 ≤ q_ms j ∧ st.length ≤ 4 then some (.inr (x.2.2.1 - 1000), M) else none) else match q_step scr j x (pc, L, st, M, k, n) with
      | none => none
      | some F' => q_exec f scr j F') := by
  rw [q_exec]
  simp only [hcode, hkd]
  obtain ⟨i, len, a, b, c9⟩ := x
  cases i <;> rfl
set_option maxHeartbeats 4000000 in
theorem q_all : ∀ f, qP f := by
  intro f
  induction f with
  | zero =>
    intro scr j pc k n L st M r M' hx
    exact absurd (show (none : Option (qR × qM)) = some (r, M') from hx) (fun q => by cases q)
  | succ f ih =>
    intro scr j pc k n L st M r M' hx p l e R s m args below meth c Ts CA D A C ad H locs ls Q hscr hP hD hS hl hk hn hR hX
    cases hcode : q_code j pc with
    | none =>
      rw [q_exec] at hx
      simp only [hcode] at hx
      cases hx
    | some x =>
      obtain ⟨hchk, hj⟩ := q_ok hcode
      have hA := C.2.2.2.2.2.2.1
      by_cases hkd : q_kd x.1 = 0
      · rw [q_exec0 hcode hkd] at hx
        by_cases hth : 1000 ≤ x.2.2.1 ∧ x.2.2.1 < 1005 ∧ q_isn x.1 = true
        · rw [if_pos hth] at hx
          obtain ⟨h1, h2⟩ := qif_some hx
          cases h2
          obtain ⟨t1, t2, t3⟩ := hth
          obtain ⟨i, len, a, b, c9⟩ := x
          simp only at t1 t2 t3
          unfold q_isn at t3
          split at t3
          · rename_i idx
            exact hX (a - 1000) pc idx _ (List.map (qt ad) st) ad H locs ls k n rfl hcode rfl (by show a = 1000 + (a - 1000); omega) (hl.2.1) (by rw [List.length_map]; exact h1.2.2) qAg.rf (fun _ => rfl) (Nat.le_refl _) hP hD hS h1.1 h1.2.1
          · cases t3
        · rw [if_neg hth] at hx
          split at hx
          · cases hx
          · rename_i F' hF'
            have hnw : ∀ idx, x.1 = .new idx → q_isnw (q_oc j) idx x.2.2.1 = true := by
              intro idx hidx
              have hchk2 := hchk
              obtain ⟨i, len, a, b, c9⟩ := x
              simp only at hidx hth ⊢
              subst hidx
              unfold q_chk at hchk2
              simp only [Bool.and_eq_true, Bool.or_eq_true, decide_eq_true_eq] at hchk2
              rcases hchk2.2.2 with h2 | h2
              · exact h2.2
              · exfalso
                obtain ⟨ik, si, ic9, w9, i1, i2, tx, -, hB⟩ := q_th_spec h2.2
                unfold q_thB at hB
                simp only [Bool.and_eq_true, decide_eq_true_eq] at hB
                have := hB.1
                exact hth ⟨h2.1, by omega, rfl⟩
            obtain ⟨pc', L', st', M1, k', n'⟩ := F'
            refine qs_step C hscr hchk hnw hF' hP hD hS hl hk hn (fun ad' H' locs' ls' g1 g2 g3 g4 g5 g6 g7 g8 g9 => ?_)
            refine ih scr j pc' k' n' L' st' M1 r M' hx p l e R s m args below meth c Ts CA D A C ad' H' locs' ls' Q (hscr.ag g1) g4 g5 g6 g7 g8 g9 ?_ ?_
            · intro v pc9 x9 ad9 H9 locs9 ls9 k9 n9 r1 r2 r3 r4 r5 r6 r7 r8 r9 r10 r11 r12
              exact hR v pc9 x9 ad9 H9 locs9 ls9 k9 n9 r1 r2 r3 r4 (g1.tr r5 g3) (fun q => (r6 q).trans (g2 q)) (Nat.le_trans g3 r7) r8 r9 r10 r11 r12
            · intro e9 pc9 idx9 x9 st9 ad9 H9 locs9 ls9 k9 n9 r1 r2 r3 r4 r41 r42 r5 r6 r7 r8 r9 r10 r11 r12
              exact hX e9 pc9 idx9 x9 st9 ad9 H9 locs9 ls9 k9 n9 r1 r2 r3 r4 r41 r42 (g1.tr r5 g3) (fun q => (r6 q).trans (g2 q)) (Nat.le_trans g3 r7) r8 r9 r10 r11 r12
      by_cases hkd1 : q_kd x.1 = 1
      · have hkd := hkd1
        rw [q_exec] at hx
        simp only [hcode, hkd1] at hx
        split at hx
        · cases hx
        · rename_i a as rest hcall
          obtain ⟨ha, hlen, hst, hrest⟩ := q_call_inv hcall
          split at hx
          · rename_i hbig
            split at hx
            · cases hx
            · rename_i r0 hlib
              rw [ha] at hlib
              refine qs_lib C hchk hkd hlib hlen hst hrest hl.2.1 hk hn ?_
              exact ih scr j (pc + 3) k n L (r0 ++ rest) M r M' hx p l e R s m args below meth c Ts CA D A C ad H locs ls Q hscr hP hD hS hl hk hn hR hX
          · rename_i hsmall
            split at hx
            · rename_i hg
              obtain ⟨q1, q2, q3, q4, q5⟩ := hg
              have ha9 : a < 900 := Nat.not_le.mp hsmall
              have hj9 : a < 110 := by
                obtain ⟨i, len, a0, b, c9⟩ := x
                simp only at ha
                subst ha
                have hchk2 := hchk
                unfold q_chk at hchk2
                simp only [Bool.and_eq_true, decide_eq_true_eq] at hchk2
                obtain ⟨-, hc⟩ := hchk2
                have lt9 : ∀ {oc idx cz : Nat}, q_isiv oc idx a cz = true → a < 110 := by
                  intro oc idx cz h1
                  obtain ⟨i9, h3, -⟩ := q_iv_spec h1
                  unfold q_ivB at h3
                  simp only at h3
                  split at h3
                  · simp only [Bool.and_eq_true, decide_eq_true_eq] at h3
                    exact h3.1.1.1
                  · simp only [Bool.and_eq_true, decide_eq_true_eq] at h3
                    exact h3.1.1
                  · simp only [Bool.and_eq_true, decide_eq_true_eq] at h3
                    exact h3.1
                  · simp only [Bool.and_eq_true, decide_eq_true_eq] at h3
                    exact h3.1.1
                  · simp only [Bool.and_eq_true, decide_eq_true_eq] at h3
                    exact h3.1
                  · simp only [Bool.and_eq_true, decide_eq_true_eq] at h3
                    omega
                  · simp only [Bool.and_eq_true, decide_eq_true_eq] at h3
                    omega
                  · cases h3
                cases i
                case invokevirtual idx =>
                  simp only [Bool.and_eq_true, decide_eq_true_eq] at hc
                  exact lt9 hc.2.1
                case invokestatic idx =>
                  simp only [Bool.and_eq_true, Bool.or_eq_true, decide_eq_true_eq] at hc
                  exact lt9 hc.2.1
                case invokespecial idx =>
                  simp only [Bool.and_eq_true, Bool.or_eq_true, decide_eq_true_eq] at hc
                  exact lt9 hc.2.1
                all_goals exact absurd hkd (by simp [q_kd])
              have hsub := qA_sub hD hA hS
              split at hx
              · cases hx
              · rename_i v M1 hcal
                have hM := q_met ih C.2.2.2.2.1 hj9 hcal q5 CA D ad H.size
                have hscp : qScr_ok (q_scp a scr) A ad s := by
                  unfold q_scp
                  split
                  · exact hscr
                  · exact trivial
                obtain ⟨i, len, a0, b, c9⟩ := x
                simp only at ha hlen q1
                subst ha
                have hr := q_run (e := e) (below := below) C (st0 := List.map (qt ad) st) (rest := List.map (qt ad) rest) hchk hkd ha9 hscp hM hP hD hS hl.2.1 hlen (by rw [hst]; simp) (by rw [qcs_map]; exact hrest) q1 q2 q3
                refine q_callsim hr hS hsub hsub ?_ ?_
                · intro v' ad' H1 locs1 hv hE hS1
                  cases hv
                  obtain ⟨g1, g2, g3, g4, g5⟩ := hE
                  have hqt : List.map (qt ad') rest = List.map (qt ad) rest ∧ qLs ad' ls (q_mL j) L := by
                    cases hal : q_al a with
                    | true =>
                      obtain ⟨-, hsl, hss⟩ := q4 hal
                      exact ⟨qtS_ag g1 hss, hl.ag g1 hsl⟩
                    | false => rw [g2 hal]; exact ⟨rfl, hl⟩
                  have hal9 : q_al j = false → ad' = ad := by
                    intro hq
                    cases hal : q_al a with
                    | true => rw [(q4 hal).1] at hq; cases hq
                    | false => exact g2 hal
                  have k9 := ih scr j (pc + 3) (k + q_mc a) (n + q_ms a) L (v.toList ++ rest) M1 r M' hx p l e R s m args below meth c Ts CA D A C ad' H1 locs1 ls Q (hscr.ag g1) g4 (g5.weaken (fun _ q _ hq => hsub _ hq)) hS1 hqt.2 q2 q3 ?_ ?_
                  · rw [List.map_append, hqt.1] at k9
                    cases v <;> exact k9
                  · intro v pc9 x9 ad9 H9 locs9 ls9 k9 n9 r1 r2 r3 r4 r5 r6 r7 r8 r9 r10 r11 r12
                    exact hR v pc9 x9 ad9 H9 locs9 ls9 k9 n9 r1 r2 r3 r4 (g1.tr r5 g3) (fun q => (r6 q).trans (hal9 q)) (Nat.le_trans g3 r7) r8 r9 r10 r11 r12
                  · intro e9 pc9 idx9 x9 st9 ad9 H9 locs9 ls9 k9 n9 r1 r2 r3 r4 r41 r42 r5 r6 r7 r8 r9 r10 r11 r12
                    exact hX e9 pc9 idx9 x9 st9 ad9 H9 locs9 ls9 k9 n9 r1 r2 r3 r4 r41 r42 (g1.tr r5 g3) (fun q => (r6 q).trans (hal9 q)) (Nat.le_trans g3 r7) r8 r9 r10 r11 r12
                · intro e9 ad' H1 locs1 q9 ce hv
                  cases hv
              · rename_i e0 M1 hcal
                have hM := q_met ih C.2.2.2.2.1 hj9 hcal q5 CA D ad H.size
                have hscp : qScr_ok (q_scp a scr) A ad s := by
                  unfold q_scp
                  split
                  · exact hscr
                  · exact trivial
                obtain ⟨i, len, a0, b, c9⟩ := x
                simp only at ha hlen q1
                subst ha
                have hr := q_run (e := e) (below := below) C (st0 := List.map (qt ad) st) (rest := List.map (qt ad) rest) hchk hkd ha9 hscp hM hP hD hS hl.2.1 hlen (by rw [hst]; simp) (by rw [qcs_map]; exact hrest) q1 q2 q3
                refine q_callsim hr hS hsub hsub ?_ ?_
                · intro v' ad' H1 locs1 hv
                  cases hv
                · intro e9 ad' H1 locs1 q9 ce hv hE hS1 hce hcv hcl
                  cases hv
                  obtain ⟨g1, g2, g3, g4, g5⟩ := hE
                  split at hx
                  · cases hx
                  · rename_i h9 p9 hhnd
                    split at hx
                    · rename_i hp9
                      have hqt : qLs ad' ls (q_mL j) L := by
                        cases hal : q_al a with
                        | true =>
                          obtain ⟨-, hsl, hss⟩ := q4 hal
                          exact hl.ag g1 hsl
                        | false => rw [g2 hal]; exact hl
                      have hal9 : q_al j = false → ad' = ad := by
                        intro hq
                        cases hal : q_al a with
                        | true => rw [(q4 hal).1] at hq; cases hq
                        | false => exact g2 hal
                      refine q_catch C hhnd hqt hp9 hce hcv hcl (fun ls' hl' => ?_)
                      refine ih scr j h9 (k + q_mc a) (n + q_ms a) (qset1 L p9 none) [] M1 r M' hx p l e R s m args below meth c Ts CA D A C ad' H1 locs1 ls' Q (hscr.ag g1) g4 (g5.weaken (fun _ q _ hq => hsub _ hq)) hS1 hl' q2 q3 ?_ ?_
                      · intro v pc9 x9 ad9 H9 locs9 ls9 k9 n9 r1 r2 r3 r4 r5 r6 r7 r8 r9 r10 r11 r12
                        exact hR v pc9 x9 ad9 H9 locs9 ls9 k9 n9 r1 r2 r3 r4 (g1.tr r5 g3) (fun q => (r6 q).trans (hal9 q)) (Nat.le_trans g3 r7) r8 r9 r10 r11 r12
                      · intro e9 pc9 idx9 x9 st9 ad9 H9 locs9 ls9 k9 n9 r1 r2 r3 r4 r41 r42 r5 r6 r7 r8 r9 r10 r11 r12
                        exact hX e9 pc9 idx9 x9 st9 ad9 H9 locs9 ls9 k9 n9 r1 r2 r3 r4 r41 r42 (g1.tr r5 g3) (fun q => (r6 q).trans (hal9 q)) (Nat.le_trans g3 r7) r8 r9 r10 r11 r12
                    · cases hx
            · cases hx
      · have hkd2 : q_kd x.1 = 2 := by
          have : q_kd x.1 = 0 ∨ q_kd x.1 = 1 ∨ q_kd x.1 = 2 := by
            unfold q_kd
            split <;> simp
          omega
        rw [q_exec] at hx
        simp only [hcode, hkd2] at hx
        split at hx
        · cases hx
        · rename_i v hret
          cases hx
          have hkd := hkd2
          have hst : st = v.toList := by
            obtain ⟨i, len, a, b, c9⟩ := x
            simp only at hret hkd
            unfold q_ret at hret
            split at hret
            · split at hret
              · cases hret; rfl
              · cases hret
            · split at hret
              · split at hret
                · cases hret; rfl
                · obtain ⟨-, rfl⟩ := qif_some hret; rfl
                · obtain ⟨-, rfl⟩ := qif_some hret; rfl
                · cases hret
              · cases hret
            · split at hret
              · cases hret; rfl
              · cases hret
            · split at hret
              · cases hret; rfl
              · cases hret
            · split at hret
              · cases hret; rfl
              · cases hret
            · cases hret
          subst hst
          have := hR v pc x ad H locs ls k n rfl hcode hkd hret qAg.rf (fun _ => rfl) (Nat.le_refl _) hP hD hS hk hn
          cases v <;> exact this
end
section
/-! THE CLAIM OUT OF ONE WALK OF THE LAW'S BODY. Your part is whole_start (and what it stands on); all else here is the same for every law, but numbers. -/
def R_law : String := "TileholdLaw"
def lw_P (b : Addr) (xs : List Int32) (args : Array Value) (s : State) : Prop := args = #[.ref b] ∧ s.IntsAt b xs ∧ xs.length ≤ 260 ∧ (Jvm.Cond.and given_1 narrow_1).before args s = true
/-- what a walk over the start with the record d0 says of its end, said of the start itself -/
theorem lw_closed {s t : State} {o : Outcome} {d0 : Drawn} {L : List Loc} {k n : Nat} (hd0 : s.drawn.sameBut d0 lw_cs) (hv : ∃ v, o = .returned v) (hW : (s.setDrawn d0).WarmedH t.vm) (hs : (s.setDrawn d0).sameButNew ({ t with vm := s.vm } : State) L k n) : State.butDraws s t lw_cs (fun t1 => Framed s o t1 L k n) := by
  have h2 : t.drawn = d0 := congrArg State.drawn hs.1
  refine ⟨⟨hv, hW, State.sameButNew.setDrawn hs s.drawn⟩, ?_, by decide⟩
  rw [h2]
  exact hd0
def lw_Q (_ : Array Value) (s : State) (o : Outcome) (t : State) : Prop := o = .returned (some (.int 1)) ∧ State.butDraws s t lw_cs (fun t1 => Framed s o t1 [] 600086 7301442)
def lw_Z (below : List Frame) (a : Array Value) (s : State) : State → Prop := fun t => ∃ o, t.status = .running ∧ Ended t below o ∧ lw_Q a s o t
/-- the law's own end, with 1 on the stack, nothing written that was there before, its room as the claim has it; d0: the record of draws at this point (at the entry s.drawn: begin with 'refine W.base ?_' and 'have hd0 := Drawn.sameBut.refl s.drawn lw_cs') -/
theorem lw_ret {p : Program} {l : Launch} {e : Env} {s : State} {m : MethodId} {below : List Frame} {meth : Method} {c : Code} {b : Nat} {d0 : Drawn} (hd0 : s.drawn.sameBut d0 lw_cs) (hx : p.tables.exec = Jvm.exec) (hb : c.code = code) (hr : meth.sig.returnType = ret) (hlocks : meth.locks = false) {pc : Nat} {H : Heap} {ls : Array Slot} (hdg : decode code pc = .ok (.ireturn, 1)) : W p l e room_1 (s.setDrawn d0) m #[Value.ref b] below meth c H [] 600086 7301442 (lw_Z below #[Value.ref b] s) (F0 m pc ls [.int 1]) := by
  intro T hT X
  obtain ⟨fs, hret, hrun, hended, hW, hframe⟩ := X.leave (v := some (.int 1)) (hlocks := hlocks) (fun h => by rw [hr] at h; cases h)
  have hmeth' : T.vm.method? m = some meth := X.method'
  refine ⟨T.setFrames fs, ?_, .returned (some (.int 1)), hrun, hended, rfl, lw_closed hd0 ⟨_, rfl⟩ hW hframe⟩
  jvm_step X.here [X.here.top, hx, hb, hdg, hmeth', hr, ret, narrow_b1]
  (try refine ⟨rfl, ?_⟩); (try refine ⟨rfl, ?_⟩)
  first | (intro acts; rw [hret _ acts rfl rfl rfl]) | rw [hret _ _ rfl rfl rfl]
  exact Steps.refl _
/-- what holds at the law's entry: the machine, the code, the tables' words (any of lw_tbl by 'hts w (by decide +kernel)'), the script of L ints xs at the cell b, what the Statement gives of the start (any of its parts by flat_of_before) -/
def lw_At (p : Program) (s : State) (m : MethodId) (meth : Method) (c : Code) (b L : Nat) (xs : Nat → Int32) : Prop :=
  p.tables.exec = Jvm.exec ∧ c.code = code ∧ meth.sig.returnType = ret ∧ c.maxLocals = 5 ∧ s.vm.findClass R_law = some m.cls ∧ (∀ w ∈ lw_tbl, w.before #[Value.ref b] s = true) ∧ va_X b L xs s s.heap ∧ b < s.heap.size ∧ meth.locks = false ∧ (Jvm.Cond.and given_1 narrow_1).before #[Value.ref b] s = true
/-! the law's start, for the small machine -/
def q_given : List Cond := flatC (Jvm.Cond.and given_1 narrow_1)
theorem q_gv1 : (Cond.isRef (.static Bundle.tN "UNASSIGNED_STACK" Bundle.steD)) ∈ q_given ∧ (Cond.isRef (.static Bundle.tN "SUPPRESSED_SENTINEL" Bundle.listD)) ∈ q_given := by decide +kernel
theorem q_gv2 : ∀ q ∈ q_NC, Cond.not (.castable q.1 q.2) ∈ q_given := by decide +kernel
theorem q_gv3 : ∀ q ∈ q_ST, Cond.exactly (.string (q_rn 9) q.1) "java/lang/String" ∈ q_given := by decide +kernel
theorem q_gv4 : ∀ q ∈ q_ST, Cond.stringRef (q_rn 9) q.1 q.2 ∈ lw_tbl := by decide +kernel
theorem q_gv5 : (Cond.laysStatic Bundle.tN "UNASSIGNED_STACK" Bundle.steD) ∈ lw_tbl ∧ (Cond.laysStatic Bundle.tN "SUPPRESSED_SENTINEL" Bundle.listD) ∈ lw_tbl ∧ (Cond.initialized Bundle.tN) ∈ lw_tbl := by decide +kernel
theorem q_code110 : q_b 110 = code ∧ q_mL 110 = 5 ∧ q_rt 110 = ret ∧ q_rn (q_oc 110) = R_law ∧ q_hh 110 = [] ∧ q_fr 110 = room_1.frames ∧ q_lo 110 = room_1.locals ∧ q_mc 110 = room_1.cells ∧ q_ms 110 = room_1.slots := ⟨rfl, rfl, rfl, rfl, rfl, rfl, rfl, rfl, rfl⟩
theorem q_retl {x : qX} {pc : Nat} {v : Value} (hc : q_code 110 pc = some x) (hk : q_kd x.1 = 2) (hr : q_ret 110 x.1 [v] = some (some v)) (hv : v = .int 1) : decode code pc = .ok (.ireturn, 1) := by
  have hd := q_chk_dec (q_ok hc).1
  have hlen := (q_ok hc).1
  obtain ⟨i, len, a, b, c9⟩ := x
  subst hv
  simp only at hk hr hd
  cases i
  case ireturn =>
    have hl9 : len = 1 := q_chk_len (by rfl) hlen
    subst hl9
    exact hd
  case return_ => exact absurd hr (by simp [q_ret])
  case lreturn => exact absurd hr (by simp [q_ret])
  case freturn => exact absurd hr (by simp [q_ret])
  case dreturn => exact absurd hr (by simp [q_ret])
  all_goals exact absurd hk (by simp [q_kd])
set_option maxHeartbeats 4000000 in
theorem q_start {p : Program} {e : Env} {s : State} {m : MethodId} {below : List Frame} {meth : Method} {c : Code} (l : Launch) (hflags : l.flags = flags0) {b L : Nat} {xs : Nat → Int32} (hL : L ≤ 260) (C0 : lw_At p s m meth c b L xs)
    (hrun : ∃ (f : Nat) (M' : qM), q_exec f (some (L, xs)) 110 (0, qloc 110 [.ref qSCR], [], [], 0, 0) = some (.inl (some (.int 1)), M')) : W p l e room_1 s m #[Value.ref b] below meth c s.heap [] 0 0 (lw_Z below #[Value.ref b] s) (entryFrame m ([Value.ref b] : List Value).toArray 5) := by
  obtain ⟨hx, hb, hr, hml, hown, hts, hX, hbl, hlocks, hgv⟩ := C0
  obtain ⟨f, M', hrun⟩ := hrun
  have hs := flat_of_before _ hgv
  have hgw : ∀ w ∈ q_GW, w ∈ lw_tbl := fun w h => (q_GW_good h).1
  have hU : ∀ ci : Nat, ∃ z : ClassId × (Nat → Nat), ci < 10 → u_Kn s (q_rn ci) (q_T ci) (q_N ci) z.1 z.2 := by
    intro ci
    by_cases h : ci < 10
    · obtain ⟨w1, w2, -⟩ := q_cws h
      obtain ⟨cC, iS, hk⟩ := u_known (n := q_N ci) hts (fun w hw => hgw w (w1 w hw)) (hts _ (hgw _ w2))
      exact ⟨(cC, iS), fun _ => hk⟩
    · exact ⟨(0, fun _ => 0), fun q => absurd q h⟩
  obtain ⟨F, hF⟩ := Classical.axiomOfChoice hU
  obtain ⟨w1, w2⟩ := q_arr
  have hArr : ∀ ty : FieldType, (∀ C, ty ≠ .object C) → Cond.arrayClass ty ∈ q_GW → ∃ cA : ClassId, ArrOfT s cA ty ∧ va_RA s cA ty := by
    intro ty hty h
    obtain ⟨cA, kA, comp, h1, h2, h3⟩ := Cond.arrayClass_spec (hts _ (hgw _ h))
    refine ⟨cA, fun n z => ⟨fun k h => (by cases h), kA, h2, comp, h3⟩, ?_⟩
    cases ty <;> first | exact h1 | exact absurd rfl (hty _)
  obtain ⟨c0, a0⟩ := hArr .int (fun _ h => by cases h) (q_wat_in w1)
  obtain ⟨c1, a1⟩ := hArr .char (fun _ h => by cases h) (q_wat_in w2)
  have hAOw : (Cond.arrayOver (.array .int)).before #[Value.ref b] s = true := hts _ q_AO_in
  obtain ⟨comp2, c2, kA2, g1, g2, g3, g4, g5⟩ := arrayOverA_spec hAOw
  have a2 : ArrOfT s c2 (.array .int) ∧ va_RA s c2 (.array .int) := ⟨fun n z => ⟨fun k h => (by cases h), kA2, g3, comp2, g4⟩, g5⟩
  let CA : Nat → ClassId := fun t => if t = 0 then c0 else if t = 1 then c1 else c2
  have hK : va_K (fun ci => (F ci).1, fun ci => (F ci).2) q_cl (qTy CA) s := by
    refine ⟨fun ci q hq => ?_, fun k q hq => ?_⟩
    · have hci : ci < 10 := (List.getElem?_eq_some_iff.mp hq).1
      rw [q_cl_at ci hci] at hq
      cases hq
      exact hF ci hci
    · match k, hq with
      | 0, hq => cases hq; exact a0
      | 1, hq => cases hq; exact a1
      | 2, hq => cases hq; exact a2
      | k + 3, hq => simp [qTy] at hq
  have hXB : qXB (fun q : Nat => s.heap.size ≤ q) s s.heap := by
    refine ⟨vx_Zqof (hts _ q_gv5.1) (hts _ q_gv5.2.2) (hs _ q_gv1.1) (fun a h => Nat.not_le.mpr h), vx_Zqof (hts _ q_gv5.2.1) (hts _ q_gv5.2.2) (hs _ q_gv1.2) (fun a h => Nat.not_le.mpr h), fun w hw => ?_, fun q hq => ?_, fun q hq => ?_, hAOw⟩
    · exact va_Nw.of (q_nk_ot (List.all_eq_true.mp q_NW_nk w hw)) (hts _ (q_NW_in w hw))
    · exact va_Nc.of (hs _ (q_gv2 q hq))
    · obtain ⟨a, -, -, -, h1, -⟩ := Cond.exactly_spec (args := #[Value.ref b]) (first := s) (o := none) (s := s) (idx := []) (hs _ (q_gv3 q hq))
      exact ⟨a, vk_R.of (A := #[Value.ref b]) (hts _ (q_gv4 q hq)) h1⟩
  obtain ⟨e1, e2, e3, e4, e5, e6, e7, e8, e9⟩ := q_code110
  have hst : l.stackTraces = false := by
    unfold Launch.stackTraces
    rw [hflags]
    decide +kernel
  have C : qCx p l s m #[Value.ref b] meth c room_1 110 lw_tbl CA (fun ci => (F ci).1, fun ci => (F ci).2) (fun q : Nat => s.heap.size ≤ q) :=
    ⟨⟨hx, by rw [hb, e1], by rw [hml, e2], by rw [e4]; exact hown⟩, ⟨hts, hgw⟩, ⟨by rw [hr, e3], hlocks, fun hq => absurd hq (by decide +kernel), fun hq => absurd hq (by decide +kernel)⟩, ⟨e6.symm, e7.symm, e8.symm, e9.symm⟩, ⟨hst, hK, fun q h => h, hXB⟩⟩
  rw [lg_entry_eq]
  have hl := qloc_ok (ad := fun _ => b) (j := 110) (vs := [.ref qSCR]) (by decide)
  refine q_all f (some (L, xs)) 110 0 0 0 (qloc 110 [.ref qSCR]) [] [] _ M' hrun p l e room_1 s m #[Value.ref b] below meth c lw_tbl CA _ _ C (fun _ => b) s.heap [] _ _ ⟨hX, hbl, Nat.not_le.mpr hbl, by omega⟩ (fun k q h => by simp [qW] at h) ⟨fun i j p q h => by simp [qW] at h, fun k q h => by simp [qW] at h⟩ va_S.rf hl (Nat.zero_le _) (Nat.zero_le _) ?_ ?_
  · intro v pc' x ad' H' locs' ls' k' n' hr9 hcode hkd hret h1 h2 h3 h4 h5 h6 h7 h8
    cases hr9
    refine va_forget (fun q hq => h6.2.2 q hq) ?_
    refine W.widen (k := 600086) (n := 7301442) h7 h8 ?_
    refine W.base ?_
    exact lw_ret (Drawn.sameBut.refl s.drawn lw_cs) hx hb hr hlocks (q_retl hcode hkd hret rfl)
  · intro e9 pc' idx x st' ad' H' locs' ls' k' n' hr9
    cases hr9
end
section
/-! the small machine's runs as a judgement: from a frame, it ends so that Q -/
theorem q_execc {f j : Nat} {scr : qScr} {F : qF} {x : qX} (hcode : q_code j F.1 = some x) (hkd : q_kd x.1 = 1) :
    q_exec (f + 1) scr j F = (match q_call x F.2.2.1 with
        | none => none
        | some (a, args, rest) => if 900 ≤ a then (match q_lib a args with
            | none => none
            | some r => q_exec f scr j (F.1 + 3, F.2.1, r ++ rest, F.2.2.2.1, F.2.2.2.2.1, F.2.2.2.2.2))
          else if q_rcv F.2.2.2.1 x.2.2.2.2 a args = true ∧ F.2.2.2.2.1 + q_mc a ≤ q_mc j ∧ F.2.2.2.2.2 + q_ms a ≤ q_ms j ∧ (q_al a = true → q_al j = true ∧ qscL F.2.2.2.1.length F.2.1 = true ∧ qscS F.2.2.2.1.length rest = true) ∧ (qexp args).length ≤ q_mL a then
            match q_exec f (q_scp a scr) a (0, qloc a args, [], F.2.2.2.1, 0, 0) with
            | none => none
            | some (.inl v, M') => q_exec f scr j (F.1 + 3, F.2.1, v.toList ++ rest, M', F.2.2.2.2.1 + q_mc a, F.2.2.2.2.2 + q_ms a)
            | some (.inr e, M') => match q_hnd j F.1 e with
              | none => none
              | some (h, p) => if p < F.2.1.length then q_exec f scr j (h, qset1 F.2.1 p none, [], M', F.2.2.2.2.1 + q_mc a, F.2.2.2.2.2 + q_ms a) else none
          else none) := by
  rw [q_exec]
  simp only [hcode, hkd]
  rfl
theorem q_execr {f j : Nat} {scr : qScr} {F : qF} {x : qX} (hcode : q_code j F.1 = some x) (hkd : q_kd x.1 = 2) :
    q_exec (f + 1) scr j F = (match q_ret j x.1 F.2.2.1 with
        | none => none
        | some v => some (.inl v, F.2.2.2.1)) := by
  rw [q_exec]
  simp only [hcode, hkd]
  rfl
theorem q_kd3 (i : Instr) : q_kd i = 0 ∨ q_kd i = 1 ∨ q_kd i = 2 := by
  unfold q_kd
  split <;> simp
theorem q_mono1 : ∀ (f : Nat) (scr : qScr) (j : Nat) (F : qF) (z : qR × qM), q_exec f scr j F = some z → q_exec (f + 1) scr j F = some z := by
  intro f
  induction f with
  | zero =>
    intro scr j F z h
    exact absurd (show (none : Option (qR × qM)) = some z from h) (fun q => by cases q)
  | succ f ih =>
    intro scr j F z h
    cases hc : q_code j F.1 with
    | none =>
      rw [q_exec] at h
      simp only [hc] at h
      cases h
    | some x =>
      rcases q_kd3 x.1 with hk | hk | hk
      · obtain ⟨pc, L, st, M, k, n⟩ := F
        rw [q_exec0 hc hk] at h ⊢
        by_cases hth : 1000 ≤ x.2.2.1 ∧ x.2.2.1 < 1005 ∧ q_isn x.1 = true
        · rw [if_pos hth] at h ⊢
          exact h
        · rw [if_neg hth] at h ⊢
          cases hs : q_step scr j x (pc, L, st, M, k, n) with
          | none => rw [hs] at h; cases h
          | some F' =>
            rw [hs] at h
            exact ih _ _ _ _ h
      · rw [q_execc hc hk] at h ⊢
        cases hcl : q_call x F.2.2.1 with
        | none => rw [hcl] at h; cases h
        | some y =>
          obtain ⟨a, as, rest⟩ := y
          rw [hcl] at h
          simp only at h ⊢
          by_cases ha : 900 ≤ a
          · rw [if_pos ha] at h ⊢
            cases hl : q_lib a as with
            | none => rw [hl] at h; cases h
            | some r =>
              rw [hl] at h
              exact ih _ _ _ _ h
          · rw [if_neg ha] at h ⊢
            obtain ⟨hg, h⟩ : (q_rcv F.2.2.2.1 x.2.2.2.2 a as = true ∧ F.2.2.2.2.1 + q_mc a ≤ q_mc j ∧ F.2.2.2.2.2 + q_ms a ≤ q_ms j ∧ (q_al a = true → q_al j = true ∧ qscL F.2.2.2.1.length F.2.1 = true ∧ qscS F.2.2.2.1.length rest = true) ∧ (qexp as).length ≤ q_mL a) ∧ (match q_exec f (q_scp a scr) a (0, qloc a as, [], F.2.2.2.1, 0, 0) with
              | none => none
              | some (.inl v, M') => q_exec f scr j (F.1 + 3, F.2.1, v.toList ++ rest, M', F.2.2.2.2.1 + q_mc a, F.2.2.2.2.2 + q_ms a)
              | some (.inr e, M') => match q_hnd j F.1 e with
                | none => none
                | some (h, p) => if p < F.2.1.length then q_exec f scr j (h, qset1 F.2.1 p none, [], M', F.2.2.2.2.1 + q_mc a, F.2.2.2.2.2 + q_ms a) else none) = some z := by
              by_cases hg : q_rcv F.2.2.2.1 x.2.2.2.2 a as = true ∧ F.2.2.2.2.1 + q_mc a ≤ q_mc j ∧ F.2.2.2.2.2 + q_ms a ≤ q_ms j ∧ (q_al a = true → q_al j = true ∧ qscL F.2.2.2.1.length F.2.1 = true ∧ qscS F.2.2.2.1.length rest = true) ∧ (qexp as).length ≤ q_mL a
              · rw [if_pos hg] at h
                exact ⟨hg, h⟩
              · rw [if_neg hg] at h
                cases h
            rw [if_pos hg]
            cases hcal : q_exec f (q_scp a scr) a (0, qloc a as, [], F.2.2.2.1, 0, 0) with
            | none => rw [hcal] at h; cases h
            | some y =>
              have hcal2 := ih _ _ _ _ hcal
              obtain ⟨r0, M1⟩ := y
              rw [hcal] at h
              rw [hcal2]
              cases r0 with
              | inl v => exact ih _ _ _ _ h
              | inr e0 =>
                simp only at h ⊢
                cases hh : q_hnd j F.1 e0 with
                | none => rw [hh] at h; cases h
                | some y =>
                  obtain ⟨h9, p9⟩ := y
                  rw [hh] at h
                  simp only at h ⊢
                  by_cases hp9 : p9 < F.2.1.length
                  · rw [if_pos hp9] at h ⊢
                    exact ih _ _ _ _ h
                  · rw [if_neg hp9] at h
                    cases h
      · rw [q_execr hc hk] at h ⊢
        exact h
theorem q_mono {f f' : Nat} (hf : f ≤ f') {scr : qScr} {j : Nat} {F : qF} {z : qR × qM} (h : q_exec f scr j F = some z) : q_exec f' scr j F = some z := by
  induction hf with
  | refl => exact h
  | step _ ih => exact q_mono1 _ _ _ _ _ ih
theorem q_det {f f' : Nat} {scr : qScr} {j : Nat} {F : qF} {z z' : qR × qM} (h : q_exec f scr j F = some z) (h' : q_exec f' scr j F = some z') : z = z' := by
  have h1 := q_mono (Nat.le_max_left f f') h
  have h2 := q_mono (Nat.le_max_right f f') h'
  exact Option.some.inj (h1.symm.trans h2)
def qG (scr : qScr) (j : Nat) (F : qF) (Q : qR → qM → Prop) : Prop := ∃ (f : Nat) (r : qR) (M' : qM), q_exec f scr j F = some (r, M') ∧ Q r M'
/-- methods but the law -/
def g (j pc : Nat) (L : qL) (st : List Value) (M : qM) (k n : Nat) (Q : qR → qM → Prop) : Prop := qG none j (pc, L, st, M, k, n) Q
/-- a call -/
def cl (a : Nat) (as : List Value) (M : qM) (Q : qR → qM → Prop) : Prop := g a 0 (qloc a as) [] M 0 0 Q
def qOb {α : Type} (o : Option α) (K : α → Prop) : Prop := ∃ v, o = some v ∧ K v
theorem qOb_some {α : Type} {v : α} {K : α → Prop} : qOb (some v) K ↔ K v := ⟨fun ⟨w, h1, h2⟩ => by cases h1; exact h2, fun h => ⟨v, rfl, h⟩⟩
theorem qOb_eq {α : Type} {o : Option α} {v : α} {K : α → Prop} (h : o = some v) : qOb o K ↔ K v := by rw [h]; exact qOb_some
theorem qG_mono {scr : qScr} {j : Nat} {F : qF} {Q Q' : qR → qM → Prop} (h : qG scr j F Q) (hq : ∀ r M', Q r M' → Q' r M') : qG scr j F Q' := by
  obtain ⟨f, r, M', h1, h2⟩ := h
  exact ⟨f, r, M', h1, hq r M' h2⟩
theorem cl_mono {a : Nat} {as : List Value} {M : qM} {Q Q' : qR → qM → Prop} (h : cl a as M Q) (hq : ∀ r M', Q r M' → Q' r M') : cl a as M Q' := qG_mono h hq
theorem g_mono {j pc : Nat} {L : qL} {st : List Value} {M : qM} {k n : Nat} {Q Q' : qR → qM → Prop} (h : g j pc L st M k n Q) (hq : ∀ r M', Q r M' → Q' r M') : g j pc L st M k n Q' := qG_mono h hq
theorem qG_step {scr : qScr} {j pc k n : Nat} {L : qL} {st : List Value} {M : qM} {x : qX} {Q : qR → qM → Prop} (hc : q_code j pc = some x) (hk : q_kd x.1 = 0) (ht : q_isn x.1 = false ∨ x.2.2.1 < 1000) : qG scr j (pc, L, st, M, k, n) Q ↔ qOb (q_step scr j x (pc, L, st, M, k, n)) (fun F => qG scr j F Q) := by
  have hnt : ¬ (1000 ≤ x.2.2.1 ∧ x.2.2.1 < 1005 ∧ q_isn x.1 = true) := by
    rintro ⟨h1, h2, h3⟩
    rcases ht with ht | ht
    · rw [ht] at h3; cases h3
    · omega
  constructor
  · rintro ⟨f, r, M', h1, h2⟩
    cases f with
    | zero => exact absurd (show (none : Option (qR × qM)) = some (r, M') from h1) (fun q => by cases q)
    | succ f =>
      rw [q_exec0 hc hk, if_neg hnt] at h1
      cases hs : q_step scr j x (pc, L, st, M, k, n) with
      | none => rw [hs] at h1; cases h1
      | some F' =>
        rw [hs] at h1
        exact ⟨F', rfl, f, r, M', h1, h2⟩
  · rintro ⟨F', hs, f, r, M', h1, h2⟩
    refine ⟨f + 1, r, M', ?_, h2⟩
    rw [q_exec0 hc hk, if_neg hnt, hs]
    exact h1
theorem g_go {j pc k n pc' k' n' : Nat} {L L' : qL} {st st' : List Value} {M M' : qM} {x : qX} {Q : qR → qM → Prop} (hc : q_code j pc = some x) (hk : q_kd x.1 = 0) (ht : q_isn x.1 = false) (hs : q_step none j x (pc, L, st, M, k, n) = some (pc', L', st', M', k', n')) : g j pc L st M k n Q ↔ g j pc' L' st' M' k' n' Q :=
  (qG_step hc hk (Or.inl ht)).trans (qOb_eq hs)
theorem qOb_map {α β : Type} {o : Option α} {f : α → β} {K : β → Prop} : qOb (o.map f) K ↔ qOb o (fun v => K (f v)) := by
  cases o with
  | none =>
    constructor
    · rintro ⟨v, h, -⟩
      cases h
    · rintro ⟨v, h, -⟩
      cases h
  | some v => rw [Option.map_some, qOb_some, qOb_some]
theorem g_op {α : Type} {j pc k n : Nat} {L : qL} {st : List Value} {M : qM} {x : qX} {Q : qR → qM → Prop} {o : Option α} {fF : α → qF} (hc : q_code j pc = some x) (hk : q_kd x.1 = 0) (ht : q_isn x.1 = false) (hs : q_step none j x (pc, L, st, M, k, n) = o.map fF) : g j pc L st M k n Q ↔ qOb o (fun v => qG none j (fF v) Q) := by
  refine (qG_step hc hk (Or.inl ht)).trans ?_
  rw [hs]
  exact qOb_map
theorem g_br {j pc k n t : Nat} {L : qL} {st st' : List Value} {M : qM} {x : qX} {Q : qR → qM → Prop} {cnd : Prop} {dc : Decidable cnd} (hc : q_code j pc = some x) (hk : q_kd x.1 = 0) (ht : q_isn x.1 = false) (hs : q_step none j x (pc, L, st, M, k, n) = some (if decide cnd = true then t else pc + 3, L, st', M, k, n)) : g j pc L st M k n Q ↔ ((cnd → g j t L st' M k n Q) ∧ (¬ cnd → g j (pc + 3) L st' M k n Q)) := by
  refine (g_go hc hk ht hs).trans ?_
  by_cases h : cnd
  · simp [h]
  · simp [h]
theorem g_if {j pc k n pc' : Nat} {L L' : qL} {st st' : List Value} {M : qM} {x : qX} {Q : qR → qM → Prop} {cnd : Prop} {dc : Decidable cnd} (hc : q_code j pc = some x) (hk : q_kd x.1 = 0) (ht : q_isn x.1 = false) (hs : q_step none j x (pc, L, st, M, k, n) = ((if cnd then none else some st').map (fun s => (pc', L', s, M, k, n)))) : g j pc L st M k n Q ↔ (¬ cnd ∧ g j pc' L' st' M k n Q) := by
  refine (qG_step hc hk (Or.inl ht)).trans ?_
  rw [hs]
  by_cases h : cnd
  · simp only [h, if_true, not_true_eq_false, false_and, iff_false]
    rintro ⟨F, h1, -⟩
    cases h1
  · simp only [h, if_false, not_false_eq_true, true_and, Option.map_some]
    exact qOb_some
/-- what goes on behind a call -/
def kr (j pc : Nat) (L : qL) (rest : List Value) (k n : Nat) (Q : qR → qM → Prop) : qR → qM → Prop := fun r M' => match r with
  | .inl v => g j (pc + 3) L (v.toList ++ rest) M' k n Q
  | .inr e0 => match q_hnd j pc e0 with
    | some (h, p) => p < L.length ∧ g j h (qset1 L p none) [] M' k n Q
    | none => False
theorem kr_v {j pc : Nat} {L : qL} {rest : List Value} {k n : Nat} {Q : qR → qM → Prop} {v : Value} {M' : qM} : kr j pc L rest k n Q (.inl (some v)) M' ↔ g j (pc + 3) L (v :: rest) M' k n Q := Iff.rfl
theorem kr_n {j pc : Nat} {L : qL} {rest : List Value} {k n : Nat} {Q : qR → qM → Prop} {M' : qM} : kr j pc L rest k n Q (.inl none) M' ↔ g j (pc + 3) L rest M' k n Q := Iff.rfl
theorem q_scp_none {a : Nat} : q_scp a none = none := by
  unfold q_scp
  split <;> rfl
theorem g_cl {j pc k n a : Nat} {L : qL} {st as rest : List Value} {M : qM} {x : qX} {Q : qR → qM → Prop} (hc : q_code j pc = some x) (hk : q_kd x.1 = 1) (hcl : q_call x st = some (a, as, rest)) (ha : a < 900) (h0 : q_al a = false) (hk2 : k + q_mc a ≤ q_mc j) (hn2 : n + q_ms a ≤ q_ms j) (hl : (qexp as).length ≤ q_mL a) :
    g j pc L st M k n Q ↔ (q_rcv M x.2.2.2.2 a as = true ∧ cl a as M (kr j pc L rest (k + q_mc a) (n + q_ms a) Q)) := by
  have key : ∀ f, q_exec (f + 1) none j (pc, L, st, M, k, n) = if q_rcv M x.2.2.2.2 a as = true then (match q_exec f none a (0, qloc a as, [], M, 0, 0) with
      | none => none
      | some (.inl v, M') => q_exec f none j (pc + 3, L, v.toList ++ rest, M', k + q_mc a, n + q_ms a)
      | some (.inr e, M') => match q_hnd j pc e with
        | none => none
        | some (h, p) => if p < L.length then q_exec f none j (h, qset1 L p none, [], M', k + q_mc a, n + q_ms a) else none) else none := by
    intro f
    rw [q_execc hc hk]
    simp only [hcl, q_scp_none]
    rw [if_neg (Nat.not_le.mpr ha)]
    by_cases hr : q_rcv M x.2.2.2.2 a as = true
    · rw [if_pos ⟨hr, hk2, hn2, (fun q => by rw [h0] at q; cases q), hl⟩, if_pos hr]
    · rw [if_neg (fun q => hr q.1), if_neg hr]
  constructor
  · rintro ⟨f, r, M', h1, h2⟩
    cases f with
    | zero => exact absurd (show (none : Option (qR × qM)) = some (r, M') from h1) (fun q => by cases q)
    | succ f =>
      rw [key] at h1
      by_cases hr : q_rcv M x.2.2.2.2 a as = true
      · rw [if_pos hr] at h1
        refine ⟨hr, ?_⟩
        cases hcal : q_exec f none a (0, qloc a as, [], M, 0, 0) with
        | none => rw [hcal] at h1; cases h1
        | some y =>
          obtain ⟨r0, M1⟩ := y
          rw [hcal] at h1
          refine ⟨f, r0, M1, hcal, ?_⟩
          cases r0 with
          | inl v => exact ⟨f, r, M', h1, h2⟩
          | inr e0 =>
            simp only at h1
            show match q_hnd j pc e0 with
              | some (h, p) => p < L.length ∧ g j h (qset1 L p none) [] M1 (k + q_mc a) (n + q_ms a) Q
              | none => False
            cases hh : q_hnd j pc e0 with
            | none => rw [hh] at h1; cases h1
            | some y =>
              obtain ⟨h9, p9⟩ := y
              rw [hh] at h1
              simp only at h1 ⊢
              split at h1
              · rename_i hp9
                exact ⟨hp9, f, r, M', h1, h2⟩
              · cases h1
      · rw [if_neg hr] at h1
        cases h1
  · rintro ⟨hr, f1, r0, M1, h1, h2⟩
    cases r0 with
    | inl v =>
      obtain ⟨f2, r, M', h3, h4⟩ := h2
      refine ⟨max f1 f2 + 1, r, M', ?_, h4⟩
      rw [key, if_pos hr, q_mono (Nat.le_max_left f1 f2) h1]
      exact q_mono (Nat.le_max_right f1 f2) h3
    | inr e0 =>
      have h2 : match q_hnd j pc e0 with
        | some (h, p) => p < L.length ∧ g j h (qset1 L p none) [] M1 (k + q_mc a) (n + q_ms a) Q
        | none => False := h2
      cases hh : q_hnd j pc e0 with
      | none => rw [hh] at h2; exact h2.elim
      | some y =>
        obtain ⟨h9, p9⟩ := y
        rw [hh] at h2
        obtain ⟨hp9, f2, r, M', h3, h4⟩ := h2
        refine ⟨max f1 f2 + 1, r, M', ?_, h4⟩
        rw [key, if_pos hr, q_mono (Nat.le_max_left f1 f2) h1]
        simp only [hh]
        rw [if_pos hp9]
        exact q_mono (Nat.le_max_right f1 f2) h3
theorem g_rt {j pc k n : Nat} {L : qL} {st : List Value} {M : qM} {x : qX} {Q : qR → qM → Prop} {v : Option Value} (hc : q_code j pc = some x) (hk : q_kd x.1 = 2) (hr : q_ret j x.1 st = some v) : g j pc L st M k n Q ↔ Q (.inl v) M := by
  have key : ∀ f, q_exec (f + 1) none j (pc, L, st, M, k, n) = some (.inl v, M) := by
    intro f
    rw [q_execr hc hk]
    simp only [hr]
  constructor
  · rintro ⟨f, r, M', h1, h2⟩
    cases f with
    | zero => exact absurd (show (none : Option (qR × qM)) = some (r, M') from h1) (fun q => by cases q)
    | succ f =>
      rw [key] at h1
      cases h1
      exact h2
  · intro h
    exact ⟨1, _, _, key 0, h⟩
theorem g_rti {j pc k n : Nat} {L : qL} {st : List Value} {M : qM} {x : qX} {Q : qR → qM → Prop} {cnd : Prop} {dc : Decidable cnd} {v : Option Value} (hc : q_code j pc = some x) (hk : q_kd x.1 = 2) (hr : q_ret j x.1 st = if cnd then some v else none) : g j pc L st M k n Q ↔ (cnd ∧ Q (.inl v) M) := by
  by_cases h : cnd
  · rw [if_pos h] at hr
    rw [g_rt hc hk hr]
    simp [h]
  · rw [if_neg h] at hr
    simp only [h, false_and, iff_false]
    rintro ⟨f, r, M', h1, h2⟩
    cases f with
    | zero => exact absurd (show (none : Option (qR × qM)) = some (r, M') from h1) (fun q => by cases q)
    | succ f =>
      rw [q_execr hc hk] at h1
      simp only [hr] at h1
      cases h1
theorem g_th {j pc e0 : Nat} {L : qL} {M : qM} {x : qX} {Q : qR → qM → Prop} (hc : q_code j pc = some x) (hk : q_kd x.1 = 0) (hi : q_isn x.1 = true) (ha : x.2.2.1 = 1000 + e0) (he : e0 < 5) (h1 : 1 ≤ q_mc j) (h2 : 6 ≤ q_ms j) : g j pc L [] M 0 0 Q ↔ Q (.inr e0) M := by
  have key : ∀ f, q_exec (f + 1) none j (pc, L, [], M, 0, 0) = some (.inr e0, M) := by
    intro f
    rw [q_exec0 hc hk, if_pos ⟨by omega, by omega, hi⟩, if_pos ⟨by omega, by omega, by simp⟩, ha, Nat.add_sub_cancel_left]
  constructor
  · rintro ⟨f, r, M', h1, h2⟩
    cases f with
    | zero => exact absurd (show (none : Option (qR × qM)) = some (r, M') from h1) (fun q => by cases q)
    | succ f =>
      rw [key] at h1
      cases h1
      exact h2
  · intro h
    exact ⟨1, _, _, key 0, h⟩
theorem qinv_i {x : Int32} : qinv (some (.int x)) = some (.int x) := rfl
theorem qinv_r {x : Nat} : qinv (some (.ref x)) = some (.ref x) := rfl
theorem qinv_0 : qinv none = none := rfl
theorem qinv_l {x : Int64} : qinv (some (.long x)) = none := rfl
theorem qinv_d {x : UInt64} : qinv (some (.double x)) = none := rfl
theorem qinv_f {x : UInt32} : qinv (some (.float x)) = some (.float x) := rfl
end
section
/-! more forms of the judgement's rows -/
theorem g_goi {j pc k n pc' k' n' : Nat} {L L' : qL} {st st' : List Value} {M M' : qM} {x : qX} {Q : qR → qM → Prop} {v v' : Int32} (hc : q_code j pc = some x) (hk : q_kd x.1 = 0) (ht : q_isn x.1 = false) (hs : q_step none j x (pc, L, st, M, k, n) = some (pc', L', .int v :: st', M', k', n')) (hv : v = v') : g j pc L st M k n Q ↔ g j pc' L' (.int v' :: st') M' k' n' Q := by
  subst hv
  exact g_go hc hk ht hs
theorem g_brn {j pc k n t : Nat} {L : qL} {st st' : List Value} {M : qM} {x : qX} {Q : qR → qM → Prop} {cnd : Prop} {dc : Decidable cnd} (hc : q_code j pc = some x) (hk : q_kd x.1 = 0) (ht : q_isn x.1 = false) (hs : q_step none j x (pc, L, st, M, k, n) = some (if decide (¬ cnd) = true then t else pc + 3, L, st', M, k, n)) : g j pc L st M k n Q ↔ ((cnd → g j (pc + 3) L st' M k n Q) ∧ (¬ cnd → g j t L st' M k n Q)) := by
  refine (g_go hc hk ht hs).trans ?_
  by_cases h : cnd
  · simp [h]
  · simp [h]
def qcls (M : qM) (o ci : Nat) : Prop := (match M[o]? with
  | some (.inr (c, _)) => decide (c = ci)
  | _ => false) = true
theorem qcls_of {M : qM} {o ci : Nat} {fs : List Value} (h : M[o]? = some (.inr (ci, fs))) : qcls M o ci ↔ True := by
  unfold qcls
  rw [h]
  simp
theorem qget_of {M : qM} {o ci k : Nat} {fs : List Value} (h : M[o]? = some (.inr (ci, fs))) : qget M o ci k = fs[k]? := by
  unfold qget
  rw [h]
  simp
theorem qput_of {M : qM} {o ci k : Nat} {fs : List Value} {v : Value} (h : M[o]? = some (.inr (ci, fs))) : qput M o ci k v = if k < fs.length ∧ q_fit (q_ty ci k) v = true then some (M.set o (.inr (ci, fs.set k v))) else none := by
  unfold qput
  rw [h]
  simp
theorem g_cls {j pc a c1 c2 : Nat} {L : qL} {st as rest : List Value} {M : qM} {x : qX} {Q : qR → qM → Prop} (hc : q_code j pc = some x) (hk : q_kd x.1 = 1) (hcl : q_call x st = some (a, as, rest)) (ha : a < 900) (h0 : q_al a = false) (hr : q_rcv M x.2.2.2.2 a as = true) (e1 : q_mc a = c1) (e2 : q_ms a = c2) (hk2 : c1 ≤ q_mc j) (hn2 : c2 ≤ q_ms j) (hl : (qexp as).length ≤ q_mL a) :
    g j pc L st M 0 0 Q ↔ cl a as M (kr j pc L rest c1 c2 Q) := by
  subst e1; subst e2
  rw [g_cl hc hk hcl ha h0 (by omega) (by omega) hl, Nat.zero_add, Nat.zero_add]
  exact ⟨fun h => h.2, fun h => ⟨hr, h⟩⟩
theorem g_clv {j pc a c1 c2 o ci : Nat} {L : qL} {st as rest : List Value} {M : qM} {x : qX} {Q : qR → qM → Prop} (hc : q_code j pc = some x) (hk : q_kd x.1 = 1) (hcl : q_call x st = some (a, .ref o :: as, rest)) (ha : a < 900) (h0 : q_al a = false) (hx : x.2.2.2.2 = 0) (hci : q_oc a = ci) (e1 : q_mc a = c1) (e2 : q_ms a = c2) (hk2 : c1 ≤ q_mc j) (hn2 : c2 ≤ q_ms j) (hl : (qexp (.ref o :: as)).length ≤ q_mL a) :
    g j pc L st M 0 0 Q ↔ (qcls M o ci ∧ cl a (.ref o :: as) M (kr j pc L rest c1 c2 Q)) := by
  subst e1; subst e2; subst hci
  rw [g_cl hc hk hcl ha h0 (by omega) (by omega) hl, Nat.zero_add, Nat.zero_add, hx]
  rfl
theorem g_divD {j pc k n pc' : Nat} {L : qL} {st : List Value} {M : qM} {x : qX} {Q : qR → qM → Prop} {a b : Int32} (hc : q_code j pc = some x) (hk : q_kd x.1 = 0) (ht : q_isn x.1 = false) (hs : q_step none j x (pc, L, .int b :: .int a :: st, M, k, n) = ((if b = 0 then none else some (Value.int (a / b))).map (fun v => v :: st)).map (fun s => (pc', L, s, M, k, n))) : g j pc L (.int b :: .int a :: st) M k n Q ↔ (¬ b = 0 ∧ g j pc' L (.int (a / b) :: st) M k n Q) := by
  refine (qG_step hc hk (Or.inl ht)).trans ?_
  rw [hs]
  by_cases h : b = 0
  · simp only [h, if_true, not_true_eq_false, false_and, iff_false]
    rintro ⟨F, h1, -⟩
    cases h1
  · simp only [h, if_false, not_false_eq_true, true_and, Option.map_some]
    exact qOb_some
theorem g_divR {j pc k n pc' : Nat} {L : qL} {st : List Value} {M : qM} {x : qX} {Q : qR → qM → Prop} {a b : Int32} (hc : q_code j pc = some x) (hk : q_kd x.1 = 0) (ht : q_isn x.1 = false) (hs : q_step none j x (pc, L, .int b :: .int a :: st, M, k, n) = ((if b = 0 then none else some (Value.int (a - a / b * b))).map (fun v => v :: st)).map (fun s => (pc', L, s, M, k, n))) : g j pc L (.int b :: .int a :: st) M k n Q ↔ (¬ b = 0 ∧ g j pc' L (.int (a - a / b * b) :: st) M k n Q) := by
  refine (qG_step hc hk (Or.inl ht)).trans ?_
  rw [hs]
  by_cases h : b = 0
  · simp only [h, if_true, not_true_eq_false, false_and, iff_false]
    rintro ⟨F, h1, -⟩
    cases h1
  · simp only [h, if_false, not_false_eq_true, true_and, Option.map_some]
    exact qOb_some
theorem g_fp {j pc k n pc' : Nat} {L : qL} {st st' : List Value} {M : qM} {x : qX} {Q : qR → qM → Prop} {cnd : Prop} {dc : Decidable cnd} {v : Value} (hc : q_code j pc = some x) (hk : q_kd x.1 = 0) (ht : q_isn x.1 = false) (hs : q_step none j x (pc, L, st, M, k, n) = ((if cnd then some v else none).map (fun v => v :: st')).map (fun s => (pc', L, s, M, k, n))) : g j pc L st M k n Q ↔ (cnd ∧ g j pc' L (v :: st') M k n Q) := by
  refine (qG_step hc hk (Or.inl ht)).trans ?_
  rw [hs]
  by_cases h : cnd
  · simp only [h, if_true, true_and, Option.map_some]
    exact qOb_some
  · simp only [h, if_false, false_and, iff_false]
    rintro ⟨F, h1, -⟩
    cases h1
end
