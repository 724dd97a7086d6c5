/-! a method's contract, out of what the small machine ends with -/
theorem q_nk_ot {w : Cond} (h : q_nk w = true) : w.onTables = true := by
  cases w <;> first | rfl | exact absurd (show false = true from h) (by decide)
theorem q_th_spec {j pc e9 : Nat} (h : q_isth j pc e9 = true) : ∃ (ik si ic w i1 i2 : Nat) (tx : String), ((j, pc), (e9, ik, si, ic), w, i1, i2, tx) ∈ q_th ∧ q_thB ((j, pc), (e9, ik, si, ic), w, i1, i2, tx) = true := by
  obtain ⟨q, hq, h1⟩ := List.any_eq_true.mp h
  simp only [Bool.and_eq_true, beq_iff_eq] at h1
  have h2 := List.all_eq_true.mp q_th_ok q hq
  obtain ⟨⟨j', pc'⟩, ⟨e', ik, si, ic⟩, w, i1, i2, tx⟩ := q
  obtain ⟨e1, e2, e3⟩ := h1
  simp only at e1 e2 e3
  subst e1; subst e2; subst e3
  exact ⟨ik, si, ic, w, i1, i2, tx, hq, h2⟩
theorem q_ic_spec {j pc e9 ik si ic w i1 i2 : Nat} {tx : String} (h : ((j, pc), (e9, ik, si, ic), w, i1, i2, tx) ∈ q_th) : (∀ z ∈ q_atw ic e9, z ∈ q_GW ∨ z ∈ q_NW) ∧ (∀ z ∈ Cond.classLink (q_rn 9) ik (q_x e9) :: Cond.initialized (q_x e9) :: q_atw ic e9, vx_ot z = true) := by
  have h1 := of_decide_eq_true (List.all_eq_true.mp q_ic_in (ic, e9) (List.mem_map.mpr ⟨_, h, rfl⟩))
  obtain ⟨⟨a, b, l⟩, hq, he⟩ := List.mem_map.mp h1
  obtain ⟨rfl, rfl⟩ : ic = a ∧ e9 = b := by
    simp only [Prod.mk.injEq] at he
    exact ⟨he.1.symm, he.2.symm⟩
  have h2 := List.all_eq_true.mp q_ic_ok _ hq
  have h3 := List.all_eq_true.mp q_ic_ot _ hq
  have h4 := List.all_eq_true.mp q_th_ot _ h
  simp only [Bool.and_eq_true, decide_eq_true_eq] at h2 h4
  refine ⟨fun z hz => ?_, fun z hz => ?_⟩
  · obtain ⟨i, hi⟩ := List.getElem?_of_mem hz
    have hil := (List.getElem?_eq_some_iff.mp hi).1
    have hil2 : i < l.length := by
      have := h2.1
      omega
    have hz2 : (z, l[i]) ∈ (q_atw ic e9).zip l := by
      refine List.mem_of_getElem? (i := i) ?_
      rw [List.getElem?_zip_eq_some]
      exact ⟨hi, List.getElem?_eq_getElem hil2⟩
    have h5 := List.all_eq_true.mp h2.2 _ hz2
    simp only [Bool.or_eq_true, decide_eq_true_eq] at h5
    rcases h5 with h5 | h5
    · exact Or.inl (q_wat_in h5)
    · exact Or.inr h5
  · rcases List.mem_cons.mp hz with rfl | hz
    · exact h4.1
    · rcases List.mem_cons.mp hz with rfl | hz
      · exact h4.2
      · exact List.all_eq_true.mp h3 z hz
section QH
variable {p : Program} {l : Launch} {e : Env} {R : Room} {s : State} {m : MethodId} {args : Array Value} {below : List Frame} {meth : Method} {c : Code} {H : Heap} {locs : List Loc} {cells slots : Nat}
variable {pc j : Nat} {ls : Array Slot} {Ts : List Cond} {CA : Nat → ClassId} {D : va_G} {A : Nat → Prop}
variable {Qc : Array Value → State → Outcome → State → Prop} {XC : String → State → State → Prop} {free : Addr → Prop}
theorem q_throw (C : qCx p l s m args meth c R j Ts CA D A) {e9 : Nat} {rest : List Value} (h : q_isth j pc e9 = true) (hS : va_S A s.heap H locs) (hsize : ls.size = q_mL j) (hrest : rest.length ≤ 4) (hc : cells + 1 ≤ q_mc j) (hn : slots + 6 ≤ q_ms j)
    (hx : ∀ t : State, s.vm.Alike t.vm → H.size ≤ t.heap.size → (∀ q : Nat, q < H.size → t.heap[q]? = H[q]?) → XC (q_x e9) s t) (hf : ∀ z ∈ locs, free z.base) :
    W p l e R s m args below meth c H locs cells slots (vx_MQ below Qc XC args s (q_mc j) (q_ms j) free) (F0 m pc ls rest) := by
  obtain ⟨⟨hx9, hb, hml, hown⟩, ⟨hts, hgw⟩, ⟨-, hlk, -, htab⟩, ⟨hr1, hr2, hr3, hr4⟩, ⟨hst, hK, hA, hX⟩⟩ := C
  obtain ⟨ik, si, ic, w, i1, i2, tx, hq, hB⟩ := q_th_spec h
  obtain ⟨hat, hot⟩ := q_ic_spec hq
  unfold q_thB at hB
  simp only [Bool.and_eq_true, decide_eq_true_eq] at hB
  obtain ⟨b1, b2, b3, b4, b5, b6, b7, b8, b9, b10⟩ := hB
  rw [b3] at hown
  obtain ⟨x0, x1, x2, x5, xf⟩ := q_rx_ok e9 b1
  obtain ⟨sa, hstr⟩ := hX.2.2.2.2.1 (si, tx) b7
  have hat' : ∀ z ∈ q_atw ic e9, z.before args s = true := by
    intro z hz
    rcases hat z hz with h1 | h1
    · exact hts _ (hgw _ h1)
    · exact va_Nw.use (q_nk_ot (List.all_eq_true.mp q_NW_nk z h1)) (hX.2.2.1 _ h1)
  have hsum := q_cat_sum rest
  have hout : ∀ (d : Nat), ∀ x ∈ c.exceptionTable.toList, covers x d = false := by
    intro d x hx
    rw [htab (Or.inl b3), b4] at hx
    cases hx
  cases w with
  | zero =>
    simp only [Bool.and_eq_true, decide_eq_true_eq] at b10
    obtain ⟨d0, d3, d4, d6, d9⟩ := b10
    exact q_throwX (rx := q_rx e9) (ix := q_ix e9) (Y9 := "java/lang/RuntimeException") (r9 := ["java/lang/Exception"]) (sa := sa) hx9 hb hst hown x0 x1 x2 x5 xf (by decide +kernel) (by decide +kernel) (hts _ (hgw _ (q_wat_in b5))) (hts _ (hgw _ (q_wat_in b6))) hstr hat' hot hX.1 hX.2.1 hS (hsize.trans hml.symm)
      d0 d3 d4 d6 d9 (hout _) (by rw [hr1]; exact b8) (by rw [hr2]; simp only [List.length_cons, List.length_nil]; omega) (by rw [hr3]; exact hc) (by rw [hr4]; exact hn) hlk hx hf hc hn
  | succ w =>
    simp only [Bool.and_eq_true, decide_eq_true_eq] at b10
    obtain ⟨d0, d3, d4, d6, d9⟩ := b10
    exact q_throwXW (rx := q_rx e9) (ix := q_ix e9) (Y9 := "java/lang/RuntimeException") (r9 := ["java/lang/Exception"]) (sa := sa) hx9 hb hst hown x0 x1 x2 x5 xf (by decide +kernel) (by decide +kernel) (hts _ (hgw _ (q_wat_in b5))) (hts _ (hgw _ (q_wat_in b6))) hstr hat' hot hX.1 hX.2.1 hS (hsize.trans hml.symm)
      d0 d3 d4 d6 d9 (hout _) (by rw [hr1]; exact b8) (by rw [hr2]; simp only [List.length_cons, List.length_nil]; omega) (by rw [hr3]; exact hc) (by rw [hr4]; exact hn) hlk hx hf hc hn
/-- the end of a body by a return -/
theorem q_end (C : qCx p l s m args meth c R j Ts CA D A) {x : qX} {v : Option Value} {ad' : Nat → Nat} (hcode : q_code j pc = some x) (hk : q_kd x.1 = 2) (hr : q_ret j x.1 v.toList = some v)
    (hf : ∀ q ∈ locs, free q.base) (hc : cells ≤ q_mc j) (hn : slots ≤ q_ms j)
    (hq : ∀ t : State, t.heap = H → s.WarmedH t.vm → Qc args s (.returned (v.map (qt ad'))) t) :
    W p l e R s m args below meth c H locs cells slots (vx_MQ below Qc XC args s (q_mc j) (q_ms j) free) (F0 m pc ls ((v.map (qt ad')).toList)) := by
  obtain ⟨⟨hx9, hb, hml, hown⟩, -, ⟨hrt, hlk, -, -⟩, -, -⟩ := C
  have hd := q_chk_dec (q_ok hcode).1
  have hlen := (q_ok hcode).1
  have hrc := q_rchk_at hcode
  obtain ⟨i, len, a, b, c9⟩ := x
  simp only at hk hr hd hrc
  refine W.widen hc hn (vx_ret ?_)
  cases i
  case return_ =>
    have hl9 : len = 1 := q_chk_len (by rfl) hlen
    subst hl9
    have hrc : q_rt j = none := of_decide_eq_true hrc
    cases v with
    | none => exact W.vret hx9 hb (hrt.trans hrc) hq hf hd hlk
    | some v => exact absurd (show (none : Option (Option Value)) = some (some v) from hr) (fun q => by cases q)
  case ireturn =>
    have hl9 : len = 1 := q_chk_len (by rfl) hlen
    subst hl9
    cases v with
    | none => exact absurd (show (none : Option (Option Value)) = some none from hr) (fun q => by cases q)
    | some v =>
      cases v with
      | int x =>
        have hr : (match q_rt j with
          | some .int => some (some (Value.int x))
          | some .boolean => if x = 0 ∨ x = 1 then some (some (Value.int x)) else none
          | some .char => if 0 ≤ x ∧ x ≤ 65535 then some (some (Value.int x)) else none
          | _ => none) = some (some (Value.int x)) := hr
        split at hr
        · rename_i h9
          exact W.zret hx9 hb (hrt.trans h9) rfl hq hf hd hlk
        · rename_i h9
          obtain ⟨h1, -⟩ := qif_some hr
          exact W.zret hx9 hb (hrt.trans h9) (by rcases h1 with rfl | rfl <;> rfl) hq hf hd hlk
        · rename_i h9
          obtain ⟨h1, -⟩ := qif_some hr
          exact W.zret hx9 hb (hrt.trans h9) (by
            have := q_char h1.1 h1.2
            rw [vp_nar_char] at this
            show Value.int _ = Value.int x
            rw [this]) hq hf hd hlk
        · cases hr
      | _ => exact absurd hr (by simp [q_ret])
  case lreturn =>
    have hl9 : len = 1 := q_chk_len (by rfl) hlen
    subst hl9
    have hrc : q_rt j = some .long := of_decide_eq_true hrc
    cases v with
    | none => exact absurd (show (none : Option (Option Value)) = some none from hr) (fun q => by cases q)
    | some v =>
      cases v with
      | long x => exact W.lret hx9 hb (hrt.trans hrc) hq hf hd hlk
      | _ => exact absurd hr (by simp [q_ret])
  case freturn =>
    have hl9 : len = 1 := q_chk_len (by rfl) hlen
    subst hl9
    have hrc : q_rt j = some .float := of_decide_eq_true hrc
    cases v with
    | none => exact absurd (show (none : Option (Option Value)) = some none from hr) (fun q => by cases q)
    | some v =>
      cases v with
      | float x => exact W.fret hx9 hb (hrt.trans hrc) hq hf hd hlk
      | _ => exact absurd hr (by simp [q_ret])
  case dreturn =>
    have hl9 : len = 1 := q_chk_len (by rfl) hlen
    subst hl9
    have hrc : q_rt j = some .double := of_decide_eq_true hrc
    cases v with
    | none => exact absurd (show (none : Option (Option Value)) = some none from hr) (fun q => by cases q)
    | some v =>
      cases v with
      | double x => exact W.dret hx9 hb (hrt.trans hrc) hq hf hd hlk
      | _ => exact absurd hr (by simp [q_ret])
  all_goals exact absurd hk (by simp [q_kd])
end QH
theorem q_chk_th {j pc idx e9 : Nat} {x : qX} (h : q_code j pc = some x) (hi : x.1 = .new idx) (ha : x.2.2.1 = 1000 + e9) : q_isth j pc e9 = true := by
  have h1 := (q_ok h).1
  obtain ⟨i, len, a, b, c9⟩ := x
  simp only at hi ha
  subst hi
  subst ha
  unfold q_chk at h1
  simp only [Bool.and_eq_true, Bool.or_eq_true, decide_eq_true_eq] at h1
  rcases h1.2.2 with h2 | h2
  · omega
  · rw [Nat.add_sub_cancel_left] at h2
    exact h2.2
set_option maxHeartbeats 4000000 in
theorem q_met {f : Nat} (hPf : qP f) {l : Launch} (hst : l.stackTraces = false) {j : Nat} (hj : j < 110) {args : List Value} {M M' : qM} {r : qR} {scr : qScr} (hx : q_exec f scr j (0, qloc j args, [], M, 0, 0) = some (r, M')) (hlen : (qexp args).length ≤ q_mL j)
    (CA : Nat → ClassId) (D : va_G) (ad : Nat → Nat) (sz : Nat) : qMt l scr j CA D ad M M' args sz r := by
  obtain ⟨m1, m2, m3, m4, m5, m6, m7, -⟩ := q_m_spec hj
  have body : ∀ (p : Program) (e : Env) (s : State) (m : MethodId) (args9 : Array Value) (below : List Frame) (meth : Method) (c : Code) (s₁ : State), BodyLoose p l (q_y j) (headSpec (q_ws j) (q_rm j)) (q_b j) (q_mL j) (q_rt j) e s m args9 below meth c s₁ → c.maxLocals = q_mL j → c.exceptionTable.toList = tableOf (q_hh j) → qPc scr CA D ad M args sz args9 s →
      W p l e (headSpec (q_ws j) (q_rm j)).room s m args9 below meth c s.heap [] 0 0 (vx_MQ below (qQc CA D j ad M M' sz r) (qXC CA D j ad M M' sz r) args9 s (q_mc j) (q_ms j) (va_A (qW CA ad M) sz)) (entryFrame m args9 (q_mL j)) := by
    intro p e s m args9 below meth c s₁ B hml htab hv
    obtain ⟨rfl, hsz, hP, hK, hD0, hXB, hsc⟩ := hv
    subst hsz
    have hown : s.vm.findClass (q_rn (q_oc j)) = some m.cls := by
      rw [← m3]
      exact findClass_of_methodNamed B.named
    have hA : ∀ q : Nat, s.heap.size ≤ q → va_A (qW CA ad M) s.heap.size q := fun q h => Or.inr h
    have C : qCx p l s m (args.map (qt ad)).toArray meth c (headSpec (q_ws j) (q_rm j)).room j (q_ws j) CA D (va_A (qW CA ad M) s.heap.size) :=
      ⟨⟨B.exec, B.bytes, hml, hown⟩, ⟨atoms_spec (ws := q_ws j) B.pre, fun w hw => List.mem_cons_of_mem _ hw⟩, ⟨B.returns, B.notSynchronized, fun hq => (name_of_methodNamed B.named B.method).1.trans hq, fun _ => htab⟩, ⟨rfl, rfl, rfl, rfl⟩, ⟨hst, hK, hA, hXB⟩⟩
    rw [lg_entry_eq]
    have hl := qloc_ok (ad := ad) hlen
    have hD := hD0.self (sz := s.heap.size)
    refine hPf scr j 0 0 0 (qloc j args) [] M r M' hx p l e _ s m _ below meth c _ CA D _ C ad s.heap [] _ _ hsc hP hD va_S.rf hl (Nat.zero_le _) (Nat.zero_le _) ?_ ?_
    · intro v pc' x ad' H' locs' ls' k' n' hr hcode hkd hret h1 h2 h3 h4 h5 h6 h7 h8
      exact q_end C hcode hkd hret h6.2.2 h7 h8 (fun t ht hW => ⟨⟨v, ad', hr, rfl, h1, h2, h3, by rw [ht]; exact h4, h5⟩, h6.F ht⟩)
    · intro e9 pc' idx x st' ad' H' locs' ls' k' n' hr hcode hi ha hls hst9 h1 h2 h3 h4 h5 h6 h7 h8
      refine q_throw C (q_chk_th hcode hi ha) h6 hls hst9 h7 h8 (fun t hal hsz2 hkeep => ⟨⟨e9, ad', hr, rfl, h1, h2, h3, h4.kept (fun k q hk => hkeep q.1 ((h4 k q hk).lt)), h5⟩, Nat.le_trans h6.1 hsz2, fun q hq hn => ?_⟩) h6.2.2
      rw [hkeep q (Nat.lt_of_lt_of_le hq h6.1)]
      exact h6.2.1 q hq hn
  by_cases hh : q_hh j = []
  · have hw : q_ws j = Cond.code (q_y j) (q_b j) (q_mL j) (q_rt j) :: q_GW := by
      unfold q_ws
      rw [q_word_code hh]
    refine vx_ofW (cc := q_b j) (maxL := q_mL j) (ret := q_rt j) m4 hw ?_
    intro p e s m args9 below meth c s₁ B hml ht hv
    refine body p e s m args9 below meth c s₁ B hml ?_ hv
    rw [hh]
    exact List.eq_nil_iff_forall_not_mem.mpr (fun x hx => ht x hx)
  · have hw : q_ws j = Cond.codeWith (q_y j) (q_b j) (q_mL j) (q_rt j) (q_hh j) :: q_GW := by
      unfold q_ws q_word
      rw [if_neg hh]
    refine vx_ofWH (cc := q_b j) (maxL := q_mL j) (ret := q_rt j) (hh := q_hh j) m4 hw ?_
    intro p e s m args9 below meth c s₁ B hml hv
    refine body p e s m args9 below meth c s₁ B hml ?_ hv
    exact vx_table (x := q_y j) (y := q_y j) (bytes := q_b j) (maxL' := q_mL j) (ret' := q_rt j) B (atoms_spec (ws := q_ws j) B.pre _ (by rw [hw]; exact List.mem_cons_self))
