/-! rows of references: read, written, made -/
theorem qaald_inv {M : qM} {o : Nat} {i : Int32} {v : Value} (h : qaald M o i = some v) : ∃ fs a, M[o]? = some (.inr (11, fs)) ∧ qIn i fs.length = true ∧ fs[i.toNatClampNeg]? = some (.ref a) ∧ v = .ref a := by
  unfold qaald at h
  split at h
  · rename_i c fs hM
    by_cases hc : c = 11 ∧ qIn i fs.length = true
    · rw [if_pos hc] at h
      obtain ⟨rfl, hi⟩ := hc
      split at h
      · rename_i a ha
        cases h
        exact ⟨fs, a, hM, hi, ha, rfl⟩
      · cases h
    · rw [if_neg hc] at h
      cases h
  · cases h
theorem q_isI_inv {M : qM} {a : Nat} (h : q_isI M a = true) : ∃ n f, M[a]? = some (.inl (0, n, .inl f)) := by
  unfold q_isI at h
  split at h
  · rename_i u n f hM
    have := of_decide_eq_true h
    subst this
    exact ⟨n, f, hM⟩
  · cases h
theorem qaast_inv {M M' : qM} {o y : Nat} {i : Int32} (h : qaast M o i y = some M') : ∃ fs n f, M[o]? = some (.inr (11, fs)) ∧ qIn i fs.length = true ∧ M[y]? = some (.inl (0, n, .inl f)) ∧ M' = M.set o (.inr (11, fs.set i.toNatClampNeg (.ref y))) := by
  unfold qaast at h
  split at h
  · rename_i c fs hM
    obtain ⟨⟨rfl, h2, h3⟩, h4⟩ := qif_some h
    obtain ⟨n, f, h5⟩ := q_isI_inv h3
    exact ⟨fs, n, f, hM, h2, h5, h4.symm⟩
  · cases h
theorem qaast_len {M M' : qM} {o y : Nat} {i : Int32} (h : qaast M o i y = some M') : M'.length = M.length := by
  obtain ⟨fs, n, f, -, -, -, rfl⟩ := qaast_inv h
  simp
theorem qmk4_inv {al : Bool} {L : qL} {st st' : List Value} {M M' : qM} (h : qmk4 al L st M = some (st', M')) : al = true ∧ M.length + 4 < qSCR ∧ qscM M.length M = true ∧ qscL M.length L = true ∧ qscS M.length st = true ∧ st' = .ref M.length :: st ∧ M' = M ++ [.inr (11, [.ref (M.length + 1), .ref (M.length + 2), .ref (M.length + 3), .ref (M.length + 4)]), .inl (0, 9, .inl (fun _ => 0)), .inl (0, 9, .inl (fun _ => 0)), .inl (0, 9, .inl (fun _ => 0)), .inl (0, 9, .inl (fun _ => 0))] := by
  unfold qmk4 at h
  obtain ⟨⟨h1, h2, h3, h4, h5⟩, h7⟩ := qif_some h
  cases h7
  exact ⟨h1, h2, h3, h4, h5, rfl, rfl⟩
theorem q_self_assign (vm : Vm) (c : ClassId) : vm.assignable c c = true := by
  have key : ∀ n : Nat, vm.assignableAux (n + 1) c c = true := by
    intro n
    rw [Vm.assignableAux]
    simp
  exact key 255
section QR
variable {p : Program} {l : Launch} {e : Env} {R : Room} {s : State} {m : MethodId} {args : Array Value} {below : List Frame} {meth : Method} {c : Code} {H : Heap} {locs : List Loc} {cells slots : Nat} {Q : State → Prop}
variable {pc j : Nat} {ls : Array Slot} {ad : Nat → Nat} {Ts : List Cond} {CA : Nat → ClassId} {D : va_G} {A : Nat → Prop} {M : qM}
theorem qs_aald (C : qCx p l s m args meth c R j Ts CA D A) (hP : va_P D q_cl (qW CA ad M) H) {o : Nat} {i : Int32} {v : Value} {r : List Value} (h : qaald M o i = some v) (hd : decode (q_b j) pc = .ok (.aaload, 1))
    (k : W p l e R s m args below meth c H locs cells slots Q (F0 m (pc + 1) ls (List.map (qt ad) (v :: r)))) : W p l e R s m args below meth c H locs cells slots Q (F0 m pc ls (List.map (qt ad) (.int i :: .ref o :: r))) := by
  obtain ⟨⟨hx, hb, -, hown⟩, ⟨hts, hgw⟩, -, -, ⟨-, hK, -, hX⟩⟩ := C
  obtain ⟨fs, a, hM, hi, hf, rfl⟩ := qaald_inv h
  have hw : (qW CA ad M)[o]? = some (ad o, .inl (CA 2, fs.length, .inr (.inr (.inr (.inr (qop ad fs)))))) := by rw [qW_at hM, qtE_r]
  have hin := qIn_spec hi
  have hlt : i.toNatClampNeg < fs.length := Nat.not_le.mp fun q => hin (Or.inr q)
  have ev : va_rf (qop ad fs i.toNatClampNeg) = .ref (ad a) := by simp [qop, hf, va_rf]
  refine W.aald (v := va_rf (qop ad fs i.toNatClampNeg)) (ty := .array .int) hx hb (hP o _ hw) ((hK.2 2 _ rfl).1 fs.length (fun j => va_rf (qop ad fs j))) rfl (fun q => by cases q) (by show ¬ (i < 0 ∨ (arrV _ _ _).slots.size ≤ _); rw [arrV_size]; exact hin) (by show (arrV _ _ _).slots[_]? = _; rw [arrV_read _ _ hlt]) rfl rfl hd ?_
  rw [ev]
  exact k
/-- the classes of the rows of ints and of the row of them -/
theorem q_aov (C : qCx p l s m args meth c R j Ts CA D A) : (Cond.arrayOver (.array .int)).before args s = true ∧ s.vm.findClass ("[" ++ (FieldType.array .int).toString) = some (CA 2) ∧ s.vm.findClass (FieldType.array .int).toString = some (CA 0) ∧ ∃ kA : Class, s.vm.classes[CA 2]? = some kA ∧ kA.kind = .array (CA 0) (.array .int) := by
  obtain ⟨-, -, -, -, ⟨-, hK, -, hX⟩⟩ := C
  have h0 : (Cond.arrayOver (.array .int)).before args s = true := hX.2.2.2.2.2
  have e2 : s.vm.findClass ("[" ++ (FieldType.array .int).toString) = some (CA 2) := (hK.2 2 _ rfl).2
  have e0 : s.vm.findClass ("[" ++ FieldType.int.toString) = some (CA 0) := (hK.2 0 _ rfl).2
  obtain ⟨comp, cA, kA, h1, h2, h3, h4, h5⟩ := arrayOverA_spec h0
  have ec : cA = CA 2 := Option.some.inj (h5.symm.trans e2)
  have eo : comp = CA 0 := Option.some.inj (h1.symm.trans e0)
  subst ec
  subst eo
  exact ⟨h0, e2, h1, kA, h3, h4⟩
theorem qs_aast (C : qCx p l s m args meth c R j Ts CA D A) (hP : va_P D q_cl (qW CA ad M) H) (hD : va_D A (qW CA ad M)) (hS : va_S A s.heap H locs) {o y : Nat} {i : Int32} {r : List Value} {M' : qM} (h : qaast M o i y = some M') (hd : decode (q_b j) pc = .ok (.aastore, 1))
    (k : ∀ (H1 : Heap) (locs1 : List Loc), va_P D q_cl (qW CA ad M') H1 → va_D A (qW CA ad M') → va_S A s.heap H1 locs1 → W p l e R s m args below meth c H1 locs1 cells slots Q (F0 m (pc + 1) ls (List.map (qt ad) r))) : W p l e R s m args below meth c H locs cells slots Q (F0 m pc ls (List.map (qt ad) (.ref y :: .int i :: .ref o :: r))) := by
  obtain ⟨h0, e2, e0, kA, k1, k2⟩ := q_aov C
  obtain ⟨⟨hx, hb, -, hown⟩, ⟨hts, hgw⟩, -, -, ⟨-, hK, -, hX⟩⟩ := C
  obtain ⟨fs, n, f, hM, hi, hy, rfl⟩ := qaast_inv h
  have hw : (qW CA ad M)[o]? = some (ad o, .inl (CA 2, fs.length, .inr (.inr (.inr (.inr (qop ad fs)))))) := by rw [qW_at hM, qtE_r]
  have hwy : (qW CA ad M)[y]? = some (ad y, .inl (CA 0, n, .inl f)) := qW_at hy
  have hin := qIn_spec hi
  have hlt : i.toNatClampNeg < fs.length := Nat.not_le.mp fun q => hin (Or.inr q)
  have hi0 : ¬ i < 0 := fun q => hin (Or.inl q)
  obtain ⟨-, kC, hkC, -, -⟩ := (hK.2 0 _ rfl).1 0 (fun _ => .null)
  refine W.aast hx hb (hP o _ hw) (fun q h => by cases h) (fun h => by cases h) k1 k2 rfl hkC ⟨hi0, by show _ < (arrV _ _ _).slots.size; rw [arrV_size]; exact hlt⟩ (hP y _ hwy) (fun q h => by cases h) hkC (q_self_assign _ _) rfl rfl hd fun H1 e z oq => ?_
  have hee : (ad o, qtE CA ad (.inr (11, fs.set i.toNatClampNeg (.ref y)))) = ((ad o, .inl (CA 2, fs.length, .inr (.inr (.inr (.inr (va_up (qop ad fs) i.toNatClampNeg (some (ad y)))))))) : Nat × va_E) := by
    rw [qtE_r, List.length_set]
    have e3 : qop ad (fs.set i.toNatClampNeg (.ref y)) = va_up (qop ad fs) i.toNatClampNeg (some (ad y)) := by
      funext q
      unfold qop va_up
      rw [List.getElem?_set]
      by_cases hq : i.toNatClampNeg = q
      · subst hq
        simp [hlt]
      · rw [if_neg hq, if_neg (fun z => hq z.symm)]
    rw [e3]
  have h1 : va_P D q_cl ((qW CA ad M).set o (ad o, .inl (CA 2, fs.length, .inr (.inr (.inr (.inr (va_up (qop ad fs) i.toNatClampNeg (some (ad y))))))))) H1 := by
    refine hP.set hD hw ?_ oq
    show H1[ad o]? = some (vp_cell _ _)
    rw [e]
    rw [vp_cell_q, vp_cell_q, arrV_store]
    congr 2
    funext q
    by_cases hq : q = i.toNatClampNeg
    · subst hq
      simp [updV, va_up, va_rf]
    · simp [updV, va_up, hq]
  have h2 : va_D A ((qW CA ad M).set o (ad o, .inl (CA 2, fs.length, .inr (.inr (.inr (.inr (va_up (qop ad fs) i.toNatClampNeg (some (ad y))))))))) := hD.set hw
  rw [← hee, qW_set] at h1 h2
  exact k H1 _ h1 h2 (hS.put z oq (hD.2 o _ hw))
theorem qop_null (ad : Nat → Nat) (n : Nat) : qop ad (List.replicate n .null) = fun _ => none := by
  funext k
  unfold qop
  rw [List.getElem?_replicate]
  by_cases h : k < n
  · simp [h]
  · simp [h]
theorem qs_newr (C : qCx p l s m args meth c R j Ts CA D A) (hP : va_P D q_cl (qW CA ad M) H) (hD : va_D A (qW CA ad M)) (hS : va_S A s.heap H locs) {idx nL : Nat} {y : Int32} {L : qL} {st st' : List Value} {M' : qM} (hy : 0 ≤ y) (hy2 : y.toNatClampNeg ≤ 10000) (h : qmk (q_al j) L st M (.inr (11, List.replicate y.toNatClampNeg .null)) = some (st', M')) (hl : qLs ad ls nL L)
    (hcl : Cond.classLink (q_rn (q_oc j)) idx "[I" ∈ q_GW) (hc : cells + 1 ≤ q_mc j) (hn : slots + y.toNatClampNeg ≤ q_ms j) (hd : decode (q_b j) pc = .ok (.anewarray idx, 3))
    (k : ∀ (ad' : Nat → Nat) (H1 : Heap), qAg M.length ad ad' → va_P D q_cl (qW CA ad' M') H1 → va_D A (qW CA ad' M') → va_S A s.heap H1 locs → qLs ad' ls nL L → W p l e R s m args below meth c H1 locs (cells + 1) (slots + y.toNatClampNeg) Q (F0 m (pc + 3) ls (List.map (qt ad') st'))) : W p l e R s m args below meth c H locs cells slots Q (F0 m pc ls (List.map (qt ad) (.int y :: st))) := by
  obtain ⟨h0, f2, f0, kA0, k1, k2⟩ := q_aov C
  obtain ⟨⟨hx, hb, -, hown⟩, ⟨hts, hgw⟩, -, ⟨-, -, hr1, hr2⟩, ⟨-, hK, hA, hX⟩⟩ := C
  obtain ⟨-, h2, h3, h4, h5, h6, rfl, rfl⟩ := qmk_inv h
  refine W.anewA (t := .int) hx hb hown (hts _ (hgw _ hcl)) h0 rfl hd rfl (Int32.not_lt.mpr hy) (by omega) (by rw [hr1]; exact hc) (by rw [hr2]; exact hn) fun cA kA comp g1 g2 g3 g4 => ?_
  have ecA : cA = CA 2 := Option.some.inj (g1.symm.trans f2)
  subst ecA
  generalize hH1 : H.push ({ cls := CA 2, slots := Array.replicate y.toNatClampNeg .null, vm := .none } : Cell) = H1
  have z1 : H1.size = H.size + 1 := by rw [← hH1, Array.size_push]
  have e1 : H1[H.size]? = some (arrV (CA 2) y.toNatClampNeg (fun _ => .null)) := by rw [← hH1, Array.getElem?_push_size, ← arrV_new]
  have o1 : ∀ q : Nat, q < H.size → H1[q]? = H[q]? := fun q hq => by rw [← hH1, Array.getElem?_push, if_neg (Nat.ne_of_lt hq)]
  have hk : ∀ (k : Nat) (x : Nat × va_E), (qW CA ad M)[k]? = some x → H1[x.1]? = H[x.1]? := fun k x hx => o1 x.1 ((hP k x hx).lt)
  have ha := qadd_ag (ad := ad) (q := H.size) h2
  have eW : qW CA (qadd ad M.length H.size) (M ++ [.inr (11, List.replicate y.toNatClampNeg .null)]) = qW CA ad M ++ [(H.size, .inl (CA 2, y.toNatClampNeg, .inr (.inr (.inr (.inr (fun _ => none))))))] := by
    rw [qW_push ha h3, show qadd ad M.length H.size M.length = H.size by simp [qadd], qtE_r, qop_null, List.length_replicate]
  have this := k (qadd ad M.length H.size) H1 ha (by
    rw [eW]
    refine (hP.kept hk).app (fun k x hx => ?_)
    have hz : k < 1 := (List.getElem?_eq_some_iff.mp hx).1
    rw [show k = 0 by omega] at hx
    cases hx
    show H1[H.size]? = some (vp_cell _ _)
    rw [vp_cell_q]
    exact e1) (by rw [eW]; exact hD.push hP rfl (hA _ hS.1)) ⟨Nat.le_trans hS.1 (by omega), fun x h1 h2 => (o1 x (Nat.lt_of_lt_of_le h1 hS.1)).trans (hS.2.1 x h1 h2), hS.2.2⟩ (hl.ag ha h4)
  rw [List.map_cons, qtS_ag ha h5] at this
  simpa [qt, qadd] using this
theorem qs_new4 (C : qCx p l s m args meth c R j Ts CA D A) (hP : va_P D q_cl (qW CA ad M) H) (hD : va_D A (qW CA ad M)) (hS : va_S A s.heap H locs) {idx nL : Nat} {L : qL} {st st' : List Value} {M' : qM} (h : qmk4 (q_al j) L st M = some (st', M')) (hl : qLs ad ls nL L)
    (hcl : Cond.classLink (q_rn (q_oc j)) idx "[[I" ∈ q_GW) (hc : cells + 5 ≤ q_mc j) (hn : slots + 40 ≤ q_ms j) (hd : decode (q_b j) pc = .ok (.multianewarray idx 2, 4))
    (k : ∀ (ad' : Nat → Nat) (H1 : Heap) (locs1 : List Loc), qAg M.length ad ad' → va_P D q_cl (qW CA ad' M') H1 → va_D A (qW CA ad' M') → va_S A s.heap H1 locs1 → qLs ad' ls nL L → W p l e R s m args below meth c H1 locs1 (cells + 5) (slots + 40) Q (F0 m (pc + 4) ls (List.map (qt ad') st'))) : W p l e R s m args below meth c H locs cells slots Q (F0 m pc ls (List.map (qt ad) (.int 9 :: .int 4 :: st))) := by
  obtain ⟨h0, f2, f0, kA, k1, k2⟩ := q_aov C
  obtain ⟨⟨hx, hb, -, hown⟩, ⟨hts, hgw⟩, -, ⟨-, -, hr1, hr2⟩, ⟨-, hK, hA, hX⟩⟩ := C
  obtain ⟨-, h2, h3, h4, h5, rfl, rfl⟩ := qmk4_inv h
  obtain ⟨-, kC, hkC, comp9, hkindC⟩ := (hK.2 0 _ rfl).1 0 (fun _ => .null)
  refine W_mna4 hx hb hown (hts _ (hgw _ hcl)) f2 k1 k2 hkC hkindC (by rw [hr1]; exact hc) (by rw [hr2]; exact hn) hd fun H1 z1 o1 e0 e1 => ?_
  have hHs := hS.1
  have ha : qAg M.length ad (fun i => if i < M.length ∨ i = qSCR then ad i else H.size + (i - M.length)) := fun i hi => if_pos hi
  have at0 : ∀ i, i < 5 → (fun i => if i < M.length ∨ i = qSCR then ad i else H.size + (i - M.length)) (M.length + i) = H.size + i := by
    intro i hi
    show (if M.length + i < M.length ∨ M.length + i = qSCR then _ else _) = _
    rw [if_neg (by omega)]
    omega
  revert ha at0
  generalize (fun i => if i < M.length ∨ i = qSCR then ad i else H.size + (i - M.length)) = ad'
  intro ha at0
  have eW : qW CA ad' (M ++ [.inr (11, [.ref (M.length + 1), .ref (M.length + 2), .ref (M.length + 3), .ref (M.length + 4)]), .inl (0, 9, .inl (fun _ => 0)), .inl (0, 9, .inl (fun _ => 0)), .inl (0, 9, .inl (fun _ => 0)), .inl (0, 9, .inl (fun _ => 0))]) = qW CA ad M ++ [(H.size, .inl (CA 2, 4, .inr (.inr (.inr (.inr (fun i => if i < 4 then some (H.size + 1 + i) else none)))))), (H.size + 1, .inl (CA 0, 9, .inl (fun _ => 0))), (H.size + 2, .inl (CA 0, 9, .inl (fun _ => 0))), (H.size + 3, .inl (CA 0, 9, .inl (fun _ => 0))), (H.size + 4, .inl (CA 0, 9, .inl (fun _ => 0)))] := by
    have hq : qop ad' [.ref (M.length + 1), .ref (M.length + 2), .ref (M.length + 3), .ref (M.length + 4)] = fun i => if i < 4 then some (H.size + 1 + i) else none := by
      funext i
      match i with
      | 0 => show some (ad' (M.length + 1)) = some (H.size + 1 + 0); rw [at0 1 (by decide)]
      | 1 => show some (ad' (M.length + 2)) = some (H.size + 1 + 1); rw [at0 2 (by decide)]
      | 2 => show some (ad' (M.length + 3)) = some (H.size + 1 + 2); rw [at0 3 (by decide)]
      | 3 => show some (ad' (M.length + 4)) = some (H.size + 1 + 3); rw [at0 4 (by decide)]
      | i + 4 => simp [qop]
    apply List.ext_getElem?
    intro i
    rw [qW_get]
    rcases Nat.lt_or_ge i M.length with hi | hi
    · rw [List.getElem?_append_left hi, List.getElem?_append_left (by rw [qW_len]; exact hi), qW_get]
      cases hM : M[i]? with
      | none => rfl
      | some x =>
        simp only [Option.map_some]
        rw [ha i (Or.inl hi), qtE_ag ha (qscM_at h3 hM)]
    · rw [List.getElem?_append_right hi, List.getElem?_append_right (by rw [qW_len]; exact hi), qW_len]
      have ei : i = M.length + (i - M.length) := by omega
      generalize i - M.length = d at ei ⊢
      subst ei
      match d with
      | 0 => 
        show some (ad' (M.length + 0), qtE CA ad' (.inr (11, _))) = some _
        rw [at0 0 (by decide), qtE_r, hq]
        rfl
      | 1 => show some (ad' (M.length + 1), _) = some _; rw [at0 1 (by decide)]; rfl
      | 2 => show some (ad' (M.length + 2), _) = some _; rw [at0 2 (by decide)]; rfl
      | 3 => show some (ad' (M.length + 3), _) = some _; rw [at0 3 (by decide)]; rfl
      | 4 => show some (ad' (M.length + 4), _) = some _; rw [at0 4 (by decide)]; rfl
      | d + 5 => rfl
  have hold : ∀ (k : Nat) (x : Nat × va_E), (qW CA ad M)[k]? = some x → H1[x.1]? = H[x.1]? := fun k x hx => o1 x.1 ((hP k x hx).lt)
  have hP1 : va_P D q_cl (qW CA ad M ++ [(H.size, .inl (CA 2, 4, .inr (.inr (.inr (.inr (fun i => if i < 4 then some (H.size + 1 + i) else none)))))), (H.size + 1, .inl (CA 0, 9, .inl (fun _ => 0))), (H.size + 2, .inl (CA 0, 9, .inl (fun _ => 0))), (H.size + 3, .inl (CA 0, 9, .inl (fun _ => 0))), (H.size + 4, .inl (CA 0, 9, .inl (fun _ => 0)))]) H1 := by
    refine (hP.kept hold).app (fun k x hx => ?_)
    match k, hx with
    | 0, hx =>
      cases hx
      show H1[H.size]? = some (vp_cell _ _)
      rw [vp_cell_q]
      exact e0
    | 1, hx => cases hx; exact e1 0 (by decide)
    | 2, hx => cases hx; exact e1 1 (by decide)
    | 3, hx => cases hx; exact e1 2 (by decide)
    | 4, hx => cases hx; exact e1 3 (by decide)
  have hD1 : va_D A (qW CA ad M ++ [(H.size, .inl (CA 2, 4, .inr (.inr (.inr (.inr (fun i => if i < 4 then some (H.size + 1 + i) else none)))))), (H.size + 1, .inl (CA 0, 9, .inl (fun _ => 0))), (H.size + 2, .inl (CA 0, 9, .inl (fun _ => 0))), (H.size + 3, .inl (CA 0, 9, .inl (fun _ => 0))), (H.size + 4, .inl (CA 0, 9, .inl (fun _ => 0)))]) := by
    have hr : ∀ (k : Nat) (x : Nat × va_E), ([(H.size, .inl (CA 2, 4, .inr (.inr (.inr (.inr (fun i => if i < 4 then some (H.size + 1 + i) else none)))))), (H.size + 1, .inl (CA 0, 9, .inl (fun _ => 0))), (H.size + 2, .inl (CA 0, 9, .inl (fun _ => 0))), (H.size + 3, .inl (CA 0, 9, .inl (fun _ => 0))), (H.size + 4, .inl (CA 0, 9, .inl (fun _ => 0)))] : va_W)[k]? = some x → x.1 = H.size + k := by
      intro k x hx
      match k, hx with
      | 0, hx => cases hx; rfl
      | 1, hx => cases hx; rfl
      | 2, hx => cases hx; rfl
      | 3, hx => cases hx; rfl
      | 4, hx => cases hx; rfl
    refine hD.app ⟨fun i j p q hi hj hpq => ?_, fun k q hk => ?_⟩ (fun i j p q hi hj => ?_)
    · have := hr i p hi
      have := hr j q hj
      omega
    · have := hr k q hk
      exact hA _ (by omega)
    · have := hr j q hj
      have := (hP i p hi).lt
      omega
  rw [← eW] at hP1 hD1
  have hS1 : va_S A s.heap H1 (locs ++ [⟨H.size, 0⟩, ⟨H.size, 1⟩, ⟨H.size, 2⟩, ⟨H.size, 3⟩]) := by
    refine ⟨by omega, fun x h1 h2 => (o1 x (Nat.lt_of_lt_of_le h1 hS.1)).trans (hS.2.1 x h1 h2), fun q hq => ?_⟩
    rcases List.mem_append.mp hq with hq | hq
    · exact hS.2.2 q hq
    · simp only [List.mem_cons, List.not_mem_nil, or_false] at hq
      rcases hq with rfl | rfl | rfl | rfl <;> exact hA _ hS.1
  have this := k ad' H1 _ ha hP1 hD1 hS1 (hl.ag ha h4)
  rw [List.map_cons, qtS_ag ha h5] at this
  have e9 : ad' M.length = H.size := at0 0 (by decide)
  simpa [qt, e9] using this
end QR
