/-! the simulation: what the small machine ends with, the machine ends with -/
section QG
variable {p : Program} {l : Launch} {e : Env} {R : Room} {s : State} {m : MethodId} {args : Array Value} {below : List Frame} {meth : Method} {c : Code} {H : Heap} {locs : List Loc} {cells slots : Nat} {Q : State → Prop}
variable {pc j : Nat} {ls : Array Slot} {ad : Nat → Nat} {Ts : List Cond} {CA : Nat → ClassId} {D : va_G} {A : Nat → Prop} {M M' : qM} {a : Nat} {r : qR} {mc ms : Nat} {free : Addr → Prop} {a9 : Array Value}
theorem q_callsim {st0 rest : List Value} (hr : vx_Run p l e R s m args below meth c H locs cells slots mc ms (F0 m pc ls st0) rest (qQc CA D a ad M M' H.size r a9) (qXC CA D a ad M M' H.size r) free)
    (hS : va_S A s.heap H locs) (hsub : ∀ q, va_A (qW CA ad M) H.size q → A q) (hf : ∀ q, free q → A q)
    (kr : ∀ (v : Option Value) (ad' : Nat → Nat) (H1 : Heap) (locs1 : List Loc), r = .inl v → qEnd CA D a ad M M' H.size ad' H1 → va_S A s.heap H1 locs1 → W p l e R s m args below meth c H1 locs1 (cells + mc) (slots + ms) Q (F0 m (pc + 3) ls ((v.map (qt ad')).toList ++ rest)))
    (kx : ∀ (e9 : Nat) (ad' : Nat → Nat) (H1 : Heap) (locs1 : List Loc) (q9 : Addr) (ce : Cell), r = .inr e9 → qEnd CA D a ad M M' H.size ad' H1 → va_S A s.heap H1 locs1 → H1[q9]? = some ce → ce.vm = .none → s.vm.findClass (q_x e9) = some ce.cls → vx_W p l e R s m args below meth c H1 locs1 (cells + mc) (slots + ms) Q (F0 m pc ls rest) q9) :
    W p l e R s m args below meth c H locs cells slots Q (F0 m pc ls st0) := by
  intro T hT X
  rcases hr T hT X with ⟨v, st₀, t, T', L, h0, X', hL, e1, e2, ⟨⟨v', ad', hr', hv, hE⟩, hF⟩, st⟩ | ⟨q, st₀, t, T', L, E, ce, h0, X', hL, e1, e2, ⟨⟨e9, ad', hr', hE9, hE⟩, hF⟩, hce, hcv, hcl, st⟩
  · cases hv
    obtain ⟨k1, k2, k3⟩ := vx_keep h0 e1 hS (fun q _ => hsub q) hf hL hF
    obtain ⟨t2, a1, b1⟩ := kr v' ad' T'.heap (locs ++ L) hr' (by rw [e1]; exact hE) k3 T' rfl X'
    exact ⟨t2, st t2 a1, b1⟩
  · subst hE9
    obtain ⟨k1, k2, k3⟩ := vx_keep h0 e1 hS (fun q _ => hsub q) hf hL hF
    obtain ⟨t2, a1, b1⟩ := kx e9 ad' T'.heap (locs ++ L) q ce hr' (by rw [e1]; exact hE) k3 (by rw [e1]; exact hce) hcv hcl T' rfl X'
    exact ⟨t2, st.trans a1, b1⟩
theorem q_nw_cast : ∀ e9, e9 < 5 → Cond.castable (q_x e9) (q_x e9) ∈ q_NW := by decide +kernel
theorem q_cn_ok {cz : Nat} (h : cz ∈ q_cc.map (fun q => q.1)) : Cond.classLink (q_rn 11) cz (q_cn cz) ∈ q_GW := by
  have key : (q_cc.all (fun q => decide (q_cn q.1 = q.2.2))) = true := by decide +kernel
  obtain ⟨q, hq, rfl⟩ := List.mem_map.mp h
  have h1 := of_decide_eq_true (List.all_eq_true.mp key q hq)
  rw [h1]
  exact q_wat_in (List.all_eq_true.mp q_cc_ok q hq)
/-- a throw that this method catches -/
theorem q_catch (C : qCx p l s m args meth c R j Ts CA D A) {e9 h p9 nL : Nat} {L : qL} {rest : List Value} {q9 : Addr} {ce : Cell} (hh : q_hnd j pc e9 = some (h, p9)) (hl : qLs ad ls nL L) (hp : p9 < L.length)
    (hcell : H[q9]? = some ce) (hv : ce.vm = .none) (hcl : s.vm.findClass (q_x e9) = some ce.cls)
    (k : ∀ ls', qLs ad ls' nL (qset1 L p9 none) → W p l e R s m args below meth c H locs cells slots Q (F0 m h ls' [])) : vx_W p l e R s m args below meth c H locs cells slots Q (F0 m pc ls rest) q9 := by
  obtain ⟨⟨hx, hb, -, hown⟩, ⟨hts, hgw⟩, ⟨-, -, -, htab⟩, -, ⟨-, -, -, hX⟩⟩ := C
  have hm : ((j, pc, e9), (h, p9)) ∈ q_hn := by
    unfold q_hnd at hh
    generalize q_hn = l9 at hh
    induction l9 with
    | nil => cases hh
    | cons z l9 ih =>
      obtain ⟨z1, z2⟩ := z
      rw [List.lookup_cons] at hh
      by_cases hz : (j, pc, e9) = z1
      · subst hz
        simp at hh
        subst hh
        exact List.mem_cons_self
      · have : ((j, pc, e9) == z1) = false := by simpa using hz
        rw [this] at hh
        exact List.mem_cons_of_mem _ (ih hh)
  have h1 := List.all_eq_true.mp q_hn_ok _ hm
  unfold q_hnB at h1
  simp only [Bool.and_eq_true, decide_eq_true_eq] at h1
  obtain ⟨he, ⟨hoc, h2⟩, h3⟩ := h1
  rw [hoc] at hown
  cases hz : (q_hh j)[q_hi j pc e9]? with
  | none => rw [hz] at h2; cases h2
  | some z =>
    rw [hz] at h2
    simp only [Bool.and_eq_true, Bool.or_eq_true, decide_eq_true_eq] at h2
    obtain ⟨z1, z2, z3, z4, z5, z6⟩ := h2
    have hi := (List.getElem?_eq_some_iff.mp hz).1
    have hsp : q_hh j = (q_hh j).take (q_hi j pc e9) ++ z :: (q_hh j).drop (q_hi j pc e9 + 1) := by
      have hge : (q_hh j)[q_hi j pc e9] = z := (List.getElem?_eq_some_iff.mp hz).2
      conv => lhs; rw [← List.take_append_drop (q_hi j pc e9) (q_hh j), List.drop_eq_getElem_cons hi, hge]
    have hsplit : c.exceptionTable.toList = (tableOf ((q_hh j).take (q_hi j pc e9))) ++ (⟨z.1, z.2.1, z.2.2.1, z.2.2.2⟩ : ExceptionTableEntry) :: tableOf ((q_hh j).drop (q_hi j pc e9 + 1)) := by
      rw [htab (Or.inr (by intro hq; rw [hq] at hz; cases hz))]
      conv => lhs; rw [hsp]
      simp only [tableOf, List.map_append, List.map_cons]
    refine vx_catch (own := q_rn 11) (name := q_x e9) (E := q_x e9) (ce := ce) hown _ ⟨z.1, z.2.1, z.2.2.1, z.2.2.2⟩ _ hsplit (fun y hy => ?_) (by simp [covers]; omega) z3 ?_ (va_Nw.use rfl (hX.2.2.1 _ (q_nw_cast e9 he))) hcell hv hcl ?_
    · obtain ⟨y0, hy0, rfl⟩ := List.mem_map.mp hy
      have h4 := List.all_eq_true.mp h3 y0 hy0
      simp only [Bool.and_eq_true, decide_eq_true_eq] at h4
      exact Or.inr ⟨h4.1, q_cn y0.2.2.2, hts _ (hgw _ (q_cn_ok h4.2.1)), hX.2.2.2.1 _ h4.2.2⟩
    · have h5 := hts _ (hgw _ (q_cn_ok z4))
      rw [z5] at h5
      exact h5
    · have hpn : p9 < nL := by rw [← hl.1]; exact hp
      rcases z6 with ⟨g1, g2, g3⟩ | ⟨g2, g3⟩
      · subst g2
        exact lv_astore_n hx hb g3 (by simp [Fin.ofNat, Nat.mod_eq_of_lt g1]) hl.2 hpn rfl (fun ls' hl' => k ls' (hl.st1 none (fun x hx => by cases hx) hl'))
      · subst g2
        exact lv_astore hx hb g3 hl.2 hpn rfl (fun ls' hl' => k ls' (hl.st1 none (fun x hx => by cases hx) hl'))
end QG
/-- where a method's body may end: by a return (hR), or by a throw of its own (hX) -/
def qP (f : Nat) : Prop := ∀ (scr : qScr) (j pc k n : Nat) (L : qL) (st : List Value) (M : qM) (r : qR) (M' : qM), q_exec f scr j (pc, L, st, M, k, n) = some (r, M') →
  ∀ (p : Program) (l : Launch) (e : Env) (R : Room) (s : State) (m : MethodId) (args : Array Value) (below : List Frame) (meth : Method) (c : Code) (Ts : List Cond) (CA : Nat → ClassId) (D : va_G) (A : Nat → Prop), qCx p l s m args meth c R j Ts CA D A →
  ∀ (ad : Nat → Nat) (H : Heap) (locs : List Loc) (ls : Array Slot) (Q : State → Prop), qScr_ok scr A ad s → va_P D q_cl (qW CA ad M) H → va_D A (qW CA ad M) → va_S A s.heap H locs → qLs ad ls (q_mL j) L → k ≤ q_mc j → n ≤ q_ms j →
  (∀ (v : Option Value) (pc' : Nat) (x : qX) (ad' : Nat → Nat) (H' : Heap) (locs' : List Loc) (ls' : Array Slot) (k' n' : Nat), r = .inl v → q_code j pc' = some x → q_kd x.1 = 2 → q_ret j x.1 v.toList = some v → qAg M.length ad ad' → (q_al j = false → ad' = ad) → M.length ≤ M'.length → va_P D q_cl (qW CA ad' M') H' → va_D A (qW CA ad' M') → va_S A s.heap H' locs' → k' ≤ q_mc j → n' ≤ q_ms j →
    W p l e R s m args below meth c H' locs' k' n' Q (F0 m pc' ls' ((v.map (qt ad')).toList))) →
  (∀ (e9 : Nat) (pc' idx : Nat) (x : qX) (st' : List Value) (ad' : Nat → Nat) (H' : Heap) (locs' : List Loc) (ls' : Array Slot) (k' n' : Nat), r = .inr e9 → q_code j pc' = some x → x.1 = .new idx → x.2.2.1 = 1000 + e9 → ls'.size = q_mL j → st'.length ≤ 4 → qAg M.length ad ad' → (q_al j = false → ad' = ad) → M.length ≤ M'.length → va_P D q_cl (qW CA ad' M') H' → va_D A (qW CA ad' M') → va_S A s.heap H' locs' → k' + 1 ≤ q_mc j → n' + 6 ≤ q_ms j →
    W p l e R s m args below meth c H' locs' k' n' Q (F0 m pc' ls' st')) →
  W p l e R s m args below meth c H locs k n Q (F0 m pc ls (st.map (qt ad)))
