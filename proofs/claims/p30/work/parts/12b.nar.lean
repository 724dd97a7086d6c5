/-! narrowing with cells that wait -/
def fb (f : Nat → Bool) (k : Nat) (v : Bool) : Nat → Bool := fun i => if i = k then v else f i
theorem fb_s {f : Nat → Bool} {k : Nat} {v : Bool} : fb f k v k = v := if_pos rfl
theorem fb_n {f : Nat → Bool} {k i : Nat} {v : Bool} (h : i ≠ k) : fb f k v i = f i := if_neg h
theorem fb_id {f : Nat → Bool} {k : Nat} : fb f k (f k) = f := by
  funext i
  unfold fb
  split
  · rename_i q; rw [q]
  · rfl
def cntB (f : Nat → Bool) : Nat → Nat
  | 0 => 0
  | n + 1 => cntB f n + (if f n = true then 1 else 0)
theorem cntB_le {f : Nat → Bool} : ∀ {n : Nat}, cntB f n ≤ n
  | 0 => Nat.le_refl _
  | n + 1 => by
    have := cntB_le (f := f) (n := n)
    unfold cntB
    split <;> omega
theorem cntB_lt {f : Nat → Bool} {k : Nat} (hk : f k = false) : ∀ {n : Nat}, k < n → cntB f n < n
  | 0, h => absurd h (by omega)
  | n + 1, h => by
    unfold cntB
    by_cases q : k = n
    · subst q
      rw [hk]
      have := cntB_le (f := f) (n := k)
      simp
      omega
    · have := cntB_lt hk (n := n) (by omega)
      split <;> omega
theorem cntB_c {f f' : Nat → Bool} : ∀ {n : Nat}, (∀ i, i < n → f i = f' i) → cntB f n = cntB f' n
  | 0, _ => rfl
  | n + 1, h => by
    unfold cntB
    rw [cntB_c (n := n) (fun i hi => h i (by omega)), h n (by omega)]
theorem cntB_on {f : Nat → Bool} {k : Nat} (hk : f k = false) : ∀ {n : Nat}, k < n → cntB (fb f k true) n = cntB f n + 1
  | 0, h => absurd h (by omega)
  | n + 1, h => by
    unfold cntB
    by_cases q : k = n
    · subst q
      rw [cntB_c (f' := f) (n := k) (fun i hi => fb_n (by omega)), fb_s, hk]
      simp
    · have := cntB_on hk (n := n) (by omega)
      rw [this, fb_n (by omega)]
      omega
theorem cntB_off {f : Nat → Bool} {k : Nat} (hk : f k = true) : ∀ {n : Nat}, k < n → cntB (fb f k false) n + 1 = cntB f n
  | 0, h => absurd h (by omega)
  | n + 1, h => by
    unfold cntB
    by_cases q : k = n
    · subst q
      rw [cntB_c (f' := f) (n := k) (fun i hi => fb_n (by omega)), fb_s, hk]
      simp
    · have := cntB_off hk (n := n) (by omega)
      rw [fb_n (by omega)]
      omega
theorem cntB_0 {f : Nat → Bool} : ∀ {n : Nat}, cntB f n = 0 → ∀ k, k < n → f k = false
  | 0, _, k, hk => absurd hk (by omega)
  | n + 1, h, k, hk => by
    unfold cntB at h
    by_cases q : k = n
    · subst q
      cases hf : f k
      · rfl
      · rw [hf] at h
        simp at h
    · exact cntB_0 (n := n) (by omega) k (by omega)
def NarAt (M : qM) (o G N : Nat) (p : Nat → Nat) (fl : Nat → Bool) (st : Nat → Nat) (wt : Nat) : Prop := M[o]? = some (.inr (3, [.ref 1, .ref G, .ref (o + 1), .ref (o + 3), .ref (o + 5), .int (nI wt)])) ∧ RowV M (o + 1) 36 N p ∧ (∃ f, RowAt M (o + 3) 36 f ∧ ∀ k, k < 36 → f k = bI (fl k = true)) ∧ RowV M (o + 5) 36 wt st
theorem NarAt.fr {lo hi o G N wt : Nat} {p st : Nat → Nat} {fl : Nat → Bool} {M M' : qM} (h : NarAt M o G N p fl st wt) (hf : Fr lo hi M M') (ho : o + 6 < lo ∨ hi ≤ o) : NarAt M' o G N p fl st wt := by
  obtain ⟨h1, h2, ⟨f, h3, h4⟩, h5⟩ := h
  exact ⟨(hf o (by omega)).trans h1, h2.fr hf (by omega), ⟨f, h3.fr hf (by omega), h4⟩, h5.fr hf (by omega)⟩
def StkOk (N : Nat) (fl : Nat → Bool) (st : Nat → Nat) (wt : Nat) : Prop := cntB fl 36 = wt ∧ (∀ i, i < wt → st i < N ∧ fl (st i) = true) ∧ (∀ i j, i < wt → j < wt → st i = st j → i = j)
theorem StkOk.push {N k wt : Nat} {fl : Nat → Bool} {st : Nat → Nat} (h : StkOk N fl st wt) (hN : N ≤ 36) (hk : k < N) (hf : fl k = false) : wt < 36 ∧ StkOk N (fb fl k true) (fu st wt k) (wt + 1) := by
  obtain ⟨h1, h2, h3⟩ := h
  have hlt := cntB_lt hf (show k < 36 by omega)
  refine ⟨by omega, ?_, ?_, ?_⟩
  · rw [cntB_on hf (by omega), h1]
  · intro i hi
    by_cases q : i = wt
    · rw [q, fu_s, fb_s]
      exact ⟨hk, rfl⟩
    · rw [fu_n q]
      obtain ⟨a, b⟩ := h2 i (by omega)
      refine ⟨a, ?_⟩
      by_cases q2 : st i = k
      · rw [q2, fb_s]
      · rw [fb_n q2]; exact b
  · intro i j hi hj he
    by_cases qi : i = wt
    · by_cases qj : j = wt
      · omega
      · rw [qi, fu_s, fu_n qj] at he
        have := (h2 j (by omega)).2
        rw [← he, hf] at this
        cases this
    · by_cases qj : j = wt
      · rw [qj, fu_s, fu_n qi] at he
        have := (h2 i (by omega)).2
        rw [he, hf] at this
        cases this
      · rw [fu_n qi, fu_n qj] at he
        exact h3 i j (by omega) (by omega) he
theorem StkOk.pop {N wt : Nat} {fl : Nat → Bool} {st : Nat → Nat} (h : StkOk N fl st (wt + 1)) (hN : N ≤ 36) : st wt < N ∧ fl (st wt) = true ∧ StkOk N (fb fl (st wt) false) st wt := by
  obtain ⟨h1, h2, h3⟩ := h
  obtain ⟨a, b⟩ := h2 wt (by omega)
  refine ⟨a, b, ?_, ?_, ?_⟩
  · have := cntB_off b (show st wt < 36 by omega)
    omega
  · intro i hi
    obtain ⟨c, d⟩ := h2 i (by omega)
    refine ⟨c, ?_⟩
    rw [fb_n]
    · exact d
    · intro q
      have := h3 i wt (by omega) (by omega) q
      omega
  · intro i j hi hj he
    exact h3 i j (by omega) (by omega) he
theorem s_setF {M : qM} {o n k : Nat} {f : Nat → Int32} {v : Int32} {Q : qR → qM → Prop} (h : RowAt M o n f) (hn : n < 2147483648) (hk : k < n) (hQ : ∀ M', Fr (o + 1) (o + 2) M M' → RowAt M' o n (upd f k v) → Q (.inl none) M') : cl 37 [.ref o, .int (nI k), .int v] M Q := by
  rw [s_set h hn (qIn_nI hk hn), nI_clamp (by omega)]
  exact hQ _ (Fr.set (by omega) (by omega)) h.set
theorem qput_i {M : qM} {o ci k : Nat} {fs : List Value} {x : Int32} (h : M[o]? = some (.inr (ci, fs))) (hk : k < fs.length) (hty : q_ty ci k = .int) : qput M o ci k (.int x) = some (M.set o (.inr (ci, fs.set k (.int x)))) := by
  rw [qput_of h, if_pos ⟨hk, by rw [hty]; rfl⟩]
theorem s_change {M : qM} {o G N k v wt : Nat} {p st : Nat → Nat} {fl : Nat → Bool} {Q : qR → qM → Prop} (hA : NarAt M o G N p fl st wt) (hS : StkOk N fl st wt) (hN : N ≤ 36) (hk : k < N) (hQ : ∀ M' st' wt', Fr o (o + 7) M M' → NarAt M' o G N (fu p k v) (fb fl k true) st' wt' → StkOk N (fb fl k true) st' wt' → wt' = (if fl k = true then wt else wt + 1) → Q (.inl none) M') : cl 22 [.ref o, .int (nI k), .int (nI v)] M Q := by
  obtain ⟨h1, ⟨f1, r1, v1⟩, ⟨f2, r2, v2⟩, ⟨f3, r3, v3⟩⟩ := hA
  rw [e_22]
  simp only [g_22_0, g_22_1, g_22_4, g_22_5, g_22_6, g_22_9, g_22_10, g_22_13, g_22_14, g_22_17, g_22_20, g_22_21, g_22_24, g_22_25, g_22_26, g_22_29, g_22_30, g_22_33, g_22_34, g_22_37, g_22_38, g_22_41, g_22_42, g_22_43, g_22_46, g_22_47, g_22_48, g_22_51, qOb_some, kr_v, kr_n, qinv_i, qinv_r, qinv_0, Nat.reduceAdd, List.getElem?_cons_zero, List.getElem?_cons_succ, List.set_cons_zero, List.set_cons_succ, List.length_cons, List.length_nil, qget_of h1, r1.cls, not_true_eq_false, not_false_eq_true, false_implies, true_implies, and_true, true_and, and_false, false_and, if_true, if_false, forall_const, or_true, true_or, false_or, or_false]
  refine s_setF r1 (by decide) (show k < 36 by omega) (fun M1 fr1 r1a => ?_)
  have h1a := (fr1 o (by omega)).trans h1
  have r2a := r2.fr fr1 (by omega)
  have r3a := r3.fr fr1 (by omega)
  have v1a : ∀ i, i < N → upd f1 k (nI v) i = nI (fu p k v i) := fun i hi => by
    by_cases q : i = k
    · rw [q, upd_s, fu_s]
    · rw [upd_n q, fu_n q]; exact v1 i hi
  simp only [g_22_0, g_22_1, g_22_4, g_22_5, g_22_6, g_22_9, g_22_10, g_22_13, g_22_14, g_22_17, g_22_20, g_22_21, g_22_24, g_22_25, g_22_26, g_22_29, g_22_30, g_22_33, g_22_34, g_22_37, g_22_38, g_22_41, g_22_42, g_22_43, g_22_46, g_22_47, g_22_48, g_22_51, qOb_some, kr_v, kr_n, qinv_i, qinv_r, qinv_0, Nat.reduceAdd, List.getElem?_cons_zero, List.getElem?_cons_succ, List.set_cons_zero, List.set_cons_succ, List.length_cons, List.length_nil, qget_of h1a, r2a.cls, not_true_eq_false, not_false_eq_true, false_implies, true_implies, and_true, true_and, and_false, false_and, if_true, if_false, forall_const, or_true, true_or, false_or, or_false, s_get r2a (by decide), rget_nI (show k < 36 by omega) (show 36 < 2147483648 by decide), v2 k (show k < 36 by omega), bI_0]
  by_cases hf : fl k = true
  · simp only [hf, not_true_eq_false, not_false_eq_true, false_implies, true_implies, and_true, true_and, and_false, false_and, if_true, if_false, forall_const, or_true, true_or, false_or, or_false, i10, Bool.false_eq_true]
    have e : fb fl k true = fl := by
      have := fb_id (f := fl) (k := k)
      rw [hf] at this
      exact this
    refine hQ M1 st wt (fr1.mono (by omega) (by omega)) ⟨h1a, ⟨_, r1a, v1a⟩, ⟨f2, r2a, ?_⟩, ⟨f3, r3a, v3⟩⟩ ?_ (by rw [if_pos hf])
    · rw [e]; exact v2
    · rw [e]; exact hS
  · have hf2 : fl k = false := by simpa using hf
    obtain ⟨hw, hS2⟩ := hS.push hN hk hf2
    simp only [hf2, not_true_eq_false, not_false_eq_true, false_implies, true_implies, and_true, true_and, and_false, false_and, if_true, if_false, forall_const, or_true, true_or, false_or, or_false, i10, Bool.false_eq_true]
    refine s_setF r2a (by decide) (show k < 36 by omega) (fun M2 fr2 r2b => ?_)
    have h1b := (fr2 o (by omega)).trans h1a
    have r1b := r1a.fr fr2 (by omega)
    have r3b := r3a.fr fr2 (by omega)
    simp only [g_22_0, g_22_1, g_22_4, g_22_5, g_22_6, g_22_9, g_22_10, g_22_13, g_22_14, g_22_17, g_22_20, g_22_21, g_22_24, g_22_25, g_22_26, g_22_29, g_22_30, g_22_33, g_22_34, g_22_37, g_22_38, g_22_41, g_22_42, g_22_43, g_22_46, g_22_47, g_22_48, g_22_51, qOb_some, kr_v, kr_n, qinv_i, qinv_r, qinv_0, Nat.reduceAdd, List.getElem?_cons_zero, List.getElem?_cons_succ, List.set_cons_zero, List.set_cons_succ, List.length_cons, List.length_nil, qget_of h1b, r3b.cls, not_true_eq_false, not_false_eq_true, false_implies, true_implies, and_true, true_and, and_false, false_and, if_true, if_false, forall_const, or_true, true_or, false_or, or_false]
    refine s_setF r3b (by decide) hw (fun M3 fr3 r3c => ?_)
    have h1c := (fr3 o (by omega)).trans h1b
    have r1c := r1b.fr fr3 (by omega)
    have r2c := r2b.fr fr3 (by omega)
    have fr4 : Fr o (o + 1) M3 (M3.set o (.inr (3, [.ref 1, .ref G, .ref (o + 1), .ref (o + 3), .ref (o + 5), .int (nI (wt + 1))]))) := Fr.set (by omega) (by omega)
    simp only [g_22_0, g_22_1, g_22_4, g_22_5, g_22_6, g_22_9, g_22_10, g_22_13, g_22_14, g_22_17, g_22_20, g_22_21, g_22_24, g_22_25, g_22_26, g_22_29, g_22_30, g_22_33, g_22_34, g_22_37, g_22_38, g_22_41, g_22_42, g_22_43, g_22_46, g_22_47, g_22_48, g_22_51, qOb_some, kr_v, kr_n, qinv_i, qinv_r, qinv_0, Nat.reduceAdd, List.getElem?_cons_zero, List.getElem?_cons_succ, List.set_cons_zero, List.set_cons_succ, List.length_cons, List.length_nil, qget_of h1c, qput_i h1c (show 5 < 6 by decide) rfl, nI_1]
    refine hQ _ (fu st wt k) (wt + 1) ?_ ⟨get_set_eq h1c, ⟨_, r1c.fr fr4 (by omega), v1a⟩, ⟨_, r2c.fr fr4 (by omega), ?_⟩, ⟨_, r3c.fr fr4 (by omega), ?_⟩⟩ hS2 (by rw [if_neg hf])
    · exact (((fr1.mono (by omega) (by omega)).trans (fr2.mono (by omega) (by omega))).trans (fr3.mono (by omega) (by omega))).trans (fr4.mono (by omega) (by omega))
    · intro i hi
      by_cases q : i = k
      · rw [q, upd_s, fb_s]; rfl
      · rw [upd_n q, fb_n q]; exact v2 i hi
    · intro i hi
      by_cases q : i = wt
      · rw [q, upd_s, fu_s]
      · rw [upd_n q, fu_n q]; exact v3 i (by omega)
def BS (T : TS) (w h c d : Nat) (p : Nat → Nat) (fl : Nat → Bool) (p' : Nat → Nat) (fl' : Nat → Bool) : Prop :=
  (p' = p ∧ fl' = fl ∧ ∀ k2, nb w h c d = some k2 → Sb (p k2) (fitM T (p c) d)) ∨ (∃ k2, nb w h c d = some k2 ∧ p' = fu p k2 (p k2 &&& fitM T (p c) d) ∧ fl' = fb fl k2 true)
def Dim (w h : Nat) : Prop := 0 < w ∧ w ≤ 6 ∧ 0 < h ∧ h ≤ 6
theorem Dim.le {w h : Nat} (hd : Dim w h) : w * h ≤ 36 := Nat.mul_le_mul hd.2.1 hd.2.2.2
theorem Dim.pos {w h : Nat} (hd : Dim w h) : 0 < w * h := Nat.mul_pos hd.1 hd.2.2.1
theorem s_narrowBeside {M : qM} {T : TS} {o G w h c d wt : Nat} {p st : Nat → Nat} {fl : Nat → Bool} {Q : qR → qM → Prop} (hT : TilesAt M T) (hk : TOk T) (hG : GridAt M G w h) (hD : Dim w h) (hA : NarAt M o G (w * h) p fl st wt) (hS : StkOk (w * h) fl st wt) (hm : Msk (w * h) p) (hc : c < w * h) (hd : d < 4)
    (hQ : ∀ M' p' fl' st' wt', Fr o (o + 7) M M' → NarAt M' o G (w * h) p' fl' st' wt' → StkOk (w * h) fl' st' wt' → BS T w h c d p fl p' fl' → Msk (w * h) p' → wt' + tot p' (w * h) ≤ wt + tot p (w * h) → Q (.inl none) M') : cl 24 [.ref o, .int (nI c), .int (nI d)] M Q := by
  have hA0 := hA
  have hN := hD.le
  obtain ⟨h1, ⟨f1, r1, v1⟩, -, -⟩ := hA
  rw [e_24]
  simp only [g_24_0, g_24_1, g_24_4, g_24_5, g_24_6, g_24_9, g_24_10, g_24_11, g_24_12, g_24_15, g_24_16, g_24_17, g_24_20, g_24_21, g_24_24, g_24_26, g_24_28, g_24_29, g_24_32, g_24_33, g_24_36, g_24_37, g_24_40, g_24_41, g_24_44, g_24_45, g_24_47, g_24_49, g_24_51, g_24_54, g_24_55, g_24_56, g_24_58, g_24_61, qOb_some, kr_v, kr_n, qinv_i, qinv_r, qinv_0, Nat.reduceAdd, List.getElem?_cons_zero, List.getElem?_cons_succ, List.set_cons_zero, List.set_cons_succ, List.length_cons, List.length_nil, qget_of h1, qcls_of hG, qcls_of h1, qcls_of hT.1, r1.cls, not_true_eq_false, not_false_eq_true, false_implies, true_implies, and_true, true_and, and_false, false_and, if_true, if_false, forall_const, or_true, true_or, false_or, or_false, s_beside hG hD.1 hD.2.1 hD.2.2.1 hD.2.2.2 hc hd]
  cases hn : nb w h c d with
  | none =>
    simp only [nbI, not_true_eq_false, not_false_eq_true, false_implies, true_implies, and_true, true_and, and_false, false_and, if_true, if_false, forall_const, or_true, true_or, false_or, or_false]
    exact hQ M p fl st wt Fr.refl hA0 hS (Or.inl ⟨rfl, rfl, fun k2 q => by rw [hn] at q; cases q⟩) hm (Nat.le_refl _)
  | some k2 =>
    have hk2 := nb_lt hc hn
    have b1 := hm c hc
    have b2 := hm k2 hk2
    have b3 : p k2 &&& fitM T (p c) d < 256 := and_lt b2
    have hne : (nI k2 = -1) = False := eq_false (fun q => by
      have := congrArg Int32.toInt q
      rw [nI_toInt (by omega)] at this
      have e2 : (-1 : Int32).toInt = -1 := by decide
      rw [e2] at this
      omega)
    simp only [g_24_0, g_24_1, g_24_4, g_24_5, g_24_6, g_24_9, g_24_10, g_24_11, g_24_12, g_24_15, g_24_16, g_24_17, g_24_20, g_24_21, g_24_24, g_24_26, g_24_28, g_24_29, g_24_32, g_24_33, g_24_36, g_24_37, g_24_40, g_24_41, g_24_44, g_24_45, g_24_47, g_24_49, g_24_51, g_24_54, g_24_55, g_24_56, g_24_58, g_24_61, qOb_some, kr_v, kr_n, qinv_i, qinv_r, qinv_0, Nat.reduceAdd, List.getElem?_cons_zero, List.getElem?_cons_succ, List.set_cons_zero, List.set_cons_succ, List.length_cons, List.length_nil, qget_of h1, qcls_of hG, qcls_of h1, qcls_of hT.1, r1.cls, nbI, hne, not_true_eq_false, not_false_eq_true, false_implies, true_implies, and_true, true_and, and_false, false_and, if_true, if_false, forall_const, or_true, true_or, false_or, or_false, s_get r1 (show 36 < 2147483648 by decide), rget_nI (show c < 36 by omega) (show 36 < 2147483648 by decide), rget_nI (show k2 < 36 by omega) (show 36 < 2147483648 by decide), v1 c hc, v1 k2 hk2, s_fittingBeside hT hk b1 hd, nI_and, nI_eq (show p k2 &&& fitM T (p c) d < 2 ^ 31 by omega) (show p k2 < 2 ^ 31 by omega)]
    by_cases he : p k2 &&& fitM T (p c) d = p k2
    · simp only [he, g_24_0, g_24_1, g_24_4, g_24_5, g_24_6, g_24_9, g_24_10, g_24_11, g_24_12, g_24_15, g_24_16, g_24_17, g_24_20, g_24_21, g_24_24, g_24_26, g_24_28, g_24_29, g_24_32, g_24_33, g_24_36, g_24_37, g_24_40, g_24_41, g_24_44, g_24_45, g_24_47, g_24_49, g_24_51, g_24_54, g_24_55, g_24_56, g_24_58, g_24_61, qOb_some, kr_v, kr_n, qinv_i, qinv_r, qinv_0, Nat.reduceAdd, List.getElem?_cons_zero, List.getElem?_cons_succ, List.set_cons_zero, List.set_cons_succ, List.length_cons, List.length_nil, qcls_of h1, not_true_eq_false, not_false_eq_true, false_implies, true_implies, and_true, true_and, and_false, false_and, if_true, if_false, forall_const, or_true, true_or, false_or, or_false]
      refine hQ M p fl st wt Fr.refl hA0 hS (Or.inl ⟨rfl, rfl, fun k3 q => ?_⟩) hm (Nat.le_refl _)
      rw [hn] at q
      cases q
      exact Sb.of_and he
    · simp only [he, g_24_0, g_24_1, g_24_4, g_24_5, g_24_6, g_24_9, g_24_10, g_24_11, g_24_12, g_24_15, g_24_16, g_24_17, g_24_20, g_24_21, g_24_24, g_24_26, g_24_28, g_24_29, g_24_32, g_24_33, g_24_36, g_24_37, g_24_40, g_24_41, g_24_44, g_24_45, g_24_47, g_24_49, g_24_51, g_24_54, g_24_55, g_24_56, g_24_58, g_24_61, qOb_some, kr_v, kr_n, qinv_i, qinv_r, qinv_0, Nat.reduceAdd, List.getElem?_cons_zero, List.getElem?_cons_succ, List.set_cons_zero, List.set_cons_succ, List.length_cons, List.length_nil, qcls_of h1, not_true_eq_false, not_false_eq_true, false_implies, true_implies, and_true, true_and, and_false, false_and, if_true, if_false, forall_const, or_true, true_or, false_or, or_false]
      refine s_change hA0 hS hN hk2 (fun M' st' wt' fr1 hA1 hS1 hw1 => ?_)
      simp only [g_24_0, g_24_1, g_24_4, g_24_5, g_24_6, g_24_9, g_24_10, g_24_11, g_24_12, g_24_15, g_24_16, g_24_17, g_24_20, g_24_21, g_24_24, g_24_26, g_24_28, g_24_29, g_24_32, g_24_33, g_24_36, g_24_37, g_24_40, g_24_41, g_24_44, g_24_45, g_24_47, g_24_49, g_24_51, g_24_54, g_24_55, g_24_56, g_24_58, g_24_61, qOb_some, kr_v, kr_n, qinv_i, qinv_r, qinv_0, Nat.reduceAdd, List.getElem?_cons_zero, List.getElem?_cons_succ, List.set_cons_zero, List.set_cons_succ, List.length_cons, List.length_nil]
      refine hQ M' _ _ st' wt' fr1 hA1 hS1 (Or.inr ⟨k2, hn, rfl, rfl⟩) (Msk_fu hm b3) ?_
      have e1 := tot_fu (p := p) (k := k2) (v := p k2 &&& fitM T (p c) d) hk2
      have e2 := (Sb.cnt b3 b2 (Sb.and_l _ _)).2 he
      rw [hw1]
      split <;> omega
