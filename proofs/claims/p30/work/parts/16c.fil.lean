/-! the class's filling: the cell with the fewest, the tiles that are placed -/
def fwv (p : Nat → Nat) (x : Option Nat) : Int32 := match x with
  | none => nI 9
  | some k => nI (cnt (p k))
theorem s_fewest {M : qM} {T : TS} {o a G Wo w h wt : Nat} {n s gs tk : Int32} {p st : Nat → Nat} {fl : Nat → Bool} {Q : qR → qM → Prop} (hk : TOk T) (hG : GridAt M G w h) (hD : Dim w h) (hO : FObj M o a G Wo n s gs tk) (hA : NarAt M (a + 8) G (w * h) p fl st wt) (hp : PN T (w * h) p) : cl 10 [.ref o] M Q ↔ Q (.inl (some (.int (nbI (few p (w * h)))))) M := by
  refine cl_iff (fun Q hQ => ?_)
  have hN := hD.le
  obtain ⟨h1, ⟨fp, r1, v1⟩, -, -⟩ := hA
  rw [e_10]
  simp only [g_10_0, g_10_1, g_10_2, g_10_4, g_10_5, g_10_6, g_10_8, g_10_9, g_10_12, g_10_15, g_10_18, g_10_19, g_10_22, g_10_25, g_10_26, g_10_29, g_10_32, g_10_34, g_10_36, g_10_37, g_10_40, g_10_42, g_10_43, g_10_46, g_10_47, g_10_48, g_10_50, g_10_51, g_10_54, g_10_57, g_10_58, qOb_some, kr_v, kr_n, qinv_i, qinv_r, qinv_0, Nat.reduceAdd, List.getElem?_cons_zero, List.getElem?_cons_succ, List.set_cons_zero, List.set_cons_succ, List.length_cons, List.length_nil]
  refine upto (N := w * h) (I := fun _ _ => True) (G := fun c (l4 : Option Value) => g 10 7 [some (.ref o), some (.int (nbI (few p c))), some (.int (fwv p (few p c))), some (.int (nI c)), l4] [] M 0 0 Q) ?_ ?_ 0 none (Nat.zero_le _) trivial
  · intro l4 _
    rw [g_10_7]
    simp only [g_10_0, g_10_1, g_10_2, g_10_4, g_10_5, g_10_6, g_10_8, g_10_9, g_10_12, g_10_15, g_10_18, g_10_19, g_10_22, g_10_25, g_10_26, g_10_29, g_10_32, g_10_34, g_10_36, g_10_37, g_10_40, g_10_42, g_10_43, g_10_46, g_10_47, g_10_48, g_10_50, g_10_51, g_10_54, g_10_57, g_10_58, qOb_some, kr_v, kr_n, qinv_i, qinv_r, qinv_0, Nat.reduceAdd, List.getElem?_cons_zero, List.getElem?_cons_succ, List.set_cons_zero, List.set_cons_succ, List.length_cons, List.length_nil, not_true_eq_false, not_false_eq_true, false_implies, true_implies, and_true, true_and, and_false, false_and, if_true, if_false, forall_const, or_true, true_or, false_or, or_false, i10, Bool.false_eq_true, hO.get, fo_1, qcls_of hG, s_cells hG, Int32.le_refl]
    exact hQ
  · intro c l4 hc _ ih
    have hpc := (hp.msk hk) c hc
    have hle := cnt_le (p c) hpc
    have e1 : (nI (cnt (p c)) ≤ 1) = (cnt (p c) ≤ 1) := propext (nI_leI (b := 1) (by omega) (by decide))
    have ih := ih (some (.int (nI (cnt (p c))))) trivial
    rw [g_10_7]
    simp only [g_10_0, g_10_1, g_10_2, g_10_4, g_10_5, g_10_6, g_10_8, g_10_9, g_10_12, g_10_15, g_10_18, g_10_19, g_10_22, g_10_25, g_10_26, g_10_29, g_10_32, g_10_34, g_10_36, g_10_37, g_10_40, g_10_42, g_10_43, g_10_46, g_10_47, g_10_48, g_10_50, g_10_51, g_10_54, g_10_57, g_10_58, qOb_some, kr_v, kr_n, qinv_i, qinv_r, qinv_0, Nat.reduceAdd, List.getElem?_cons_zero, List.getElem?_cons_succ, List.set_cons_zero, List.set_cons_succ, List.length_cons, List.length_nil, not_true_eq_false, not_false_eq_true, false_implies, true_implies, and_true, true_and, and_false, false_and, if_true, if_false, forall_const, or_true, true_or, false_or, or_false, i10, Bool.false_eq_true, hO.get, fo_1, fo_3, qcls_of hG, s_cells hG, nI_ge hc (show w * h < 2 ^ 31 by omega), qget_of h1, r1.cls, s_get r1 (show 36 < 2147483648 by decide), rget_nI (show c < 36 by omega) (show 36 < 2147483648 by decide), v1 c hc, s_bitCount hpc, e1, nI_1]
    rw [few] at ih
    by_cases u1 : cnt (p c) ≤ 1
    · have u2 : ¬ 1 < cnt (p c) := by omega
      simp only [u1, not_true_eq_false, not_false_eq_true, false_implies, true_implies, and_true, true_and, and_false, false_and, if_true, if_false, forall_const, or_true, true_or, false_or, or_false, i10, Bool.false_eq_true]
      cases hf : few p c with
      | none =>
        rw [hf] at ih
        simp only [u2, if_false] at ih
        exact ih
      | some k =>
        rw [hf] at ih
        simp only [u2, false_and, if_false] at ih
        exact ih
    · have u2 : 1 < cnt (p c) := by omega
      simp only [u1, not_true_eq_false, not_false_eq_true, false_implies, true_implies, and_true, true_and, and_false, false_and, if_true, if_false, forall_const, or_true, true_or, false_or, or_false, i10, Bool.false_eq_true]
      cases hf : few p c with
      | none =>
        rw [hf] at ih
        simp only [u2, if_true] at ih
        have e2 : (nI 9 ≤ nI (cnt (p c))) = False := eq_false (nI_ge (by omega) (by decide))
        simp only [fwv, e2, not_true_eq_false, not_false_eq_true, false_implies, true_implies, and_true, true_and, and_false, false_and, if_true, if_false, forall_const, or_true, true_or, false_or, or_false, i10, Bool.false_eq_true] at ih ⊢
        exact ih
      | some k =>
        rw [hf] at ih
        have hk2 := (few_some hf).1
        have hlk := cnt_le (p k) ((hp.msk hk) k (by omega))
        have e2 : (nI (cnt (p k)) ≤ nI (cnt (p c))) = (cnt (p k) ≤ cnt (p c)) := propext (nI_leI (by omega) (by omega))
        by_cases u3 : cnt (p k) ≤ cnt (p c)
        · have u4 : ¬ cnt (p c) < cnt (p k) := by omega
          simp only [fwv, u2, u4, e2, u3, not_true_eq_false, not_false_eq_true, false_implies, true_implies, and_true, true_and, and_false, false_and, if_true, if_false, forall_const, or_true, true_or, false_or, or_false, i10, Bool.false_eq_true, and_false, if_false] at ih ⊢
          exact ih
        · have u4 : cnt (p c) < cnt (p k) := by omega
          simp only [fwv, u2, u4, e2, u3, not_true_eq_false, not_false_eq_true, false_implies, true_implies, and_true, true_and, and_false, false_and, if_true, if_false, forall_const, or_true, true_or, false_or, or_false, i10, Bool.false_eq_true, and_self, if_true] at ih ⊢
          exact ih
def lowN (s : Nat) : Nat := if s = 0 then 4294967295 else low s
theorem lowN_e (s : Nat) : lowI s = nI (lowN s) := by
  unfold lowI lowN
  split
  · decide
  · rfl
theorem s_place {M : qM} {T : TS} {o a G Wo w h wt : Nat} {n s gs tk : Int32} {p st tl : Nat → Nat} {fl : Nat → Bool} {Q : qR → qM → Prop} (hT : TilesAt M T) (hk : TOk T) (hG : GridAt M G w h) (hD : Dim w h) (hO : FObj M o a G Wo n s gs tk) (hA : NarAt M (a + 8) G (w * h) p fl st wt) (hp : PN T (w * h) p) (hP : PlaAt M (a + 15) G (w * h) tl) (ho : 7 < o) (hoa : o < a) (hGo : G < a ∨ a + 24 ≤ G)
    (hQ : ∀ M', Fr (a + 16) (a + 18) M M' → PlaAt M' (a + 15) G (w * h) (fun k => lowN (p k)) → Q (.inl none) M') : cl 11 [.ref o] M Q := by
  have hN := hD.le
  obtain ⟨p1, ⟨ft, p2, p3⟩, p4, p5, p6⟩ := hP
  rw [e_11]
  simp only [g_11_0, g_11_1, g_11_3, g_11_4, g_11_7, g_11_10, g_11_13, g_11_14, g_11_17, g_11_20, g_11_21, g_11_22, g_11_25, g_11_26, g_11_29, g_11_32, g_11_33, g_11_36, g_11_39, g_11_42, g_11_45, g_11_48, qOb_some, kr_v, kr_n, qinv_i, qinv_r, qinv_0, Nat.reduceAdd, List.getElem?_cons_zero, List.getElem?_cons_succ, List.set_cons_zero, List.set_cons_succ, List.length_cons, List.length_nil]
  refine upto (N := w * h) (I := fun c M' => Fr (a + 16) (a + 18) M M' ∧ ∃ f, RowAt M' (a + 16) 36 f ∧ ∀ k, k < c → f k = nI (lowN (p k))) (G := fun c M' => g 11 2 [some (.ref o), some (.int (nI c))] [] M' 0 0 Q) ?_ ?_ 0 M (Nat.zero_le _) ⟨Fr.refl, ft, p2, fun k hk => absurd hk (Nat.not_lt_zero _)⟩
  · rintro M1 ⟨a1, f, a2, a3⟩
    have hG1 := hG.fr a1 (by omega)
    rw [g_11_2]
    simp only [g_11_0, g_11_1, g_11_3, g_11_4, g_11_7, g_11_10, g_11_13, g_11_14, g_11_17, g_11_20, g_11_21, g_11_22, g_11_25, g_11_26, g_11_29, g_11_32, g_11_33, g_11_36, g_11_39, g_11_42, g_11_45, g_11_48, qOb_some, kr_v, kr_n, qinv_i, qinv_r, qinv_0, Nat.reduceAdd, List.getElem?_cons_zero, List.getElem?_cons_succ, List.set_cons_zero, List.set_cons_succ, List.length_cons, List.length_nil, not_true_eq_false, not_false_eq_true, false_implies, true_implies, and_true, true_and, and_false, false_and, if_true, if_false, forall_const, or_true, true_or, false_or, or_false, i10, Bool.false_eq_true, (hO.fr a1 (by omega)).get, fo_1, qcls_of hG1, s_cells hG1, Int32.le_refl]
    obtain ⟨f3, b3⟩ := p4
    obtain ⟨f5, b5⟩ := p5
    obtain ⟨f6, b6⟩ := p6
    exact hQ M1 a1 ⟨(a1 _ (by omega)).trans p1, ⟨f, a2, a3⟩, ⟨f3, b3.fr a1 (by omega)⟩, ⟨f5, b5.fr a1 (by omega)⟩, ⟨f6, b6.fr a1 (by omega)⟩⟩
  · rintro c M1 hc ⟨a1, f, a2, a3⟩ ih
    have hG1 := hG.fr a1 (by omega)
    have hT1 := hT.fr a1 (by omega)
    have hO1 := hO.fr a1 (by omega)
    have hp1 := (a1 (a + 15) (by omega)).trans p1
    obtain ⟨h1, ⟨fp, r1, v1⟩, -, -⟩ := hA.fr a1 (by omega)
    have hpc := (hp.msk hk) c hc
    rw [g_11_2]
    simp only [g_11_0, g_11_1, g_11_3, g_11_4, g_11_7, g_11_10, g_11_13, g_11_14, g_11_17, g_11_20, g_11_21, g_11_22, g_11_25, g_11_26, g_11_29, g_11_32, g_11_33, g_11_36, g_11_39, g_11_42, g_11_45, g_11_48, qOb_some, kr_v, kr_n, qinv_i, qinv_r, qinv_0, Nat.reduceAdd, List.getElem?_cons_zero, List.getElem?_cons_succ, List.set_cons_zero, List.set_cons_succ, List.length_cons, List.length_nil, not_true_eq_false, not_false_eq_true, false_implies, true_implies, and_true, true_and, and_false, false_and, if_true, if_false, forall_const, or_true, true_or, false_or, or_false, i10, Bool.false_eq_true, hO1.get, fo_1, fo_4, fo_0, fo_3, qcls_of hG1, s_cells hG1, nI_ge hc (show w * h < 2 ^ 31 by omega), qget_of hp1, qget_of h1, r1.cls, s_get r1 (show 36 < 2147483648 by decide), rget_nI (show c < 36 by omega) (show 36 < 2147483648 by decide), v1 c hc, qcls_of hT1.1, s_lowest hpc, a2.cls]
    refine s_setF a2 (by decide) (show c < 36 by omega) (fun M2 b1 b2 => ?_)
    simp only [g_11_0, g_11_1, g_11_3, g_11_4, g_11_7, g_11_10, g_11_13, g_11_14, g_11_17, g_11_20, g_11_21, g_11_22, g_11_25, g_11_26, g_11_29, g_11_32, g_11_33, g_11_36, g_11_39, g_11_42, g_11_45, g_11_48, qOb_some, kr_v, kr_n, qinv_i, qinv_r, qinv_0, Nat.reduceAdd, List.getElem?_cons_zero, List.getElem?_cons_succ, List.set_cons_zero, List.set_cons_succ, List.length_cons, List.length_nil, not_true_eq_false, not_false_eq_true, false_implies, true_implies, and_true, true_and, and_false, false_and, if_true, if_false, forall_const, or_true, true_or, false_or, or_false, i10, Bool.false_eq_true, nI_1]
    refine ih M2 ⟨a1.trans (b1.mono (by omega) (by omega)), _, b2, fun k hk => ?_⟩
    by_cases e : k = c
    · rw [e, upd_s, lowN_e]
    · rw [upd_n e]; exact a3 k (by omega)
