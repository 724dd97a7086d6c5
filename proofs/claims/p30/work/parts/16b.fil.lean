/-! the class's filling: its small methods -/
def FO (a G Wo : Nat) (n s gs tk : Int32) : List Value := [.ref 1, .ref G, .ref Wo, .ref (a + 8), .ref (a + 15), .ref a, .ref (a + 2), .ref (a + 4), .ref (a + 6), .int n, .int s, .int gs, .int tk]
theorem fo_0 {a G Wo : Nat} {n s gs tk : Int32} : (FO a G Wo n s gs tk)[0]? = some (.ref 1) := rfl
theorem fo_1 {a G Wo : Nat} {n s gs tk : Int32} : (FO a G Wo n s gs tk)[1]? = some (.ref G) := rfl
theorem fo_2 {a G Wo : Nat} {n s gs tk : Int32} : (FO a G Wo n s gs tk)[2]? = some (.ref Wo) := rfl
theorem fo_3 {a G Wo : Nat} {n s gs tk : Int32} : (FO a G Wo n s gs tk)[3]? = some (.ref (a + 8)) := rfl
theorem fo_4 {a G Wo : Nat} {n s gs tk : Int32} : (FO a G Wo n s gs tk)[4]? = some (.ref (a + 15)) := rfl
theorem fo_5 {a G Wo : Nat} {n s gs tk : Int32} : (FO a G Wo n s gs tk)[5]? = some (.ref a) := rfl
theorem fo_6 {a G Wo : Nat} {n s gs tk : Int32} : (FO a G Wo n s gs tk)[6]? = some (.ref (a + 2)) := rfl
theorem fo_7 {a G Wo : Nat} {n s gs tk : Int32} : (FO a G Wo n s gs tk)[7]? = some (.ref (a + 4)) := rfl
theorem fo_8 {a G Wo : Nat} {n s gs tk : Int32} : (FO a G Wo n s gs tk)[8]? = some (.ref (a + 6)) := rfl
theorem fo_9 {a G Wo : Nat} {n s gs tk : Int32} : (FO a G Wo n s gs tk)[9]? = some (.int n) := rfl
theorem fo_10 {a G Wo : Nat} {n s gs tk : Int32} : (FO a G Wo n s gs tk)[10]? = some (.int s) := rfl
theorem fo_11 {a G Wo : Nat} {n s gs tk : Int32} : (FO a G Wo n s gs tk)[11]? = some (.int gs) := rfl
theorem fo_12 {a G Wo : Nat} {n s gs tk : Int32} : (FO a G Wo n s gs tk)[12]? = some (.int tk) := rfl
theorem fp_9 {a G Wo : Nat} {n s gs tk x : Int32} : (FO a G Wo n s gs tk).set 9 (.int x) = FO a G Wo x s gs tk := rfl
theorem fp_10 {a G Wo : Nat} {n s gs tk x : Int32} : (FO a G Wo n s gs tk).set 10 (.int x) = FO a G Wo n x gs tk := rfl
theorem fp_11 {a G Wo : Nat} {n s gs tk x : Int32} : (FO a G Wo n s gs tk).set 11 (.int x) = FO a G Wo n s x tk := rfl
theorem fp_12 {a G Wo : Nat} {n s gs tk x : Int32} : (FO a G Wo n s gs tk).set 12 (.int x) = FO a G Wo n s gs x := rfl
def FObj (M : qM) (o a G Wo : Nat) (n s gs tk : Int32) : Prop := M[o]? = some (.inr (1, FO a G Wo n s gs tk))
theorem FObj.fr {lo hi o a G Wo : Nat} {n s gs tk : Int32} {M M' : qM} (h : FObj M o a G Wo n s gs tk) (hf : Fr lo hi M M') (ho : o < lo ∨ hi ≤ o) : FObj M' o a G Wo n s gs tk := (hf o ho).trans h
theorem FObj.get {M : qM} {o a G Wo : Nat} {n s gs tk : Int32} (h : FObj M o a G Wo n s gs tk) (k : Nat) : qget M o 1 k = (FO a G Wo n s gs tk)[k]? := qget_of h
theorem FObj.cls {M : qM} {o a G Wo : Nat} {n s gs tk : Int32} (h : FObj M o a G Wo n s gs tk) : qcls M o 1 ↔ True := qcls_of h
theorem FObj.put {M : qM} {o a G Wo : Nat} {n s gs tk : Int32} {k : Nat} {x : Int32} (h : FObj M o a G Wo n s gs tk) (hk : k < 13) (hty : q_fit (q_ty 1 k) (.int x) = true) : qput M o 1 k (.int x) = some (M.set o (.inr (1, (FO a G Wo n s gs tk).set k (.int x)))) := by
  rw [qput_of h, if_pos ⟨hk, hty⟩]
theorem FObj.s {M : qM} {o a G Wo : Nat} {n s gs tk n' s' gs' tk' : Int32} (h : FObj M o a G Wo n s gs tk) : FObj (M.set o (.inr (1, FO a G Wo n' s' gs' tk'))) o a G Wo n' s' gs' tk' := get_set_eq h
theorem lowI_pow : ∀ t, t < 8 → lowI (2 ^ t) = nI t := by decide +kernel
theorem pow_ne0 (t : Nat) : (2 : Nat) ^ t ≠ 0 := Nat.pos_iff_ne_zero.mp (Nat.two_pow_pos t)
theorem s_gone {M : qM} {T : TS} {o a G Wo w h wt : Nat} {n s gs tk : Int32} {wo : Nat → Option Nat} {road : Bool} {p st : Nat → Nat} {fl : Nat → Bool} {Q : qR → qM → Prop} (hT : TilesAt M T) (hk : TOk T) (hG : GridAt M G w h) (hD : Dim w h) (hO : FObj M o a G Wo n s gs tk) (hA : NarAt M (a + 8) G (w * h) p fl st wt) (hp : PN T (w * h) p) (hW : WishAt M Wo (fun t => nbI (wo t)) road) (hwo : ∀ t m, wo t = some m → m < 1000) (hR : ∃ f, RowAt M a 8 f) (ho : 7 < o) (hoa : o < a) (hGo : G < a ∨ a + 2 ≤ G) (hWo : Wo + 2 < a ∨ a + 2 ≤ Wo)
    (hQ : ∀ M', Fr a (a + 2) M M' → (∃ f, RowAt M' a 8 f) → Q (.inl (some (.int (bI (cB (wrongP T (w * h) wo p) = true))))) M') : cl 9 [.ref o] M Q := by
  have hN := hD.le
  have h8 := hk.1
  obtain ⟨fa, ra⟩ := hR
  rw [e_9]
  simp only [g_9_0, g_9_1, g_9_4, g_9_5, g_9_8, g_9_9, g_9_11, g_9_12, g_9_15, g_9_18, g_9_21, g_9_22, g_9_25, g_9_28, g_9_29, g_9_32, g_9_33, g_9_34, g_9_37, g_9_38, g_9_39, g_9_40, g_9_43, g_9_44, g_9_47, g_9_48, g_9_51, g_9_52, g_9_55, g_9_56, g_9_57, g_9_60, g_9_61, g_9_62, g_9_65, g_9_66, g_9_69, g_9_70, g_9_71, g_9_74, g_9_75, g_9_78, g_9_79, g_9_80, g_9_83, g_9_84, g_9_87, g_9_90, g_9_93, g_9_94, g_9_95, g_9_98, g_9_101, g_9_102, qOb_some, kr_v, kr_n, qinv_i, qinv_r, qinv_0, Nat.reduceAdd, List.getElem?_cons_zero, List.getElem?_cons_succ, List.set_cons_zero, List.set_cons_succ, List.length_cons, List.length_nil, not_true_eq_false, not_false_eq_true, false_implies, true_implies, and_true, true_and, and_false, false_and, if_true, if_false, forall_const, or_true, true_or, false_or, or_false, i10, Bool.false_eq_true, hO.get, fo_5, ra.cls]
  refine s_setAll ra (by decide) (fun f1 hf1 => ?_)
  have frA : Fr a (a + 2) M (M.set (a + 1) (.inl (0, 8, .inl f1))) := Fr.set (by omega) (by omega)
  have rA : RowAt (M.set (a + 1) (.inl (0, 8, .inl f1))) a 8 f1 := ra.set
  revert frA rA
  generalize M.set (a + 1) (.inl (0, 8, .inl f1)) = MA
  intro frA rA
  simp only [g_9_0, g_9_1, g_9_4, g_9_5, g_9_8, g_9_9, g_9_11, g_9_12, g_9_15, g_9_18, g_9_21, g_9_22, g_9_25, g_9_28, g_9_29, g_9_32, g_9_33, g_9_34, g_9_37, g_9_38, g_9_39, g_9_40, g_9_43, g_9_44, g_9_47, g_9_48, g_9_51, g_9_52, g_9_55, g_9_56, g_9_57, g_9_60, g_9_61, g_9_62, g_9_65, g_9_66, g_9_69, g_9_70, g_9_71, g_9_74, g_9_75, g_9_78, g_9_79, g_9_80, g_9_83, g_9_84, g_9_87, g_9_90, g_9_93, g_9_94, g_9_95, g_9_98, g_9_101, g_9_102, qOb_some, kr_v, kr_n, qinv_i, qinv_r, qinv_0, Nat.reduceAdd, List.getElem?_cons_zero, List.getElem?_cons_succ, List.set_cons_zero, List.set_cons_succ, List.length_cons, List.length_nil, not_true_eq_false, not_false_eq_true, false_implies, true_implies, and_true, true_and, and_false, false_and, if_true, if_false, forall_const, or_true, true_or, false_or, or_false, i10, Bool.false_eq_true]
  refine upto (N := w * h) (I := fun c (z : qM × Option Value × Option Value) => Fr a (a + 2) M z.1 ∧ (∃ f, RowAt z.1 a 8 f ∧ ∀ t, t < 8 → f t = nI (al p t c)) ∧ (∀ k, k < c → p k ≠ 0) ∧ (∀ t m, t < T.n → wo t = some m → al p t c ≤ m)) (G := fun c (z : qM × Option Value × Option Value) => g 9 10 [some (.ref o), some (.int (nI c)), z.2.1, z.2.2] [] z.1 0 0 Q) ?_ ?_ 0 (MA, none, none) (Nat.zero_le _) ⟨frA, ⟨f1, rA, fun t ht => hf1 t ht⟩, fun k hk => absurd hk (Nat.not_lt_zero _), fun t m _ _ => Nat.zero_le _⟩
  · rintro ⟨M1, l2, l3⟩ ⟨a1, ⟨f, a2, a3⟩, a4, a5⟩
    have hG1 := hG.fr a1 hGo
    have hw : ¬ cB (wrongP T (w * h) wo p) = true := by
      rw [cB_iff]
      rintro (⟨k, q1, q2⟩ | ⟨t, m, q1, q2, q3⟩)
      · exact a4 k q1 q2
      · have := a5 t m q1 q2
        omega
    have hq := hQ M1 a1 ⟨f, a2⟩
    rw [bI_f hw] at hq
    rw [g_9_10]
    simp only [g_9_0, g_9_1, g_9_4, g_9_5, g_9_8, g_9_9, g_9_11, g_9_12, g_9_15, g_9_18, g_9_21, g_9_22, g_9_25, g_9_28, g_9_29, g_9_32, g_9_33, g_9_34, g_9_37, g_9_38, g_9_39, g_9_40, g_9_43, g_9_44, g_9_47, g_9_48, g_9_51, g_9_52, g_9_55, g_9_56, g_9_57, g_9_60, g_9_61, g_9_62, g_9_65, g_9_66, g_9_69, g_9_70, g_9_71, g_9_74, g_9_75, g_9_78, g_9_79, g_9_80, g_9_83, g_9_84, g_9_87, g_9_90, g_9_93, g_9_94, g_9_95, g_9_98, g_9_101, g_9_102, qOb_some, kr_v, kr_n, qinv_i, qinv_r, qinv_0, Nat.reduceAdd, List.getElem?_cons_zero, List.getElem?_cons_succ, List.set_cons_zero, List.set_cons_succ, List.length_cons, List.length_nil, not_true_eq_false, not_false_eq_true, false_implies, true_implies, and_true, true_and, and_false, false_and, if_true, if_false, forall_const, or_true, true_or, false_or, or_false, i10, Bool.false_eq_true, (hO.fr a1 (by omega)).get, fo_1, qcls_of hG1, s_cells hG1, Int32.le_refl]
    exact hq
  · rintro c ⟨M1, l2, l3⟩ hc ⟨a1, ⟨f, a2, a3⟩, a4, a5⟩ ih
    have hG1 := hG.fr a1 hGo
    have hT1 := hT.fr a1 (by omega)
    have hO1 := hO.fr a1 (by omega)
    have hW1 := hW.fr a1 hWo
    obtain ⟨h1, ⟨fp, r1, v1⟩, -, -⟩ := hA.fr a1 (by omega)
    have hpc := (hp.msk hk) c hc
    have bad : wrongP T (w * h) wo p → ∀ M2, Fr a (a + 2) M M2 → (∃ f, RowAt M2 a 8 f) → Q (.inl (some (.int 1))) M2 := by
      intro q M2 q1 q2
      have := hQ M2 q1 q2
      rw [bI_t (cB_iff.mpr q)] at this
      exact this
    rw [g_9_10]
    simp only [g_9_0, g_9_1, g_9_4, g_9_5, g_9_8, g_9_9, g_9_11, g_9_12, g_9_15, g_9_18, g_9_21, g_9_22, g_9_25, g_9_28, g_9_29, g_9_32, g_9_33, g_9_34, g_9_37, g_9_38, g_9_39, g_9_40, g_9_43, g_9_44, g_9_47, g_9_48, g_9_51, g_9_52, g_9_55, g_9_56, g_9_57, g_9_60, g_9_61, g_9_62, g_9_65, g_9_66, g_9_69, g_9_70, g_9_71, g_9_74, g_9_75, g_9_78, g_9_79, g_9_80, g_9_83, g_9_84, g_9_87, g_9_90, g_9_93, g_9_94, g_9_95, g_9_98, g_9_101, g_9_102, qOb_some, kr_v, kr_n, qinv_i, qinv_r, qinv_0, Nat.reduceAdd, List.getElem?_cons_zero, List.getElem?_cons_succ, List.set_cons_zero, List.set_cons_succ, List.length_cons, List.length_nil, not_true_eq_false, not_false_eq_true, false_implies, true_implies, and_true, true_and, and_false, false_and, if_true, if_false, forall_const, or_true, true_or, false_or, or_false, i10, Bool.false_eq_true, hO1.get, fo_1, fo_3, fo_0, qcls_of hG1, s_cells hG1, nI_ge hc (show w * h < 2 ^ 31 by omega), qget_of h1, r1.cls, s_get r1 (show 36 < 2147483648 by decide), rget_nI (show c < 36 by omega) (show 36 < 2147483648 by decide), v1 c hc, nI_eq0 (show p c < 2147483648 by omega), s_bitCount hpc, qcls_of hT1.1, s_lowest hpc]
    by_cases u0 : p c = 0
    · simp only [u0, not_true_eq_false, not_false_eq_true, false_implies, true_implies, and_true, true_and, and_false, false_and, if_true, if_false, forall_const, or_true, true_or, false_or, or_false, i10, Bool.false_eq_true]
      exact bad (Or.inl ⟨c, hc, u0⟩) M1 a1 ⟨f, a2⟩
    · have n1 : (nI (cnt (p c)) = 1) = (cnt (p c) = 1) := propext (nI_eq (b := 1) (by have := cnt_le (p c) hpc; omega) (by decide))
      simp only [u0, n1, not_true_eq_false, not_false_eq_true, false_implies, true_implies, and_true, true_and, and_false, false_and, if_true, if_false, forall_const, or_true, true_or, false_or, or_false, i10, Bool.false_eq_true]
      by_cases u1 : cnt (p c) = 1
      · obtain ⟨t, ht, ht2⟩ := (cnt_1 (p c) hpc).mp u1
        have htn : t < T.n := bit_ltn (hp c hc) (by rw [ht2]; exact Nat.testBit_two_pow_self)
        have e1 : lowI (p c) = nI t := by rw [ht2]; exact lowI_pow t ht
        simp only [u1, e1, not_true_eq_false, not_false_eq_true, false_implies, true_implies, and_true, true_and, and_false, false_and, if_true, if_false, forall_const, or_true, true_or, false_or, or_false, i10, Bool.false_eq_true, hO1.get, fo_5, a2.cls, s_get a2 (show 8 < 2147483648 by decide), rget_nI ht (show 8 < 2147483648 by decide), a3 t ht, nI_1, g_9_0, g_9_1, g_9_4, g_9_5, g_9_8, g_9_9, g_9_11, g_9_12, g_9_15, g_9_18, g_9_21, g_9_22, g_9_25, g_9_28, g_9_29, g_9_32, g_9_33, g_9_34, g_9_37, g_9_38, g_9_39, g_9_40, g_9_43, g_9_44, g_9_47, g_9_48, g_9_51, g_9_52, g_9_55, g_9_56, g_9_57, g_9_60, g_9_61, g_9_62, g_9_65, g_9_66, g_9_69, g_9_70, g_9_71, g_9_74, g_9_75, g_9_78, g_9_79, g_9_80, g_9_83, g_9_84, g_9_87, g_9_90, g_9_93, g_9_94, g_9_95, g_9_98, g_9_101, g_9_102, qOb_some, kr_v, kr_n, qinv_i, qinv_r, qinv_0, Nat.reduceAdd, List.getElem?_cons_zero, List.getElem?_cons_succ, List.set_cons_zero, List.set_cons_succ, List.length_cons, List.length_nil]
        refine s_setF a2 (by decide) ht (fun M2 b1 b2 => ?_)
        have hO2 := hO1.fr b1 (by omega)
        have hW2 := hW1.fr b1 (by omega)
        have fr2 : Fr a (a + 2) M M2 := a1.trans (b1.mono (by omega) (by omega))
        have hal : al p t (c + 1) = al p t c + 1 := by rw [al_s, if_pos ht2]
        have hale := al_le (p := p) (t := t) (n := c)
        simp only [g_9_0, g_9_1, g_9_4, g_9_5, g_9_8, g_9_9, g_9_11, g_9_12, g_9_15, g_9_18, g_9_21, g_9_22, g_9_25, g_9_28, g_9_29, g_9_32, g_9_33, g_9_34, g_9_37, g_9_38, g_9_39, g_9_40, g_9_43, g_9_44, g_9_47, g_9_48, g_9_51, g_9_52, g_9_55, g_9_56, g_9_57, g_9_60, g_9_61, g_9_62, g_9_65, g_9_66, g_9_69, g_9_70, g_9_71, g_9_74, g_9_75, g_9_78, g_9_79, g_9_80, g_9_83, g_9_84, g_9_87, g_9_90, g_9_93, g_9_94, g_9_95, g_9_98, g_9_101, g_9_102, qOb_some, kr_v, kr_n, qinv_i, qinv_r, qinv_0, Nat.reduceAdd, List.getElem?_cons_zero, List.getElem?_cons_succ, List.set_cons_zero, List.set_cons_succ, List.length_cons, List.length_nil, not_true_eq_false, not_false_eq_true, false_implies, true_implies, and_true, true_and, and_false, false_and, if_true, if_false, forall_const, or_true, true_or, false_or, or_false, i10, Bool.false_eq_true, hO2.get, fo_5, fo_2, b2.cls, s_get b2 (show 8 < 2147483648 by decide), rget_nI ht (show 8 < 2147483648 by decide), upd_s, qcls_of hW2.1, s_allow hW2 ht, bI_0, nI_1]
        have rest : (∀ m, wo t = some m → al p t (c + 1) ≤ m) → g 9 10 [some (.ref o), some (.int (nI (c + 1))), some (.int (nI (p c))), some (.int (nI t))] [] M2 0 0 Q := by
          intro q
          refine ih (M2, _, _) ⟨fr2, ⟨_, b2, fun u hu => ?_⟩, fun k hk => ?_, fun u m q1 q2 => ?_⟩
          · by_cases e : u = t
            · rw [e, upd_s, hal]
            · rw [upd_n e, a3 u hu, al_s, if_neg (fun q => e ?_)]
              · rfl
              · rw [ht2] at q
                exact ((Nat.pow_right_inj (a := 2) (by decide)).mp q).symm
          · by_cases e : k = c
            · subst e; exact u0
            · exact a4 k (by omega)
          · by_cases e : u = t
            · subst e; exact q m q2
            · rw [al_s, if_neg (fun q => e ?_)]
              · exact a5 u m q1 q2
              · rw [ht2] at q
                exact ((Nat.pow_right_inj (a := 2) (by decide)).mp q).symm
        cases hw : wo t with
        | none =>
          simp only [nbI, not_true_eq_false, not_false_eq_true, false_implies, true_implies, and_true, true_and, and_false, false_and, if_true, if_false, forall_const, or_true, true_or, false_or, or_false, i10, Bool.false_eq_true]
          exact rest (fun m q => by rw [hw] at q; cases q)
        | some m =>
          have hm := hwo t m hw
          have e2 : (nI (al p t c + 1) ≤ nI m) = (al p t c + 1 ≤ m) := propext (nI_leI (by omega) (by omega))
          simp only [nbI, m1_ne (show m < 1000 by omega), e2, not_true_eq_false, not_false_eq_true, false_implies, true_implies, and_true, true_and, and_false, false_and, if_true, if_false, forall_const, or_true, true_or, false_or, or_false, i10, Bool.false_eq_true]
          by_cases u2 : al p t c + 1 ≤ m
          · simp only [u2, not_true_eq_false, not_false_eq_true, false_implies, true_implies, and_true, true_and, and_false, false_and, if_true, if_false, forall_const, or_true, true_or, false_or, or_false, i10, Bool.false_eq_true]
            exact rest (fun m' q => by rw [hw] at q; cases q; omega)
          · simp only [u2, not_true_eq_false, not_false_eq_true, false_implies, true_implies, and_true, true_and, and_false, false_and, if_true, if_false, forall_const, or_true, true_or, false_or, or_false, i10, Bool.false_eq_true]
            refine bad (Or.inr ⟨t, m, htn, hw, ?_⟩) M2 fr2 ⟨_, b2⟩
            have : al p t (c + 1) ≤ al p t (w * h) := cntB_up (by omega)
            omega
      · simp only [u1, not_true_eq_false, not_false_eq_true, false_implies, true_implies, and_true, true_and, and_false, false_and, if_true, if_false, forall_const, or_true, true_or, false_or, or_false, i10, Bool.false_eq_true, nI_1]
        refine ih (M1, _, _) ⟨a1, ⟨f, a2, fun u hu => ?_⟩, fun k hk => ?_, fun u m q1 q2 => ?_⟩
        · rw [a3 u hu, al_s, if_neg (fun q => u1 (by rw [q]; exact cnt_pow u hu))]
          rfl
        · by_cases e : k = c
          · subst e; exact u0
          · exact a4 k (by omega)
        · rw [al_s, if_neg (fun q => u1 (by rw [q]; exact cnt_pow u (by omega)))]
          exact a5 u m q1 q2
