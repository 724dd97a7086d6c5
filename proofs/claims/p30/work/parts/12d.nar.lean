/-! narrowing by sweeps -/
def fitsAll (T : TS) (w h : Nat) (p : Nat → Nat) (k t : Nat) : Bool := (List.range 4).all (fun d => match nb w h k d with
  | none => true
  | some k2 => (fitM T (p k2) (op d)).testBit t)
theorem fitsAll_iff {T : TS} {w h : Nat} {p : Nat → Nat} {k t : Nat} : fitsAll T w h p k t = true ↔ ∀ d, d < 4 → ∀ k2, nb w h k d = some k2 → (fitM T (p k2) (op d)).testBit t = true := by
  unfold fitsAll
  rw [List.all_eq_true]
  constructor
  · intro q d hd k2 hn
    have := q d (List.mem_range.mpr hd)
    rw [hn] at this
    exact this
  · intro q d hd
    have hd := List.mem_range.mp hd
    cases hn : nb w h k d with
    | none => rfl
    | some k2 => exact q d hd k2 hn
def swp (T : TS) (w h : Nat) (p : Nat → Nat) (k : Nat) : Nat := mk (fun t => (p k).testBit t && fitsAll T w h p k t) 8
theorem swp_lt {T : TS} {w h k : Nat} {p : Nat → Nat} : swp T w h p k < 256 := mk_lt _ 8
theorem swp_bit {T : TS} {w h k u : Nat} {p : Nat → Nat} (hp : p k < 256) : (swp T w h p k).testBit u = true ↔ (p k).testBit u = true ∧ fitsAll T w h p k u = true := by
  unfold swp
  rw [mk_bit, Bool.and_eq_true, Bool.and_eq_true, decide_eq_true_eq]
  exact ⟨fun q => q.2, fun q => ⟨bit_lt hp q.1, q⟩⟩
theorem swp_sb {T : TS} {w h k : Nat} {p : Nat → Nat} (hp : p k < 256) : Sb (swp T w h p k) (p k) := fun u hu => ((swp_bit hp).mp hu).1
theorem swp_keeps {T : TS} {w h c : Nat} {p0 p : Nat → Nat} (hc : c < w * h) (hp : p c < 256) (hK : Keeps T w h p0 p) : Keeps T w h p0 (fu p c (swp T w h p c)) := by
  refine ⟨fun i hi => ?_, fun S hS hs i hi => ?_⟩
  · by_cases q : i = c
    · subst q
      rw [fu_s]
      exact (swp_sb hp).trans (hK.1 i hi)
    · rw [fu_n q]
      exact hK.1 i hi
  · have hSp := hK.2 S hS hs
    by_cases q : i = c
    · subst q
      rw [fu_s]
      intro u hu
      rw [swp_bit hp, fitsAll_iff]
      refine ⟨hSp i hi u hu, fun d hd k2 hn => ?_⟩
      have hk2 := nb_lt hi hn
      exact fitM_mono (hSp k2 hk2) u (hS k2 (op d) i hk2 (op_lt d) (nb_sym hi hd hn) u hu)
    · rw [fu_n q]
      exact hSp i hi
theorem swp_stab {T : TS} {w h : Nat} {p : Nat → Nat} (hm : Msk (w * h) p) (hs : ∀ i, i < w * h → swp T w h p i = p i) : Stab T w h p := by
  intro k d k2 hk hd hn u hu
  have hk2 := nb_lt hk hn
  rw [← hs k2 hk2, swp_bit (hm k2 hk2), fitsAll_iff] at hu
  have := hu.2 (op d) (op_lt d) k (nb_sym hk hd hn)
  rw [op_op d hd] at this
  exact this
def PN (T : TS) (N : Nat) (p : Nat → Nat) : Prop := ∀ k, k < N → p k < 2 ^ T.n
theorem PN.msk {T : TS} {N : Nat} {p : Nat → Nat} (hk : TOk T) (h : PN T N p) : Msk N p := fun k q => Nat.lt_of_lt_of_le (h k q) (pow_le8 hk.1)
theorem bit_ltn {k t n : Nat} (hk : k < 2 ^ n) (h : k.testBit t = true) : t < n := by
  rcases Nat.lt_or_ge t n with q | q
  · exact q
  · rw [Nat.testBit_lt_two_pow (Nat.lt_of_lt_of_le hk (Nat.pow_le_pow_right (by decide) q))] at h
    cases h
theorem sb_ltn {a b n : Nat} (hb : b < 2 ^ n) (h : Sb a b) : a < 2 ^ n := by
  apply Nat.lt_pow_two_of_testBit
  intro i hi
  cases q : a.testBit i
  · rfl
  · have := bit_ltn hb (h i q)
    omega
theorem PN.sub {T : TS} {N : Nat} {p q : Nat → Nat} (h : PN T N p) (hs : SubN N q p) : PN T N q := fun k hk => sb_ltn (h k hk) (hs k hk)
theorem s_hasFitting {M : qM} {T : TS} {o G w h c t wt : Nat} {p st : Nat → Nat} {fl : Nat → Bool} {Q : qR → qM → Prop} (hT : TilesAt M T) (hk : TOk T) (hG : GridAt M G w h) (hD : Dim w h) (hA : NarAt M o G (w * h) p fl st wt) (hm : Msk (w * h) p) (hc : c < w * h) (ht : t < T.n) : cl 27 [.ref o, .int (nI c), .int (nI t)] M Q ↔ Q (.inl (some (.int (bI (fitsAll T w h p c t = true))))) M := by
  refine cl_iff (fun Q hQ => ?_)
  have hN := hD.le
  have h8 := hk.1
  obtain ⟨h1, ⟨f1, r1, v1⟩, -, -⟩ := hA
  rw [e_27]
  simp only [g_27_0, g_27_1, g_27_3, g_27_4, g_27_7, g_27_8, g_27_11, g_27_12, g_27_13, g_27_16, g_27_18, g_27_20, g_27_21, g_27_24, g_27_25, g_27_28, g_27_29, g_27_31, g_27_32, g_27_36, g_27_37, g_27_40, g_27_43, g_27_46, g_27_48, g_27_51, g_27_53, g_27_54, g_27_57, g_27_59, g_27_62, g_27_65, g_27_68, g_27_69, g_27_72, g_27_73, g_27_75, g_27_76, g_27_79, g_27_82, g_27_83, g_27_86, g_27_87, g_27_89, g_27_92, g_27_95, g_27_97, g_27_100, g_27_101, g_27_102, g_27_105, g_27_108, g_27_109, qOb_some, kr_v, kr_n, qinv_i, qinv_r, qinv_0, Nat.reduceAdd, List.getElem?_cons_zero, List.getElem?_cons_succ, List.set_cons_zero, List.set_cons_succ, List.length_cons, List.length_nil]
  refine upto (N := 4) (I := fun d _ => ∀ d', d' < d → ∀ k2, nb w h c d' = some k2 → (fitM T (p k2) (op d')).testBit t = true) (G := fun d (a : Option Value × Option Value × Option Value) => g 27 2 [some (.ref o), some (.int (nI c)), some (.int (nI t)), some (.int (nI d)), a.1, a.2.1, a.2.2] [] M 0 0 Q) ?_ ?_ 0 (none, none, none) (Nat.zero_le _) (fun d' q => absurd q (by omega))
  · rintro ⟨l4, l5, l6⟩ hi
    have hf : fitsAll T w h p c t = true := fitsAll_iff.mpr (fun d hd k2 hn => hi d hd k2 hn)
    rw [bI_t hf] at hQ
    rw [g_27_2]
    simp only [g_27_0, g_27_1, g_27_3, g_27_4, g_27_7, g_27_8, g_27_11, g_27_12, g_27_13, g_27_16, g_27_18, g_27_20, g_27_21, g_27_24, g_27_25, g_27_28, g_27_29, g_27_31, g_27_32, g_27_36, g_27_37, g_27_40, g_27_43, g_27_46, g_27_48, g_27_51, g_27_53, g_27_54, g_27_57, g_27_59, g_27_62, g_27_65, g_27_68, g_27_69, g_27_72, g_27_73, g_27_75, g_27_76, g_27_79, g_27_82, g_27_83, g_27_86, g_27_87, g_27_89, g_27_92, g_27_95, g_27_97, g_27_100, g_27_101, g_27_102, g_27_105, g_27_108, g_27_109, qOb_some, kr_v, kr_n, qinv_i, qinv_r, qinv_0, Nat.reduceAdd, List.getElem?_cons_zero, List.getElem?_cons_succ, List.set_cons_zero, List.set_cons_succ, List.length_cons, List.length_nil, show (4 : Int32) = nI 4 from rfl, Int32.le_refl, not_true_eq_false, not_false_eq_true, false_implies, true_implies, and_true, true_and, and_false, false_and, if_true, if_false, forall_const, or_true, true_or, false_or, or_false, i10, Bool.false_eq_true]
    exact hQ
  · rintro d ⟨l4, l5, l6⟩ hd hi ih
    have hot := op_lt d
    rw [g_27_2]
    simp only [g_27_0, g_27_1, g_27_3, g_27_4, g_27_7, g_27_8, g_27_11, g_27_12, g_27_13, g_27_16, g_27_18, g_27_20, g_27_21, g_27_24, g_27_25, g_27_28, g_27_29, g_27_31, g_27_32, g_27_36, g_27_37, g_27_40, g_27_43, g_27_46, g_27_48, g_27_51, g_27_53, g_27_54, g_27_57, g_27_59, g_27_62, g_27_65, g_27_68, g_27_69, g_27_72, g_27_73, g_27_75, g_27_76, g_27_79, g_27_82, g_27_83, g_27_86, g_27_87, g_27_89, g_27_92, g_27_95, g_27_97, g_27_100, g_27_101, g_27_102, g_27_105, g_27_108, g_27_109, qOb_some, kr_v, kr_n, qinv_i, qinv_r, qinv_0, Nat.reduceAdd, List.getElem?_cons_zero, List.getElem?_cons_succ, List.set_cons_zero, List.set_cons_succ, List.length_cons, List.length_nil, show (4 : Int32) = nI 4 from rfl, nI_ge hd (show 4 < 2 ^ 31 by decide), not_true_eq_false, not_false_eq_true, false_implies, true_implies, and_true, true_and, and_false, false_and, if_true, if_false, forall_const, or_true, true_or, false_or, or_false, i10, Bool.false_eq_true, qget_of h1, qcls_of hG, s_beside hG hD.1 hD.2.1 hD.2.2.1 hD.2.2.2 hc hd]
    have good : (∀ k2, nb w h c d = some k2 → (fitM T (p k2) (op d)).testBit t = true) → ∀ l4 l6, g 27 95 [some (.ref o), some (.int (nI c)), some (.int (nI t)), some (.int (nI d)), l4, some (.int 1), l6] [] M 0 0 Q := by
      intro q l4 l6
      simp only [g_27_0, g_27_1, g_27_3, g_27_4, g_27_7, g_27_8, g_27_11, g_27_12, g_27_13, g_27_16, g_27_18, g_27_20, g_27_21, g_27_24, g_27_25, g_27_28, g_27_29, g_27_31, g_27_32, g_27_36, g_27_37, g_27_40, g_27_43, g_27_46, g_27_48, g_27_51, g_27_53, g_27_54, g_27_57, g_27_59, g_27_62, g_27_65, g_27_68, g_27_69, g_27_72, g_27_73, g_27_75, g_27_76, g_27_79, g_27_82, g_27_83, g_27_86, g_27_87, g_27_89, g_27_92, g_27_95, g_27_97, g_27_100, g_27_101, g_27_102, g_27_105, g_27_108, g_27_109, qOb_some, kr_v, kr_n, qinv_i, qinv_r, qinv_0, Nat.reduceAdd, List.getElem?_cons_zero, List.getElem?_cons_succ, List.set_cons_zero, List.set_cons_succ, List.length_cons, List.length_nil, not_true_eq_false, not_false_eq_true, false_implies, true_implies, and_true, true_and, and_false, false_and, if_true, if_false, forall_const, or_true, true_or, false_or, or_false, i10, Bool.false_eq_true, nI_1]
      refine ih (l4, _, l6) (fun d' hd' k2 hn => ?_)
      by_cases e : d' = d
      · subst e; exact q k2 hn
      · exact hi d' (by omega) k2 hn
    cases hn : nb w h c d with
    | none =>
      have good := good (fun k2 q => by rw [hn] at q; cases q)
      simp only [g_27_0, g_27_1, g_27_3, g_27_4, g_27_7, g_27_8, g_27_11, g_27_12, g_27_13, g_27_16, g_27_18, g_27_20, g_27_21, g_27_24, g_27_25, g_27_28, g_27_29, g_27_31, g_27_32, g_27_36, g_27_37, g_27_40, g_27_43, g_27_46, g_27_48, g_27_51, g_27_53, g_27_54, g_27_57, g_27_59, g_27_62, g_27_65, g_27_68, g_27_69, g_27_72, g_27_73, g_27_75, g_27_76, g_27_79, g_27_82, g_27_83, g_27_86, g_27_87, g_27_89, g_27_92, g_27_97, g_27_100, g_27_101, g_27_102, g_27_105, g_27_108, g_27_109, qOb_some, kr_v, kr_n, qinv_i, qinv_r, qinv_0, Nat.reduceAdd, List.getElem?_cons_zero, List.getElem?_cons_succ, List.set_cons_zero, List.set_cons_succ, List.length_cons, List.length_nil, nbI, not_true_eq_false, not_false_eq_true, false_implies, true_implies, and_true, true_and, and_false, false_and, if_true, if_false, forall_const, or_true, true_or, false_or, or_false, i10, Bool.false_eq_true]
      rw [g_27_34]
      simp only [g_27_0, g_27_1, g_27_3, g_27_4, g_27_7, g_27_8, g_27_11, g_27_12, g_27_13, g_27_16, g_27_18, g_27_20, g_27_21, g_27_24, g_27_25, g_27_28, g_27_29, g_27_31, g_27_32, g_27_36, g_27_37, g_27_40, g_27_43, g_27_46, g_27_48, g_27_51, g_27_53, g_27_54, g_27_57, g_27_59, g_27_62, g_27_65, g_27_68, g_27_69, g_27_72, g_27_73, g_27_75, g_27_76, g_27_79, g_27_82, g_27_83, g_27_86, g_27_87, g_27_89, g_27_92, g_27_97, g_27_100, g_27_101, g_27_102, g_27_105, g_27_108, g_27_109, qOb_some, kr_v, kr_n, qinv_i, qinv_r, qinv_0, Nat.reduceAdd, List.getElem?_cons_zero, List.getElem?_cons_succ, List.set_cons_zero, List.set_cons_succ, List.length_cons, List.length_nil, not_true_eq_false, not_false_eq_true, false_implies, true_implies, and_true, true_and, and_false, false_and, if_true, if_false, forall_const, or_true, true_or, false_or, or_false, i10, Bool.false_eq_true, qget_of h1, qget_of hT.1]
      exact ⟨fun _ => good _ _, fun _ => good _ _⟩
    | some k2 =>
      have hk2 := nb_lt hc hn
      have b2 := hm k2 hk2
      have hne : (nI k2 = -1) = False := eq_false (fun q => by
        have := congrArg Int32.toInt q
        rw [nI_toInt (by omega)] at this
        have e2 : (-1 : Int32).toInt = -1 := by decide
        rw [e2] at this
        omega)
      simp only [g_27_0, g_27_1, g_27_3, g_27_4, g_27_7, g_27_8, g_27_11, g_27_12, g_27_13, g_27_16, g_27_18, g_27_20, g_27_21, g_27_24, g_27_25, g_27_28, g_27_29, g_27_31, g_27_32, g_27_36, g_27_37, g_27_40, g_27_43, g_27_46, g_27_48, g_27_51, g_27_53, g_27_54, g_27_57, g_27_59, g_27_62, g_27_65, g_27_68, g_27_69, g_27_72, g_27_73, g_27_75, g_27_76, g_27_79, g_27_82, g_27_83, g_27_86, g_27_87, g_27_89, g_27_92, g_27_97, g_27_100, g_27_101, g_27_102, g_27_105, g_27_108, g_27_109, qOb_some, kr_v, kr_n, qinv_i, qinv_r, qinv_0, Nat.reduceAdd, List.getElem?_cons_zero, List.getElem?_cons_succ, List.set_cons_zero, List.set_cons_succ, List.length_cons, List.length_nil, nbI, hne, not_true_eq_false, not_false_eq_true, false_implies, true_implies, and_true, true_and, and_false, false_and, if_true, if_false, forall_const, or_true, true_or, false_or, or_false, i10, Bool.false_eq_true]
      have main := upto (N := T.n) (I := fun j _ => ∀ u, u < j → ¬ ((p k2).testBit u = true ∧ T.c t d = T.c u (op d))) (G := fun j (_ : Unit) => g 27 34 [some (.ref o), some (.int (nI c)), some (.int (nI t)), some (.int (nI d)), some (.int (nI k2)), some (.int 0), some (.int (nI j))] [] M 0 0 Q) ?_ ?_ 0 () (Nat.zero_le _) (fun u q => absurd q (by omega))
      · exact main
      · intro _ hj
        have hf : ¬ fitsAll T w h p c t = true := by
          rw [fitsAll_iff]
          intro q
          have := q d hd k2 hn
          rw [fitM_bit] at this
          obtain ⟨-, u, u1, u2, u3⟩ := this
          rw [op_op d hd] at u3
          exact hj u u1 ⟨u2, u3.symm⟩
        rw [bI_f hf] at hQ
        rw [g_27_34]
        simp only [g_27_0, g_27_1, g_27_3, g_27_4, g_27_7, g_27_8, g_27_11, g_27_12, g_27_13, g_27_16, g_27_18, g_27_20, g_27_21, g_27_24, g_27_25, g_27_28, g_27_29, g_27_31, g_27_32, g_27_36, g_27_37, g_27_40, g_27_43, g_27_46, g_27_48, g_27_51, g_27_53, g_27_54, g_27_57, g_27_59, g_27_62, g_27_65, g_27_68, g_27_69, g_27_72, g_27_73, g_27_75, g_27_76, g_27_79, g_27_82, g_27_83, g_27_86, g_27_87, g_27_89, g_27_92, g_27_95, g_27_97, g_27_100, g_27_101, g_27_102, g_27_105, g_27_108, g_27_109, qOb_some, kr_v, kr_n, qinv_i, qinv_r, qinv_0, Nat.reduceAdd, List.getElem?_cons_zero, List.getElem?_cons_succ, List.set_cons_zero, List.set_cons_succ, List.length_cons, List.length_nil, not_true_eq_false, not_false_eq_true, false_implies, true_implies, and_true, true_and, and_false, false_and, if_true, if_false, forall_const, or_true, true_or, false_or, or_false, i10, Bool.false_eq_true, qget_of h1, qget_of hT.1, Int32.le_refl]
        exact hQ
      · intro j _ hj hi2 ih2
        rw [g_27_34]
        simp only [g_27_0, g_27_1, g_27_3, g_27_4, g_27_7, g_27_8, g_27_11, g_27_12, g_27_13, g_27_16, g_27_18, g_27_20, g_27_21, g_27_24, g_27_25, g_27_28, g_27_29, g_27_31, g_27_32, g_27_36, g_27_37, g_27_40, g_27_43, g_27_46, g_27_48, g_27_51, g_27_53, g_27_54, g_27_57, g_27_59, g_27_62, g_27_65, g_27_68, g_27_69, g_27_72, g_27_73, g_27_75, g_27_76, g_27_79, g_27_82, g_27_83, g_27_86, g_27_87, g_27_89, g_27_92, g_27_97, g_27_100, g_27_101, g_27_102, g_27_105, g_27_108, g_27_109, qOb_some, kr_v, kr_n, qinv_i, qinv_r, qinv_0, Nat.reduceAdd, List.getElem?_cons_zero, List.getElem?_cons_succ, List.set_cons_zero, List.set_cons_succ, List.length_cons, List.length_nil, not_true_eq_false, not_false_eq_true, false_implies, true_implies, and_true, true_and, and_false, false_and, if_true, if_false, forall_const, or_true, true_or, false_or, or_false, i10, Bool.false_eq_true, qget_of h1, qget_of hT.1, qcls_of hT.1, nI_ge hj (show T.n < 2 ^ 31 by omega), r1.cls, s_get r1 (show 36 < 2147483648 by decide), rget_nI (show k2 < 36 by omega) (show 36 < 2147483648 by decide), v1 k2 hk2, s_isOneOf (show j < 8 by omega) b2, bI_0, bI_01, s_fit hT hk ht hj hd, nI_1]
        have fnd : (p k2).testBit j = true → T.c t d = T.c j (op d) → g 27 34 [some (.ref o), some (.int (nI c)), some (.int (nI t)), some (.int (nI d)), some (.int (nI k2)), some (.int 1), some (.int (nI (j + 1)))] [] M 0 0 Q := by
          intro u1 u2
          have good := good (fun k3 q => by
            rw [hn] at q
            cases q
            rw [fitM_bit]
            exact ⟨ht, j, hj, u1, by rw [op_op d hd]; exact u2.symm⟩)
          rw [g_27_34]
          simp only [g_27_0, g_27_1, g_27_3, g_27_4, g_27_7, g_27_8, g_27_11, g_27_12, g_27_13, g_27_16, g_27_18, g_27_20, g_27_21, g_27_24, g_27_25, g_27_28, g_27_29, g_27_31, g_27_32, g_27_36, g_27_37, g_27_40, g_27_43, g_27_46, g_27_48, g_27_51, g_27_53, g_27_54, g_27_57, g_27_59, g_27_62, g_27_65, g_27_68, g_27_69, g_27_72, g_27_73, g_27_75, g_27_76, g_27_79, g_27_82, g_27_83, g_27_86, g_27_87, g_27_89, g_27_92, g_27_97, g_27_100, g_27_101, g_27_102, g_27_105, g_27_108, g_27_109, qOb_some, kr_v, kr_n, qinv_i, qinv_r, qinv_0, Nat.reduceAdd, List.getElem?_cons_zero, List.getElem?_cons_succ, List.set_cons_zero, List.set_cons_succ, List.length_cons, List.length_nil, not_true_eq_false, not_false_eq_true, false_implies, true_implies, and_true, true_and, and_false, false_and, if_true, if_false, forall_const, or_true, true_or, false_or, or_false, i10, Bool.false_eq_true, qget_of h1, qget_of hT.1]
          exact ⟨fun _ => good _ _, fun _ => good _ _⟩
        have nfd : ¬ ((p k2).testBit j = true ∧ T.c t d = T.c j (op d)) → g 27 34 [some (.ref o), some (.int (nI c)), some (.int (nI t)), some (.int (nI d)), some (.int (nI k2)), some (.int 0), some (.int (nI (j + 1)))] [] M 0 0 Q := by
          intro q
          refine ih2 () (fun u hu => ?_)
          by_cases e : u = j
          · subst e; exact q
          · exact hi2 u (by omega)
        by_cases u1 : (p k2).testBit j = true
        · by_cases u2 : T.c t d = T.c j (op d)
          · simp only [u1, u2, not_true_eq_false, not_false_eq_true, false_implies, true_implies, and_true, true_and, and_false, false_and, if_true, if_false, forall_const, or_true, true_or, false_or, or_false, i10, Bool.false_eq_true]
            exact fnd u1 u2
          · simp only [u1, u2, not_true_eq_false, not_false_eq_true, false_implies, true_implies, and_true, true_and, and_false, false_and, if_true, if_false, forall_const, or_true, true_or, false_or, or_false, i10, Bool.false_eq_true]
            exact nfd (fun q => u2 q.2)
        · simp only [u1, not_true_eq_false, not_false_eq_true, false_implies, true_implies, and_true, true_and, and_false, false_and, if_true, if_false, forall_const, or_true, true_or, false_or, or_false, i10, Bool.false_eq_true]
          exact nfd (fun q => u1 q.1)
