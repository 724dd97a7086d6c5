/-! the model's filling: begins, draws -/
theorem ast_G {M : qM} {o n k : Nat} {f : Nat → Int32} (x : Int32) (h : M[o]? = some (.inl (0, n, .inl f))) (hk : k < n) (hn : n < 2147483648) : ∃ M', qasti M o 0 (nI k) x = some M' ∧ Fr o (o + 1) M M' ∧ M'[o]? = some (.inl (0, n, .inl (upd f k x))) :=
  ⟨_, ast_N h hk hn, Fr.set (by omega) (by omega), get_set_eq h⟩
theorem put_G {M : qM} {s : Nat → Int32} (k : Nat) (x : Int32) (h : ModAt M s) (hk : k < 34) (hty : q_fit (q_ty 10 k) (.int x) = true) (he : (MO s).set k (.int x) = MO (upd s k x)) : ∃ M', qput M 101 10 k (.int x) = some M' ∧ Fr 101 102 M M' ∧ ModAt M' (upd s k x) :=
  ⟨_, mput h hk hty, Fr.set (by omega) (by omega), by rw [he]; exact h.put⟩
theorem shw {t k w : Nat} (ht : t < 8) (hk : k < 256) : (nI k >>> (nI t &&& 31) &&& 1) * nI w = nI (if k.testBit t = true then w else 0) := by
  rw [nI_shr1 t ht k hk]
  split
  · rw [show (1 : Int32) = nI 1 from rfl, pk_mul, Nat.one_mul]
  · rw [show (0 : Int32) = nI 0 from rfl, pk_mul, Nat.zero_mul]
theorem m_draws {M : qM} {s : Nat → Int32} {T : TS} {b : Nat} {x : Int32} {Q : qR → qM → Prop} (hM : ModAt M s) (hT : MTil M s T) (hk : TOk T) (hb : b < 256) (h0 : 0 < wsum T b T.n) (hx : s 26 = x)
    (hQ : ∀ M', Fr 101 102 M M' → ModAt M' (upd s 26 (nxt x)) → Q (.inl (some (.int (nI (dtl T b x))))) M') : cl 130 [.ref 101, .int (nI b)] M Q := by
  have h8 := hk.1
  have hT0 := hT
  obtain ⟨t1, -, ⟨fw, t2, t3⟩⟩ := hT
  have hw := wsum_le hk b T.n (Nat.le_refl _)
  have hm : drn x % wsum T b T.n < wsum T b T.n := Nat.mod_lt _ h0
  have hdt : dtl T b x = drw T b (drn x % wsum T b T.n) := rfl
  rw [hdt] at hQ
  have hrem : nI (drn x) - nI (drn x) / nI (wsum T b T.n) * nI (wsum T b T.n) = nI (drn x % wsum T b T.n) := pk_rem (show drn x < 2 ^ 31 by have := drn_lt x; omega) h0 (show wsum T b T.n < 2 ^ 31 by omega)
  revert hQ hm hrem
  generalize drn x % wsum T b T.n = r
  intro hQ hm hrem
  rw [e_130]
  simp only [g_130_0, g_130_1, g_130_2, g_130_3, g_130_5, g_130_6, g_130_9, g_130_12, g_130_13, g_130_14, g_130_15, g_130_16, g_130_17, g_130_18, g_130_19, g_130_22, g_130_23, g_130_24, g_130_25, g_130_26, g_130_27, g_130_30, g_130_33, g_130_34, g_130_35, g_130_38, g_130_40, g_130_41, g_130_44, g_130_45, g_130_47, g_130_48, g_130_51, g_130_52, g_130_55, g_130_57, g_130_58, g_130_59, g_130_60, g_130_61, g_130_62, g_130_64, g_130_65, g_130_69, g_130_70, g_130_73, g_130_76, g_130_78, g_130_79, g_130_82, g_130_83, g_130_84, g_130_86, g_130_87, g_130_88, g_130_89, g_130_90, g_130_93, g_130_95, g_130_96, g_130_97, g_130_98, g_130_99, g_130_100, g_130_103, g_130_105, g_130_108, g_130_109, g_130_111, g_130_114, g_130_117, g_130_119, qOb_some, kr_v, kr_n, qinv_i, qinv_r, qinv_0, Nat.reduceAdd, List.getElem?_cons_zero, List.getElem?_cons_succ, List.set_cons_zero, List.set_cons_succ, List.length_cons, List.length_nil]
  refine upto (N := T.n) (I := fun _ _ => True) (G := fun k (_ : Unit) => g 130 4 [some (.ref 101), some (.int (nI b)), some (.int (nI (wsum T b k))), some (.int (nI k)), none, none] [] M 0 0 Q) ?_ ?_ 0 () (Nat.zero_le _) trivial
  · intro _ _
    obtain ⟨M1, e1, f1, hM1⟩ := put_G 26 (nxt x) hM (by decide) rfl ms_26
    have t21 := (f1 103 (by omega)).trans t2
    have u1 : upd s 26 (nxt x) 1 = nI T.n := by rw [upd_n (by decide)]; exact t1
    have hxx : x * 1103515245 + 12345 &&& 2147483647 = nxt x := rfl
    rw [g_130_4]
    simp only [g_130_0, g_130_1, g_130_2, g_130_3, g_130_5, g_130_6, g_130_9, g_130_12, g_130_13, g_130_14, g_130_15, g_130_16, g_130_17, g_130_18, g_130_19, g_130_22, g_130_23, g_130_24, g_130_25, g_130_26, g_130_27, g_130_30, g_130_33, g_130_34, g_130_35, g_130_38, g_130_40, g_130_41, g_130_44, g_130_45, g_130_47, g_130_48, g_130_51, g_130_52, g_130_55, g_130_57, g_130_58, g_130_59, g_130_60, g_130_61, g_130_62, g_130_64, g_130_65, g_130_69, g_130_70, g_130_73, g_130_76, g_130_78, g_130_79, g_130_82, g_130_83, g_130_84, g_130_86, g_130_87, g_130_88, g_130_89, g_130_90, g_130_93, g_130_95, g_130_96, g_130_97, g_130_98, g_130_99, g_130_100, g_130_103, g_130_105, g_130_108, g_130_109, g_130_111, g_130_114, g_130_117, g_130_119, qOb_some, kr_v, kr_n, qinv_i, qinv_r, qinv_0, Nat.reduceAdd, List.getElem?_cons_zero, List.getElem?_cons_succ, List.set_cons_zero, List.set_cons_succ, List.length_cons, List.length_nil, not_true_eq_false, not_false_eq_true, false_implies, true_implies, and_true, true_and, and_false, false_and, if_true, if_false, forall_const, or_true, true_or, false_or, or_false, i10, Bool.false_eq_true, mget hM, mo_1, t1, Int32.le_refl, mo_26, hx, hxx, e1, mget hM1, upd_s, drn_e, nI_ne0 h0 (show wsum T b T.n < 2 ^ 31 by omega), hrem]
    rw [show nI r = nI (r - wsum T b 0) from by rw [wsum, Nat.sub_zero], show (0 : Int32) = nI 0 from rfl]
    refine upto (N := T.n) (I := fun k _ => wsum T b k ≤ r) (G := fun k (_ : Unit) => g 130 67 [some (.ref 101), some (.int (nI b)), some (.int (nI (wsum T b T.n))), some (.int (nI (r - wsum T b k))), some (.int (-1)), some (.int (nI k))] [] M1 0 0 Q) ?_ ?_ 0 () (Nat.zero_le _) (Nat.zero_le _)
    · intro _ q
      omega
    · intro k _ hkn hi ih
      have hv : wsum T b (k + 1) = wsum T b k + (if b.testBit k = true then T.w k else 0) := rfl
      have hw3 := wsum_le hk b (k + 1) (by omega)
      rw [g_130_67]
      simp only [g_130_0, g_130_1, g_130_2, g_130_3, g_130_5, g_130_6, g_130_9, g_130_12, g_130_13, g_130_14, g_130_15, g_130_16, g_130_17, g_130_18, g_130_19, g_130_22, g_130_23, g_130_24, g_130_25, g_130_26, g_130_27, g_130_30, g_130_33, g_130_34, g_130_35, g_130_38, g_130_40, g_130_41, g_130_44, g_130_45, g_130_47, g_130_48, g_130_51, g_130_52, g_130_55, g_130_57, g_130_58, g_130_59, g_130_60, g_130_61, g_130_62, g_130_64, g_130_65, g_130_69, g_130_70, g_130_73, g_130_76, g_130_78, g_130_79, g_130_82, g_130_83, g_130_84, g_130_86, g_130_87, g_130_88, g_130_89, g_130_90, g_130_93, g_130_95, g_130_96, g_130_97, g_130_98, g_130_99, g_130_100, g_130_103, g_130_105, g_130_108, g_130_109, g_130_111, g_130_114, g_130_117, g_130_119, qOb_some, kr_v, kr_n, qinv_i, qinv_r, qinv_0, Nat.reduceAdd, List.getElem?_cons_zero, List.getElem?_cons_succ, List.set_cons_zero, List.set_cons_succ, List.length_cons, List.length_nil, not_true_eq_false, not_false_eq_true, false_implies, true_implies, and_true, true_and, and_false, false_and, if_true, if_false, forall_const, or_true, true_or, false_or, or_false, i10, Bool.false_eq_true, mget hM1, mo_1, u1, nI_ge hkn (show T.n < 2 ^ 31 by omega), mo_3, ald_N t21 (show k < 8 by omega) (show 8 < 2147483648 by decide), t3 k hkn, shw (show k < 8 by omega) hb]
      by_cases hc : wsum T b (k + 1) ≤ r
      · have ih := ih () hc
        have e2 : nI (r - wsum T b k) - nI (if b.testBit k = true then T.w k else 0) = nI (r - wsum T b (k + 1)) := by
          rw [pk_sub (by omega), hv, Nat.sub_add_eq]
        simp only [e2, nI_pos' (show r - wsum T b (k + 1) < 2 ^ 31 by omega), not_true_eq_false, not_false_eq_true, false_implies, true_implies, and_true, true_and, and_false, false_and, if_true, if_false, forall_const, or_true, true_or, false_or, or_false, i10, Bool.false_eq_true, nI_1]
        exact ih
      · have e3 : nI (r - wsum T b k) - nI (if b.testBit k = true then T.w k else 0) < 0 := pk_sneg (by omega) (by omega)
        have e4 := Int32.not_le.mpr e3
        have hq := hQ M1 f1 hM1
        rw [drw_of hkn hi (by omega)] at hq
        simp only [e4, not_true_eq_false, not_false_eq_true, false_implies, true_implies, and_true, true_and, and_false, false_and, if_true, if_false, forall_const, or_true, true_or, false_or, or_false, i10, Bool.false_eq_true, nI_1]
        rw [g_130_67]
        by_cases u : T.n ≤ k + 1
        · have e5 : nI T.n ≤ nI (k + 1) := (nI_leI (by omega) (by omega)).mpr u
          simp only [g_130_0, g_130_1, g_130_2, g_130_3, g_130_5, g_130_6, g_130_9, g_130_12, g_130_13, g_130_14, g_130_15, g_130_16, g_130_17, g_130_18, g_130_19, g_130_22, g_130_23, g_130_24, g_130_25, g_130_26, g_130_27, g_130_30, g_130_33, g_130_34, g_130_35, g_130_38, g_130_40, g_130_41, g_130_44, g_130_45, g_130_47, g_130_48, g_130_51, g_130_52, g_130_55, g_130_57, g_130_58, g_130_59, g_130_60, g_130_61, g_130_62, g_130_64, g_130_65, g_130_69, g_130_70, g_130_73, g_130_76, g_130_78, g_130_79, g_130_82, g_130_83, g_130_84, g_130_86, g_130_87, g_130_88, g_130_89, g_130_90, g_130_93, g_130_95, g_130_96, g_130_97, g_130_98, g_130_99, g_130_100, g_130_103, g_130_105, g_130_108, g_130_109, g_130_111, g_130_114, g_130_117, g_130_119, qOb_some, kr_v, kr_n, qinv_i, qinv_r, qinv_0, Nat.reduceAdd, List.getElem?_cons_zero, List.getElem?_cons_succ, List.set_cons_zero, List.set_cons_succ, List.length_cons, List.length_nil, not_true_eq_false, not_false_eq_true, false_implies, true_implies, and_true, true_and, and_false, false_and, if_true, if_false, forall_const, or_true, true_or, false_or, or_false, i10, Bool.false_eq_true, mget hM1, mo_1, u1, e5]
          exact hq
        · have e5 : ¬ nI T.n ≤ nI (k + 1) := nI_ge (by omega) (by omega)
          simp only [g_130_0, g_130_1, g_130_2, g_130_3, g_130_5, g_130_6, g_130_9, g_130_12, g_130_13, g_130_14, g_130_15, g_130_16, g_130_17, g_130_18, g_130_19, g_130_22, g_130_23, g_130_24, g_130_25, g_130_26, g_130_27, g_130_30, g_130_33, g_130_34, g_130_35, g_130_38, g_130_40, g_130_41, g_130_44, g_130_45, g_130_47, g_130_48, g_130_51, g_130_52, g_130_55, g_130_57, g_130_58, g_130_59, g_130_60, g_130_61, g_130_62, g_130_64, g_130_65, g_130_69, g_130_70, g_130_73, g_130_76, g_130_78, g_130_79, g_130_82, g_130_83, g_130_84, g_130_86, g_130_87, g_130_88, g_130_89, g_130_90, g_130_93, g_130_95, g_130_96, g_130_97, g_130_98, g_130_99, g_130_100, g_130_103, g_130_105, g_130_108, g_130_109, g_130_111, g_130_114, g_130_117, g_130_119, qOb_some, kr_v, kr_n, qinv_i, qinv_r, qinv_0, Nat.reduceAdd, List.getElem?_cons_zero, List.getElem?_cons_succ, List.set_cons_zero, List.set_cons_succ, List.length_cons, List.length_nil, not_true_eq_false, not_false_eq_true, false_implies, true_implies, and_true, true_and, and_false, false_and, if_true, if_false, forall_const, or_true, true_or, false_or, or_false, i10, Bool.false_eq_true, mget hM1, mo_1, u1, e5, m1_ne (show k < 1000 by omega)]
          exact hq
  · intro k _ hkn _ ih
    have ih := ih () trivial
    rw [wsum, ← nI_add] at ih
    rw [g_130_4]
    simp only [g_130_0, g_130_1, g_130_2, g_130_3, g_130_5, g_130_6, g_130_9, g_130_12, g_130_13, g_130_14, g_130_15, g_130_16, g_130_17, g_130_18, g_130_19, g_130_22, g_130_23, g_130_24, g_130_25, g_130_26, g_130_27, g_130_30, g_130_33, g_130_34, g_130_35, g_130_38, g_130_40, g_130_41, g_130_44, g_130_45, g_130_47, g_130_48, g_130_51, g_130_52, g_130_55, g_130_57, g_130_58, g_130_59, g_130_60, g_130_61, g_130_62, g_130_64, g_130_65, g_130_69, g_130_70, g_130_73, g_130_76, g_130_78, g_130_79, g_130_82, g_130_83, g_130_84, g_130_86, g_130_87, g_130_88, g_130_89, g_130_90, g_130_93, g_130_95, g_130_96, g_130_97, g_130_98, g_130_99, g_130_100, g_130_103, g_130_105, g_130_108, g_130_109, g_130_111, g_130_114, g_130_117, g_130_119, qOb_some, kr_v, kr_n, qinv_i, qinv_r, qinv_0, Nat.reduceAdd, List.getElem?_cons_zero, List.getElem?_cons_succ, List.set_cons_zero, List.set_cons_succ, List.length_cons, List.length_nil, not_true_eq_false, not_false_eq_true, false_implies, true_implies, and_true, true_and, and_false, false_and, if_true, if_false, forall_const, or_true, true_or, false_or, or_false, i10, Bool.false_eq_true, mget hM, mo_1, t1, nI_ge hkn (show T.n < 2 ^ 31 by omega), mo_3, ald_N t2 (show k < 8 by omega) (show 8 < 2147483648 by decide), t3 k hkn, shw (show k < 8 by omega) hb, nI_1]
    exact ih
/-- the rows of the filling at hand -/
def MRow (M : qM) (N n : Nat) (sn : Nat → Nat → Nat) (gc gt : Nat → Nat) : Prop := (∃ f, M[113]? = some (.inl (0, 8, .inl f))) ∧ (∃ f, M[114]? = some (.inl (0, 36, .inl f))) ∧ (∃ f, M[115]? = some (.inl (0, 1440, .inl f)) ∧ ∀ i k, i < n → k < N → f (36 * i + k) = nI (sn i k)) ∧ ArrV M 116 40 n gc ∧ ArrV M 117 40 n gt
theorem MRow.fr {lo hi N n : Nat} {sn : Nat → Nat → Nat} {gc gt : Nat → Nat} {M M' : qM} (h : MRow M N n sn gc gt) (hf : Fr lo hi M M') (ho : 117 < lo ∨ hi ≤ 113) : MRow M' N n sn gc gt := by
  obtain ⟨⟨f1, h1⟩, ⟨f2, h2⟩, ⟨f3, h3, h4⟩, h5, h6⟩ := h
  exact ⟨⟨f1, (hf _ (by omega)).trans h1⟩, ⟨f2, (hf _ (by omega)).trans h2⟩, ⟨f3, (hf _ (by omega)).trans h3, h4⟩, h5.fr hf (by omega), h6.fr hf (by omega)⟩
theorem MRow.le {M : qM} {N n n' : Nat} {sn : Nat → Nat → Nat} {gc gt : Nat → Nat} (h : MRow M N n' sn gc gt) (hle : n ≤ n') : MRow M N n sn gc gt := by
  obtain ⟨h1, h2, ⟨f3, h3, h4⟩, ⟨f5, h5, h6⟩, ⟨f7, h7, h8⟩⟩ := h
  exact ⟨h1, h2, ⟨f3, h3, fun i k hi hk => h4 i k (by omega) hk⟩, ⟨f5, h5, fun i hi => h6 i (by omega)⟩, ⟨f7, h7, fun i hi => h8 i (by omega)⟩⟩
def MFil (M : qM) (s : Nat → Int32) (N n : Nat) (p : Nat → Nat) (sn : Nat → Nat → Nat) (gc gt : Nat → Nat) (x : Int32) (gs tk : Nat) : Prop := (s 26 = x ∧ s 27 = nI gs ∧ s 28 = nI tk ∧ s 29 = nI n) ∧ ArrV M 112 36 N p ∧ MRow M N n sn gc gt
theorem m_guess {M : qM} {s : Nat → Int32} {T : TS} {w h n gs tk c : Nat} {x : Int32} {p : Nat → Nat} {sn : Nat → Nat → Nat} {gc gt : Nat → Nat} {Q : qR → qM → Prop} (hM : ModAt M s) (hT : MTil M s T) (hk : TOk T) (hw : s 20 = nI w) (hh : s 21 = nI h) (hD : Dim w h) (hF : MFil M s (w * h) n p sn gc gt x gs tk) (hp : PN T (w * h) p) (hn : n < 36) (hf : few p (w * h) = some c)
    (hQ : ∀ M' s', MFr M M' → SFr 26 s s' → ModAt M' s' → MFil M' s' (w * h) (n + 1) (narF T w h (fu p c (2 ^ dtl T (p c) x))) (snu sn n p) (fu gc n c) (fu gt n (dtl T (p c) x)) (nxt x) (gs + 1) tk → Q (.inl none) M') : cl 132 [.ref 101, .int (nI c)] M Q := by
  have hN := hD.le
  have h8 := hk.1
  obtain ⟨c1, c2⟩ := few_some hf
  obtain ⟨d1, d2, d3⟩ := dtl_ok (s := x) hk (hp c c1) c2
  have hpc := (hp.msk hk) c c1
  obtain ⟨⟨x26, x27, x28, x29⟩, ⟨fp, rp, vp⟩, ⟨fa, ra⟩, ⟨fb0, rb⟩, ⟨fB, rB, vB⟩, ⟨fC, rC, vC⟩, ⟨fD, rD, vD⟩⟩ := hF
  rw [e_132]
  simp only [g_132_0, g_132_1, g_132_3, g_132_4, g_132_7, g_132_10, g_132_11, g_132_14, g_132_16, g_132_17, g_132_20, g_132_21, g_132_22, g_132_23, g_132_24, g_132_27, g_132_28, g_132_29, g_132_30, g_132_33, g_132_36, g_132_37, g_132_40, g_132_41, g_132_44, g_132_45, g_132_46, g_132_47, g_132_50, g_132_51, g_132_54, g_132_55, g_132_56, g_132_59, g_132_60, g_132_61, g_132_64, g_132_65, g_132_66, g_132_69, g_132_70, g_132_71, g_132_72, g_132_75, g_132_76, g_132_79, g_132_80, g_132_81, g_132_82, g_132_83, g_132_84, g_132_87, g_132_88, g_132_89, g_132_92, g_132_93, g_132_94, g_132_97, g_132_98, g_132_99, g_132_102, g_132_103, g_132_106, qOb_some, kr_v, kr_n, qinv_i, qinv_r, qinv_0, Nat.reduceAdd, List.getElem?_cons_zero, List.getElem?_cons_succ, List.set_cons_zero, List.set_cons_succ, List.length_cons, List.length_nil]
  refine upto (N := w * h) (I := fun k M' => Fr 115 116 M M' ∧ ∃ f, M'[115]? = some (.inl (0, 1440, .inl f)) ∧ (∀ i j, i < n → j < w * h → f (36 * i + j) = nI (sn i j)) ∧ ∀ j, j < k → f (36 * n + j) = nI (p j)) (G := fun k M' => g 132 2 [some (.ref 101), some (.int (nI c)), some (.int (nI k))] [] M' 0 0 Q) ?_ ?_ 0 M (Nat.zero_le _) ⟨Fr.refl, fB, rB, vB, fun k hk => absurd hk (Nat.not_lt_zero _)⟩
  · rintro M1 ⟨a1, f, a2, a3, a4⟩
    have hM1 := hM.fr a1 (by omega)
    have hT1 := hT.fr (s' := s) a1 (by omega) rfl
    obtain ⟨M2, e2, f2, r2⟩ := ast_G (nI c) ((a1 116 (by omega)).trans rC) (show n < 40 by omega) (by decide)
    have hM2 := hM1.fr f2 (by omega)
    have hT2 := hT1.fr (s' := s) f2 (by omega) rfl
    have rp2 := (f2 112 (by omega)).trans ((a1 112 (by omega)).trans rp)
    rw [g_132_2]
    simp only [g_132_0, g_132_1, g_132_3, g_132_4, g_132_7, g_132_10, g_132_11, g_132_14, g_132_16, g_132_17, g_132_20, g_132_21, g_132_22, g_132_23, g_132_24, g_132_27, g_132_28, g_132_29, g_132_30, g_132_33, g_132_36, g_132_37, g_132_40, g_132_41, g_132_44, g_132_45, g_132_46, g_132_47, g_132_50, g_132_51, g_132_54, g_132_55, g_132_56, g_132_59, g_132_60, g_132_61, g_132_64, g_132_65, g_132_66, g_132_69, g_132_70, g_132_71, g_132_72, g_132_75, g_132_76, g_132_79, g_132_80, g_132_81, g_132_82, g_132_83, g_132_84, g_132_87, g_132_88, g_132_89, g_132_92, g_132_93, g_132_94, g_132_97, g_132_98, g_132_99, g_132_102, g_132_103, g_132_106, qOb_some, kr_v, kr_n, qinv_i, qinv_r, qinv_0, Nat.reduceAdd, List.getElem?_cons_zero, List.getElem?_cons_succ, List.set_cons_zero, List.set_cons_succ, List.length_cons, List.length_nil, not_true_eq_false, not_false_eq_true, false_implies, true_implies, and_true, true_and, and_false, false_and, if_true, if_false, forall_const, or_true, true_or, false_or, or_false, i10, Bool.false_eq_true, hM1.cls, m_cells hM1 hw hh, Int32.le_refl, mget hM1, mo_31, mo_29, x29, e2, mget hM2, mo_32, mo_23, ald_N rp2 (show c < 36 by omega) (show 36 < 2147483648 by decide), vp c c1, hM2.cls]
    refine m_draws hM2 hT2 hk hpc d1 x26 (fun M3 f3 hM3 => ?_)
    obtain ⟨M4, e4, f4, r4⟩ := ast_G (nI (dtl T (p c) x)) ((f3 117 (by omega)).trans ((f2 117 (by omega)).trans ((a1 117 (by omega)).trans rD))) (show n < 40 by omega) (by decide)
    have hM4 := hM3.fr f4 (by omega)
    obtain ⟨M5, e5, f5, r5⟩ := ast_G (nI (2 ^ dtl T (p c) x)) ((f4 112 (by omega)).trans ((f3 112 (by omega)).trans rp2)) (show c < 36 by omega) (by decide)
    have hM5 := hM4.fr f5 (by omega)
    obtain ⟨M6, e6, f6, hM6⟩ := put_G 29 (nI (n + 1)) hM5 (by decide) rfl ms_29
    obtain ⟨M7, e7, f7, hM7⟩ := put_G 27 (nI (gs + 1)) hM6 (by decide) rfl ms_27
    have u29 : upd s 26 (nxt x) 29 = nI n := by rw [upd_n (by decide)]; exact x29
    have u27 : upd (upd s 26 (nxt x)) 29 (nI (n + 1)) 27 = nI gs := by rw [upd_n (by decide), upd_n (by decide)]; exact x27
    simp only [g_132_0, g_132_1, g_132_3, g_132_4, g_132_7, g_132_10, g_132_11, g_132_14, g_132_16, g_132_17, g_132_20, g_132_21, g_132_22, g_132_23, g_132_24, g_132_27, g_132_28, g_132_29, g_132_30, g_132_33, g_132_36, g_132_37, g_132_40, g_132_41, g_132_44, g_132_45, g_132_46, g_132_47, g_132_50, g_132_51, g_132_54, g_132_55, g_132_56, g_132_59, g_132_60, g_132_61, g_132_64, g_132_65, g_132_66, g_132_69, g_132_70, g_132_71, g_132_72, g_132_75, g_132_76, g_132_79, g_132_80, g_132_81, g_132_82, g_132_83, g_132_84, g_132_87, g_132_88, g_132_89, g_132_92, g_132_93, g_132_94, g_132_97, g_132_98, g_132_99, g_132_102, g_132_103, g_132_106, qOb_some, kr_v, kr_n, qinv_i, qinv_r, qinv_0, Nat.reduceAdd, List.getElem?_cons_zero, List.getElem?_cons_succ, List.set_cons_zero, List.set_cons_succ, List.length_cons, List.length_nil, not_true_eq_false, not_false_eq_true, false_implies, true_implies, and_true, true_and, and_false, false_and, if_true, if_false, forall_const, or_true, true_or, false_or, or_false, i10, Bool.false_eq_true, e4, mget hM4, mo_23, mo_32, mo_29, u29, ald_N r4 (show n < 40 by omega) (show 40 < 2147483648 by decide), upd_s, nI_shl1' (show dtl T (p c) x < 8 by omega), e5, mget hM5, nI_1, e6, mget hM6, mo_27, u27, e7, hM7.cls]
    have fr7 : Fr 101 118 M M7 := (((((((a1.mono (by omega) (by omega)).trans (f2.mono (by omega) (by omega))).trans (f3.mono (by omega) (by omega))).trans (f4.mono (by omega) (by omega))).trans (f5.mono (by omega) (by omega))).trans (f6.mono (by omega) (by omega))).trans (f7.mono (by omega) (by omega)))
    have mf7 : MFr M M7 := (((((((a1.m (by omega) (by omega))).trans (f2.m (by omega) (by omega))).trans (f3.m (by omega) (by omega))).trans (f4.m (by omega) (by omega))).trans (f5.m (by omega) (by omega))).trans (f6.m (by omega) (by omega))).trans (f7.m (by omega) (by omega))
    have sf7 : SFr 26 s (upd (upd (upd s 26 (nxt x)) 29 (nI (n + 1))) 27 (nI (gs + 1))) := ((SFr.upd (by decide)).trans (SFr.upd (by decide))).trans (SFr.upd (by decide))
    have hT7 := mf7.til hT (sf7.le (by decide))
    have rp7 : M7[112]? = some (.inl (0, 36, .inl (upd fp c (nI (2 ^ dtl T (p c) x))))) := (f7 112 (by omega)).trans ((f6 112 (by omega)).trans r5)
    refine m_narrows hM7 hT7 hk ((sf7 20 (by decide)).trans hw) ((sf7 21 (by decide)).trans hh) hD (p := fu p c (2 ^ dtl T (p c) x)) ⟨_, rp7, fun k hk2 => ?_⟩ (PN_fu hp (Nat.pow_lt_pow_right (by decide) d2)) (fun M8 p8 g1 g2 g3 g4 => ?_)
    · by_cases e : k = c
      · rw [e, upd_s, fu_s]
      · rw [upd_n e, fu_n e]; exact vp k hk2
    · simp only [g_132_0, g_132_1, g_132_3, g_132_4, g_132_7, g_132_10, g_132_11, g_132_14, g_132_16, g_132_17, g_132_20, g_132_21, g_132_22, g_132_23, g_132_24, g_132_27, g_132_28, g_132_29, g_132_30, g_132_33, g_132_36, g_132_37, g_132_40, g_132_41, g_132_44, g_132_45, g_132_46, g_132_47, g_132_50, g_132_51, g_132_54, g_132_55, g_132_56, g_132_59, g_132_60, g_132_61, g_132_64, g_132_65, g_132_66, g_132_69, g_132_70, g_132_71, g_132_72, g_132_75, g_132_76, g_132_79, g_132_80, g_132_81, g_132_82, g_132_83, g_132_84, g_132_87, g_132_88, g_132_89, g_132_92, g_132_93, g_132_94, g_132_97, g_132_98, g_132_99, g_132_102, g_132_103, g_132_106, qOb_some, kr_v, kr_n, qinv_i, qinv_r, qinv_0, Nat.reduceAdd, List.getElem?_cons_zero, List.getElem?_cons_succ, List.set_cons_zero, List.set_cons_succ, List.length_cons, List.length_nil, not_true_eq_false, not_false_eq_true, false_implies, true_implies, and_true, true_and, and_false, false_and, if_true, if_false, forall_const, or_true, true_or, false_or, or_false, i10, Bool.false_eq_true]
      have hm2 : Msk (w * h) (fu p c (2 ^ dtl T (p c) x)) := (PN_fu hp (Nat.pow_lt_pow_right (by decide) d2)).msk hk
      have un : ∀ b, b ≠ 101 → b ≠ 112 → b ≠ 115 → b ≠ 116 → b ≠ 117 → M8[b]? = M[b]? := fun b q1 q2 q3 q4 q5 => (g1 b (by omega)).trans ((f7 b (by omega)).trans ((f6 b (by omega)).trans ((f5 b (by omega)).trans ((f4 b (by omega)).trans ((f3 b (by omega)).trans ((f2 b (by omega)).trans (a1 b (by omega))))))))
      obtain ⟨f8, g5, g6⟩ := g2
      refine hQ M8 _ (mf7.trans (g1.m (by omega) (by omega))) sf7 (hM7.fr g1 (by omega)) ⟨⟨?_, ?_, ?_, ?_⟩, ⟨f8, g5, fun k hk2 => by rw [g6 k hk2, g3.eq hm2 k hk2]⟩, ⟨fa, (un _ (by decide) (by decide) (by decide) (by decide) (by decide)).trans ra⟩, ⟨fb0, (un _ (by decide) (by decide) (by decide) (by decide) (by decide)).trans rb⟩, ⟨f, (g1 115 (by omega)).trans ((f7 115 (by omega)).trans ((f6 115 (by omega)).trans ((f5 115 (by omega)).trans ((f4 115 (by omega)).trans ((f3 115 (by omega)).trans ((f2 115 (by omega)).trans a2)))))), fun i k hi hk2 => ?_⟩, ⟨_, (g1 116 (by omega)).trans ((f7 116 (by omega)).trans ((f6 116 (by omega)).trans ((f5 116 (by omega)).trans ((f4 116 (by omega)).trans ((f3 116 (by omega)).trans r2))))), fun i hi => ?_⟩, ⟨_, (g1 117 (by omega)).trans ((f7 117 (by omega)).trans ((f6 117 (by omega)).trans ((f5 117 (by omega)).trans r4))), fun i hi => ?_⟩⟩
      · rw [upd_n (by decide), upd_n (by decide), upd_s]
      · rw [upd_s]
      · rw [upd_n (by decide), upd_n (by decide), upd_n (by decide)]; exact x28
      · rw [upd_n (by decide), upd_s]
      · by_cases e : i = n
        · subst e
          simp only [snu, if_true]
          exact a4 k hk2
        · simp only [snu, e, if_false]
          exact a3 i k (by omega) hk2
      · by_cases e : i = n
        · rw [e, upd_s, fu_s]
        · rw [upd_n e, fu_n e]; exact vC i (by omega)
      · by_cases e : i = n
        · rw [e, upd_s, fu_s]
        · rw [upd_n e, fu_n e]; exact vD i (by omega)
  · rintro k M1 hk2 ⟨a1, f, a2, a3, a4⟩ ih
    have hM1 := hM.fr a1 (by omega)
    obtain ⟨M2, e2, f2, r2⟩ := ast_G (nI (p k)) a2 (show 36 * n + k < 1440 by omega) (by decide)
    rw [g_132_2]
    simp only [g_132_0, g_132_1, g_132_3, g_132_4, g_132_7, g_132_10, g_132_11, g_132_14, g_132_16, g_132_17, g_132_20, g_132_21, g_132_22, g_132_23, g_132_24, g_132_27, g_132_28, g_132_29, g_132_30, g_132_33, g_132_36, g_132_37, g_132_40, g_132_41, g_132_44, g_132_45, g_132_46, g_132_47, g_132_50, g_132_51, g_132_54, g_132_55, g_132_56, g_132_59, g_132_60, g_132_61, g_132_64, g_132_65, g_132_66, g_132_69, g_132_70, g_132_71, g_132_72, g_132_75, g_132_76, g_132_79, g_132_80, g_132_81, g_132_82, g_132_83, g_132_84, g_132_87, g_132_88, g_132_89, g_132_92, g_132_93, g_132_94, g_132_97, g_132_98, g_132_99, g_132_102, g_132_103, g_132_106, qOb_some, kr_v, kr_n, qinv_i, qinv_r, qinv_0, Nat.reduceAdd, List.getElem?_cons_zero, List.getElem?_cons_succ, List.set_cons_zero, List.set_cons_succ, List.length_cons, List.length_nil, not_true_eq_false, not_false_eq_true, false_implies, true_implies, and_true, true_and, and_false, false_and, if_true, if_false, forall_const, or_true, true_or, false_or, or_false, i10, Bool.false_eq_true, hM1.cls, m_cells hM1 hw hh, nI_ge hk2 (show w * h < 2 ^ 31 by omega), mget hM1, mo_30, mo_29, mo_23, x29, show (36 : Int32) = nI 36 from rfl, pk_mul, nI_add, ald_N ((a1 112 (by omega)).trans rp) (show k < 36 by omega) (show 36 < 2147483648 by decide), vp k hk2, e2, nI_1]
    refine ih M2 ⟨a1.trans f2, _, r2, fun i j hi hj => ?_, fun j hj => ?_⟩
    · rw [upd_n (by omega)]
      exact a3 i j hi hj
    · by_cases e : j = k
      · rw [e, upd_s]
      · rw [upd_n (by omega)]
        exact a4 j (by omega)
