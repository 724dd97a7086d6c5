/-! pieces of road: the mathematics, and the class's way -/
def Adj (T : TS) (w h : Nat) (tl : Nat → Nat) (k j : Nat) : Prop := ∃ d, d < 4 ∧ nb w h k d = some j ∧ T.c (tl k) d = 1 ∧ T.c (tl j) (op d) = 1
def Conn (T : TS) (w h : Nat) (tl : Nat → Nat) (k j : Nat) : Prop := ∀ S : Nat → Prop, S k → (∀ a b, a < w * h → S a → Adj T w h tl a b → S b) → S j
theorem Conn.refl {T : TS} {w h : Nat} {tl : Nat → Nat} {k : Nat} : Conn T w h tl k k := fun _ h _ => h
theorem Conn.step {T : TS} {w h : Nat} {tl : Nat → Nat} {k j i : Nat} (hc : Conn T w h tl k j) (hj : j < w * h) (ha : Adj T w h tl j i) : Conn T w h tl k i := fun S h1 h2 => h2 j i hj (hc S h1 h2) ha
theorem Conn.trans {T : TS} {w h : Nat} {tl : Nat → Nat} {k j i : Nat} (h1 : Conn T w h tl k j) (h2 : Conn T w h tl j i) : Conn T w h tl k i := fun S a b => h2 S (h1 S a b) b
theorem Adj.lt {T : TS} {w h : Nat} {tl : Nat → Nat} {k j : Nat} (hk : k < w * h) (ha : Adj T w h tl k j) : j < w * h := by
  obtain ⟨d, _, h2, _⟩ := ha
  exact nb_lt hk h2
theorem Adj.symm {T : TS} {w h : Nat} {tl : Nat → Nat} {k j : Nat} (hk : k < w * h) (ha : Adj T w h tl k j) : Adj T w h tl j k := by
  obtain ⟨d, h1, h2, h3, h4⟩ := ha
  exact ⟨op d, op_lt d, nb_sym hk h1 h2, h4, by rw [op_op d h1]; exact h3⟩
theorem Conn.lt {T : TS} {w h : Nat} {tl : Nat → Nat} {k j : Nat} (hk : k < w * h) (hc : Conn T w h tl k j) : j < w * h := hc (fun i => i < w * h) hk (fun _ _ h1 _ h3 => h3.lt h1)
theorem Conn.symm {T : TS} {w h : Nat} {tl : Nat → Nat} {k j : Nat} (hk : k < w * h) (hc : Conn T w h tl k j) : Conn T w h tl j k :=
  (hc (fun i => Conn T w h tl i k) Conn.refl (fun a b h1 h2 h3 => ((Conn.refl (k := b)).step (h3.lt h1) (h3.symm h1)).trans h2))
theorem Conn.road {T : TS} {w h : Nat} {tl : Nat → Nat} {k j : Nat} (hr : roadT T (tl k) = true) (hc : Conn T w h tl k j) : roadT T (tl j) = true :=
  hc (fun i => roadT T (tl i) = true) hr (fun a b _ _ h3 => by
    obtain ⟨d, g1, g2, g3, g4⟩ := h3
    exact roadT_iff.mpr ⟨op d, op_lt d, g4⟩)
def Lead (T : TS) (w h : Nat) (tl : Nat → Nat) (k : Nat) : Prop := roadT T (tl k) = true ∧ ∀ j, Conn T w h tl k j → k ≤ j
/-- how many pieces of road -/
noncomputable def npc (T : TS) (w h : Nat) (tl : Nat → Nat) : Nat := cntB (fun k => cB (Lead T w h tl k)) (w * h)
theorem Conn_c {T : TS} {w h : Nat} {tl tl' : Nat → Nat} (he : ∀ k, k < w * h → tl k = tl' k) {k j : Nat} (hc : Conn T w h tl k j) : Conn T w h tl' k j := by
  intro S h1 h2
  refine hc S h1 (fun a b ha hb hab => h2 a b ha hb ?_)
  obtain ⟨d, g1, g2, g3, g4⟩ := hab
  refine ⟨d, g1, g2, ?_, ?_⟩
  · rw [← he a ha]; exact g3
  · rw [← he b (nb_lt ha g2)]; exact g4
theorem npc_c {T : TS} {w h : Nat} {tl tl' : Nat → Nat} (he : ∀ k, k < w * h → tl k = tl' k) : npc T w h tl = npc T w h tl' := by
  unfold npc
  refine cntB_c (fun i hi => ?_)
  rw [Bool.eq_iff_iff, cB_iff, cB_iff]
  unfold Lead
  rw [he i hi]
  refine and_congr_right (fun _ => ⟨fun q j hj => q j (Conn_c (fun k hk => (he k hk).symm) hj), fun q j hj => q j (Conn_c he hj)⟩)
/-- the class's placing: rows for the tile in each cell, counts, what is seen, what is reached -/
def PlaAt (M : qM) (o G N : Nat) (tl : Nat → Nat) : Prop := M[o]? = some (.inr (4, [.ref 1, .ref G, .ref (o + 1), .ref (o + 3), .ref (o + 5), .ref (o + 7)])) ∧ RowV M (o + 1) 36 N tl ∧ (∃ f, RowAt M (o + 3) 8 f) ∧ (∃ f, RowAt M (o + 5) 36 f) ∧ (∃ f, RowAt M (o + 7) 36 f)
theorem PlaAt.fr {lo hi o G N : Nat} {tl : Nat → Nat} {M M' : qM} (h : PlaAt M o G N tl) (hf : Fr lo hi M M') (ho : o + 8 < lo ∨ hi ≤ o) : PlaAt M' o G N tl := by
  obtain ⟨h1, h2, ⟨f, h3⟩, ⟨f', h4⟩, ⟨f'', h5⟩⟩ := h
  exact ⟨(hf o (by omega)).trans h1, h2.fr hf (by omega), ⟨f, h3.fr hf (by omega)⟩, ⟨f', h4.fr hf (by omega)⟩, ⟨f'', h5.fr hf (by omega)⟩⟩
def SeeAt (M : qM) (o : Nat) (fl : Nat → Bool) : Prop := ∃ f, RowAt M (o + 5) 36 f ∧ ∀ k, k < 36 → f k = bI (fl k = true)
def SInv (T : TS) (M : qM) (o G w h : Nat) (tl : Nat → Nat) (first c d s : Nat) (fl : Nat → Bool) (wt : Nat) (M' : qM) : Prop :=
  ∃ (fl' : Nat → Bool) (st : Nat → Nat), Fr (o + 5) (o + 9) M M' ∧ SeeAt M' o fl' ∧ RowV M' (o + 7) 36 wt st ∧ s + wt + cntB fl 36 = cntB fl' 36 ∧ (∀ i, i < wt → st i < w * h ∧ Conn T w h tl first (st i)) ∧ (∀ k, k < w * h → fl k = true → fl' k = true) ∧ (∀ k, k < w * h → fl' k = true → fl k = true ∨ Conn T w h tl first k) ∧ fl' first = true ∧ (∀ k, k < w * h → fl' k = true → fl k = true ∨ (∃ i, i < wt ∧ st i = k) ∨ ∀ d' j, d' < 4 → (k = c → d' < d) → nb w h k d' = some j → T.c (tl k) d' = 1 → T.c (tl j) (op d') = 1 → fl' j = true)
theorem s_seePiece {M : qM} {T : TS} {o G w h first : Nat} {tl : Nat → Nat} {fl : Nat → Bool} {Q : qR → qM → Prop} (hT : TilesAt M T) (hk : TOk T) (hG : GridAt M G w h) (hD : Dim w h) (ho : 7 < o) (hGo : G < o ∨ o + 9 ≤ G) (hP : PlaAt M o G (w * h) tl) (htl : ∀ k, k < w * h → tl k < T.n) (hS : SeeAt M o fl) (hcl : ∀ i j, i < w * h → fl i = true → Adj T w h tl i j → fl j = true) (hfi : first < w * h) (hff : fl first = false)
    (hQ : ∀ M' fl', Fr (o + 5) (o + 9) M M' → SeeAt M' o fl' → (∃ f, RowAt M' (o + 7) 36 f) → (∀ k, k < w * h → (fl' k = true ↔ fl k = true ∨ Conn T w h tl first k)) → Q (.inl none) M') : cl 34 [.ref o, .int (nI first)] M Q := by
  have hN := hD.le
  obtain ⟨h1, ⟨ft, rt, vt⟩, ⟨fc, rc⟩, -, ⟨fr0, rr⟩⟩ := hP
  have fin : ∀ M', SInv T M o G w h tl first 0 4 0 fl 0 M' ∨ (∃ s, SInv T M o G w h tl first 0 4 s fl 0 M') → Q (.inl none) M' := by
    intro M' q
    have q : ∃ s, SInv T M o G w h tl first 0 4 s fl 0 M' := by
      rcases q with q | q
      · exact ⟨0, q⟩
      · exact q
    obtain ⟨s, fl', st, a1, a2, ⟨f, a3, a4⟩, a5, a6, a7, a8, a9, a10⟩ := q
    refine hQ M' fl' a1 a2 ⟨f, a3⟩ (fun k hk => ⟨a8 k hk, ?_⟩)
    rintro (q | q)
    · exact a7 k hk q
    · refine (q (fun i => i < w * h ∧ fl' i = true) ⟨hfi, a9⟩ (fun a b ha hb hab => ?_)).2
      refine ⟨hab.lt ha, ?_⟩
      rcases a10 a ha hb.2 with q1 | ⟨i, q1, _⟩ | q1
      · exact a7 b (hab.lt ha) (hcl a b ha q1 hab)
      · exact absurd q1 (Nat.not_lt_zero _)
      · obtain ⟨d, g1, g2, g3, g4⟩ := hab
        exact q1 d b g1 (fun _ => g1) g2 g3 g4
  obtain ⟨fs, rs, vs⟩ := hS
  rw [e_34]
  simp only [g_34_0, g_34_1, g_34_4, g_34_5, g_34_6, g_34_9, g_34_10, g_34_13, g_34_14, g_34_15, g_34_18, g_34_19, g_34_20, g_34_21, g_34_23, g_34_25, g_34_28, g_34_29, g_34_32, g_34_35, g_34_36, g_34_39, g_34_40, g_34_43, g_34_45, g_34_46, g_34_50, g_34_51, g_34_54, g_34_55, g_34_58, g_34_60, g_34_62, g_34_65, g_34_67, g_34_69, g_34_70, g_34_73, g_34_74, g_34_77, g_34_79, g_34_82, g_34_85, g_34_86, g_34_89, g_34_90, g_34_93, g_34_95, g_34_98, g_34_100, g_34_103, g_34_104, g_34_107, g_34_108, g_34_111, g_34_112, g_34_115, g_34_117, g_34_120, g_34_122, g_34_125, g_34_128, g_34_129, g_34_132, g_34_133, g_34_136, g_34_138, g_34_139, g_34_142, g_34_143, g_34_146, g_34_147, g_34_149, g_34_152, g_34_155, g_34_158, g_34_161, g_34_164, g_34_167, qOb_some, kr_v, kr_n, qinv_i, qinv_r, qinv_0, Nat.reduceAdd, List.getElem?_cons_zero, List.getElem?_cons_succ, List.set_cons_zero, List.set_cons_succ, List.length_cons, List.length_nil, not_true_eq_false, not_false_eq_true, false_implies, true_implies, and_true, true_and, and_false, false_and, if_true, if_false, forall_const, or_true, true_or, false_or, or_false, i10, Bool.false_eq_true, qget_of h1, rs.cls]
  refine s_setF rs (by decide) (show first < 36 by omega) (fun M1 fr1 rs1 => ?_)
  have h1a := (fr1 o (by omega)).trans h1
  have rra := rr.fr fr1 (by omega)
  simp only [g_34_0, g_34_1, g_34_4, g_34_5, g_34_6, g_34_9, g_34_10, g_34_13, g_34_14, g_34_15, g_34_18, g_34_19, g_34_20, g_34_21, g_34_23, g_34_25, g_34_28, g_34_29, g_34_32, g_34_35, g_34_36, g_34_39, g_34_40, g_34_43, g_34_45, g_34_46, g_34_50, g_34_51, g_34_54, g_34_55, g_34_58, g_34_60, g_34_62, g_34_65, g_34_67, g_34_69, g_34_70, g_34_73, g_34_74, g_34_77, g_34_79, g_34_82, g_34_85, g_34_86, g_34_89, g_34_90, g_34_93, g_34_95, g_34_98, g_34_100, g_34_103, g_34_104, g_34_107, g_34_108, g_34_111, g_34_112, g_34_115, g_34_117, g_34_120, g_34_122, g_34_125, g_34_128, g_34_129, g_34_132, g_34_133, g_34_136, g_34_138, g_34_139, g_34_142, g_34_143, g_34_146, g_34_147, g_34_149, g_34_152, g_34_155, g_34_158, g_34_161, g_34_164, g_34_167, qOb_some, kr_v, kr_n, qinv_i, qinv_r, qinv_0, Nat.reduceAdd, List.getElem?_cons_zero, List.getElem?_cons_succ, List.set_cons_zero, List.set_cons_succ, List.length_cons, List.length_nil, not_true_eq_false, not_false_eq_true, false_implies, true_implies, and_true, true_and, and_false, false_and, if_true, if_false, forall_const, or_true, true_or, false_or, or_false, i10, Bool.false_eq_true, qget_of h1a, rra.cls, show (0 : Int32) = nI 0 from rfl]
  refine s_setF rra (by decide) (show 0 < 36 by omega) (fun M2 fr2 rr2 => ?_)
  have fr12 : Fr (o + 5) (o + 9) M M2 := (fr1.mono (by omega) (by omega)).trans (fr2.mono (by omega) (by omega))
  simp only [g_34_0, g_34_1, g_34_4, g_34_5, g_34_6, g_34_9, g_34_10, g_34_13, g_34_14, g_34_15, g_34_18, g_34_19, g_34_20, g_34_21, g_34_23, g_34_25, g_34_28, g_34_29, g_34_32, g_34_35, g_34_36, g_34_39, g_34_40, g_34_43, g_34_45, g_34_46, g_34_50, g_34_51, g_34_54, g_34_55, g_34_58, g_34_60, g_34_62, g_34_65, g_34_67, g_34_69, g_34_70, g_34_73, g_34_74, g_34_77, g_34_79, g_34_82, g_34_85, g_34_86, g_34_89, g_34_90, g_34_93, g_34_95, g_34_98, g_34_100, g_34_103, g_34_104, g_34_107, g_34_108, g_34_111, g_34_112, g_34_115, g_34_117, g_34_120, g_34_122, g_34_125, g_34_128, g_34_129, g_34_132, g_34_133, g_34_136, g_34_138, g_34_139, g_34_142, g_34_143, g_34_146, g_34_147, g_34_149, g_34_152, g_34_155, g_34_158, g_34_161, g_34_164, g_34_167, qOb_some, kr_v, kr_n, qinv_i, qinv_r, qinv_0, Nat.reduceAdd, List.getElem?_cons_zero, List.getElem?_cons_succ, List.set_cons_zero, List.set_cons_succ, List.length_cons, List.length_nil, not_true_eq_false, not_false_eq_true, false_implies, true_implies, and_true, true_and, and_false, false_and, if_true, if_false, forall_const, or_true, true_or, false_or, or_false, i10, Bool.false_eq_true]
  have start : SInv T M o G w h tl first 0 4 0 fl 1 M2 := by
    refine ⟨fb fl first true, fun _ => first, fr12, ⟨_, rs1.fr fr2 (by omega), fun k hk => ?_⟩, ⟨_, rr2, fun k hk => ?_⟩, ?_, fun i _ => ⟨hfi, Conn.refl⟩, fun k hk q => ?_, fun k hk q => ?_, fb_s, fun k hk q => ?_⟩
    · by_cases e : k = first
      · rw [e, upd_s, fb_s]; rfl
      · rw [upd_n e, fb_n e]; exact vs k hk
    · have : k = 0 := by omega
      rw [this, upd_s]
    · rw [cntB_on hff (show first < 36 by omega)]
      omega
    · by_cases e : k = first
      · rw [e, fb_s]
      · rw [fb_n e]; exact q
    · by_cases e : k = first
      · rw [e]; exact Or.inr Conn.refl
      · rw [fb_n e] at q; exact Or.inl q
    · by_cases e : k = first
      · exact Or.inr (Or.inl ⟨0, by decide, e.symm⟩)
      · rw [fb_n e] at q; exact Or.inl q
  refine upto (N := 36) (I := fun s (a : qM × Nat × Option Value × Option Value × Option Value) => SInv T M o G w h tl first 0 4 s fl a.2.1 a.1) (G := fun s (a : qM × Nat × Option Value × Option Value × Option Value) => g 34 22 [some (.ref o), some (.int (nI first)), some (.int (nI a.2.1)), some (.int (nI s)), a.2.2.1, a.2.2.2.1, a.2.2.2.2] [] a.1 0 0 Q) ?_ ?_ 0 (M2, 1, none, none, none) (Nat.zero_le _) start
  · rintro ⟨M3, wt, l4, l5, l6⟩ hI
    have hz : wt = 0 := by
      obtain ⟨fl', st, _, _, _, a5, _⟩ := hI
      have := cntB_le (f := fl') (n := 36)
      show wt = 0
      have a5 : 36 + wt + cntB fl 36 = cntB fl' 36 := a5
      omega
    subst hz
    rw [g_34_22]
    simp only [g_34_0, g_34_1, g_34_4, g_34_5, g_34_6, g_34_9, g_34_10, g_34_13, g_34_14, g_34_15, g_34_18, g_34_19, g_34_20, g_34_21, g_34_23, g_34_25, g_34_28, g_34_29, g_34_32, g_34_35, g_34_36, g_34_39, g_34_40, g_34_43, g_34_45, g_34_46, g_34_50, g_34_51, g_34_54, g_34_55, g_34_58, g_34_60, g_34_62, g_34_65, g_34_67, g_34_69, g_34_70, g_34_73, g_34_74, g_34_77, g_34_79, g_34_82, g_34_85, g_34_86, g_34_89, g_34_90, g_34_93, g_34_95, g_34_98, g_34_100, g_34_103, g_34_104, g_34_107, g_34_108, g_34_111, g_34_112, g_34_115, g_34_117, g_34_120, g_34_122, g_34_125, g_34_128, g_34_129, g_34_132, g_34_133, g_34_136, g_34_138, g_34_139, g_34_142, g_34_143, g_34_146, g_34_147, g_34_149, g_34_152, g_34_155, g_34_158, g_34_161, g_34_164, g_34_167, qOb_some, kr_v, kr_n, qinv_i, qinv_r, qinv_0, Nat.reduceAdd, List.getElem?_cons_zero, List.getElem?_cons_succ, List.set_cons_zero, List.set_cons_succ, List.length_cons, List.length_nil, not_true_eq_false, not_false_eq_true, false_implies, true_implies, and_true, true_and, and_false, false_and, if_true, if_false, forall_const, or_true, true_or, false_or, or_false, i10, Bool.false_eq_true, show (36 : Int32) = nI 36 from rfl, Int32.le_refl]
    exact fin M3 (Or.inr ⟨36, hI⟩)
  · rintro s ⟨M3, wt, l4, l5, l6⟩ hs hI ih
    rw [g_34_22]
    simp only [g_34_0, g_34_1, g_34_4, g_34_5, g_34_6, g_34_9, g_34_10, g_34_13, g_34_14, g_34_15, g_34_18, g_34_19, g_34_20, g_34_21, g_34_23, g_34_25, g_34_28, g_34_29, g_34_32, g_34_35, g_34_36, g_34_39, g_34_40, g_34_43, g_34_45, g_34_46, g_34_50, g_34_51, g_34_54, g_34_55, g_34_58, g_34_60, g_34_62, g_34_65, g_34_67, g_34_69, g_34_70, g_34_73, g_34_74, g_34_77, g_34_79, g_34_82, g_34_85, g_34_86, g_34_89, g_34_90, g_34_93, g_34_95, g_34_98, g_34_100, g_34_103, g_34_104, g_34_107, g_34_108, g_34_111, g_34_112, g_34_115, g_34_117, g_34_120, g_34_122, g_34_125, g_34_128, g_34_129, g_34_132, g_34_133, g_34_136, g_34_138, g_34_139, g_34_142, g_34_143, g_34_146, g_34_147, g_34_149, g_34_152, g_34_155, g_34_158, g_34_161, g_34_164, g_34_167, qOb_some, kr_v, kr_n, qinv_i, qinv_r, qinv_0, Nat.reduceAdd, List.getElem?_cons_zero, List.getElem?_cons_succ, List.set_cons_zero, List.set_cons_succ, List.length_cons, List.length_nil, not_true_eq_false, not_false_eq_true, false_implies, true_implies, and_true, true_and, and_false, false_and, if_true, if_false, forall_const, or_true, true_or, false_or, or_false, i10, Bool.false_eq_true, show (36 : Int32) = nI 36 from rfl, nI_ge hs (show 36 < 2 ^ 31 by decide)]
    cases wt with
    | zero =>
      simp only [show nI 0 ≤ 0 by decide, not_true_eq_false, not_false_eq_true, false_implies, true_implies, and_true, true_and, and_false, false_and, if_true, if_false, forall_const, or_true, true_or, false_or, or_false, i10, Bool.false_eq_true]
      exact fin M3 (Or.inr ⟨s, hI⟩)
    | succ wt =>
      obtain ⟨fl1, st, a1, a2, ⟨fq, a3, a4⟩, a5, a6, a7, a8, a9, a10⟩ := hI
      have a5 : s + (wt + 1) + cntB fl 36 = cntB fl1 36 := a5
      have hle := cntB_le (f := fl1) (n := 36)
      have hc := (a6 wt (Nat.lt_succ_self _)).1
      have hcc := (a6 wt (Nat.lt_succ_self _)).2
      have h1b := (a1 o (by omega)).trans h1
      simp only [nI_nle (Nat.succ_pos wt) (show wt + 1 < 2 ^ 31 by omega), g_34_0, g_34_1, g_34_4, g_34_5, g_34_6, g_34_9, g_34_10, g_34_13, g_34_14, g_34_15, g_34_18, g_34_19, g_34_20, g_34_21, g_34_23, g_34_25, g_34_28, g_34_29, g_34_32, g_34_35, g_34_36, g_34_39, g_34_40, g_34_43, g_34_45, g_34_46, g_34_50, g_34_51, g_34_54, g_34_55, g_34_58, g_34_60, g_34_62, g_34_65, g_34_67, g_34_69, g_34_70, g_34_73, g_34_74, g_34_77, g_34_79, g_34_82, g_34_85, g_34_86, g_34_89, g_34_90, g_34_93, g_34_95, g_34_98, g_34_100, g_34_103, g_34_104, g_34_107, g_34_108, g_34_111, g_34_112, g_34_115, g_34_117, g_34_120, g_34_122, g_34_125, g_34_128, g_34_129, g_34_132, g_34_133, g_34_136, g_34_138, g_34_139, g_34_142, g_34_143, g_34_146, g_34_147, g_34_149, g_34_152, g_34_155, g_34_158, g_34_161, g_34_164, g_34_167, qOb_some, kr_v, kr_n, qinv_i, qinv_r, qinv_0, Nat.reduceAdd, List.getElem?_cons_zero, List.getElem?_cons_succ, List.set_cons_zero, List.set_cons_succ, List.length_cons, List.length_nil, not_true_eq_false, not_false_eq_true, false_implies, true_implies, and_true, true_and, and_false, false_and, if_true, if_false, forall_const, or_true, true_or, false_or, or_false, i10, Bool.false_eq_true, show nI (wt + 1) + (-1) = nI wt from pk_m1 wt, qget_of h1b, a3.cls, s_get a3 (show 36 < 2147483648 by decide), rget_nI (show wt < 36 by omega) (show 36 < 2147483648 by decide), a4 wt (Nat.lt_succ_self _)]
      refine upto (N := 4) (I := fun d (a : qM × Nat × Option Value) => SInv T M o G w h tl first (st wt) d (s + 1) fl a.2.1 a.1) (G := fun d (a : qM × Nat × Option Value) => g 34 48 [some (.ref o), some (.int (nI first)), some (.int (nI a.2.1)), some (.int (nI s)), some (.int (nI (st wt))), some (.int (nI d)), a.2.2] [] a.1 0 0 Q) ?_ ?_ 0 (M3, wt, l6) (Nat.zero_le _) ?_
      · rintro ⟨M4, w4, l6⟩ ⟨fl4, st4, b1, b2, b3, b4, b5, b6, b7, b8, b9⟩
        rw [g_34_48]
        simp only [g_34_0, g_34_1, g_34_4, g_34_5, g_34_6, g_34_9, g_34_10, g_34_13, g_34_14, g_34_15, g_34_18, g_34_19, g_34_20, g_34_21, g_34_23, g_34_25, g_34_28, g_34_29, g_34_32, g_34_35, g_34_36, g_34_39, g_34_40, g_34_43, g_34_45, g_34_46, g_34_50, g_34_51, g_34_54, g_34_55, g_34_58, g_34_60, g_34_62, g_34_65, g_34_67, g_34_69, g_34_70, g_34_73, g_34_74, g_34_77, g_34_79, g_34_82, g_34_85, g_34_86, g_34_89, g_34_90, g_34_93, g_34_95, g_34_98, g_34_100, g_34_103, g_34_104, g_34_107, g_34_108, g_34_111, g_34_112, g_34_115, g_34_117, g_34_120, g_34_122, g_34_125, g_34_128, g_34_129, g_34_132, g_34_133, g_34_136, g_34_138, g_34_139, g_34_142, g_34_143, g_34_146, g_34_147, g_34_149, g_34_152, g_34_155, g_34_158, g_34_161, g_34_164, g_34_167, qOb_some, kr_v, kr_n, qinv_i, qinv_r, qinv_0, Nat.reduceAdd, List.getElem?_cons_zero, List.getElem?_cons_succ, List.set_cons_zero, List.set_cons_succ, List.length_cons, List.length_nil, not_true_eq_false, not_false_eq_true, false_implies, true_implies, and_true, true_and, and_false, false_and, if_true, if_false, forall_const, or_true, true_or, false_or, or_false, i10, Bool.false_eq_true, show (4 : Int32) = nI 4 from rfl, Int32.le_refl, nI_1]
        exact ih (M4, w4, _, _, _) ⟨fl4, st4, b1, b2, b3, b4, b5, b6, b7, b8, fun k hk q => (b9 k hk q).imp_right (fun q2 => q2.imp_right (fun q3 d' j g1 _ => q3 d' j g1 (fun _ => g1)))⟩
      · rintro d ⟨M4, w4, l6⟩ hd hI4 ihd
        obtain ⟨fl4, st4, b1, ⟨fs4, b2, b2v⟩, ⟨fq4, b3, b3v⟩, b4, b5, b6, b7, b8, b9⟩ := hI4
        have b4 : s + 1 + w4 + cntB fl 36 = cntB fl4 36 := b4
        have hle4 := cntB_le (f := fl4) (n := 36)
        have h1c := (b1 o (by omega)).trans h1
        have hT4 := hT.fr b1 (by omega)
        have hG4 := hG.fr b1 (by omega)
        have rt4 := rt.fr b1 (by omega)
        have hdo := op_lt d
        rw [g_34_48]
        simp only [g_34_0, g_34_1, g_34_4, g_34_5, g_34_6, g_34_9, g_34_10, g_34_13, g_34_14, g_34_15, g_34_18, g_34_19, g_34_20, g_34_21, g_34_23, g_34_25, g_34_28, g_34_29, g_34_32, g_34_35, g_34_36, g_34_39, g_34_40, g_34_43, g_34_45, g_34_46, g_34_50, g_34_51, g_34_54, g_34_55, g_34_58, g_34_60, g_34_62, g_34_65, g_34_67, g_34_69, g_34_70, g_34_73, g_34_74, g_34_77, g_34_79, g_34_82, g_34_85, g_34_86, g_34_89, g_34_90, g_34_93, g_34_95, g_34_98, g_34_100, g_34_103, g_34_104, g_34_107, g_34_108, g_34_111, g_34_112, g_34_115, g_34_117, g_34_120, g_34_122, g_34_125, g_34_128, g_34_129, g_34_132, g_34_133, g_34_136, g_34_138, g_34_139, g_34_142, g_34_143, g_34_146, g_34_147, g_34_149, g_34_152, g_34_155, g_34_158, g_34_161, g_34_164, g_34_167, qOb_some, kr_v, kr_n, qinv_i, qinv_r, qinv_0, Nat.reduceAdd, List.getElem?_cons_zero, List.getElem?_cons_succ, List.set_cons_zero, List.set_cons_succ, List.length_cons, List.length_nil, not_true_eq_false, not_false_eq_true, false_implies, true_implies, and_true, true_and, and_false, false_and, if_true, if_false, forall_const, or_true, true_or, false_or, or_false, i10, Bool.false_eq_true, show (4 : Int32) = nI 4 from rfl, nI_ge hd (show 4 < 2 ^ 31 by decide), qget_of h1c, qcls_of hG4, s_beside hG4 hD.1 hD.2.1 hD.2.2.1 hD.2.2.2 hc hd]
        have same : (∀ j, nb w h (st wt) d = some j → T.c (tl (st wt)) d = 1 → T.c (tl j) (op d) = 1 → fl4 j = true) → ∀ l6, g 34 48 [some (.ref o), some (.int (nI first)), some (.int (nI w4)), some (.int (nI s)), some (.int (nI (st wt))), some (.int (nI (d + 1))), l6] [] M4 0 0 Q := by
          intro q l6
          refine ihd (M4, w4, l6) ⟨fl4, st4, b1, ⟨fs4, b2, b2v⟩, ⟨fq4, b3, b3v⟩, b4, b5, b6, b7, b8, fun k hk q1 => (b9 k hk q1).imp_right (fun q2 => q2.imp_right (fun q3 d' j g1 g2 g3 g4 g5 => ?_))⟩
          by_cases e : k = st wt ∧ d' = d
          · obtain ⟨e1, e2⟩ := e
            subst e2
            rw [e1] at g3 g4
            exact q j g3 g4 g5
          · exact q3 d' j g1 (fun e1 => by
              have := g2 e1
              by_cases e2 : d' = d
              · exact absurd ⟨e1, e2⟩ e
              · omega) g3 g4 g5
        cases hn : nb w h (st wt) d with
        | none =>
          simp only [g_34_0, g_34_1, g_34_4, g_34_5, g_34_6, g_34_9, g_34_10, g_34_13, g_34_14, g_34_15, g_34_18, g_34_19, g_34_20, g_34_21, g_34_23, g_34_25, g_34_28, g_34_29, g_34_32, g_34_35, g_34_36, g_34_39, g_34_40, g_34_43, g_34_45, g_34_46, g_34_50, g_34_51, g_34_54, g_34_55, g_34_58, g_34_60, g_34_62, g_34_65, g_34_67, g_34_69, g_34_70, g_34_73, g_34_74, g_34_77, g_34_79, g_34_82, g_34_85, g_34_86, g_34_89, g_34_90, g_34_93, g_34_95, g_34_98, g_34_100, g_34_103, g_34_104, g_34_107, g_34_108, g_34_111, g_34_112, g_34_115, g_34_117, g_34_120, g_34_122, g_34_125, g_34_128, g_34_129, g_34_132, g_34_133, g_34_136, g_34_138, g_34_139, g_34_142, g_34_143, g_34_146, g_34_147, g_34_149, g_34_152, g_34_155, g_34_158, g_34_161, g_34_164, g_34_167, qOb_some, kr_v, kr_n, qinv_i, qinv_r, qinv_0, Nat.reduceAdd, List.getElem?_cons_zero, List.getElem?_cons_succ, List.set_cons_zero, List.set_cons_succ, List.length_cons, List.length_nil, nbI, not_true_eq_false, not_false_eq_true, false_implies, true_implies, and_true, true_and, and_false, false_and, if_true, if_false, forall_const, or_true, true_or, false_or, or_false, i10, Bool.false_eq_true, nI_1]
          exact same (fun j q => by rw [hn] at q; cases q) _
        | some j =>
          have hj := nb_lt hc hn
          have t1 := hk.2.1 (tl (st wt)) d (htl _ hc) hd
          have t2 := hk.2.1 (tl j) (op d) (htl _ hj) hdo
          have n1 : (nI (T.c (tl (st wt)) d) = 1) = (T.c (tl (st wt)) d = 1) := propext (nI_eq (b := 1) (by omega) (by decide))
          have n2 : (nI (T.c (tl j) (op d)) = 1) = (T.c (tl j) (op d) = 1) := propext (nI_eq (b := 1) (by omega) (by decide))
          simp only [g_34_0, g_34_1, g_34_4, g_34_5, g_34_6, g_34_9, g_34_10, g_34_13, g_34_14, g_34_15, g_34_18, g_34_19, g_34_20, g_34_21, g_34_23, g_34_25, g_34_28, g_34_29, g_34_32, g_34_35, g_34_36, g_34_39, g_34_40, g_34_43, g_34_45, g_34_46, g_34_50, g_34_51, g_34_54, g_34_55, g_34_58, g_34_60, g_34_62, g_34_65, g_34_67, g_34_69, g_34_70, g_34_73, g_34_74, g_34_77, g_34_79, g_34_82, g_34_85, g_34_86, g_34_89, g_34_90, g_34_93, g_34_95, g_34_98, g_34_100, g_34_103, g_34_104, g_34_107, g_34_108, g_34_111, g_34_112, g_34_115, g_34_117, g_34_120, g_34_122, g_34_125, g_34_128, g_34_129, g_34_132, g_34_133, g_34_136, g_34_138, g_34_139, g_34_142, g_34_143, g_34_146, g_34_147, g_34_149, g_34_152, g_34_155, g_34_158, g_34_161, g_34_164, g_34_167, qOb_some, kr_v, kr_n, qinv_i, qinv_r, qinv_0, Nat.reduceAdd, List.getElem?_cons_zero, List.getElem?_cons_succ, List.set_cons_zero, List.set_cons_succ, List.length_cons, List.length_nil, nbI, m1_ne (show j < 1000 by omega), not_true_eq_false, not_false_eq_true, false_implies, true_implies, and_true, true_and, and_false, false_and, if_true, if_false, forall_const, or_true, true_or, false_or, or_false, i10, Bool.false_eq_true, qget_of h1c, b2.cls, rt4.cls, qcls_of hT4.1, s_get b2 (show 36 < 2147483648 by decide), rget_nI (show j < 36 by omega) (show 36 < 2147483648 by decide), b2v j (show j < 36 by omega), bI_0, s_get rt4 (show 36 < 2147483648 by decide), rget_nI (show st wt < 36 by omega) (show 36 < 2147483648 by decide), vt (st wt) hc, vt j hj, s_colour hT4 hk (htl _ hc) hd, s_opposite hd, s_colour hT4 hk (htl _ hj) hdo, n1, n2]
          by_cases u1 : fl4 j = true
          · simp only [u1, not_true_eq_false, not_false_eq_true, false_implies, true_implies, and_true, true_and, and_false, false_and, if_true, if_false, forall_const, or_true, true_or, false_or, or_false, i10, Bool.false_eq_true, nI_1]
            exact same (fun i q _ _ => by rw [hn] at q; cases q; exact u1) _
          · by_cases u2 : T.c (tl (st wt)) d = 1
            · by_cases u3 : T.c (tl j) (op d) = 1
              · have u1f : fl4 j = false := by simpa using u1
                simp only [u1f, u2, u3, not_true_eq_false, not_false_eq_true, false_implies, true_implies, and_true, true_and, and_false, false_and, if_true, if_false, forall_const, or_true, true_or, false_or, or_false, i10, Bool.false_eq_true]
                refine s_setF b2 (by decide) (show j < 36 by omega) (fun M5 fr5 b25 => ?_)
                have h1d := (fr5 o (by omega)).trans h1c
                have b35 := b3.fr fr5 (by omega)
                have hlt := cntB_lt u1f (show j < 36 by omega)
                simp only [g_34_0, g_34_1, g_34_4, g_34_5, g_34_6, g_34_9, g_34_10, g_34_13, g_34_14, g_34_15, g_34_18, g_34_19, g_34_20, g_34_21, g_34_23, g_34_25, g_34_28, g_34_29, g_34_32, g_34_35, g_34_36, g_34_39, g_34_40, g_34_43, g_34_45, g_34_46, g_34_50, g_34_51, g_34_54, g_34_55, g_34_58, g_34_60, g_34_62, g_34_65, g_34_67, g_34_69, g_34_70, g_34_73, g_34_74, g_34_77, g_34_79, g_34_82, g_34_85, g_34_86, g_34_89, g_34_90, g_34_93, g_34_95, g_34_98, g_34_100, g_34_103, g_34_104, g_34_107, g_34_108, g_34_111, g_34_112, g_34_115, g_34_117, g_34_120, g_34_122, g_34_125, g_34_128, g_34_129, g_34_132, g_34_133, g_34_136, g_34_138, g_34_139, g_34_142, g_34_143, g_34_146, g_34_147, g_34_149, g_34_152, g_34_155, g_34_158, g_34_161, g_34_164, g_34_167, qOb_some, kr_v, kr_n, qinv_i, qinv_r, qinv_0, Nat.reduceAdd, List.getElem?_cons_zero, List.getElem?_cons_succ, List.set_cons_zero, List.set_cons_succ, List.length_cons, List.length_nil, not_true_eq_false, not_false_eq_true, false_implies, true_implies, and_true, true_and, and_false, false_and, if_true, if_false, forall_const, or_true, true_or, false_or, or_false, i10, Bool.false_eq_true, qget_of h1d, b35.cls]
                refine s_setF b35 (by decide) (show w4 < 36 by omega) (fun M6 fr6 b36 => ?_)
                simp only [g_34_0, g_34_1, g_34_4, g_34_5, g_34_6, g_34_9, g_34_10, g_34_13, g_34_14, g_34_15, g_34_18, g_34_19, g_34_20, g_34_21, g_34_23, g_34_25, g_34_28, g_34_29, g_34_32, g_34_35, g_34_36, g_34_39, g_34_40, g_34_43, g_34_45, g_34_46, g_34_50, g_34_51, g_34_54, g_34_55, g_34_58, g_34_60, g_34_62, g_34_65, g_34_67, g_34_69, g_34_70, g_34_73, g_34_74, g_34_77, g_34_79, g_34_82, g_34_85, g_34_86, g_34_89, g_34_90, g_34_93, g_34_95, g_34_98, g_34_100, g_34_103, g_34_104, g_34_107, g_34_108, g_34_111, g_34_112, g_34_115, g_34_117, g_34_120, g_34_122, g_34_125, g_34_128, g_34_129, g_34_132, g_34_133, g_34_136, g_34_138, g_34_139, g_34_142, g_34_143, g_34_146, g_34_147, g_34_149, g_34_152, g_34_155, g_34_158, g_34_161, g_34_164, g_34_167, qOb_some, kr_v, kr_n, qinv_i, qinv_r, qinv_0, Nat.reduceAdd, List.getElem?_cons_zero, List.getElem?_cons_succ, List.set_cons_zero, List.set_cons_succ, List.length_cons, List.length_nil, not_true_eq_false, not_false_eq_true, false_implies, true_implies, and_true, true_and, and_false, false_and, if_true, if_false, forall_const, or_true, true_or, false_or, or_false, i10, Bool.false_eq_true, nI_1]
                refine ihd (M6, w4 + 1, _) ⟨fb fl4 j true, fu st4 w4 j, (b1.trans (fr5.mono (by omega) (by omega))).trans (fr6.mono (by omega) (by omega)), ⟨_, b25.fr fr6 (by omega), fun k hk => ?_⟩, ⟨_, b36, fun k hk => ?_⟩, ?_, fun i hi => ?_, fun k hk q => ?_, fun k hk q => ?_, ?_, fun k hk q => ?_⟩
                · by_cases e : k = j
                  · rw [e, upd_s, fb_s]; rfl
                  · rw [upd_n e, fb_n e]; exact b2v k hk
                · by_cases e : k = w4
                  · rw [e, upd_s, fu_s]
                  · have hk : k < w4 + 1 := hk
                    rw [upd_n e, fu_n e]; exact b3v k (by omega)
                · show s + 1 + (w4 + 1) + cntB fl 36 = cntB (fb fl4 j true) 36
                  rw [cntB_on u1f (show j < 36 by omega)]
                  omega
                · by_cases e : i = w4
                  · rw [e, fu_s]
                    exact ⟨hj, hcc.step hc ⟨d, hd, hn, u2, u3⟩⟩
                  · have hi : i < w4 + 1 := hi
                    rw [fu_n e]; exact b5 i (by omega)
                · by_cases e : k = j
                  · rw [e, fb_s]
                  · rw [fb_n e]; exact b6 k hk q
                · by_cases e : k = j
                  · rw [e]; exact Or.inr (hcc.step hc ⟨d, hd, hn, u2, u3⟩)
                  · rw [fb_n e] at q; exact b7 k hk q
                · by_cases e : first = j
                  · rw [← e, fb_s]
                  · rw [fb_n e]; exact b8
                · by_cases e : k = j
                  · exact Or.inr (Or.inl ⟨w4, Nat.lt_succ_self _, by rw [fu_s, e]⟩)
                  · rw [fb_n e] at q
                    rcases b9 k hk q with q1 | ⟨i, q1, q2⟩ | q1
                    · exact Or.inl q1
                    · exact Or.inr (Or.inl ⟨i, Nat.lt_succ_of_lt q1, by rw [fu_n (by omega)]; exact q2⟩)
                    · refine Or.inr (Or.inr (fun d' i g1 g2 g3 g4 g5 => ?_))
                      by_cases e2 : i = j
                      · rw [e2, fb_s]
                      · rw [fb_n e2]
                        refine q1 d' i g1 (fun e3 => ?_) g3 g4 g5
                        have := g2 e3
                        by_cases e4 : d' = d
                        · rw [e3, e4, hn] at g3
                          cases g3
                          exact absurd rfl e2
                        · omega
              · simp only [u1, u2, u3, not_true_eq_false, not_false_eq_true, false_implies, true_implies, and_true, true_and, and_false, false_and, if_true, if_false, forall_const, or_true, true_or, false_or, or_false, i10, Bool.false_eq_true, nI_1]
                exact same (fun i q _ q2 => by rw [hn] at q; cases q; exact absurd q2 u3) _
            · simp only [u1, u2, not_true_eq_false, not_false_eq_true, false_implies, true_implies, and_true, true_and, and_false, false_and, if_true, if_false, forall_const, or_true, true_or, false_or, or_false, i10, Bool.false_eq_true, nI_1]
              exact same (fun i q q1 _ => by rw [hn] at q; cases q; exact absurd q1 u2) _
      · refine ⟨fl1, st, a1, a2, ⟨fq, a3, fun k hk => a4 k (Nat.lt_succ_of_lt hk)⟩, ?_, fun i hi => a6 i (Nat.lt_succ_of_lt hi), a7, a8, a9, fun k hk q => ?_⟩
        · show s + 1 + wt + cntB fl 36 = cntB fl1 36
          omega
        · rcases a10 k hk q with q1 | ⟨i, q1, q2⟩ | q1
          · exact Or.inl q1
          · by_cases e : i = wt
            · subst e
              exact Or.inr (Or.inr (fun d' j _ g2 => absurd (g2 q2.symm) (Nat.not_lt_zero _)))
            · have q1 : i < wt + 1 := q1
              exact Or.inr (Or.inl ⟨i, (show i < wt by omega), q2⟩)
          · exact Or.inr (Or.inr (fun d' j g1 _ => q1 d' j g1 (fun _ => g1)))
