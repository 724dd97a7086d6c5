/-! what the class sets in its world and its tiles -/
def fuO (F : Nat → Option Nat) (k : Nat) (v : Option Nat) : Nat → Option Nat := fun i => if i = k then v else F i
theorem fuO_s {F : Nat → Option Nat} {k : Nat} {v : Option Nat} : fuO F k v k = v := if_pos rfl
theorem fuO_n {F : Nat → Option Nat} {k i : Nat} {v : Option Nat} (h : i ≠ k) : fuO F k v i = F i := if_neg h
theorem s_resize {M : qM} {o w h w' h' : Nat} {Q : qR → qM → Prop} (hG : GridAt M o w h) (hQ : ∀ M', Fr o (o + 1) M M' → GridAt M' o w' h' → Q (.inl none) M') : cl 15 [.ref o, .int (nI w'), .int (nI h')] M Q := by
  unfold GridAt at hG
  have h1 : (M.set o (.inr (2, [.int (nI w'), .int (nI h)])))[o]? = some (.inr (2, [.int (nI w'), .int (nI h)])) := get_set_eq hG
  have f1 : Fr o (o + 1) M (M.set o (.inr (2, [.int (nI w'), .int (nI h)]))) := Fr.set (by omega) (by omega)
  rw [e_15]
  simp only [g_15_0, g_15_1, g_15_2, g_15_5, g_15_6, g_15_7, g_15_10, qOb_some, kr_v, kr_n, qinv_i, qinv_r, qinv_0, Nat.reduceAdd, List.getElem?_cons_zero, List.getElem?_cons_succ, List.set_cons_zero, List.set_cons_succ, List.length_cons, List.length_nil, qput_i hG (show 0 < 2 by decide) rfl]
  revert h1 f1
  generalize M.set o (.inr (2, [.int (nI w'), .int (nI h)])) = M1
  intro h1 f1
  simp only [g_15_0, g_15_1, g_15_2, g_15_5, g_15_6, g_15_7, g_15_10, qOb_some, kr_v, kr_n, qinv_i, qinv_r, qinv_0, Nat.reduceAdd, List.getElem?_cons_zero, List.getElem?_cons_succ, List.set_cons_zero, List.set_cons_succ, List.length_cons, List.length_nil, qput_i h1 (show 1 < 2 by decide) rfl]
  exact hQ _ (f1.trans (Fr.set (by omega) (by omega))) (get_set_eq h1)
theorem s_renew {M : qM} {w h w' h' : Nat} {F : Nat → Option Nat} {B : Nat → Nat} {Q : qR → qM → Prop} (hA : WorldAt M w h F B) (hD : Dim w' h') (hQ : ∀ M', Fr 12 17 M M' → WorldAt M' w' h' (fun _ => none) (fun _ => 0) → Q (.inl none) M') : cl 54 [.ref 11, .int (nI w'), .int (nI h')] M Q := by
  have hN := hD.le
  obtain ⟨h1, h2, ⟨f, h3, h4⟩, ⟨f', h5, h6⟩⟩ := hA
  rw [e_54]
  simp only [g_54_0, g_54_1, g_54_4, g_54_5, g_54_6, g_54_9, g_54_10, g_54_13, g_54_14, g_54_17, g_54_18, g_54_21, g_54_22, g_54_25, qOb_some, kr_v, kr_n, qinv_i, qinv_r, qinv_0, Nat.reduceAdd, List.getElem?_cons_zero, List.getElem?_cons_succ, List.set_cons_zero, List.set_cons_succ, List.length_cons, List.length_nil, not_true_eq_false, not_false_eq_true, false_implies, true_implies, and_true, true_and, and_false, false_and, if_true, if_false, forall_const, or_true, true_or, false_or, or_false, i10, Bool.false_eq_true, qget_of h1, qcls_of h2]
  refine s_resize h2 (fun M1 a1 a2 => ?_)
  have h11 := (a1 11 (by omega)).trans h1
  have h31 := h3.fr a1 (by omega)
  simp only [g_54_0, g_54_1, g_54_4, g_54_5, g_54_6, g_54_9, g_54_10, g_54_13, g_54_14, g_54_17, g_54_18, g_54_21, g_54_22, g_54_25, qOb_some, kr_v, kr_n, qinv_i, qinv_r, qinv_0, Nat.reduceAdd, List.getElem?_cons_zero, List.getElem?_cons_succ, List.set_cons_zero, List.set_cons_succ, List.length_cons, List.length_nil, not_true_eq_false, not_false_eq_true, false_implies, true_implies, and_true, true_and, and_false, false_and, if_true, if_false, forall_const, or_true, true_or, false_or, or_false, i10, Bool.false_eq_true, qget_of h11, h31.cls]
  refine s_setAll h31 (by decide) (fun f2 hf2 => ?_)
  have fB : Fr 14 15 M1 (M1.set (13 + 1) (.inl (0, 36, .inl f2))) := Fr.set (by omega) (by omega)
  have rB : RowAt (M1.set (13 + 1) (.inl (0, 36, .inl f2))) 13 36 f2 := h31.set
  revert fB rB
  generalize M1.set (13 + 1) (.inl (0, 36, .inl f2)) = M2
  intro fB rB
  have h12 := (fB 11 (by omega)).trans h11
  have h52 := (h5.fr a1 (by omega)).fr fB (by omega)
  simp only [g_54_0, g_54_1, g_54_4, g_54_5, g_54_6, g_54_9, g_54_10, g_54_13, g_54_14, g_54_17, g_54_18, g_54_21, g_54_22, g_54_25, qOb_some, kr_v, kr_n, qinv_i, qinv_r, qinv_0, Nat.reduceAdd, List.getElem?_cons_zero, List.getElem?_cons_succ, List.set_cons_zero, List.set_cons_succ, List.length_cons, List.length_nil, not_true_eq_false, not_false_eq_true, false_implies, true_implies, and_true, true_and, and_false, false_and, if_true, if_false, forall_const, or_true, true_or, false_or, or_false, i10, Bool.false_eq_true, qget_of h12, h52.cls]
  refine s_setAll h52 (by decide) (fun f3 hf3 => ?_)
  have fC : Fr 16 17 M2 (M2.set (15 + 1) (.inl (0, 36, .inl f3))) := Fr.set (by omega) (by omega)
  have rC : RowAt (M2.set (15 + 1) (.inl (0, 36, .inl f3))) 15 36 f3 := h52.set
  simp only [g_54_0, g_54_1, g_54_4, g_54_5, g_54_6, g_54_9, g_54_10, g_54_13, g_54_14, g_54_17, g_54_18, g_54_21, g_54_22, g_54_25, qOb_some, kr_v, kr_n, qinv_i, qinv_r, qinv_0, Nat.reduceAdd, List.getElem?_cons_zero, List.getElem?_cons_succ, List.set_cons_zero, List.set_cons_succ, List.length_cons, List.length_nil, not_true_eq_false, not_false_eq_true, false_implies, true_implies, and_true, true_and, and_false, false_and, if_true, if_false, forall_const, or_true, true_or, false_or, or_false, i10, Bool.false_eq_true]
  exact hQ _ (((a1.mono (by omega) (by omega)).trans (fB.mono (by omega) (by omega))).trans (fC.mono (by omega) (by omega))) ⟨(fC 11 (by omega)).trans h12, (a2.fr fB (by omega)).fr fC (by omega), ⟨f2, rB.fr fC (by omega), fun k hk => hf2 k (by omega)⟩, ⟨f3, rC, fun k hk => hf3 k (by omega)⟩⟩
theorem s_paint {M : qM} {n t d q : Nat} {x : Int32} {f2 f6 : Nat → Int32} {Q : qR → qM → Prop} (h1 : M[1]? = some (.inr (6, [.ref 2, .ref 4, .ref 6, .int x]))) (h2 : RowAt M 2 32 f2) (h6 : RowAt M 6 16 f6) (ht : t < 8) (hd : d < 4) (hq : q < 4) (hb : f6 (d * 4 + q) = nI n)
    (hQ : ∀ M', (∀ b, b ≠ 3 → b ≠ 7 → M'[b]? = M[b]?) → RowAt M' 2 32 (upd f2 (t * 4 + d) (nI q)) → RowAt M' 6 16 (upd f6 (d * 4 + q) (nI (n ||| 2 ^ t))) → Q (.inl none) M') : cl 41 [.ref 1, .int (nI t), .int (nI d), .int (nI q)] M Q := by
  rw [e_41]
  simp only [g_41_0, g_41_1, g_41_2, g_41_3, g_41_4, g_41_5, g_41_7, g_41_8, g_41_11, g_41_12, g_41_13, g_41_14, g_41_15, g_41_16, g_41_17, g_41_20, g_41_21, g_41_24, g_41_26, g_41_27, g_41_30, g_41_32, g_41_35, g_41_36, g_41_37, g_41_38, g_41_39, g_41_42, qOb_some, kr_v, kr_n, qinv_i, qinv_r, qinv_0, Nat.reduceAdd, List.getElem?_cons_zero, List.getElem?_cons_succ, List.set_cons_zero, List.set_cons_succ, List.length_cons, List.length_nil, not_true_eq_false, not_false_eq_true, false_implies, true_implies, and_true, true_and, and_false, false_and, if_true, if_false, forall_const, or_true, true_or, false_or, or_false, i10, Bool.false_eq_true, qget_of h1, h2.cls, show (4 : Int32) = nI 4 from rfl, pk_mul, nI_add]
  refine s_setF h2 (by decide) (show t * 4 + d < 32 by omega) (fun M1 a1 a2 => ?_)
  have h11 := (a1 1 (by omega)).trans h1
  have h61 := h6.fr a1 (by omega)
  simp only [g_41_0, g_41_1, g_41_2, g_41_3, g_41_4, g_41_5, g_41_7, g_41_8, g_41_11, g_41_12, g_41_13, g_41_14, g_41_15, g_41_16, g_41_17, g_41_20, g_41_21, g_41_24, g_41_26, g_41_27, g_41_30, g_41_32, g_41_35, g_41_36, g_41_37, g_41_38, g_41_39, g_41_42, qOb_some, kr_v, kr_n, qinv_i, qinv_r, qinv_0, Nat.reduceAdd, List.getElem?_cons_zero, List.getElem?_cons_succ, List.set_cons_zero, List.set_cons_succ, List.length_cons, List.length_nil, not_true_eq_false, not_false_eq_true, false_implies, true_implies, and_true, true_and, and_false, false_and, if_true, if_false, forall_const, or_true, true_or, false_or, or_false, i10, Bool.false_eq_true, qget_of h11, h61.cls, s_get h61 (show 16 < 2147483648 by decide), rget_nI (show d * 4 + q < 16 by omega) (show 16 < 2147483648 by decide), hb, nI_shl1 t ht, nI_or]
  refine s_setF h61 (by decide) (show d * 4 + q < 16 by omega) (fun M2 b1 b2 => ?_)
  simp only [g_41_0, g_41_1, g_41_2, g_41_3, g_41_4, g_41_5, g_41_7, g_41_8, g_41_11, g_41_12, g_41_13, g_41_14, g_41_15, g_41_16, g_41_17, g_41_20, g_41_21, g_41_24, g_41_26, g_41_27, g_41_30, g_41_32, g_41_35, g_41_36, g_41_37, g_41_38, g_41_39, g_41_42, qOb_some, kr_v, kr_n, qinv_i, qinv_r, qinv_0, Nat.reduceAdd, List.getElem?_cons_zero, List.getElem?_cons_succ, List.set_cons_zero, List.set_cons_succ, List.length_cons, List.length_nil, not_true_eq_false, not_false_eq_true, false_implies, true_implies, and_true, true_and, and_false, false_and, if_true, if_false, forall_const, or_true, true_or, false_or, or_false, i10, Bool.false_eq_true]
  exact hQ M2 (fun b q1 q2 => (b1 b (by omega)).trans (a1 b (by omega))) (a2.fr b1 (by omega)) b2
/-- one tile more -/
def col4 (u r d l : Nat) (k : Nat) : Nat := if k = 0 then u else if k = 1 then r else if k = 2 then d else l
def addT (T : TS) (u r d l wt : Nat) : TS := (T.n + 1, fun t k => if t = T.n then col4 u r d l k else T.c t k, fun t => if t = T.n then wt else T.w t)
theorem addT_ok {T : TS} {u r d l wt : Nat} (hk : TOk T) (hn : T.n < 8) (hu : u < 4) (hr : r < 4) (hd : d < 4) (hl : l < 4) (h1 : 1 ≤ wt) (h9 : wt ≤ 9) : TOk (addT T u r d l wt) := by
  refine ⟨hn, fun t k ht hk2 => ?_, fun t ht => ?_⟩
  · show (if t = T.n then col4 u r d l k else T.c t k) < 4
    have ht : t < T.n + 1 := ht
    split
    · unfold col4
      split <;> (try split) <;> (try split) <;> assumption
    · exact hk.2.1 t k (by omega) hk2
  · show 1 ≤ (if t = T.n then wt else T.w t) ∧ (if t = T.n then wt else T.w t) ≤ 9
    have ht : t < T.n + 1 := ht
    split
    · exact ⟨h1, h9⟩
    · exact hk.2.2 t (by omega)
theorem mk_c {p q : Nat → Bool} : ∀ {n : Nat}, (∀ t, t < n → p t = q t) → mk p n = mk q n
  | 0, _ => rfl
  | n + 1, h => by
    unfold mk
    rw [mk_c (n := n) (fun t ht => h t (by omega)), h n (by omega)]
theorem byE_add {T : TS} {u r d l wt k q : Nat} : byE (addT T u r d l wt) k q = if col4 u r d l k = q then byE T k q ||| 2 ^ T.n else byE T k q := by
  unfold byE
  show mk (fun t => (if t = T.n then col4 u r d l k else T.c t k) == q) (T.n + 1) = _
  rw [mk, mk_c (q := fun t => T.c t k == q) (n := T.n) (fun t ht => by simp only [if_neg (show ¬ t = T.n by omega)])]
  by_cases e : col4 u r d l k = q
  · simp [e]
  · simp [e]
theorem s_add {M : qM} {T : TS} {u r d l wt : Nat} {Q : qR → qM → Prop} (hT : TilesAt M T) (hk : TOk T) (hn : T.n < 8) (hu : u < 4) (hr : r < 4) (hd : d < 4) (hl : l < 4)
    (hQ : ∀ M', Fr 1 8 M M' → TilesAt M' (addT T u r d l wt) → Q (.inl (some (.int (nI T.n)))) M') : cl 40 [.ref 1, .int (nI u), .int (nI r), .int (nI d), .int (nI l), .int (nI wt)] M Q := by
  obtain ⟨h1, ⟨f2, h2, v2⟩, ⟨f4, h4, v4⟩, ⟨f6, h6, v6⟩⟩ := hT
  have h1A : (M.set 1 (.inr (6, [.ref 2, .ref 4, .ref 6, .int (nI (T.n + 1))])))[1]? = some (.inr (6, [.ref 2, .ref 4, .ref 6, .int (nI (T.n + 1))])) := get_set_eq h1
  have fA : Fr 1 2 M (M.set 1 (.inr (6, [.ref 2, .ref 4, .ref 6, .int (nI (T.n + 1))]))) := Fr.set (by omega) (by omega)
  rw [e_40]
  simp only [g_40_0, g_40_1, g_40_4, g_40_6, g_40_7, g_40_8, g_40_11, g_40_12, g_40_13, g_40_16, g_40_17, g_40_20, g_40_22, g_40_24, g_40_27, g_40_28, g_40_30, g_40_31, g_40_32, g_40_35, g_40_36, g_40_38, g_40_39, g_40_40, g_40_43, g_40_44, g_40_46, g_40_47, g_40_48, g_40_51, g_40_52, g_40_54, g_40_55, g_40_57, g_40_60, g_40_62, qOb_some, kr_v, kr_n, qinv_i, qinv_r, qinv_0, Nat.reduceAdd, List.getElem?_cons_zero, List.getElem?_cons_succ, List.set_cons_zero, List.set_cons_succ, List.length_cons, List.length_nil, not_true_eq_false, not_false_eq_true, false_implies, true_implies, and_true, true_and, and_false, false_and, if_true, if_false, forall_const, or_true, true_or, false_or, or_false, i10, Bool.false_eq_true, qget_of h1, nI_1, qput_i h1 (show 3 < 4 by decide) rfl]
  revert h1A fA
  generalize M.set 1 (.inr (6, [.ref 2, .ref 4, .ref 6, .int (nI (T.n + 1))])) = MA
  intro h1A fA
  have h4A := h4.fr fA (by omega)
  simp only [g_40_0, g_40_1, g_40_4, g_40_6, g_40_7, g_40_8, g_40_11, g_40_12, g_40_13, g_40_16, g_40_17, g_40_20, g_40_22, g_40_24, g_40_27, g_40_28, g_40_30, g_40_31, g_40_32, g_40_35, g_40_36, g_40_38, g_40_39, g_40_40, g_40_43, g_40_44, g_40_46, g_40_47, g_40_48, g_40_51, g_40_52, g_40_54, g_40_55, g_40_57, g_40_60, g_40_62, qOb_some, kr_v, kr_n, qinv_i, qinv_r, qinv_0, Nat.reduceAdd, List.getElem?_cons_zero, List.getElem?_cons_succ, List.set_cons_zero, List.set_cons_succ, List.length_cons, List.length_nil, not_true_eq_false, not_false_eq_true, false_implies, true_implies, and_true, true_and, and_false, false_and, if_true, if_false, forall_const, or_true, true_or, false_or, or_false, i10, Bool.false_eq_true, qget_of h1A, h4A.cls]
  refine s_setF h4A (by decide) (show T.n < 8 by omega) (fun MB fB h4B => ?_)
  have h1B := (fB 1 (by omega)).trans h1A
  have h2B := (h2.fr fA (by omega)).fr fB (by omega)
  have h6B := (h6.fr fA (by omega)).fr fB (by omega)
  simp only [g_40_0, g_40_1, g_40_4, g_40_6, g_40_7, g_40_8, g_40_11, g_40_12, g_40_13, g_40_16, g_40_17, g_40_20, g_40_22, g_40_24, g_40_27, g_40_28, g_40_30, g_40_31, g_40_32, g_40_35, g_40_36, g_40_38, g_40_39, g_40_40, g_40_43, g_40_44, g_40_46, g_40_47, g_40_48, g_40_51, g_40_52, g_40_54, g_40_55, g_40_57, g_40_60, g_40_62, qOb_some, kr_v, kr_n, qinv_i, qinv_r, qinv_0, Nat.reduceAdd, List.getElem?_cons_zero, List.getElem?_cons_succ, List.set_cons_zero, List.set_cons_succ, List.length_cons, List.length_nil, not_true_eq_false, not_false_eq_true, false_implies, true_implies, and_true, true_and, and_false, false_and, if_true, if_false, forall_const, or_true, true_or, false_or, or_false, i10, Bool.false_eq_true, qcls_of h1B, show (0 : Int32) = nI 0 from rfl]
  refine s_paint h1B h2B h6B hn (by decide) hu (v6 0 u (by decide) hu) (fun M1 a1 a2 a3 => ?_)
  have h11 := (a1 1 (by decide) (by decide)).trans h1B
  simp only [g_40_0, g_40_1, g_40_4, g_40_6, g_40_7, g_40_8, g_40_11, g_40_12, g_40_13, g_40_16, g_40_17, g_40_20, g_40_22, g_40_24, g_40_27, g_40_28, g_40_30, g_40_31, g_40_32, g_40_35, g_40_36, g_40_38, g_40_39, g_40_40, g_40_43, g_40_44, g_40_46, g_40_47, g_40_48, g_40_51, g_40_52, g_40_54, g_40_55, g_40_57, g_40_60, g_40_62, qOb_some, kr_v, kr_n, qinv_i, qinv_r, qinv_0, Nat.reduceAdd, List.getElem?_cons_zero, List.getElem?_cons_succ, List.set_cons_zero, List.set_cons_succ, List.length_cons, List.length_nil, not_true_eq_false, not_false_eq_true, false_implies, true_implies, and_true, true_and, and_false, false_and, if_true, if_false, forall_const, or_true, true_or, false_or, or_false, i10, Bool.false_eq_true, qcls_of h11, show (1 : Int32) = nI 1 from rfl]
  refine s_paint h11 a2 a3 hn (by decide) hr ((upd_n (by omega)).trans (v6 1 r (by decide) hr)) (fun M2 b1 b2 b3 => ?_)
  have h12 := (b1 1 (by decide) (by decide)).trans h11
  simp only [g_40_0, g_40_1, g_40_4, g_40_6, g_40_7, g_40_8, g_40_11, g_40_12, g_40_13, g_40_16, g_40_17, g_40_20, g_40_22, g_40_24, g_40_27, g_40_28, g_40_30, g_40_31, g_40_32, g_40_35, g_40_36, g_40_38, g_40_39, g_40_40, g_40_43, g_40_44, g_40_46, g_40_47, g_40_48, g_40_51, g_40_52, g_40_54, g_40_55, g_40_57, g_40_60, g_40_62, qOb_some, kr_v, kr_n, qinv_i, qinv_r, qinv_0, Nat.reduceAdd, List.getElem?_cons_zero, List.getElem?_cons_succ, List.set_cons_zero, List.set_cons_succ, List.length_cons, List.length_nil, not_true_eq_false, not_false_eq_true, false_implies, true_implies, and_true, true_and, and_false, false_and, if_true, if_false, forall_const, or_true, true_or, false_or, or_false, i10, Bool.false_eq_true, qcls_of h12, show (2 : Int32) = nI 2 from rfl]
  refine s_paint h12 b2 b3 hn (by decide) hd ((upd_n (by omega)).trans ((upd_n (by omega)).trans (v6 2 d (by decide) hd))) (fun M3 c1 c2 c3 => ?_)
  have h13 := (c1 1 (by decide) (by decide)).trans h12
  simp only [g_40_0, g_40_1, g_40_4, g_40_6, g_40_7, g_40_8, g_40_11, g_40_12, g_40_13, g_40_16, g_40_17, g_40_20, g_40_22, g_40_24, g_40_27, g_40_28, g_40_30, g_40_31, g_40_32, g_40_35, g_40_36, g_40_38, g_40_39, g_40_40, g_40_43, g_40_44, g_40_46, g_40_47, g_40_48, g_40_51, g_40_52, g_40_54, g_40_55, g_40_57, g_40_60, g_40_62, qOb_some, kr_v, kr_n, qinv_i, qinv_r, qinv_0, Nat.reduceAdd, List.getElem?_cons_zero, List.getElem?_cons_succ, List.set_cons_zero, List.set_cons_succ, List.length_cons, List.length_nil, not_true_eq_false, not_false_eq_true, false_implies, true_implies, and_true, true_and, and_false, false_and, if_true, if_false, forall_const, or_true, true_or, false_or, or_false, i10, Bool.false_eq_true, qcls_of h13, show (3 : Int32) = nI 3 from rfl]
  refine s_paint h13 c2 c3 hn (by decide) hl ((upd_n (by omega)).trans ((upd_n (by omega)).trans ((upd_n (by omega)).trans (v6 3 l (by decide) hl)))) (fun M4 d1 d2 d3 => ?_)
  have h14 := (d1 1 (by decide) (by decide)).trans h13
  simp only [g_40_0, g_40_1, g_40_4, g_40_6, g_40_7, g_40_8, g_40_11, g_40_12, g_40_13, g_40_16, g_40_17, g_40_20, g_40_22, g_40_24, g_40_27, g_40_28, g_40_30, g_40_31, g_40_32, g_40_35, g_40_36, g_40_38, g_40_39, g_40_40, g_40_43, g_40_44, g_40_46, g_40_47, g_40_48, g_40_51, g_40_52, g_40_54, g_40_55, g_40_57, g_40_60, g_40_62, qOb_some, kr_v, kr_n, qinv_i, qinv_r, qinv_0, Nat.reduceAdd, List.getElem?_cons_zero, List.getElem?_cons_succ, List.set_cons_zero, List.set_cons_succ, List.length_cons, List.length_nil, not_true_eq_false, not_false_eq_true, false_implies, true_implies, and_true, true_and, and_false, false_and, if_true, if_false, forall_const, or_true, true_or, false_or, or_false, i10, Bool.false_eq_true]
  have un : ∀ b, b ≠ 3 → b ≠ 7 → M4[b]? = MB[b]? := fun b q1 q2 => (d1 b q1 q2).trans ((c1 b q1 q2).trans ((b1 b q1 q2).trans (a1 b q1 q2)))
  refine hQ M4 (fun b q => (un b (by omega) (by omega)).trans ((fB b (by omega)).trans (fA b (by omega)))) ⟨h14, ⟨_, d2, fun t k ht hk2 => ?_⟩, ⟨_, ⟨(un 4 (by decide) (by decide)).trans h4B.1, (un 5 (by decide) (by decide)).trans h4B.2⟩, fun t ht => ?_⟩, ⟨_, d3, fun k q hk2 hq => ?_⟩⟩
  · have ht : t < T.n + 1 := ht
    show _ = nI (if t = T.n then col4 u r d l k else T.c t k)
    by_cases e : t = T.n
    · subst e
      rw [if_pos rfl]
      have hk4 : k = 0 ∨ k = 1 ∨ k = 2 ∨ k = 3 := by omega
      rcases hk4 with rfl | rfl | rfl | rfl
      · rw [upd_n (by omega), upd_n (by omega), upd_n (by omega), upd_s]; rfl
      · rw [upd_n (by omega), upd_n (by omega), upd_s]; rfl
      · rw [upd_n (by omega), upd_s]; rfl
      · rw [upd_s]; rfl
    · rw [if_neg e, upd_n (by omega), upd_n (by omega), upd_n (by omega), upd_n (by omega)]
      exact v2 t k (by omega) hk2
  · have ht : t < T.n + 1 := ht
    show _ = nI (if t = T.n then wt else T.w t)
    by_cases e : t = T.n
    · rw [if_pos e, e, upd_s]
    · rw [if_neg e, upd_n e]
      exact v4 t (by omega)
  · rw [byE_add]
    have hk4 : k = 0 ∨ k = 1 ∨ k = 2 ∨ k = 3 := by omega
    rcases hk4 with rfl | rfl | rfl | rfl
    · rw [upd_n (by omega), upd_n (by omega), upd_n (by omega)]
      by_cases e : u = q
      · subst e
        rw [upd_s, if_pos (show col4 u r d l 0 = u from rfl)]
      · rw [upd_n (by omega), if_neg (show ¬ col4 u r d l 0 = q from e)]
        exact v6 0 q (by decide) hq
    · rw [upd_n (by omega), upd_n (by omega)]
      by_cases e : r = q
      · subst e
        rw [upd_s, if_pos (show col4 u r d l 1 = r from rfl)]
      · rw [upd_n (by omega), upd_n (by omega), if_neg (show ¬ col4 u r d l 1 = q from e)]
        exact v6 1 q (by decide) hq
    · rw [upd_n (by omega)]
      by_cases e : d = q
      · subst e
        rw [upd_s, if_pos (show col4 u r d l 2 = d from rfl)]
      · rw [upd_n (by omega), upd_n (by omega), upd_n (by omega), if_neg (show ¬ col4 u r d l 2 = q from e)]
        exact v6 2 q (by decide) hq
    · by_cases e : l = q
      · subst e
        rw [upd_s, if_pos (show col4 u r d l 3 = l from rfl)]
      · rw [upd_n (by omega), upd_n (by omega), upd_n (by omega), upd_n (by omega), if_neg (show ¬ col4 u r d l 3 = q from e)]
        exact v6 3 q (by decide) hq
