/-! the class's calls that set wishes, and those that only ask -/
def oI (x : Int32) : Option Nat := if x = -1 then none else some (cn x)
def mostP (x : Int32) : Prop := -1 ≤ x ∧ x ≤ 36
theorem oI_e {x : Int32} (h : mostP x) : x = nbI (oI x) ∧ ∀ m, oI x = some m → m ≤ 36 := by
  unfold oI
  by_cases e : x = -1
  · rw [if_pos e]
    exact ⟨e, fun m q => by cases q⟩
  · rw [if_neg e]
    have h0 : 0 ≤ x := by
      have h1 := Int32.le_iff_toInt_le.mp h.1
      have h2 : (-1 : Int32).toInt = -1 := by decide
      rw [h2] at h1
      apply Int32.le_iff_toInt_le.mpr
      have h3 : (0 : Int32).toInt = 0 := by decide
      rw [h3]
      have h4 : x.toInt ≠ -1 := fun q => e (Int32.toInt_inj.mp (q.trans h2.symm))
      omega
    obtain ⟨h1, h2⟩ := cn_le (m := 36) (by decide) h0 h.2
    exact ⟨h1, fun m q => by cases q; exact h2⟩
theorem s_isMost {M : qM} {a : Int32} {Q : qR → qM → Prop} : cl 88 [.int a, .int (-1), .int 36] M Q ↔ Q (.inl (some (.int (@bI (mostP a) (inferInstanceAs (Decidable (-1 ≤ a ∧ a ≤ 36))))))) M := s_isFromTo
theorem InvC.wish {lo hi : Nat} {M M' : qM} {T : TS} {sd w h : Nat} {F : Nat → Option Nat} {B : Nat → Nat} {wo : Nat → Option Nat} {rd fd : Bool} {tl : Nat → Nat} {gs tk n : Nat} {cx cy : Nat → Int32} {ce : Nat → Nat} {ct : Nat → Nat → Nat} {wo' : Nat → Option Nat} {rd' : Bool} (hI : InvC M T sd w h F B wo rd fd tl gs tk n cx cy ce ct) (hf : Fr lo hi M M') (h1 : 8 ≤ lo) (h2 : hi ≤ 11) (hW : WishAt M' 8 (fun t => nbI (wo' t)) rd') : InvC M' T sd w h F B wo' rd' fd tl gs tk n cx cy ce ct := by
  obtain ⟨i1, i2, i3, i4, i5, i6, i7, ⟨t0, i8⟩, i9, i10⟩ := hI
  exact ⟨i1.fr hf (by omega), i2.fr hf (by omega), hW, i4.fr hf (by omega), i5.fr hf (by omega), i6.fr hf (by omega), i7.fr hf (by omega), ⟨t0, i8.fr hf (by omega)⟩, i9.fr hf (by omega), i10.fr hf (by omega)⟩
theorem c_setMost {M : qM} {T : TS} {sd w h : Nat} {F : Nat → Option Nat} {B : Nat → Nat} {wo : Nat → Option Nat} {rd fd : Bool} {tl : Nat → Nat} {gs tk n : Nat} {cx cy : Nat → Int32} {ce : Nat → Nat} {ct : Nat → Nat → Nat} {t x : Int32} {Q : qR → qM → Prop} (hI : InvC M T sd w h F B wo rd fd tl gs tk n cx cy ce ct) (hS : SOk T sd w h F B wo rd fd tl gs tk n cx cy ce ct) (hE1 : ¬ tileP T t → Q (.inr 3) M) (hE2 : tileP T t → ¬ mostP x → Q (.inr 0) M)
    (hQ : tileP T t → mostP x → ∀ M', KC M M' → InvC M' T sd w h F B (fuO wo (cn t) (oI x)) rd false tl gs tk n cx cy ce ct → Q (.inl (some (.int (nbI (wo (cn t)))))) M') : cl 67 [.ref 0, .int t, .int x] M Q := by
  have i1 := hI.1
  have i2 := hI.2.1
  obtain ⟨w1, f, w2, w3⟩ := hI.2.2.1
  have h8 := hS.1.1
  rw [e_67]
  by_cases a : tileP T t
  case neg =>
    have := hE1 a
    simp only [g_67_0, g_67_1, g_67_4, g_67_5, g_67_8, g_67_11, g_67_21, g_67_22, g_67_23, g_67_25, g_67_28, g_67_31, g_67_41, g_67_42, g_67_45, g_67_48, g_67_49, g_67_52, g_67_53, g_67_54, g_67_57, g_67_60, g_67_61, g_67_62, g_67_65, g_67_66, g_67_67, g_67_70, g_67_71, qOb_some, kr_v, kr_n, qinv_i, qinv_r, qinv_0, Nat.reduceAdd, List.getElem?_cons_zero, List.getElem?_cons_succ, List.set_cons_zero, List.set_cons_succ, List.length_cons, List.length_nil, hget i1, ho_0, qcls_of i2.1, s_hasTP i2, bI_0, eq_false a, not_true_eq_false, not_false_eq_true, false_implies, true_implies, and_true, true_and, and_false, false_and, if_true, if_false, forall_const, or_true, true_or, false_or, or_false, i10, Bool.false_eq_true]
    exact this
  by_cases b : mostP x
  case neg =>
    have := hE2 a b
    simp only [g_67_0, g_67_1, g_67_4, g_67_5, g_67_8, g_67_11, g_67_21, g_67_22, g_67_23, g_67_25, g_67_28, g_67_31, g_67_41, g_67_42, g_67_45, g_67_48, g_67_49, g_67_52, g_67_53, g_67_54, g_67_57, g_67_60, g_67_61, g_67_62, g_67_65, g_67_66, g_67_67, g_67_70, g_67_71, qOb_some, kr_v, kr_n, qinv_i, qinv_r, qinv_0, Nat.reduceAdd, List.getElem?_cons_zero, List.getElem?_cons_succ, List.set_cons_zero, List.set_cons_succ, List.length_cons, List.length_nil, hget i1, ho_0, qcls_of i2.1, s_hasTP i2, s_isMost, bI_0, eq_true a, eq_false b, not_true_eq_false, not_false_eq_true, false_implies, true_implies, and_true, true_and, and_false, false_and, if_true, if_false, forall_const, or_true, true_or, false_or, or_false, i10, Bool.false_eq_true]
    exact this
  have hQ := hQ a b
  obtain ⟨t1, t2⟩ := tile_cn hS.1 a
  obtain ⟨x1, x2⟩ := oI_e b
  have eg : rget 8 f (nI (cn t)) = nbI (wo (cn t)) := (rget_nI (show cn t < 8 by omega) (by decide)).trans (w3 _ (by omega))
  rw [← t1] at eg
  simp only [g_67_0, g_67_1, g_67_4, g_67_5, g_67_8, g_67_11, g_67_21, g_67_22, g_67_23, g_67_25, g_67_28, g_67_31, g_67_41, g_67_42, g_67_45, g_67_48, g_67_49, g_67_52, g_67_53, g_67_54, g_67_57, g_67_60, g_67_61, g_67_62, g_67_65, g_67_66, g_67_67, g_67_70, g_67_71, qOb_some, kr_v, kr_n, qinv_i, qinv_r, qinv_0, Nat.reduceAdd, List.getElem?_cons_zero, List.getElem?_cons_succ, List.set_cons_zero, List.set_cons_succ, List.length_cons, List.length_nil, hget i1, ho_0, ho_1, qcls_of i2.1, s_hasTP i2, s_isMost, bI_0, eq_true a, eq_true b, not_true_eq_false, not_false_eq_true, false_implies, true_implies, and_true, true_and, and_false, false_and, if_true, if_false, forall_const, or_true, true_or, false_or, or_false, i10, Bool.false_eq_true, qget_of w1, w2.cls, s_get w2 (show 8 < 2147483648 by decide), eg]
  have st : cl 37 [.ref 9, .int (nI (cn t)), .int (nbI (oI x))] M (kr 67 62 [some (.ref 0), some (.int t), some (.int x), some (.int (nbI (wo (cn t))))] [] 0 0 Q) := by
    refine s_setF w2 (by decide) (show cn t < 8 by omega) (fun M1 b1 b2 => ?_)
    obtain ⟨M2, e2, f2, hH2⟩ := hput (sd' := nI sd) (fd' := 0) 11 0 (i1.fr b1 (by omega)) (by decide) rfl rfl
    have hW1 : WishAt M1 8 (fun i => nbI (fuO wo (cn t) (oI x) i)) rd := ⟨(b1 8 (by omega)).trans w1, _, b2, fun i hi => by
      show _ = nbI (fuO wo (cn t) (oI x) i)
      by_cases e : i = cn t
      · rw [e, upd_s, fuO_s]
      · rw [upd_n e, fuO_n e]; exact w3 i hi⟩
    simp only [g_67_0, g_67_1, g_67_4, g_67_5, g_67_8, g_67_11, g_67_21, g_67_22, g_67_23, g_67_25, g_67_28, g_67_31, g_67_41, g_67_42, g_67_45, g_67_48, g_67_49, g_67_52, g_67_53, g_67_54, g_67_57, g_67_60, g_67_61, g_67_62, g_67_65, g_67_66, g_67_67, g_67_70, g_67_71, qOb_some, kr_v, kr_n, qinv_i, qinv_r, qinv_0, Nat.reduceAdd, List.getElem?_cons_zero, List.getElem?_cons_succ, List.set_cons_zero, List.set_cons_succ, List.length_cons, List.length_nil, not_true_eq_false, not_false_eq_true, false_implies, true_implies, and_true, true_and, and_false, false_and, if_true, if_false, forall_const, or_true, true_or, false_or, or_false, i10, Bool.false_eq_true, e2]
    exact hQ M2 (fun b q => (f2 b (by omega)).trans (b1 b (by omega))) ((hI.wish b1 (by omega) (by omega) hW1).h0 f2 hH2)
  rw [← t1, ← x1] at st
  exact st
theorem c_setRoad {M : qM} {T : TS} {sd w h : Nat} {F : Nat → Option Nat} {B : Nat → Nat} {wo : Nat → Option Nat} {rd fd : Bool} {tl : Nat → Nat} {gs tk n : Nat} {cx cy : Nat → Int32} {ce : Nat → Nat} {ct : Nat → Nat → Nat} {b : Bool} {Q : qR → qM → Prop} (hI : InvC M T sd w h F B wo rd fd tl gs tk n cx cy ce ct)
    (hQ : ∀ M', KC M M' → InvC M' T sd w h F B wo b false tl gs tk n cx cy ce ct → Q (.inl (some (.int (bI (rd = true))))) M') : cl 68 [.ref 0, .int (bI (b = true))] M Q := by
  have i1 := hI.1
  obtain ⟨w1, f, w2, w3⟩ := hI.2.2.1
  have hfit : q_fit (q_ty 7 1) (.int (bI (b = true))) = true := by cases b <;> rfl
  have ep : qput M 8 7 1 (.int (bI (b = true))) = some (M.set 8 (.inr (7, [.ref 9, .int (bI (b = true))]))) := by
    rw [qput_of w1, if_pos ⟨(show 1 < 2 by decide), hfit⟩]
    rfl
  have w1A : (M.set 8 (.inr (7, [.ref 9, .int (bI (b = true))])))[8]? = some (.inr (7, [.ref 9, .int (bI (b = true))])) := get_set_eq w1
  have fA : Fr 8 9 M (M.set 8 (.inr (7, [.ref 9, .int (bI (b = true))]))) := Fr.set (by omega) (by omega)
  rw [e_68]
  simp only [g_68_0, g_68_1, g_68_4, g_68_7, g_68_8, g_68_9, g_68_12, g_68_13, g_68_16, g_68_17, g_68_18, g_68_21, g_68_22, qOb_some, kr_v, kr_n, qinv_i, qinv_r, qinv_0, Nat.reduceAdd, List.getElem?_cons_zero, List.getElem?_cons_succ, List.set_cons_zero, List.set_cons_succ, List.length_cons, List.length_nil, not_true_eq_false, not_false_eq_true, false_implies, true_implies, and_true, true_and, and_false, false_and, if_true, if_false, forall_const, or_true, true_or, false_or, or_false, i10, Bool.false_eq_true, hget i1, ho_1, qget_of w1, ep]
  revert w1A fA
  generalize M.set 8 (.inr (7, [.ref 9, .int (bI (b = true))])) = M1
  intro w1A fA
  obtain ⟨M2, e2, f2, hH2⟩ := hput (sd' := nI sd) (fd' := 0) 11 0 (i1.fr fA (by omega)) (by decide) rfl rfl
  simp only [g_68_0, g_68_1, g_68_4, g_68_7, g_68_8, g_68_9, g_68_12, g_68_13, g_68_16, g_68_17, g_68_18, g_68_21, g_68_22, qOb_some, kr_v, kr_n, qinv_i, qinv_r, qinv_0, Nat.reduceAdd, List.getElem?_cons_zero, List.getElem?_cons_succ, List.set_cons_zero, List.set_cons_succ, List.length_cons, List.length_nil, not_true_eq_false, not_false_eq_true, false_implies, true_implies, and_true, true_and, and_false, false_and, if_true, if_false, forall_const, or_true, true_or, false_or, or_false, i10, Bool.false_eq_true, e2, bI_01]
  exact hQ M2 (fun b q => (f2 b (by omega)).trans (fA b (by omega))) ((hI.wish fA (by omega) (by omega) ⟨w1A, f, w2.fr fA (by omega), w3⟩).h0 f2 hH2)
def dirP (d : Int32) : Prop := 0 ≤ d ∧ d ≤ 3
theorem s_isDir {M : qM} {a : Int32} {Q : qR → qM → Prop} : cl 88 [.int a, .int 0, .int 3] M Q ↔ Q (.inl (some (.int (@bI (dirP a) (inferInstanceAs (Decidable (0 ≤ a ∧ a ≤ 3))))))) M := s_isFromTo
theorem c_isFilled {M : qM} {T : TS} {sd w h : Nat} {F : Nat → Option Nat} {B : Nat → Nat} {wo : Nat → Option Nat} {rd fd : Bool} {tl : Nat → Nat} {gs tk n : Nat} {cx cy : Nat → Int32} {ce : Nat → Nat} {ct : Nat → Nat → Nat} {Q : qR → qM → Prop} (hI : InvC M T sd w h F B wo rd fd tl gs tk n cx cy ce ct) (hQ : Q (.inl (some (.int (bI (fd = true))))) M) : cl 73 [.ref 0] M Q := by
  rw [e_73]
  simp only [g_73_0, g_73_1, g_73_4, qOb_some, kr_v, kr_n, qinv_i, qinv_r, qinv_0, Nat.reduceAdd, List.getElem?_cons_zero, List.getElem?_cons_succ, List.set_cons_zero, List.set_cons_succ, List.length_cons, List.length_nil, hget hI.1, ho_11, bI_01, not_true_eq_false, not_false_eq_true, false_implies, true_implies, and_true, true_and, and_false, false_and, if_true, if_false, forall_const, or_true, true_or, false_or, or_false, i10, Bool.false_eq_true]
  exact hQ
theorem c_guesses {M : qM} {T : TS} {sd w h : Nat} {F : Nat → Option Nat} {B : Nat → Nat} {wo : Nat → Option Nat} {rd fd : Bool} {tl : Nat → Nat} {gs tk n : Nat} {cx cy : Nat → Int32} {ce : Nat → Nat} {ct : Nat → Nat → Nat} {Q : qR → qM → Prop} (hI : InvC M T sd w h F B wo rd fd tl gs tk n cx cy ce ct) (hQ : Q (.inl (some (.int (nI gs)))) M) : cl 75 [.ref 0] M Q := by
  obtain ⟨⟨n0, s0, hO⟩, -⟩ := hI.2.2.2.2.2.2.1
  rw [e_75]
  simp only [g_75_0, g_75_1, g_75_4, g_75_7, qOb_some, kr_v, kr_n, qinv_i, qinv_r, qinv_0, Nat.reduceAdd, List.getElem?_cons_zero, List.getElem?_cons_succ, List.set_cons_zero, List.set_cons_succ, List.length_cons, List.length_nil, hget hI.1, ho_5, hO.get, fo_11, not_true_eq_false, not_false_eq_true, false_implies, true_implies, and_true, true_and, and_false, false_and, if_true, if_false, forall_const, or_true, true_or, false_or, or_false, i10, Bool.false_eq_true]
  exact hQ
theorem c_takenBack {M : qM} {T : TS} {sd w h : Nat} {F : Nat → Option Nat} {B : Nat → Nat} {wo : Nat → Option Nat} {rd fd : Bool} {tl : Nat → Nat} {gs tk n : Nat} {cx cy : Nat → Int32} {ce : Nat → Nat} {ct : Nat → Nat → Nat} {Q : qR → qM → Prop} (hI : InvC M T sd w h F B wo rd fd tl gs tk n cx cy ce ct) (hQ : Q (.inl (some (.int (nI tk)))) M) : cl 76 [.ref 0] M Q := by
  obtain ⟨⟨n0, s0, hO⟩, -⟩ := hI.2.2.2.2.2.2.1
  rw [e_76]
  simp only [g_76_0, g_76_1, g_76_4, g_76_7, qOb_some, kr_v, kr_n, qinv_i, qinv_r, qinv_0, Nat.reduceAdd, List.getElem?_cons_zero, List.getElem?_cons_succ, List.set_cons_zero, List.set_cons_succ, List.length_cons, List.length_nil, hget hI.1, ho_5, hO.get, fo_12, not_true_eq_false, not_false_eq_true, false_implies, true_implies, and_true, true_and, and_false, false_and, if_true, if_false, forall_const, or_true, true_or, false_or, or_false, i10, Bool.false_eq_true]
  exact hQ
theorem c_chunks {M : qM} {T : TS} {sd w h : Nat} {F : Nat → Option Nat} {B : Nat → Nat} {wo : Nat → Option Nat} {rd fd : Bool} {tl : Nat → Nat} {gs tk n : Nat} {cx cy : Nat → Int32} {ce : Nat → Nat} {ct : Nat → Nat → Nat} {Q : qR → qM → Prop} (hI : InvC M T sd w h F B wo rd fd tl gs tk n cx cy ce ct) (hQ : Q (.inl (some (.int (nI n)))) M) : cl 82 [.ref 0] M Q := by
  have hC := hI.2.2.2.2.2.2.2.2.2.1
  rw [e_82]
  simp only [g_82_0, g_82_1, g_82_4, g_82_7, qOb_some, kr_v, kr_n, qinv_i, qinv_r, qinv_0, Nat.reduceAdd, List.getElem?_cons_zero, List.getElem?_cons_succ, List.set_cons_zero, List.set_cons_succ, List.length_cons, List.length_nil, hget hI.1, ho_9, qget_of hC, not_true_eq_false, not_false_eq_true, false_implies, true_implies, and_true, true_and, and_false, false_and, if_true, if_false, forall_const, or_true, true_or, false_or, or_false, i10, Bool.false_eq_true]
  exact hQ
theorem c_forget {M : qM} {T : TS} {sd w h : Nat} {F : Nat → Option Nat} {B : Nat → Nat} {wo : Nat → Option Nat} {rd fd : Bool} {tl : Nat → Nat} {gs tk n : Nat} {cx cy : Nat → Int32} {ce : Nat → Nat} {ct : Nat → Nat → Nat} {Q : qR → qM → Prop} (hI : InvC M T sd w h F B wo rd fd tl gs tk n cx cy ce ct) (hQ : ∀ M', KC M M' → InvC M' T sd w h F B wo rd fd tl gs tk 0 cx cy ce ct → Q (.inl (some (.int (nI n)))) M') : cl 83 [.ref 0] M Q := by
  have hC := hI.2.2.2.2.2.2.2.2.2
  rw [e_83]
  simp only [g_83_0, g_83_1, g_83_4, g_83_7, g_83_8, g_83_9, g_83_12, g_83_15, g_83_16, qOb_some, kr_v, kr_n, qinv_i, qinv_r, qinv_0, Nat.reduceAdd, List.getElem?_cons_zero, List.getElem?_cons_succ, List.set_cons_zero, List.set_cons_succ, List.length_cons, List.length_nil, hget hI.1, ho_9, qget_of hC.1, qcls_of hC.1, not_true_eq_false, not_false_eq_true, false_implies, true_implies, and_true, true_and, and_false, false_and, if_true, if_false, forall_const, or_true, true_or, false_or, or_false, i10, Bool.false_eq_true]
  refine s_clear hC (fun M1 b1 b2 => ?_)
  simp only [g_83_0, g_83_1, g_83_4, g_83_7, g_83_8, g_83_9, g_83_12, g_83_15, g_83_16, qOb_some, kr_v, kr_n, qinv_i, qinv_r, qinv_0, Nat.reduceAdd, List.getElem?_cons_zero, List.getElem?_cons_succ, List.set_cons_zero, List.set_cons_succ, List.length_cons, List.length_nil, not_true_eq_false, not_false_eq_true, false_implies, true_implies, and_true, true_and, and_false, false_and, if_true, if_false, forall_const, or_true, true_or, false_or, or_false, i10, Bool.false_eq_true]
  exact hQ M1 (b1.kc (by omega)) (hI.chu (b1.mono (by omega) (by omega)) b2)
def nearP (x y : Int32) : Prop := (-50 ≤ x ∧ x ≤ 50) ∧ (-50 ≤ y ∧ y ≤ 50)
theorem s_isNear {M : qM} {a b : Int32} {Q : qR → qM → Prop} : cl 90 [.int a, .int b] M Q ↔ Q (.inl (some (.int (@bI (nearP a b) (inferInstanceAs (Decidable ((-50 ≤ a ∧ a ≤ 50) ∧ (-50 ≤ b ∧ b ≤ 50)))))))) M := s_isPlace
def plP (p : Int32) : Prop := 0 ≤ p ∧ p ≤ 2
theorem s_isPl {M : qM} {a : Int32} {Q : qR → qM → Prop} : cl 88 [.int a, .int 0, .int 2] M Q ↔ Q (.inl (some (.int (@bI (plP a) (inferInstanceAs (Decidable (0 ≤ a ∧ a ≤ 2))))))) M := s_isFromTo
theorem c_border {M : qM} {T : TS} {sd w h : Nat} {F : Nat → Option Nat} {B : Nat → Nat} {wo : Nat → Option Nat} {rd fd : Bool} {tl : Nat → Nat} {gs tk n : Nat} {cx cy : Nat → Int32} {ce : Nat → Nat} {ct : Nat → Nat → Nat} {x y p : Int32} {b : Bool} {Q : qR → qM → Prop} (hI : InvC M T sd w h F B wo rd fd tl gs tk n cx cy ce ct) (hE : ¬ (nearP x y ∧ plP p) → Q (.inr 0) M)
    (hQ : nearP x y → plP p → Q (.inl (some (.int (nI (colN (nI sd) x y (bI (b = true)) p))))) M) : cl 81 [.ref 0, .int x, .int y, .int (bI (b = true)), .int p] M Q := by
  have i1 := hI.1
  rw [e_81]
  by_cases a : nearP x y
  case neg =>
    have := hE (fun q => a q.1)
    simp only [g_81_0, g_81_1, g_81_2, g_81_5, g_81_8, g_81_10, g_81_11, g_81_12, g_81_15, g_81_18, g_81_29, g_81_30, g_81_31, g_81_32, g_81_33, g_81_36, g_81_37, g_81_40, g_81_41, g_81_43, g_81_46, qOb_some, kr_v, kr_n, qinv_i, qinv_r, qinv_0, Nat.reduceAdd, List.getElem?_cons_zero, List.getElem?_cons_succ, List.set_cons_zero, List.set_cons_succ, List.length_cons, List.length_nil, s_isNear, bI_0, eq_false a, not_true_eq_false, not_false_eq_true, false_implies, true_implies, and_true, true_and, and_false, false_and, if_true, if_false, forall_const, or_true, true_or, false_or, or_false, i10, Bool.false_eq_true]
    exact this
  by_cases c : plP p
  case neg =>
    have := hE (fun q => c q.2)
    simp only [g_81_0, g_81_1, g_81_2, g_81_5, g_81_8, g_81_10, g_81_11, g_81_12, g_81_15, g_81_18, g_81_29, g_81_30, g_81_31, g_81_32, g_81_33, g_81_36, g_81_37, g_81_40, g_81_41, g_81_43, g_81_46, qOb_some, kr_v, kr_n, qinv_i, qinv_r, qinv_0, Nat.reduceAdd, List.getElem?_cons_zero, List.getElem?_cons_succ, List.set_cons_zero, List.set_cons_succ, List.length_cons, List.length_nil, s_isNear, s_isPl, bI_0, eq_true a, eq_false c, not_true_eq_false, not_false_eq_true, false_implies, true_implies, and_true, true_and, and_false, false_and, if_true, if_false, forall_const, or_true, true_or, false_or, or_false, i10, Bool.false_eq_true]
    exact this
  have hQ := hQ a c
  cases b with
  | true =>
    simp only [g_81_0, g_81_1, g_81_2, g_81_5, g_81_8, g_81_10, g_81_11, g_81_12, g_81_15, g_81_18, g_81_29, g_81_30, g_81_31, g_81_32, g_81_33, g_81_36, g_81_37, g_81_40, g_81_41, g_81_43, g_81_46, qOb_some, kr_v, kr_n, qinv_i, qinv_r, qinv_0, Nat.reduceAdd, List.getElem?_cons_zero, List.getElem?_cons_succ, List.set_cons_zero, List.set_cons_succ, List.length_cons, List.length_nil, s_isNear, s_isPl, bI_0, eq_true a, eq_true c, not_true_eq_false, not_false_eq_true, false_implies, true_implies, and_true, true_and, and_false, false_and, if_true, if_false, forall_const, or_true, true_or, false_or, or_false, i10, Bool.false_eq_true, i1.cls, s_edge i1, bI] at hQ ⊢
    exact hQ
  | false =>
    simp only [g_81_0, g_81_1, g_81_2, g_81_5, g_81_8, g_81_10, g_81_11, g_81_12, g_81_15, g_81_18, g_81_29, g_81_30, g_81_31, g_81_32, g_81_33, g_81_36, g_81_37, g_81_40, g_81_41, g_81_43, g_81_46, qOb_some, kr_v, kr_n, qinv_i, qinv_r, qinv_0, Nat.reduceAdd, List.getElem?_cons_zero, List.getElem?_cons_succ, List.set_cons_zero, List.set_cons_succ, List.length_cons, List.length_nil, s_isNear, s_isPl, bI_0, eq_true a, eq_true c, not_true_eq_false, not_false_eq_true, false_implies, true_implies, and_true, true_and, and_false, false_and, if_true, if_false, forall_const, or_true, true_or, false_or, or_false, i10, Bool.false_eq_true, i1.cls, s_edge i1, bI] at hQ ⊢
    exact hQ
theorem c_tileAt {M : qM} {T : TS} {sd w h : Nat} {F : Nat → Option Nat} {B : Nat → Nat} {wo : Nat → Option Nat} {rd fd : Bool} {tl : Nat → Nat} {gs tk n : Nat} {cx cy : Nat → Int32} {ce : Nat → Nat} {ct : Nat → Nat → Nat} {c : Int32} {Q : qR → qM → Prop} (hI : InvC M T sd w h F B wo rd fd tl gs tk n cx cy ce ct) (hS : SOk T sd w h F B wo rd fd tl gs tk n cx cy ce ct) (hE1 : ¬ cellP w h c → Q (.inr 2) M) (hE2 : cellP w h c → fd = false → Q (.inr 1) M)
    (hQ : cellP w h c → fd = true → Q (.inl (some (.int (nI (tl (cn c)))))) M) : cl 74 [.ref 0, .int c] M Q := by
  have hN := hS.2.1.1.le
  have i1 := hI.1
  have i4 := hI.2.2.2.1
  rw [e_74]
  by_cases a : cellP w h c
  case neg =>
    have := hE1 a
    simp only [g_74_0, g_74_1, g_74_4, g_74_7, g_74_8, g_74_11, g_74_14, g_74_24, g_74_25, g_74_28, g_74_31, g_74_41, g_74_42, g_74_45, g_74_48, g_74_51, g_74_52, g_74_55, qOb_some, kr_v, kr_n, qinv_i, qinv_r, qinv_0, Nat.reduceAdd, List.getElem?_cons_zero, List.getElem?_cons_succ, List.set_cons_zero, List.set_cons_succ, List.length_cons, List.length_nil, hget i1, ho_2, qget_of i4.1, qcls_of i4.2.1, s_hasC i4.2.1, bI_0, eq_false a, not_true_eq_false, not_false_eq_true, false_implies, true_implies, and_true, true_and, and_false, false_and, if_true, if_false, forall_const, or_true, true_or, false_or, or_false, i10, Bool.false_eq_true]
    exact this
  cases hf : fd with
  | false =>
    have := hE2 a hf
    rw [hf] at i1
    simp only [g_74_0, g_74_1, g_74_4, g_74_7, g_74_8, g_74_11, g_74_14, g_74_24, g_74_25, g_74_28, g_74_31, g_74_41, g_74_42, g_74_45, g_74_48, g_74_51, g_74_52, g_74_55, qOb_some, kr_v, kr_n, qinv_i, qinv_r, qinv_0, Nat.reduceAdd, List.getElem?_cons_zero, List.getElem?_cons_succ, List.set_cons_zero, List.set_cons_succ, List.length_cons, List.length_nil, hget i1, ho_2, ho_11, qget_of i4.1, qcls_of i4.2.1, s_hasC i4.2.1, bI_0, eq_true a, not_true_eq_false, not_false_eq_true, false_implies, true_implies, and_true, true_and, and_false, false_and, if_true, if_false, forall_const, or_true, true_or, false_or, or_false, i10, Bool.false_eq_true]
    exact this
  | true =>
    have hQ := hQ a hf
    rw [hf] at i1
    obtain ⟨⟨n0, s0, hO⟩, -, -, -, hP⟩ := hI.2.2.2.2.2.2.1
    obtain ⟨p1, ⟨ft, p2, p3⟩, -⟩ := hP hf
    obtain ⟨c1, c2⟩ := cell_cn hS.2.1.1 a
    have eg : rget 36 ft (nI (cn c)) = nI (tl (cn c)) := (rget_nI (show cn c < 36 by omega) (by decide)).trans (p3 _ c2)
    rw [← c1] at eg
    simp only [g_74_0, g_74_1, g_74_4, g_74_7, g_74_8, g_74_11, g_74_14, g_74_24, g_74_25, g_74_28, g_74_31, g_74_41, g_74_42, g_74_45, g_74_48, g_74_51, g_74_52, g_74_55, qOb_some, kr_v, kr_n, qinv_i, qinv_r, qinv_0, Nat.reduceAdd, List.getElem?_cons_zero, List.getElem?_cons_succ, List.set_cons_zero, List.set_cons_succ, List.length_cons, List.length_nil, hget i1, ho_2, ho_11, ho_5, qget_of i4.1, qcls_of i4.2.1, s_hasC i4.2.1, bI_0, eq_true a, not_true_eq_false, not_false_eq_true, false_implies, true_implies, and_true, true_and, and_false, false_and, if_true, if_false, forall_const, or_true, true_or, false_or, or_false, i10, Bool.false_eq_true, hO.get, fo_4, qget_of p1, p2.cls, s_get p2 (show 36 < 2147483648 by decide), eg]
    exact hQ
