/-! the state of both sides, and the class's simple calls -/
noncomputable def chR (T : TS) (sd : Nat) (x y : Int32) : Nat × (Nat → Nat) × Nat × Nat := fres T 3 3 (fun _ => none) false 50 (chM T (nI sd) x y) (nI sd + 7919 * x + 104729 * y)
def ChOk (T : TS) (sd : Nat) (x y : Int32) (e : Nat) (t : Nat → Nat) : Prop := e = (chR T sd x y).1 ∧ (e = 100 → ∀ c, c < 9 → t c = tof (chR T sd x y).2.1 c)
def SOk (T : TS) (sd w h : Nat) (F : Nat → Option Nat) (B : Nat → Nat) (wo : Nat → Option Nat) (rd fd : Bool) (tl : Nat → Nat) (gs tk n : Nat) (cx cy : Nat → Int32) (ce : Nat → Nat) (ct : Nat → Nat → Nat) : Prop := TOk T ∧ WOk T w h F B ∧ sd < 100000 ∧ (∀ t m, wo t = some m → m < 1000) ∧ (fd = true → (∀ k, k < w * h → tl k < T.n) ∧ fitP T w h tl ∧ ¬ wrongP T (w * h) wo (pw tl) ∧ rdOk T w h rd tl) ∧ n ≤ 30 ∧ (∀ i j, i < n → j < n → cx i = cx j → cy i = cy j → i = j) ∧ (∀ k, k < n → ChOk T sd (cx k) (cy k) (ce k) (ct k))
/-- the class's filling of its world -/
def IFil (M : qM) (N : Nat) (fd : Bool) (tl : Nat → Nat) (gs tk : Nat) : Prop := (∃ n0 s0, FObj M 31 32 12 8 n0 s0 (nI gs) (nI tk)) ∧ NarIdle M 40 12 ∧ FRow M 32 0 0 (fun _ _ => 0) (fun _ => 0) (fun _ => 0) ∧ (∃ t0, PlaAt M 47 12 0 t0) ∧ (fd = true → PlaAt M 47 12 N tl)
theorem IFil.fr {lo hi N gs tk : Nat} {fd : Bool} {tl : Nat → Nat} {M M' : qM} (h : IFil M N fd tl gs tk) (hf : Fr lo hi M M') (ho : hi ≤ 31 ∨ 56 ≤ lo) : IFil M' N fd tl gs tk := by
  obtain ⟨⟨n0, s0, h1⟩, h2, h3, ⟨t0, h4⟩, h5⟩ := h
  exact ⟨⟨n0, s0, h1.fr hf (by omega)⟩, h2.fr hf (by omega), h3.fr hf (by omega), ⟨t0, h4.fr hf (by omega)⟩, fun q => (h5 q).fr hf (by omega)⟩
theorem IFil.un {N N' gs tk : Nat} {fd : Bool} {tl tl' : Nat → Nat} {M : qM} (h : IFil M N fd tl gs tk) : IFil M N' false tl' gs tk := ⟨h.1, h.2.1, h.2.2.1, h.2.2.2.1, fun q => by cases q⟩
/-- the class's filling of chunks -/
def ICh (M : qM) : Prop := GridAt M 65 3 3 ∧ (∃ n0 s0 g0 k0, FObj M 66 70 65 67 n0 s0 g0 k0) ∧ NarIdle M 78 65 ∧ FRow M 70 0 0 (fun _ _ => 0) (fun _ => 0) (fun _ => 0) ∧ (∃ t0, PlaAt M 85 65 0 t0) ∧ WishAt M 67 (fun _ => nbI none) false
theorem ICh.fr {lo hi : Nat} {M M' : qM} (h : ICh M) (hf : Fr lo hi M M') (ho : hi ≤ 65 ∨ 94 ≤ lo) : ICh M' := by
  obtain ⟨h0, ⟨n0, s0, g0, k0, h1⟩, h2, h3, ⟨t0, h4⟩, h5⟩ := h
  exact ⟨h0.fr hf (by omega), ⟨n0, s0, g0, k0, h1.fr hf (by omega)⟩, h2.fr hf (by omega), h3.fr hf (by omega), ⟨t0, h4.fr hf (by omega)⟩, h5.fr hf (by omega)⟩
def InvC (M : qM) (T : TS) (sd w h : Nat) (F : Nat → Option Nat) (B : Nat → Nat) (wo : Nat → Option Nat) (rd fd : Bool) (tl : Nat → Nat) (gs tk n : Nat) (cx cy : Nat → Int32) (ce : Nat → Nat) (ct : Nat → Nat → Nat) : Prop := HObj M (nI sd) (bI (fd = true)) ∧ TilesAt M T ∧ WishAt M 8 (fun t => nbI (wo t)) rd ∧ WorldAt M w h F B ∧ NarIdle M 17 12 ∧ NarIdle M 24 12 ∧ IFil M (w * h) fd tl gs tk ∧ (∃ t0, PlaAt M 56 12 0 t0) ∧ ICh M ∧ ChAt M n cx cy ce ct
theorem InvC.fr {lo hi : Nat} {M M' : qM} {T : TS} {sd w h : Nat} {F : Nat → Option Nat} {B : Nat → Nat} {wo : Nat → Option Nat} {rd fd : Bool} {tl : Nat → Nat} {gs tk n : Nat} {cx cy : Nat → Int32} {ce : Nat → Nat} {ct : Nat → Nat → Nat} (hI : InvC M T sd w h F B wo rd fd tl gs tk n cx cy ce ct) (hf : Fr lo hi M M') (ho : 101 ≤ lo) : InvC M' T sd w h F B wo rd fd tl gs tk n cx cy ce ct := by
  obtain ⟨h1, h2, h3, h4, h5, h6, h7, ⟨t0, h8⟩, h9, h10⟩ := hI
  exact ⟨h1.fr hf (by omega), h2.fr hf (by omega), h3.fr hf (by omega), h4.fr hf (by omega), h5.fr hf (by omega), h6.fr hf (by omega), h7.fr hf (by omega), ⟨t0, h8.fr hf (by omega)⟩, h9.fr hf (by omega), h10.fr hf (by omega)⟩
def KC (M M' : qM) : Prop := ∀ b, 101 ≤ b → M'[b]? = M[b]?
theorem Fr.kc {lo hi : Nat} {M M' : qM} (h : Fr lo hi M M') (h1 : hi ≤ 101) : KC M M' := fun b q => h b (by omega)
theorem KC.refl {M : qM} : KC M M := fun _ _ => rfl
theorem KC.trans {M M1 M2 : qM} (h : KC M M1) (h' : KC M1 M2) : KC M M2 := fun b q => (h' b q).trans (h b q)
/-- an int as a number -/
def cn (x : Int32) : Nat := x.toNatClampNeg
theorem cn_nI {k : Nat} (h : k < 2 ^ 31) : cn (nI k) = k := nI_clamp h
theorem cn_le {x : Int32} {m : Nat} (hm : m < 2 ^ 31) (h0 : 0 ≤ x) (h1 : x ≤ nI m) : x = nI (cn x) ∧ cn x ≤ m := by
  obtain ⟨j, hj, rfl⟩ := nI_of (Int32.not_lt.mpr h0)
  rw [cn_nI hj]
  exact ⟨rfl, (nI_leI hj hm).mp h1⟩
theorem cn_lt {x : Int32} {m : Nat} (hm : m < 2 ^ 31) (h0 : 0 ≤ x) (h1 : x < nI m) : x = nI (cn x) ∧ cn x < m := by
  obtain ⟨j, hj, rfl⟩ := nI_of (Int32.not_lt.mpr h0)
  rw [cn_nI hj]
  exact ⟨rfl, (nI_ltI hj hm).mp h1⟩
def colP (x : Int32) : Prop := 0 ≤ x ∧ x ≤ 3
def okT (u r d l wt : Int32) : Prop := colP u ∧ colP r ∧ colP d ∧ colP l ∧ (1 ≤ wt ∧ wt ≤ 9)
theorem col_cn {x : Int32} (h : colP x) : x = nI (cn x) ∧ cn x < 4 := by
  obtain ⟨h1, h2⟩ := cn_le (m := 3) (by decide) h.1 h.2
  exact ⟨h1, by omega⟩
theorem s_isColP {M : qM} {a : Int32} {Q : qR → qM → Prop} : cl 89 [.int a] M Q ↔ Q (.inl (some (.int (@bI (colP a) (inferInstanceAs (Decidable (0 ≤ a ∧ a ≤ 3))))))) M := s_isColour
theorem SOk.noCh {T : TS} {sd w h : Nat} {F : Nat → Option Nat} {B : Nat → Nat} {wo : Nat → Option Nat} {rd fd : Bool} {tl : Nat → Nat} {gs tk n : Nat} {cx cy : Nat → Int32} {ce : Nat → Nat} {ct : Nat → Nat → Nat} (hS : SOk T sd w h F B wo rd fd tl gs tk n cx cy ce ct) (T' : TS) (sd' : Nat) (hT : TOk T') (hn : T.n ≤ T'.n) (hsd : sd' < 100000) : SOk T' sd' w h F B wo rd false tl gs tk 0 cx cy ce ct := by
  obtain ⟨h1, h2, h3, h4, h5, h6, h7, h8⟩ := hS
  exact ⟨hT, ⟨h2.1, fun k hk => ⟨fun t ht => Nat.lt_of_lt_of_le ((h2.2 k hk).1 t ht) hn, (h2.2 k hk).2⟩⟩, hsd, h4, fun q => (by cases q), Nat.zero_le _, fun i j hi => absurd hi (Nat.not_lt_zero _), fun k hk => absurd hk (Nat.not_lt_zero _)⟩
theorem c_addTile {M : qM} {T : TS} {sd w h : Nat} {F : Nat → Option Nat} {B : Nat → Nat} {wo : Nat → Option Nat} {rd fd : Bool} {tl : Nat → Nat} {gs tk n : Nat} {cx cy : Nat → Int32} {ce : Nat → Nat} {ct : Nat → Nat → Nat} {u r d l wt : Int32} {Q : qR → qM → Prop} (hI : InvC M T sd w h F B wo rd fd tl gs tk n cx cy ce ct) (hS : SOk T sd w h F B wo rd fd tl gs tk n cx cy ce ct) (hE1 : ¬ okT u r d l wt → Q (.inr 0) M) (hE2 : okT u r d l wt → 8 ≤ T.n → Q (.inr 1) M)
    (hQ : okT u r d l wt → T.n < 8 → ∀ M', KC M M' → InvC M' (addT T (cn u) (cn r) (cn d) (cn l) (cn wt)) sd w h F B wo rd false tl gs tk 0 cx cy ce ct → Q (.inl (some (.int (nI T.n)))) M') : cl 61 [.ref 0, .int u, .int r, .int d, .int l, .int wt] M Q := by
  have h8 := hS.1.1
  rw [e_61]
  by_cases a1 : colP u
  case neg =>
    have := hE1 (fun q => a1 q.1)
    simp only [g_61_0, g_61_1, g_61_4, g_61_7, g_61_8, g_61_11, g_61_14, g_61_15, g_61_18, g_61_21, g_61_23, g_61_26, g_61_29, g_61_31, g_61_32, g_61_34, g_61_37, g_61_40, g_61_50, g_61_51, g_61_54, g_61_57, g_61_59, g_61_62, g_61_72, g_61_73, g_61_76, g_61_79, g_61_80, g_61_81, g_61_84, g_61_85, g_61_88, g_61_89, g_61_90, g_61_91, g_61_93, g_61_95, g_61_98, qOb_some, kr_v, kr_n, qinv_i, qinv_r, qinv_0, Nat.reduceAdd, List.getElem?_cons_zero, List.getElem?_cons_succ, List.set_cons_zero, List.set_cons_succ, List.length_cons, List.length_nil, s_isColP, bI_0, eq_false a1, not_true_eq_false, not_false_eq_true, false_implies, true_implies, and_true, true_and, and_false, false_and, if_true, if_false, forall_const, or_true, true_or, false_or, or_false, i10, Bool.false_eq_true]
    exact this
  by_cases a2 : colP r
  case neg =>
    have := hE1 (fun q => a2 q.2.1)
    simp only [g_61_0, g_61_1, g_61_4, g_61_7, g_61_8, g_61_11, g_61_14, g_61_15, g_61_18, g_61_21, g_61_23, g_61_26, g_61_29, g_61_31, g_61_32, g_61_34, g_61_37, g_61_40, g_61_50, g_61_51, g_61_54, g_61_57, g_61_59, g_61_62, g_61_72, g_61_73, g_61_76, g_61_79, g_61_80, g_61_81, g_61_84, g_61_85, g_61_88, g_61_89, g_61_90, g_61_91, g_61_93, g_61_95, g_61_98, qOb_some, kr_v, kr_n, qinv_i, qinv_r, qinv_0, Nat.reduceAdd, List.getElem?_cons_zero, List.getElem?_cons_succ, List.set_cons_zero, List.set_cons_succ, List.length_cons, List.length_nil, s_isColP, bI_0, eq_true a1, eq_false a2, not_true_eq_false, not_false_eq_true, false_implies, true_implies, and_true, true_and, and_false, false_and, if_true, if_false, forall_const, or_true, true_or, false_or, or_false, i10, Bool.false_eq_true]
    exact this
  by_cases a3 : colP d
  case neg =>
    have := hE1 (fun q => a3 q.2.2.1)
    simp only [g_61_0, g_61_1, g_61_4, g_61_7, g_61_8, g_61_11, g_61_14, g_61_15, g_61_18, g_61_21, g_61_23, g_61_26, g_61_29, g_61_31, g_61_32, g_61_34, g_61_37, g_61_40, g_61_50, g_61_51, g_61_54, g_61_57, g_61_59, g_61_62, g_61_72, g_61_73, g_61_76, g_61_79, g_61_80, g_61_81, g_61_84, g_61_85, g_61_88, g_61_89, g_61_90, g_61_91, g_61_93, g_61_95, g_61_98, qOb_some, kr_v, kr_n, qinv_i, qinv_r, qinv_0, Nat.reduceAdd, List.getElem?_cons_zero, List.getElem?_cons_succ, List.set_cons_zero, List.set_cons_succ, List.length_cons, List.length_nil, s_isColP, bI_0, eq_true a1, eq_true a2, eq_false a3, not_true_eq_false, not_false_eq_true, false_implies, true_implies, and_true, true_and, and_false, false_and, if_true, if_false, forall_const, or_true, true_or, false_or, or_false, i10, Bool.false_eq_true]
    exact this
  by_cases a4 : colP l
  case neg =>
    have := hE1 (fun q => a4 q.2.2.2.1)
    simp only [g_61_0, g_61_1, g_61_4, g_61_7, g_61_8, g_61_11, g_61_14, g_61_15, g_61_18, g_61_21, g_61_23, g_61_26, g_61_29, g_61_31, g_61_32, g_61_34, g_61_37, g_61_40, g_61_50, g_61_51, g_61_54, g_61_57, g_61_59, g_61_62, g_61_72, g_61_73, g_61_76, g_61_79, g_61_80, g_61_81, g_61_84, g_61_85, g_61_88, g_61_89, g_61_90, g_61_91, g_61_93, g_61_95, g_61_98, qOb_some, kr_v, kr_n, qinv_i, qinv_r, qinv_0, Nat.reduceAdd, List.getElem?_cons_zero, List.getElem?_cons_succ, List.set_cons_zero, List.set_cons_succ, List.length_cons, List.length_nil, s_isColP, bI_0, eq_true a1, eq_true a2, eq_true a3, eq_false a4, not_true_eq_false, not_false_eq_true, false_implies, true_implies, and_true, true_and, and_false, false_and, if_true, if_false, forall_const, or_true, true_or, false_or, or_false, i10, Bool.false_eq_true]
    exact this
  by_cases a5 : 1 ≤ wt ∧ wt ≤ 9
  case neg =>
    have := hE1 (fun q => a5 q.2.2.2.2)
    simp only [g_61_0, g_61_1, g_61_4, g_61_7, g_61_8, g_61_11, g_61_14, g_61_15, g_61_18, g_61_21, g_61_23, g_61_26, g_61_29, g_61_31, g_61_32, g_61_34, g_61_37, g_61_40, g_61_50, g_61_51, g_61_54, g_61_57, g_61_59, g_61_62, g_61_72, g_61_73, g_61_76, g_61_79, g_61_80, g_61_81, g_61_84, g_61_85, g_61_88, g_61_89, g_61_90, g_61_91, g_61_93, g_61_95, g_61_98, qOb_some, kr_v, kr_n, qinv_i, qinv_r, qinv_0, Nat.reduceAdd, List.getElem?_cons_zero, List.getElem?_cons_succ, List.set_cons_zero, List.set_cons_succ, List.length_cons, List.length_nil, s_isColP, s_isFromTo, bI_0, eq_true a1, eq_true a2, eq_true a3, eq_true a4, eq_false a5, not_true_eq_false, not_false_eq_true, false_implies, true_implies, and_true, true_and, and_false, false_and, if_true, if_false, forall_const, or_true, true_or, false_or, or_false, i10, Bool.false_eq_true]
    exact this
  have hok : okT u r d l wt := ⟨a1, a2, a3, a4, a5⟩
  obtain ⟨i1, i2, i3, i4, i5, i6, i7, ⟨t0, i8⟩, i9, i10⟩ := hI
  simp only [g_61_0, g_61_1, g_61_4, g_61_7, g_61_8, g_61_11, g_61_14, g_61_15, g_61_18, g_61_21, g_61_23, g_61_26, g_61_29, g_61_31, g_61_32, g_61_34, g_61_37, g_61_40, g_61_50, g_61_51, g_61_54, g_61_57, g_61_59, g_61_62, g_61_72, g_61_73, g_61_76, g_61_79, g_61_80, g_61_81, g_61_84, g_61_85, g_61_88, g_61_89, g_61_90, g_61_91, g_61_93, g_61_95, g_61_98, qOb_some, kr_v, kr_n, qinv_i, qinv_r, qinv_0, Nat.reduceAdd, List.getElem?_cons_zero, List.getElem?_cons_succ, List.set_cons_zero, List.set_cons_succ, List.length_cons, List.length_nil, s_isColP, s_isFromTo, bI_0, eq_true a1, eq_true a2, eq_true a3, eq_true a4, eq_true a5, not_true_eq_false, not_false_eq_true, false_implies, true_implies, and_true, true_and, and_false, false_and, if_true, if_false, forall_const, or_true, true_or, false_or, or_false, i10, Bool.false_eq_true, hget i1, ho_0, qget_of i2.1, show (8 : Int32) = nI 8 from rfl, nI_ltI (show T.n < 2 ^ 31 by omega) (show 8 < 2 ^ 31 by decide)]
  by_cases hn : T.n < 8
  · obtain ⟨u1, u2⟩ := col_cn a1
    obtain ⟨r1, r2⟩ := col_cn a2
    obtain ⟨d1, d2⟩ := col_cn a3
    obtain ⟨l1, l2⟩ := col_cn a4
    obtain ⟨w1, w2⟩ := cn_le (m := 9) (by decide) (Int32.le_trans (by decide) a5.1) a5.2
    simp only [eq_true hn, g_61_0, g_61_1, g_61_4, g_61_7, g_61_8, g_61_11, g_61_14, g_61_15, g_61_18, g_61_21, g_61_23, g_61_26, g_61_29, g_61_31, g_61_32, g_61_34, g_61_37, g_61_40, g_61_50, g_61_51, g_61_54, g_61_57, g_61_59, g_61_62, g_61_72, g_61_73, g_61_76, g_61_79, g_61_80, g_61_81, g_61_84, g_61_85, g_61_88, g_61_89, g_61_90, g_61_91, g_61_93, g_61_95, g_61_98, qOb_some, kr_v, kr_n, qinv_i, qinv_r, qinv_0, Nat.reduceAdd, List.getElem?_cons_zero, List.getElem?_cons_succ, List.set_cons_zero, List.set_cons_succ, List.length_cons, List.length_nil, not_true_eq_false, not_false_eq_true, false_implies, true_implies, and_true, true_and, and_false, false_and, if_true, if_false, forall_const, or_true, true_or, false_or, or_false, i10, Bool.false_eq_true, hget i1, ho_9, qcls_of i10.1]
    refine s_clear i10 (fun M1 b1 b2 => ?_)
    obtain ⟨M2, e2, f2, hH2⟩ := hput (sd' := nI sd) (fd' := 0) 11 0 (i1.fr b1 (by omega)) (by decide) rfl rfl
    simp only [g_61_0, g_61_1, g_61_4, g_61_7, g_61_8, g_61_11, g_61_14, g_61_15, g_61_18, g_61_21, g_61_23, g_61_26, g_61_29, g_61_31, g_61_32, g_61_34, g_61_37, g_61_40, g_61_50, g_61_51, g_61_54, g_61_57, g_61_59, g_61_62, g_61_72, g_61_73, g_61_76, g_61_79, g_61_80, g_61_81, g_61_84, g_61_85, g_61_88, g_61_89, g_61_90, g_61_91, g_61_93, g_61_95, g_61_98, qOb_some, kr_v, kr_n, qinv_i, qinv_r, qinv_0, Nat.reduceAdd, List.getElem?_cons_zero, List.getElem?_cons_succ, List.set_cons_zero, List.set_cons_succ, List.length_cons, List.length_nil, not_true_eq_false, not_false_eq_true, false_implies, true_implies, and_true, true_and, and_false, false_and, if_true, if_false, forall_const, or_true, true_or, false_or, or_false, i10, Bool.false_eq_true, e2, hget hH2, ho_0]
    have i2' : TilesAt M2 T := by
      obtain ⟨j1, ⟨f, ⟨j2, j2'⟩, j3⟩, ⟨f', ⟨j4, j4'⟩, j5⟩, ⟨f'', ⟨j6, j6'⟩, j7⟩⟩ := i2
      have un : ∀ b, 1 ≤ b → b < 94 → M2[b]? = M[b]? := fun b q1 q2 => (f2 b (by omega)).trans (b1 b (by omega))
      exact ⟨(un _ (by omega) (by omega)).trans j1, ⟨f, ⟨(un _ (by omega) (by omega)).trans j2, (un _ (by omega) (by omega)).trans j2'⟩, j3⟩, ⟨f', ⟨(un _ (by omega) (by omega)).trans j4, (un _ (by omega) (by omega)).trans j4'⟩, j5⟩, ⟨f'', ⟨(un _ (by omega) (by omega)).trans j6, (un _ (by omega) (by omega)).trans j6'⟩, j7⟩⟩
    rw [u1, r1, d1, l1, w1]
    simp only [qcls_of i2'.1, not_true_eq_false, not_false_eq_true, false_implies, true_implies, and_true, true_and, and_false, false_and, if_true, if_false, forall_const, or_true, true_or, false_or, or_false, i10, Bool.false_eq_true]
    refine s_add i2' hS.1 hn u2 r2 d2 l2 (fun M3 c1 c2 => ?_)
    simp only [g_61_0, g_61_1, g_61_4, g_61_7, g_61_8, g_61_11, g_61_14, g_61_15, g_61_18, g_61_21, g_61_23, g_61_26, g_61_29, g_61_31, g_61_32, g_61_34, g_61_37, g_61_40, g_61_50, g_61_51, g_61_54, g_61_57, g_61_59, g_61_62, g_61_72, g_61_73, g_61_76, g_61_79, g_61_80, g_61_81, g_61_84, g_61_85, g_61_88, g_61_89, g_61_90, g_61_91, g_61_93, g_61_95, g_61_98, qOb_some, kr_v, kr_n, qinv_i, qinv_r, qinv_0, Nat.reduceAdd, List.getElem?_cons_zero, List.getElem?_cons_succ, List.set_cons_zero, List.set_cons_succ, List.length_cons, List.length_nil, not_true_eq_false, not_false_eq_true, false_implies, true_implies, and_true, true_and, and_false, false_and, if_true, if_false, forall_const, or_true, true_or, false_or, or_false, i10, Bool.false_eq_true]
    have un : ∀ b, 8 ≤ b → b ≠ 94 → M3[b]? = M[b]? := fun b q1 q2 => (c1 b (by omega)).trans ((f2 b (by omega)).trans (b1 b (by omega)))
    have fr1 : Fr 0 8 M1 M3 := fun b q => (c1 b (by omega)).trans (f2 b (by omega))
    have fr0 : Fr 94 95 M M1 := b1
    refine hQ hok hn M3 (fun b q => un b (by omega) (by omega)) ⟨hH2.fr c1 (by omega), c2, (i3.fr b1 (by omega)).fr fr1 (by omega), (i4.fr b1 (by omega)).fr fr1 (by omega), (i5.fr b1 (by omega)).fr fr1 (by omega), (i6.fr b1 (by omega)).fr fr1 (by omega), ((i7.fr b1 (by omega)).fr fr1 (by omega)).un, ⟨t0, (i8.fr b1 (by omega)).fr fr1 (by omega)⟩, (i9.fr b1 (by omega)).fr fr1 (by omega), b2.fr fr1 (by omega)⟩
  · simp only [eq_false hn, not_true_eq_false, not_false_eq_true, false_implies, true_implies, and_true, true_and, and_false, false_and, if_true, if_false, forall_const, or_true, true_or, false_or, or_false, i10, Bool.false_eq_true]
    exact hE2 hok (by omega)
