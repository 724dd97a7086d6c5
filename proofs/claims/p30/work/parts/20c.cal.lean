/-! the class's calls that set -/
theorem TilesAt.f0 {T : TS} {M M' : qM} (h : TilesAt M T) (hf : Fr 0 1 M M') : TilesAt M' T := by
  obtain ⟨h1, ⟨f, h2, h3⟩, ⟨f', h4, h5⟩, ⟨f'', h6, h7⟩⟩ := h
  exact ⟨(hf 1 (by omega)).trans h1, ⟨f, h2.fr hf (by omega), h3⟩, ⟨f', h4.fr hf (by omega), h5⟩, ⟨f'', h6.fr hf (by omega), h7⟩⟩
theorem InvC.h0 {M M' : qM} {T : TS} {sd w h : Nat} {F : Nat → Option Nat} {B : Nat → Nat} {wo : Nat → Option Nat} {rd fd : Bool} {tl : Nat → Nat} {gs tk n : Nat} {cx cy : Nat → Int32} {ce : Nat → Nat} {ct : Nat → Nat → Nat} {sd' : Nat} (hI : InvC M T sd w h F B wo rd fd tl gs tk n cx cy ce ct) (hf : Fr 0 1 M M') (hH : HObj M' (nI sd') 0) : InvC M' T sd' w h F B wo rd false tl gs tk n cx cy ce ct := by
  obtain ⟨h1, h2, h3, h4, h5, h6, h7, ⟨t0, h8⟩, h9, h10⟩ := hI
  exact ⟨hH, h2.f0 hf, h3.fr hf (by omega), h4.fr hf (by omega), h5.fr hf (by omega), h6.fr hf (by omega), (h7.fr hf (by omega)).un, ⟨t0, h8.fr hf (by omega)⟩, h9.fr hf (by omega), h10.fr hf (by omega)⟩
theorem InvC.wor {lo hi : Nat} {M M' : qM} {T : TS} {sd w h : Nat} {F : Nat → Option Nat} {B : Nat → Nat} {wo : Nat → Option Nat} {rd fd : Bool} {tl : Nat → Nat} {gs tk n : Nat} {cx cy : Nat → Int32} {ce : Nat → Nat} {ct : Nat → Nat → Nat} {w' h' : Nat} {F' : Nat → Option Nat} {B' : Nat → Nat} (hI : InvC M T sd w h F B wo rd false tl gs tk n cx cy ce ct) (hf : Fr lo hi M M') (h1 : 11 ≤ lo) (h2 : hi ≤ 17) (hW : WorldAt M' w' h' F' B') : InvC M' T sd w' h' F' B' wo rd false tl gs tk n cx cy ce ct := by
  obtain ⟨i1, i2, i3, i4, i5, i6, i7, ⟨t0, i8⟩, i9, i10⟩ := hI
  exact ⟨i1.fr hf (by omega), i2.fr hf (by omega), i3.fr hf (by omega), hW, i5.fr hf (by omega), i6.fr hf (by omega), (i7.fr hf (by omega)).un, ⟨t0, i8.fr hf (by omega)⟩, i9.fr hf (by omega), i10.fr hf (by omega)⟩
theorem InvC.chu {M M' : qM} {T : TS} {sd w h : Nat} {F : Nat → Option Nat} {B : Nat → Nat} {wo : Nat → Option Nat} {rd fd : Bool} {tl : Nat → Nat} {gs tk n : Nat} {cx cy : Nat → Int32} {ce : Nat → Nat} {ct : Nat → Nat → Nat} {n' : Nat} {cx' cy' : Nat → Int32} {ce' : Nat → Nat} {ct' : Nat → Nat → Nat} (hI : InvC M T sd w h F B wo rd fd tl gs tk n cx cy ce ct) (hf : Fr 94 101 M M') (hC : ChAt M' n' cx' cy' ce' ct') : InvC M' T sd w h F B wo rd fd tl gs tk n' cx' cy' ce' ct' := by
  obtain ⟨i1, i2, i3, i4, i5, i6, i7, ⟨t0, i8⟩, i9, i10⟩ := hI
  exact ⟨i1.fr hf (by omega), i2.fr hf (by omega), i3.fr hf (by omega), i4.fr hf (by omega), i5.fr hf (by omega), i6.fr hf (by omega), i7.fr hf (by omega), ⟨t0, i8.fr hf (by omega)⟩, i9.fr hf (by omega), hC⟩
theorem c_setSeed {M : qM} {T : TS} {sd w h : Nat} {F : Nat → Option Nat} {B : Nat → Nat} {wo : Nat → Option Nat} {rd fd : Bool} {tl : Nat → Nat} {gs tk n : Nat} {cx cy : Nat → Int32} {ce : Nat → Nat} {ct : Nat → Nat → Nat} {x : Int32} {Q : qR → qM → Prop} (hI : InvC M T sd w h F B wo rd fd tl gs tk n cx cy ce ct) (hE : ¬ (0 ≤ x ∧ x ≤ 99999) → Q (.inr 0) M)
    (hQ : (0 ≤ x ∧ x ≤ 99999) → ∀ M', KC M M' → InvC M' T (cn x) w h F B wo rd false tl gs tk 0 cx cy ce ct → Q (.inl (some (.int (nI sd)))) M') : cl 62 [.ref 0, .int x] M Q := by
  rw [e_62]
  by_cases a : 0 ≤ x ∧ x ≤ 99999
  · have i1 := hI.1
    obtain ⟨M1, e1, f1, hH1⟩ := hput (sd' := x) (fd' := bI (fd = true)) 10 x i1 (by decide) rfl rfl
    have hC1 : ChAt M1 n cx cy ce ct := hI.2.2.2.2.2.2.2.2.2.fr f1 (by omega)
    simp only [g_62_0, g_62_1, g_62_2, g_62_4, g_62_7, g_62_10, g_62_20, g_62_21, g_62_24, g_62_25, g_62_26, g_62_27, g_62_30, g_62_31, g_62_34, g_62_37, g_62_38, g_62_39, g_62_42, g_62_43, qOb_some, kr_v, kr_n, qinv_i, qinv_r, qinv_0, Nat.reduceAdd, List.getElem?_cons_zero, List.getElem?_cons_succ, List.set_cons_zero, List.set_cons_succ, List.length_cons, List.length_nil, s_isFromTo, bI_0, eq_true a, not_true_eq_false, not_false_eq_true, false_implies, true_implies, and_true, true_and, and_false, false_and, if_true, if_false, forall_const, or_true, true_or, false_or, or_false, i10, Bool.false_eq_true, hget i1, ho_10, e1, hget hH1, ho_9, qcls_of hC1.1]
    refine s_clear hC1 (fun M2 b1 b2 => ?_)
    obtain ⟨M3, e3, f3, hH3⟩ := hput (sd' := x) (fd' := 0) 11 0 (hH1.fr b1 (by omega)) (by decide) rfl rfl
    simp only [g_62_0, g_62_1, g_62_2, g_62_4, g_62_7, g_62_10, g_62_20, g_62_21, g_62_24, g_62_25, g_62_26, g_62_27, g_62_30, g_62_31, g_62_34, g_62_37, g_62_38, g_62_39, g_62_42, g_62_43, qOb_some, kr_v, kr_n, qinv_i, qinv_r, qinv_0, Nat.reduceAdd, List.getElem?_cons_zero, List.getElem?_cons_succ, List.set_cons_zero, List.set_cons_succ, List.length_cons, List.length_nil, not_true_eq_false, not_false_eq_true, false_implies, true_implies, and_true, true_and, and_false, false_and, if_true, if_false, forall_const, or_true, true_or, false_or, or_false, i10, Bool.false_eq_true, e3]
    have hx := (cn_le (m := 99999) (by decide) a.1 a.2).1
    rw [hx] at hH3
    refine hQ a M3 (fun b q => (f3 b (by omega)).trans ((b1 b (by omega)).trans (f1 b (by omega)))) ?_
    have hC3 := b2.fr f3 (by omega)
    obtain ⟨j1, j2, j3, j4, j5, j6, j7, ⟨t0, j8⟩, j9, j10⟩ := hI
    exact ⟨hH3, ((j2.f0 f1).fr b1 (by omega)).f0 f3, ((j3.fr f1 (by omega)).fr b1 (by omega)).fr f3 (by omega), ((j4.fr f1 (by omega)).fr b1 (by omega)).fr f3 (by omega), ((j5.fr f1 (by omega)).fr b1 (by omega)).fr f3 (by omega), ((j6.fr f1 (by omega)).fr b1 (by omega)).fr f3 (by omega), (((j7.fr f1 (by omega)).fr b1 (by omega)).fr f3 (by omega)).un, ⟨t0, ((j8.fr f1 (by omega)).fr b1 (by omega)).fr f3 (by omega)⟩, ((j9.fr f1 (by omega)).fr b1 (by omega)).fr f3 (by omega), hC3⟩
  · have := hE a
    simp only [g_62_0, g_62_1, g_62_2, g_62_4, g_62_7, g_62_10, g_62_20, g_62_21, g_62_24, g_62_25, g_62_26, g_62_27, g_62_30, g_62_31, g_62_34, g_62_37, g_62_38, g_62_39, g_62_42, g_62_43, qOb_some, kr_v, kr_n, qinv_i, qinv_r, qinv_0, Nat.reduceAdd, List.getElem?_cons_zero, List.getElem?_cons_succ, List.set_cons_zero, List.set_cons_succ, List.length_cons, List.length_nil, s_isFromTo, bI_0, eq_false a, not_true_eq_false, not_false_eq_true, false_implies, true_implies, and_true, true_and, and_false, false_and, if_true, if_false, forall_const, or_true, true_or, false_or, or_false, i10, Bool.false_eq_true]
    exact this
def sideP (x : Int32) : Prop := 1 ≤ x ∧ x ≤ 6
theorem side_cn {x : Int32} (h : sideP x) : x = nI (cn x) ∧ 0 < cn x ∧ cn x ≤ 6 := by
  obtain ⟨h1, h2⟩ := cn_le (m := 6) (by decide) (Int32.le_trans (by decide) h.1) h.2
  refine ⟨h1, ?_, h2⟩
  have := h.1
  rw [h1] at this
  exact (nI_leI (a := 1) (by decide) (by omega)).mp this
theorem s_isSide {M : qM} {a : Int32} {Q : qR → qM → Prop} : cl 88 [.int a, .int 1, .int 6] M Q ↔ Q (.inl (some (.int (@bI (sideP a) (inferInstanceAs (Decidable (1 ≤ a ∧ a ≤ 6))))))) M := s_isFromTo
theorem c_setSize {M : qM} {T : TS} {sd w h : Nat} {F : Nat → Option Nat} {B : Nat → Nat} {wo : Nat → Option Nat} {rd fd : Bool} {tl : Nat → Nat} {gs tk n : Nat} {cx cy : Nat → Int32} {ce : Nat → Nat} {ct : Nat → Nat → Nat} {x y : Int32} {Q : qR → qM → Prop} (hI : InvC M T sd w h F B wo rd fd tl gs tk n cx cy ce ct) (hE : ¬ (sideP x ∧ sideP y) → Q (.inr 0) M)
    (hQ : sideP x → sideP y → ∀ M', KC M M' → InvC M' T sd (cn x) (cn y) (fun _ => none) (fun _ => 0) wo rd false tl gs tk n cx cy ce ct → Q (.inl (some (.int (nI (cn x * cn y))))) M') : cl 63 [.ref 0, .int x, .int y] M Q := by
  rw [e_63]
  by_cases a : sideP x
  case neg =>
    have := hE (fun q => a q.1)
    simp only [g_63_0, g_63_1, g_63_2, g_63_4, g_63_7, g_63_10, g_63_11, g_63_12, g_63_14, g_63_17, g_63_20, g_63_30, g_63_31, g_63_34, g_63_35, g_63_36, g_63_39, g_63_40, g_63_41, g_63_44, g_63_45, g_63_48, g_63_51, g_63_54, qOb_some, kr_v, kr_n, qinv_i, qinv_r, qinv_0, Nat.reduceAdd, List.getElem?_cons_zero, List.getElem?_cons_succ, List.set_cons_zero, List.set_cons_succ, List.length_cons, List.length_nil, s_isSide, bI_0, eq_false a, not_true_eq_false, not_false_eq_true, false_implies, true_implies, and_true, true_and, and_false, false_and, if_true, if_false, forall_const, or_true, true_or, false_or, or_false, i10, Bool.false_eq_true]
    exact this
  by_cases b : sideP y
  case neg =>
    have := hE (fun q => b q.2)
    simp only [g_63_0, g_63_1, g_63_2, g_63_4, g_63_7, g_63_10, g_63_11, g_63_12, g_63_14, g_63_17, g_63_20, g_63_30, g_63_31, g_63_34, g_63_35, g_63_36, g_63_39, g_63_40, g_63_41, g_63_44, g_63_45, g_63_48, g_63_51, g_63_54, qOb_some, kr_v, kr_n, qinv_i, qinv_r, qinv_0, Nat.reduceAdd, List.getElem?_cons_zero, List.getElem?_cons_succ, List.set_cons_zero, List.set_cons_succ, List.length_cons, List.length_nil, s_isSide, bI_0, eq_true a, eq_false b, not_true_eq_false, not_false_eq_true, false_implies, true_implies, and_true, true_and, and_false, false_and, if_true, if_false, forall_const, or_true, true_or, false_or, or_false, i10, Bool.false_eq_true]
    exact this
  have hQ := hQ a b
  obtain ⟨x1, x2, x3⟩ := side_cn a
  obtain ⟨y1, y2, y3⟩ := side_cn b
  obtain ⟨j1, j2, j3, j4, j5, j6, j7, ⟨t0, j8⟩, j9, j10⟩ := hI
  simp only [g_63_0, g_63_1, g_63_2, g_63_4, g_63_7, g_63_10, g_63_11, g_63_12, g_63_14, g_63_17, g_63_20, g_63_30, g_63_31, g_63_34, g_63_35, g_63_36, g_63_39, g_63_40, g_63_41, g_63_44, g_63_45, g_63_48, g_63_51, g_63_54, qOb_some, kr_v, kr_n, qinv_i, qinv_r, qinv_0, Nat.reduceAdd, List.getElem?_cons_zero, List.getElem?_cons_succ, List.set_cons_zero, List.set_cons_succ, List.length_cons, List.length_nil, s_isSide, bI_0, eq_true a, eq_true b, not_true_eq_false, not_false_eq_true, false_implies, true_implies, and_true, true_and, and_false, false_and, if_true, if_false, forall_const, or_true, true_or, false_or, or_false, i10, Bool.false_eq_true, hget j1, ho_2, qcls_of j4.1]
  have st : cl 54 [.ref 11, .int (nI (cn x)), .int (nI (cn y))] M (kr 63 36 [some (.ref 0), some (.int x), some (.int y)] [] 0 0 Q) := by
    refine s_renew j4 ⟨x2, x3, y2, y3⟩ (fun M1 b1 b2 => ?_)
    obtain ⟨M2, e2, f2, hH2⟩ := hput (sd' := nI sd) (fd' := 0) 11 0 (j1.fr b1 (by omega)) (by decide) rfl rfl
    have b22 := b2.fr f2 (by omega)
    simp only [g_63_0, g_63_1, g_63_2, g_63_4, g_63_7, g_63_10, g_63_11, g_63_12, g_63_14, g_63_17, g_63_20, g_63_30, g_63_31, g_63_34, g_63_35, g_63_36, g_63_39, g_63_40, g_63_41, g_63_44, g_63_45, g_63_48, g_63_51, g_63_54, qOb_some, kr_v, kr_n, qinv_i, qinv_r, qinv_0, Nat.reduceAdd, List.getElem?_cons_zero, List.getElem?_cons_succ, List.set_cons_zero, List.set_cons_succ, List.length_cons, List.length_nil, not_true_eq_false, not_false_eq_true, false_implies, true_implies, and_true, true_and, and_false, false_and, if_true, if_false, forall_const, or_true, true_or, false_or, or_false, i10, Bool.false_eq_true, e2, hget hH2, ho_2, qget_of b22.1, qcls_of b22.2.1, s_cells b22.2.1]
    exact hQ M2 (fun b q => (f2 b (by omega)).trans (b1 b (by omega))) ⟨hH2, (j2.fr b1 (by omega)).f0 f2, (j3.fr b1 (by omega)).fr f2 (by omega), b22, (j5.fr b1 (by omega)).fr f2 (by omega), (j6.fr b1 (by omega)).fr f2 (by omega), ((j7.fr b1 (by omega)).fr f2 (by omega)).un, ⟨t0, (j8.fr b1 (by omega)).fr f2 (by omega)⟩, (j9.fr b1 (by omega)).fr f2 (by omega), (j10.fr b1 (by omega)).fr f2 (by omega)⟩
  rw [← x1, ← y1] at st
  exact st
def cellP (w h : Nat) (c : Int32) : Prop := 0 ≤ c ∧ c < nI (w * h)
def tileP (T : TS) (t : Int32) : Prop := 0 ≤ t ∧ t < nI T.n
theorem s_hasC {M : qM} {o w h : Nat} {i : Int32} {Q : qR → qM → Prop} (hg : GridAt M o w h) : cl 17 [.ref o, .int i] M Q ↔ Q (.inl (some (.int (@bI (cellP w h i) (inferInstanceAs (Decidable (0 ≤ i ∧ i < nI (w * h)))))))) M := s_has hg
theorem s_hasTP {M : qM} {T : TS} {i : Int32} {Q : qR → qM → Prop} (hT : TilesAt M T) : cl 42 [.ref 1, .int i] M Q ↔ Q (.inl (some (.int (@bI (tileP T i) (inferInstanceAs (Decidable (0 ≤ i ∧ i < nI T.n))))))) M := s_hasT hT
theorem cell_cn {w h : Nat} {c : Int32} (hD : Dim w h) (hc : cellP w h c) : c = nI (cn c) ∧ cn c < w * h := cn_lt (by have := hD.le; omega) hc.1 hc.2
theorem tile_cn {T : TS} {t : Int32} (hk : TOk T) (ht : tileP T t) : t = nI (cn t) ∧ cn t < T.n := cn_lt (by have := hk.1; omega) ht.1 ht.2