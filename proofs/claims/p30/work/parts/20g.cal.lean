/-! the class's calls on chunks, and its figures -/
theorem chM_pn {T : TS} {sd x y : Int32} : PN T (3 * 3) (chM T sd x y) := fun _ _ => chM_lt
theorem d33 : Dim 3 3 := ⟨by decide, by decide, by decide, by decide⟩
theorem chR_end {T : TS} {sd : Nat} {x y : Int32} (hk : TOk T) : ((chR T sd x y).1 = 100 ∨ (chR T sd x y).1 = 108 ∨ (chR T sd x y).1 = 110) ∧ PN T (3 * 3) (chR T sd x y).2.1 ∧ ((chR T sd x y).1 = 100 → ¬ goneP T 3 3 (fun _ => none) false (chR T sd x y).2.1 ∧ few (chR T sd x y).2.1 (3 * 3) = none ∧ Stab T 3 3 (chR T sd x y).2.1) := fres_end hk d33 chM_pn
/-- the filling of a chunk -/
theorem s_chunkRun {M : qM} {T : TS} {sd : Nat} {x y : Int32} {wt : Nat} {p st : Nat → Nat} {fl : Nat → Bool} {n0 s0 g0 k0 : Int32} {t0 : Nat → Nat} {Q : qR → qM → Prop} (hT : TilesAt M T) (hk : TOk T) (hG : GridAt M 65 3 3) (hO : FObj M 66 70 65 67 n0 s0 g0 k0) (hR : FRow M 70 0 0 (fun _ _ => 0) (fun _ => 0) (fun _ => 0)) (hP : PlaAt M 85 65 0 t0) (hW : WishAt M 67 (fun _ => nbI none) false) (hA : NarAt M 78 65 (3 * 3) p fl st wt) (hS : StkOk (3 * 3) fl st wt) (hp : ∀ k, k < 3 * 3 → p k = chM T (nI sd) x y k ∧ fl k = true)
    (hQ : ∀ M', Fr 66 94 M M' → ICh M' → (∃ tl, PlaAt M' 85 65 (3 * 3) tl ∧ ((chR T sd x y).1 = 100 → tl = tof (chR T sd x y).2.1)) → Q (.inl (some (.int (nI (chR T sd x y).1)))) M') : cl 8 [.ref 66, .int (nI sd + 7919 * x + 104729 * y), .int 50] M Q := by
  have hA1 : NarAt M 78 65 (3 * 3) (chM T (nI sd) x y) fl st wt := hA.c (fun k hk2 => (hp k hk2).1)
  refine s_run (T := T) (o := 66) (a := 70) (G := 65) (Wo := 67) (lim := 50) (wo := fun _ => none) (road := false) (p := chM T (nI sd) x y) hT hk hG d33 (fun t m q => by cases q) (by decide) (by decide) (by decide) (by decide) (by decide) hO hA1 hS chM_pn (fun k hk2 => (hp k hk2).2) hR hP hW (fun M' b1 b2 => ?_)
  have fr : Fr 66 94 M M' := fun b q => b1 b (by omega) (by omega)
  obtain ⟨n1, sn, gc, gt, s1, ⟨h1, h2, h3, ⟨tl, h4⟩, h5⟩, h6⟩ := b2
  refine hQ M' fr ⟨hG.fr fr (by omega), ⟨_, _, _, _, h1⟩, h2.idle, h3.z, h4.any 0, h5⟩ ?_
  by_cases hr : (chR T sd x y).1 = 100
  · exact ⟨_, h6 hr, fun _ => rfl⟩
  · exact ⟨tl, h4, fun q => absurd q hr⟩
theorem s_state {M : qM} {sd fd x y : Int32} {Q : qR → qM → Prop} (hH : HObj M sd fd) : cl 95 [.ref 0, .int x, .int y] M Q ↔ Q (.inl (some (.int (sd + 7919 * x + 104729 * y)))) M := by
  rw [e_95]
  simp only [g_95_0, g_95_1, g_95_4, g_95_7, g_95_8, g_95_9, g_95_10, g_95_13, g_95_14, g_95_15, g_95_16, qOb_some, kr_v, kr_n, qinv_i, qinv_r, qinv_0, Nat.reduceAdd, List.getElem?_cons_zero, List.getElem?_cons_succ, List.set_cons_zero, List.set_cons_succ, List.length_cons, List.length_nil, hget hH, ho_10]
theorem InvC.ch {M M' : qM} {T : TS} {sd w h : Nat} {F : Nat → Option Nat} {B : Nat → Nat} {wo : Nat → Option Nat} {rd fd : Bool} {tl : Nat → Nat} {gs tk n : Nat} {cx cy : Nat → Int32} {ce : Nat → Nat} {ct : Nat → Nat → Nat} {n' : Nat} {cx' cy' : Nat → Int32} {ce' : Nat → Nat} {ct' : Nat → Nat → Nat} (hI : InvC M T sd w h F B wo rd fd tl gs tk n cx cy ce ct) (hf : Fr 66 101 M M') (hIc : ICh M') (hC : ChAt M' n' cx' cy' ce' ct') : InvC M' T sd w h F B wo rd fd tl gs tk n' cx' cy' ce' ct' := by
  obtain ⟨i1, i2, i3, i4, i5, i6, i7, ⟨t0, i8⟩, i9, i10⟩ := hI
  exact ⟨i1.fr hf (by omega), i2.fr hf (by omega), i3.fr hf (by omega), i4.fr hf (by omega), i5.fr hf (by omega), i6.fr hf (by omega), i7.fr hf (by omega), ⟨t0, i8.fr hf (by omega)⟩, hIc, hC⟩
theorem c_visit {M : qM} {T : TS} {sd w h : Nat} {F : Nat → Option Nat} {B : Nat → Nat} {wo : Nat → Option Nat} {rd fd : Bool} {tl : Nat → Nat} {gs tk n : Nat} {cx cy : Nat → Int32} {ce : Nat → Nat} {ct : Nat → Nat → Nat} {x y : Int32} {Q : qR → qM → Prop} (hI : InvC M T sd w h F B wo rd fd tl gs tk n cx cy ce ct) (hS : SOk T sd w h F B wo rd fd tl gs tk n cx cy ce ct) (hE1 : ¬ nearP x y → Q (.inr 0) M) (hE2 : nearP x y → (T.n = 0 ∨ (fnd cx cy x y n = none ∧ 30 ≤ n)) → Q (.inr 1) M)
    (hQ1 : nearP x y → T.n ≠ 0 → ∀ k, fnd cx cy x y n = some k → Q (.inl (some (.int (nI (ce k))))) M)
    (hQ2 : nearP x y → T.n ≠ 0 → fnd cx cy x y n = none → n < 30 → ∀ M', KC M M' → InvC M' T sd w h F B wo rd fd tl gs tk (n + 1) (upd cx n x) (upd cy n y) (fu ce n (chR T sd x y).1) (fut ct n (tof (chR T sd x y).2.1)) → Q (.inl (some (.int (nI (chR T sd x y).1)))) M') : cl 79 [.ref 0, .int x, .int y] M Q := by
  have hI0 := hI
  obtain ⟨i1, i2, i3, i4, i5, i6, i7, i8, ⟨j0, ⟨n0, s0, g0, k0, j1⟩, j2, j3, ⟨t0, j4⟩, j5⟩, i10⟩ := hI
  have h8 := hS.1.1
  have hn := hS.2.2.2.2.2.1
  rw [e_79]
  by_cases a : nearP x y
  case neg =>
    have := hE1 a
    simp only [g_79_0, g_79_1, g_79_2, g_79_5, g_79_8, g_79_18, g_79_19, g_79_22, g_79_23, g_79_24, g_79_27, g_79_28, g_79_29, g_79_32, g_79_35, g_79_38, g_79_39, g_79_40, g_79_43, g_79_44, g_79_47, g_79_50, g_79_52, g_79_55, g_79_65, g_79_66, g_79_67, g_79_70, g_79_71, g_79_74, g_79_75, g_79_78, g_79_79, g_79_80, g_79_81, g_79_82, g_79_85, g_79_86, g_79_89, g_79_90, g_79_91, g_79_92, g_79_95, g_79_97, g_79_100, g_79_102, g_79_103, g_79_106, g_79_107, g_79_108, g_79_110, g_79_111, g_79_114, g_79_117, g_79_120, g_79_122, qOb_some, kr_v, kr_n, qinv_i, qinv_r, qinv_0, Nat.reduceAdd, List.getElem?_cons_zero, List.getElem?_cons_succ, List.set_cons_zero, List.set_cons_succ, List.length_cons, List.length_nil, s_isNear, bI_0, eq_false a, not_true_eq_false, not_false_eq_true, false_implies, true_implies, and_true, true_and, and_false, false_and, if_true, if_false, forall_const, or_true, true_or, false_or, or_false, i10, Bool.false_eq_true]
    exact this
  by_cases b : T.n = 0
  case pos =>
    have := hE2 a (Or.inl b)
    have e0 : (nI T.n = 0) = True := eq_true (by rw [b]; rfl)
    simp only [g_79_0, g_79_1, g_79_2, g_79_5, g_79_8, g_79_18, g_79_19, g_79_22, g_79_23, g_79_24, g_79_27, g_79_28, g_79_29, g_79_32, g_79_35, g_79_38, g_79_39, g_79_40, g_79_43, g_79_44, g_79_47, g_79_50, g_79_52, g_79_55, g_79_65, g_79_66, g_79_67, g_79_70, g_79_71, g_79_74, g_79_75, g_79_78, g_79_79, g_79_80, g_79_81, g_79_82, g_79_85, g_79_86, g_79_89, g_79_90, g_79_91, g_79_92, g_79_95, g_79_97, g_79_100, g_79_102, g_79_103, g_79_106, g_79_107, g_79_108, g_79_110, g_79_111, g_79_114, g_79_117, g_79_120, g_79_122, qOb_some, kr_v, kr_n, qinv_i, qinv_r, qinv_0, Nat.reduceAdd, List.getElem?_cons_zero, List.getElem?_cons_succ, List.set_cons_zero, List.set_cons_succ, List.length_cons, List.length_nil, s_isNear, bI_0, eq_true a, not_true_eq_false, not_false_eq_true, false_implies, true_implies, and_true, true_and, and_false, false_and, if_true, if_false, forall_const, or_true, true_or, false_or, or_false, i10, Bool.false_eq_true, hget i1, ho_9, ho_0, qcls_of i10.1, s_find i10 hn, qget_of i2.1, e0]
    exact this
  have e0 : (nI T.n = 0) = False := eq_false (nI_ne0 (by omega) (by omega))
  cases hf : fnd cx cy x y n with
  | some k =>
    have hk := (fnd_some hf).1
    have := hQ1 a b k hf
    have he : ce k = 100 ∨ ce k = 108 ∨ ce k = 110 := by
      rw [(hS.2.2.2.2.2.2.2 k hk).1]
      exact (chR_end hS.1).1
    obtain ⟨-, z1, z2⟩ := c16 he
    simp only [g_79_0, g_79_1, g_79_2, g_79_5, g_79_8, g_79_18, g_79_19, g_79_22, g_79_23, g_79_24, g_79_27, g_79_28, g_79_29, g_79_32, g_79_35, g_79_38, g_79_39, g_79_40, g_79_43, g_79_44, g_79_47, g_79_50, g_79_52, g_79_55, g_79_65, g_79_66, g_79_67, g_79_70, g_79_71, g_79_74, g_79_75, g_79_78, g_79_79, g_79_80, g_79_81, g_79_82, g_79_85, g_79_86, g_79_89, g_79_90, g_79_91, g_79_92, g_79_95, g_79_97, g_79_100, g_79_102, g_79_103, g_79_106, g_79_107, g_79_108, g_79_110, g_79_111, g_79_114, g_79_117, g_79_120, g_79_122, qOb_some, kr_v, kr_n, qinv_i, qinv_r, qinv_0, Nat.reduceAdd, List.getElem?_cons_zero, List.getElem?_cons_succ, List.set_cons_zero, List.set_cons_succ, List.length_cons, List.length_nil, s_isNear, bI_0, eq_true a, not_true_eq_false, not_false_eq_true, false_implies, true_implies, and_true, true_and, and_false, false_and, if_true, if_false, forall_const, or_true, true_or, false_or, or_false, i10, Bool.false_eq_true, hget i1, ho_9, ho_0, qcls_of i10.1, s_find i10 hn, qget_of i2.1, e0, hf, nbI, m1_ne (show k < 1000 by omega), s_endOf i10 hn hk he, z1, z2]
    exact this
  | none =>
    have e1 : (nI n < 30) = (n < 30) := propext (nI_ltI (b := 30) (by omega) (by decide))
    by_cases c : n < 30
    case neg =>
      have := hE2 a (Or.inr ⟨hf, by omega⟩)
      simp only [g_79_0, g_79_1, g_79_2, g_79_5, g_79_8, g_79_18, g_79_19, g_79_22, g_79_23, g_79_24, g_79_27, g_79_28, g_79_29, g_79_32, g_79_35, g_79_38, g_79_39, g_79_40, g_79_43, g_79_44, g_79_47, g_79_50, g_79_52, g_79_55, g_79_65, g_79_66, g_79_67, g_79_70, g_79_71, g_79_74, g_79_75, g_79_78, g_79_79, g_79_80, g_79_81, g_79_82, g_79_85, g_79_86, g_79_89, g_79_90, g_79_91, g_79_92, g_79_95, g_79_97, g_79_100, g_79_102, g_79_103, g_79_106, g_79_107, g_79_108, g_79_110, g_79_111, g_79_114, g_79_117, g_79_120, g_79_122, qOb_some, kr_v, kr_n, qinv_i, qinv_r, qinv_0, Nat.reduceAdd, List.getElem?_cons_zero, List.getElem?_cons_succ, List.set_cons_zero, List.set_cons_succ, List.length_cons, List.length_nil, s_isNear, bI_0, eq_true a, not_true_eq_false, not_false_eq_true, false_implies, true_implies, and_true, true_and, and_false, false_and, if_true, if_false, forall_const, or_true, true_or, false_or, or_false, i10, Bool.false_eq_true, hget i1, ho_9, ho_0, qcls_of i10.1, s_find i10 hn, qget_of i2.1, e0, hf, nbI, qget_of i10.1, e1, eq_false c]
      exact this
    have hQ2 := hQ2 a b hf c
    simp only [g_79_0, g_79_1, g_79_2, g_79_5, g_79_8, g_79_18, g_79_19, g_79_22, g_79_23, g_79_24, g_79_27, g_79_28, g_79_29, g_79_32, g_79_35, g_79_38, g_79_39, g_79_40, g_79_43, g_79_44, g_79_47, g_79_50, g_79_52, g_79_55, g_79_65, g_79_66, g_79_67, g_79_70, g_79_71, g_79_74, g_79_75, g_79_78, g_79_79, g_79_80, g_79_81, g_79_82, g_79_85, g_79_86, g_79_89, g_79_90, g_79_91, g_79_92, g_79_95, g_79_97, g_79_100, g_79_102, g_79_103, g_79_106, g_79_107, g_79_108, g_79_110, g_79_111, g_79_114, g_79_117, g_79_120, g_79_122, qOb_some, kr_v, kr_n, qinv_i, qinv_r, qinv_0, Nat.reduceAdd, List.getElem?_cons_zero, List.getElem?_cons_succ, List.set_cons_zero, List.set_cons_succ, List.length_cons, List.length_nil, s_isNear, bI_0, eq_true a, not_true_eq_false, not_false_eq_true, false_implies, true_implies, and_true, true_and, and_false, false_and, if_true, if_false, forall_const, or_true, true_or, false_or, or_false, i10, Bool.false_eq_true, hget i1, ho_9, ho_0, qcls_of i10.1, s_find i10 hn, qget_of i2.1, e0, hf, nbI, qget_of i10.1, e1, eq_true c, i1.cls]
    refine s_putChunk i1 i2 hS.1 j0 j1 j2 (fun M1 p1 fl1 st1 wt1 a1 a2 a3 a4 => ?_)
    have i11 := i1.fr a1 (by omega)
    have j11 := j1.fr a1 (by omega)
    simp only [g_79_0, g_79_1, g_79_2, g_79_5, g_79_8, g_79_18, g_79_19, g_79_22, g_79_23, g_79_24, g_79_27, g_79_28, g_79_29, g_79_32, g_79_35, g_79_38, g_79_39, g_79_40, g_79_43, g_79_44, g_79_47, g_79_50, g_79_52, g_79_55, g_79_65, g_79_66, g_79_67, g_79_70, g_79_71, g_79_74, g_79_75, g_79_78, g_79_79, g_79_80, g_79_81, g_79_82, g_79_85, g_79_86, g_79_89, g_79_90, g_79_91, g_79_92, g_79_95, g_79_97, g_79_100, g_79_102, g_79_103, g_79_106, g_79_107, g_79_108, g_79_110, g_79_111, g_79_114, g_79_117, g_79_120, g_79_122, qOb_some, kr_v, kr_n, qinv_i, qinv_r, qinv_0, Nat.reduceAdd, List.getElem?_cons_zero, List.getElem?_cons_succ, List.set_cons_zero, List.set_cons_succ, List.length_cons, List.length_nil, not_true_eq_false, not_false_eq_true, false_implies, true_implies, and_true, true_and, and_false, false_and, if_true, if_false, forall_const, or_true, true_or, false_or, or_false, i10, Bool.false_eq_true, hget i11, ho_8, i11.cls, s_state i11, j11.cls]
    refine s_chunkRun (i2.fr a1 (by omega)) hS.1 (j0.fr a1 (by omega)) j11 (j3.fr a1 (by omega)) (j4.fr a1 (by omega)) (j5.fr a1 (by omega)) a2 a3 a4 (fun M2 b1 b2 b3 => ?_)
    obtain ⟨tl2, b4, b5⟩ := b3
    have i12 := i11.fr b1 (by omega)
    have i102 := (i10.fr a1 (by omega)).fr b1 (by omega)
    obtain ⟨n2, s2, g2, k2, j12⟩ := b2.2.1
    obtain ⟨-, z1, z2⟩ := c16 (chR_end (sd := sd) (x := x) (y := y) hS.1).1
    simp only [g_79_0, g_79_1, g_79_2, g_79_5, g_79_8, g_79_18, g_79_19, g_79_22, g_79_23, g_79_24, g_79_27, g_79_28, g_79_29, g_79_32, g_79_35, g_79_38, g_79_39, g_79_40, g_79_43, g_79_44, g_79_47, g_79_50, g_79_52, g_79_55, g_79_65, g_79_66, g_79_67, g_79_70, g_79_71, g_79_74, g_79_75, g_79_78, g_79_79, g_79_80, g_79_81, g_79_82, g_79_85, g_79_86, g_79_89, g_79_90, g_79_91, g_79_92, g_79_95, g_79_97, g_79_100, g_79_102, g_79_103, g_79_106, g_79_107, g_79_108, g_79_110, g_79_111, g_79_114, g_79_117, g_79_120, g_79_122, qOb_some, kr_v, kr_n, qinv_i, qinv_r, qinv_0, Nat.reduceAdd, List.getElem?_cons_zero, List.getElem?_cons_succ, List.set_cons_zero, List.set_cons_succ, List.length_cons, List.length_nil, not_true_eq_false, not_false_eq_true, false_implies, true_implies, and_true, true_and, and_false, false_and, if_true, if_false, forall_const, or_true, true_or, false_or, or_false, i10, Bool.false_eq_true, hget i12, ho_9, ho_8, j12.get, fo_4, qcls_of i102.1]
    refine s_keep i102 c b4 (by decide) (fun q c9 hc9 => by rw [b5 q]) (fun M3 c1 c2 => ?_)
    simp only [g_79_0, g_79_1, g_79_2, g_79_5, g_79_8, g_79_18, g_79_19, g_79_22, g_79_23, g_79_24, g_79_27, g_79_28, g_79_29, g_79_32, g_79_35, g_79_38, g_79_39, g_79_40, g_79_43, g_79_44, g_79_47, g_79_50, g_79_52, g_79_55, g_79_65, g_79_66, g_79_67, g_79_70, g_79_71, g_79_74, g_79_75, g_79_78, g_79_79, g_79_80, g_79_81, g_79_82, g_79_85, g_79_86, g_79_89, g_79_90, g_79_91, g_79_92, g_79_95, g_79_97, g_79_100, g_79_102, g_79_103, g_79_106, g_79_107, g_79_108, g_79_110, g_79_111, g_79_114, g_79_117, g_79_120, g_79_122, qOb_some, kr_v, kr_n, qinv_i, qinv_r, qinv_0, Nat.reduceAdd, List.getElem?_cons_zero, List.getElem?_cons_succ, List.set_cons_zero, List.set_cons_succ, List.length_cons, List.length_nil, not_true_eq_false, not_false_eq_true, false_implies, true_implies, and_true, true_and, and_false, false_and, if_true, if_false, forall_const, or_true, true_or, false_or, or_false, i10, Bool.false_eq_true, z1, z2]
    refine hQ2 M3 (fun b q => (c1 b (by omega)).trans ((b1 b (by omega)).trans (a1 b (by omega)))) (hI0.ch (fun b q => (c1 b (by omega)).trans ((b1 b (by omega)).trans (a1 b (by omega)))) (b2.fr c1 (by omega)) c2)
def c9P (c : Int32) : Prop := 0 ≤ c ∧ c < nI (3 * 3)
theorem c_chunkTile {M : qM} {T : TS} {sd w h : Nat} {F : Nat → Option Nat} {B : Nat → Nat} {wo : Nat → Option Nat} {rd fd : Bool} {tl : Nat → Nat} {gs tk n : Nat} {cx cy : Nat → Int32} {ce : Nat → Nat} {ct : Nat → Nat → Nat} {x y c : Int32} {Q : qR → qM → Prop} (hI : InvC M T sd w h F B wo rd fd tl gs tk n cx cy ce ct) (hS : SOk T sd w h F B wo rd fd tl gs tk n cx cy ce ct) (hE1 : ¬ nearP x y → Q (.inr 0) M) (hE2 : nearP x y → (∀ k, fnd cx cy x y n = some k → ce k ≠ 100) → Q (.inr 3) M) (hE3 : nearP x y → ∀ k, fnd cx cy x y n = some k → ce k = 100 → ¬ cellP 3 3 c → Q (.inr 2) M)
    (hQ : nearP x y → ∀ k, fnd cx cy x y n = some k → ce k = 100 → cellP 3 3 c → Q (.inl (some (.int (nI (ct k (cn c)))))) M) : cl 80 [.ref 0, .int x, .int y, .int c] M Q := by
  obtain ⟨i1, i2, i3, i4, i5, i6, i7, i8, ⟨j0, -⟩, i10⟩ := hI
  have hn := hS.2.2.2.2.2.1
  rw [e_80]
  by_cases a : nearP x y
  case neg =>
    have := hE1 a
    simp only [g_80_0, g_80_1, g_80_2, g_80_5, g_80_8, g_80_18, g_80_19, g_80_22, g_80_23, g_80_24, g_80_27, g_80_29, g_80_31, g_80_32, g_80_35, g_80_36, g_80_39, g_80_41, g_80_44, g_80_46, g_80_49, g_80_60, g_80_61, g_80_64, g_80_65, g_80_68, g_80_71, g_80_81, g_80_82, g_80_85, g_80_87, g_80_88, g_80_91, qOb_some, kr_v, kr_n, qinv_i, qinv_r, qinv_0, Nat.reduceAdd, List.getElem?_cons_zero, List.getElem?_cons_succ, List.set_cons_zero, List.set_cons_succ, List.length_cons, List.length_nil, s_isNear, bI_0, eq_false a, not_true_eq_false, not_false_eq_true, false_implies, true_implies, and_true, true_and, and_false, false_and, if_true, if_false, forall_const, or_true, true_or, false_or, or_false, i10, Bool.false_eq_true]
    exact this
  cases hf : fnd cx cy x y n with
  | none =>
    have := hE2 a (fun k q => by rw [hf] at q; cases q)
    simp only [g_80_0, g_80_1, g_80_2, g_80_5, g_80_8, g_80_18, g_80_19, g_80_22, g_80_23, g_80_24, g_80_27, g_80_29, g_80_31, g_80_32, g_80_35, g_80_36, g_80_39, g_80_41, g_80_44, g_80_46, g_80_49, g_80_60, g_80_61, g_80_64, g_80_65, g_80_68, g_80_71, g_80_81, g_80_82, g_80_85, g_80_87, g_80_88, g_80_91, qOb_some, kr_v, kr_n, qinv_i, qinv_r, qinv_0, Nat.reduceAdd, List.getElem?_cons_zero, List.getElem?_cons_succ, List.set_cons_zero, List.set_cons_succ, List.length_cons, List.length_nil, s_isNear, bI_0, eq_true a, not_true_eq_false, not_false_eq_true, false_implies, true_implies, and_true, true_and, and_false, false_and, if_true, if_false, forall_const, or_true, true_or, false_or, or_false, i10, Bool.false_eq_true, hget i1, ho_9, qcls_of i10.1, s_find i10 hn, hf, nbI]
    exact this
  | some k =>
    have hk := (fnd_some hf).1
    have he : ce k = 100 ∨ ce k = 108 ∨ ce k = 110 := by
      rw [(hS.2.2.2.2.2.2.2 k hk).1]
      exact (chR_end hS.1).1
    have e1 : (nI (ce k) = 100) = (ce k = 100) := propext (nI_eq (b := 100) (by omega) (by decide))
    by_cases b : ce k = 100
    case neg =>
      have := hE2 a (fun k' q => by rw [hf] at q; cases q; exact b)
      simp only [g_80_0, g_80_1, g_80_2, g_80_5, g_80_8, g_80_18, g_80_19, g_80_22, g_80_23, g_80_24, g_80_27, g_80_29, g_80_31, g_80_32, g_80_35, g_80_36, g_80_39, g_80_41, g_80_44, g_80_46, g_80_49, g_80_60, g_80_61, g_80_64, g_80_65, g_80_68, g_80_71, g_80_81, g_80_82, g_80_85, g_80_87, g_80_88, g_80_91, qOb_some, kr_v, kr_n, qinv_i, qinv_r, qinv_0, Nat.reduceAdd, List.getElem?_cons_zero, List.getElem?_cons_succ, List.set_cons_zero, List.set_cons_succ, List.length_cons, List.length_nil, s_isNear, bI_0, eq_true a, not_true_eq_false, not_false_eq_true, false_implies, true_implies, and_true, true_and, and_false, false_and, if_true, if_false, forall_const, or_true, true_or, false_or, or_false, i10, Bool.false_eq_true, hget i1, ho_9, qcls_of i10.1, s_find i10 hn, hf, nbI, m1_ne (show k < 1000 by omega), s_endOf i10 hn hk he, e1, eq_false b]
      exact this
    by_cases d : cellP 3 3 c
    case neg =>
      have := hE3 a k hf b d
      simp only [g_80_0, g_80_1, g_80_2, g_80_5, g_80_8, g_80_18, g_80_19, g_80_22, g_80_23, g_80_24, g_80_27, g_80_29, g_80_31, g_80_32, g_80_35, g_80_36, g_80_39, g_80_41, g_80_44, g_80_46, g_80_49, g_80_60, g_80_61, g_80_64, g_80_65, g_80_68, g_80_71, g_80_81, g_80_82, g_80_85, g_80_87, g_80_88, g_80_91, qOb_some, kr_v, kr_n, qinv_i, qinv_r, qinv_0, Nat.reduceAdd, List.getElem?_cons_zero, List.getElem?_cons_succ, List.set_cons_zero, List.set_cons_succ, List.length_cons, List.length_nil, s_isNear, bI_0, eq_true a, not_true_eq_false, not_false_eq_true, false_implies, true_implies, and_true, true_and, and_false, false_and, if_true, if_false, forall_const, or_true, true_or, false_or, or_false, i10, Bool.false_eq_true, hget i1, ho_9, ho_7, qcls_of i10.1, s_find i10 hn, hf, nbI, m1_ne (show k < 1000 by omega), s_endOf i10 hn hk he, e1, eq_true b, qcls_of j0, s_hasC j0, eq_false d]
      exact this
    have hQ := hQ a k hf b d
    obtain ⟨c1, c2⟩ := cell_cn d33 d
    simp only [g_80_0, g_80_1, g_80_2, g_80_5, g_80_8, g_80_18, g_80_19, g_80_22, g_80_23, g_80_24, g_80_27, g_80_29, g_80_31, g_80_32, g_80_35, g_80_36, g_80_39, g_80_41, g_80_44, g_80_46, g_80_49, g_80_60, g_80_61, g_80_64, g_80_65, g_80_68, g_80_71, g_80_81, g_80_82, g_80_85, g_80_87, g_80_88, g_80_91, qOb_some, kr_v, kr_n, qinv_i, qinv_r, qinv_0, Nat.reduceAdd, List.getElem?_cons_zero, List.getElem?_cons_succ, List.set_cons_zero, List.set_cons_succ, List.length_cons, List.length_nil, s_isNear, bI_0, eq_true a, not_true_eq_false, not_false_eq_true, false_implies, true_implies, and_true, true_and, and_false, false_and, if_true, if_false, forall_const, or_true, true_or, false_or, or_false, i10, Bool.false_eq_true, hget i1, ho_9, ho_7, qcls_of i10.1, s_find i10 hn, hf, nbI, m1_ne (show k < 1000 by omega), s_endOf i10 hn hk he, e1, eq_true b, qcls_of j0, s_hasC j0, eq_true d]
    have st : cl 5 [.ref 94, .int (nI k), .int (nI (cn c))] M (kr 80 88 [some (.ref 0), some (.int x), some (.int y), some (.int c), some (.int (nI k))] [] 0 0 Q) := by
      rw [s_tileOf i10 hn hk c2 b]
      simp only [g_80_0, g_80_1, g_80_2, g_80_5, g_80_8, g_80_18, g_80_19, g_80_22, g_80_23, g_80_24, g_80_27, g_80_29, g_80_31, g_80_32, g_80_35, g_80_36, g_80_39, g_80_41, g_80_44, g_80_46, g_80_49, g_80_60, g_80_61, g_80_64, g_80_65, g_80_68, g_80_71, g_80_81, g_80_82, g_80_85, g_80_87, g_80_88, g_80_91, qOb_some, kr_v, kr_n, qinv_i, qinv_r, qinv_0, Nat.reduceAdd, List.getElem?_cons_zero, List.getElem?_cons_succ, List.set_cons_zero, List.set_cons_succ, List.length_cons, List.length_nil, not_true_eq_false, not_false_eq_true, false_implies, true_implies, and_true, true_and, and_false, false_and, if_true, if_false, forall_const, or_true, true_or, false_or, or_false, i10, Bool.false_eq_true]
      exact hQ
    rw [← c1] at st
    exact st
