/-! the class's calls that narrow and fill -/
theorem s_narrowP {M : qM} {T : TS} {o G w h wt : Nat} {p st P : Nat → Nat} {fl : Nat → Bool} {Q : qR → qM → Prop} (hT : TilesAt M T) (hk : TOk T) (hG : GridAt M G w h) (hD : Dim w h) (ho : 7 < o) (hGo : G < o ∨ o + 7 ≤ G) (hA : NarAt M o G (w * h) p fl st wt) (hS : StkOk (w * h) fl st wt) (hp : ∀ k, k < w * h → p k = P k ∧ fl k = true) (hP : PN T (w * h) P)
    (hQ : ∀ M', Fr o (o + 7) M M' → NarS M' o G (w * h) (narF T w h P) → Q (.inl none) M') : cl 23 [.ref o] M Q := by
  have hA2 : NarAt M o G (w * h) P fl st wt := hA.c (fun k hk2 => (hp k hk2).1)
  refine s_narrow hT hk hG hD ho hGo hA2 hS (hP.msk hk) (fun i hi hf => by rw [(hp i hi).2] at hf; cases hf) (fun M' p' st' b1 b2 b3 b4 => ?_)
  exact hQ M' b1 ⟨st', b2.c (fun k hk2 => b3.eq (hP.msk hk) k hk2)⟩
theorem s_sweepsP {M : qM} {T : TS} {o G w h wt : Nat} {p st P : Nat → Nat} {fl : Nat → Bool} {Q : qR → qM → Prop} (hT : TilesAt M T) (hk : TOk T) (hG : GridAt M G w h) (hD : Dim w h) (ho : 7 < o) (hGo : G < o ∨ o + 7 ≤ G) (hA : NarAt M o G (w * h) p fl st wt) (hp : ∀ k, k < w * h → p k = P k ∧ fl k = true) (hP : PN T (w * h) P)
    (hQ : ∀ M', Fr o (o + 7) M M' → NarS M' o G (w * h) (narF T w h P) → Q (.inl none) M') : cl 25 [.ref o] M Q := by
  have hA2 : NarAt M o G (w * h) P fl st wt := hA.c (fun k hk2 => (hp k hk2).1)
  refine s_sweeps hT hk hG hD ho hGo hA2 hP (fun M' p' st' b1 b2 b3 b4 => ?_)
  exact hQ M' b1 ⟨st', b2.c (fun k hk2 => b3.eq (hP.msk hk) k hk2)⟩
theorem NarS.idle {M : qM} {o G N : Nat} {p : Nat → Nat} (h : NarS M o G N p) : NarIdle M o G := by
  obtain ⟨st, h⟩ := h
  exact h.idle
theorem InvC.n1 {M M' : qM} {T : TS} {sd w h : Nat} {F : Nat → Option Nat} {B : Nat → Nat} {wo : Nat → Option Nat} {rd fd : Bool} {tl : Nat → Nat} {gs tk n : Nat} {cx cy : Nat → Int32} {ce : Nat → Nat} {ct : Nat → Nat → Nat} (hI : InvC M T sd w h F B wo rd fd tl gs tk n cx cy ce ct) (hf : Fr 17 24 M M') (hN : NarIdle M' 17 12) : InvC M' T sd w h F B wo rd fd tl gs tk n cx cy ce ct := by
  obtain ⟨i1, i2, i3, i4, i5, i6, i7, ⟨t0, i8⟩, i9, i10⟩ := hI
  exact ⟨i1.fr hf (by omega), i2.fr hf (by omega), i3.fr hf (by omega), i4.fr hf (by omega), hN, i6.fr hf (by omega), i7.fr hf (by omega), ⟨t0, i8.fr hf (by omega)⟩, i9.fr hf (by omega), i10.fr hf (by omega)⟩
theorem InvC.n2 {M M' : qM} {T : TS} {sd w h : Nat} {F : Nat → Option Nat} {B : Nat → Nat} {wo : Nat → Option Nat} {rd fd : Bool} {tl : Nat → Nat} {gs tk n : Nat} {cx cy : Nat → Int32} {ce : Nat → Nat} {ct : Nat → Nat → Nat} (hI : InvC M T sd w h F B wo rd fd tl gs tk n cx cy ce ct) (hf : Fr 24 31 M M') (hN : NarIdle M' 24 12) : InvC M' T sd w h F B wo rd fd tl gs tk n cx cy ce ct := by
  obtain ⟨i1, i2, i3, i4, i5, i6, i7, ⟨t0, i8⟩, i9, i10⟩ := hI
  exact ⟨i1.fr hf (by omega), i2.fr hf (by omega), i3.fr hf (by omega), i4.fr hf (by omega), i5.fr hf (by omega), hN, i7.fr hf (by omega), ⟨t0, i8.fr hf (by omega)⟩, i9.fr hf (by omega), i10.fr hf (by omega)⟩
theorem NarS.g {M : qM} {o G N : Nat} {p : Nat → Nat} (h : NarS M o G N p) : M[o]? = some (.inr (3, [.ref 1, .ref G, .ref (o + 1), .ref (o + 3), .ref (o + 5), .int (nI 0)])) ∧ RowV M (o + 1) 36 N p := by
  obtain ⟨st, h1, h2, -⟩ := h
  exact ⟨h1, h2⟩
theorem InvC.fil {M M' : qM} {T : TS} {sd w h : Nat} {F : Nat → Option Nat} {B : Nat → Nat} {wo : Nat → Option Nat} {rd fd : Bool} {tl : Nat → Nat} {gs tk n : Nat} {cx cy : Nat → Int32} {ce : Nat → Nat} {ct : Nat → Nat → Nat} {fd' : Bool} {tl' : Nat → Nat} {gs' tk' : Nat} (hI : InvC M T sd w h F B wo rd fd tl gs tk n cx cy ce ct) (hf : ∀ b, b < 31 → 0 < b → M'[b]? = M[b]?) (hf2 : ∀ b, 56 ≤ b → M'[b]? = M[b]?) (hH : HObj M' (nI sd) (bI (fd' = true))) (hF : IFil M' (w * h) fd' tl' gs' tk') : InvC M' T sd w h F B wo rd fd' tl' gs' tk' n cx cy ce ct := by
  obtain ⟨i1, i2, i3, i4, i5, i6, i7, ⟨t0, i8⟩, i9, i10⟩ := hI
  -- the cells behind 0 and up to 31, and from 56 on
  obtain ⟨M1, f1, f2⟩ : ∃ M1 : qM, Fr 0 1 M M1 ∧ Fr 31 56 M1 M' := by
    refine ⟨M.set 0 (M'.getD 0 (.inr (0, []))), Fr.set (by omega) (by omega), fun b q => ?_⟩
    by_cases e : b = 0
    · subst e
      have h0 : M[0]? = some (.inr (9, HO (nI sd) (bI (fd = true)))) := i1
      rw [get_set_eq h0]
      have hH : M'[0]? = some (.inr (9, HO (nI sd) (bI (fd' = true)))) := hH
      rw [List.getD_eq_getElem?_getD, hH]
      rfl
    · rw [get_set_ne (by omega)]
      rcases q with q | q
      · exact hf b q (by omega)
      · exact hf2 b q
  exact ⟨hH, (i2.f0 f1).fr f2 (by omega), (i3.fr f1 (by omega)).fr f2 (by omega), (i4.fr f1 (by omega)).fr f2 (by omega), (i5.fr f1 (by omega)).fr f2 (by omega), (i6.fr f1 (by omega)).fr f2 (by omega), hF, ⟨t0, (i8.fr f1 (by omega)).fr f2 (by omega)⟩, (i9.fr f1 (by omega)).fr f2 (by omega), (i10.fr f1 (by omega)).fr f2 (by omega)⟩
def limP (x : Int32) : Prop := 0 ≤ x ∧ x ≤ 200
theorem s_isLim {M : qM} {a : Int32} {Q : qR → qM → Prop} : cl 88 [.int a, .int 0, .int 200] M Q ↔ Q (.inl (some (.int (@bI (limP a) (inferInstanceAs (Decidable (0 ≤ a ∧ a ≤ 200))))))) M := s_isFromTo
theorem fres_end {T : TS} {w h : Nat} {wo : Nat → Option Nat} {road : Bool} {lim : Nat} {p : Nat → Nat} {s : Int32} (hk : TOk T) (hD : Dim w h) (hp : PN T (w * h) p) : ((fres T w h wo road lim p s).1 = 100 ∨ (fres T w h wo road lim p s).1 = 108 ∨ (fres T w h wo road lim p s).1 = 110) ∧ PN T (w * h) (fres T w h wo road lim p s).2.1 ∧ ((fres T w h wo road lim p s).1 = 100 → ¬ goneP T w h wo road (fres T w h wo road lim p s).2.1 ∧ few (fres T w h wo road lim p s).2.1 (w * h) = none ∧ Stab T w h (fres T w h wo road lim p s).2.1) := by
  have hn := narF_is (T := T) (hp.msk hk)
  obtain ⟨c, p', g, t, e, h1, h2, h3⟩ := frun_end (wo := wo) (road := road) hk hD (2 * lim + 38) 0 (narF T w h p) (fun _ _ => 0) (fun _ => 0) (fun _ => 0) s 0 0 (FInv.start (narF_pn hk hp) hn.2)
  have e2 : fres T w h wo road lim p s = (c, p', g, t) := e
  rw [e2]
  exact ⟨h1, h2, h3⟩
theorem FEnd.ifil {M : qM} {w h : Nat} {wo : Nat → Option Nat} {road : Bool} {r : Nat × (Nat → Nat) × Nat × Nat} (hE : FEnd M 31 32 12 8 w h wo road r) : IFil M (w * h) (r.1 == 100) (tof r.2.1) r.2.2.1 r.2.2.2 := by
  obtain ⟨n0, sn, gc, gt, s, ⟨h1, h2, h3, ⟨tl, h4⟩, h5⟩, h6⟩ := hE
  exact ⟨⟨_, _, h1⟩, h2.idle, h3.z, h4.any 0, fun q => h6 (by simpa using q)⟩
theorem c_fill {M : qM} {T : TS} {sd w h : Nat} {F : Nat → Option Nat} {B : Nat → Nat} {wo : Nat → Option Nat} {rd fd : Bool} {tl : Nat → Nat} {gs tk n : Nat} {cx cy : Nat → Int32} {ce : Nat → Nat} {ct : Nat → Nat → Nat} {x : Int32} {Q : qR → qM → Prop} (hI : InvC M T sd w h F B wo rd fd tl gs tk n cx cy ce ct) (hS : SOk T sd w h F B wo rd fd tl gs tk n cx cy ce ct) (hE1 : ¬ limP x → Q (.inr 0) M) (hE2 : limP x → T.n = 0 → Q (.inr 1) M)
    (hQ : limP x → T.n ≠ 0 → ∀ M', KC M M' → InvC M' T sd w h F B wo rd ((fres T w h wo rd (cn x) (possM T F B) (nI sd)).1 == 100) (tof (fres T w h wo rd (cn x) (possM T F B) (nI sd)).2.1) (fres T w h wo rd (cn x) (possM T F B) (nI sd)).2.2.1 (fres T w h wo rd (cn x) (possM T F B) (nI sd)).2.2.2 n cx cy ce ct → Q (.inl (some (.int (nI (fres T w h wo rd (cn x) (possM T F B) (nI sd)).1)))) M') : cl 72 [.ref 0, .int x] M Q := by
  have hN := hS.2.1.1.le
  have h8 := hS.1.1
  have i1 := hI.1
  have i2 := hI.2.1
  have i3 := hI.2.2.1
  have i4 := hI.2.2.2.1
  obtain ⟨⟨n0, s0, hO⟩, j2, j3, ⟨t0, j4⟩, -⟩ := hI.2.2.2.2.2.2.1
  rw [e_72]
  by_cases a : limP x
  case neg =>
    have := hE1 a
    simp only [g_72_0, g_72_1, g_72_2, g_72_5, g_72_8, g_72_11, g_72_21, g_72_22, g_72_25, g_72_28, g_72_31, g_72_41, g_72_42, g_72_45, g_72_46, g_72_49, g_72_52, g_72_55, g_72_56, g_72_59, g_72_60, g_72_63, g_72_64, g_72_67, g_72_68, g_72_69, g_72_70, g_72_72, g_72_75, g_72_76, g_72_79, g_72_80, g_72_83, g_72_84, qOb_some, kr_v, kr_n, qinv_i, qinv_r, qinv_0, Nat.reduceAdd, List.getElem?_cons_zero, List.getElem?_cons_succ, List.set_cons_zero, List.set_cons_succ, List.length_cons, List.length_nil, s_isLim, bI_0, eq_false a, not_true_eq_false, not_false_eq_true, false_implies, true_implies, and_true, true_and, and_false, false_and, if_true, if_false, forall_const, or_true, true_or, false_or, or_false, i10, Bool.false_eq_true]
    exact this
  by_cases b : T.n = 0
  case pos =>
    have := hE2 a b
    have e0 : (nI T.n = 0) = True := eq_true (by rw [b]; rfl)
    simp only [g_72_0, g_72_1, g_72_2, g_72_5, g_72_8, g_72_11, g_72_21, g_72_22, g_72_25, g_72_28, g_72_31, g_72_41, g_72_42, g_72_45, g_72_46, g_72_49, g_72_52, g_72_55, g_72_56, g_72_59, g_72_60, g_72_63, g_72_64, g_72_67, g_72_68, g_72_69, g_72_70, g_72_72, g_72_75, g_72_76, g_72_79, g_72_80, g_72_83, g_72_84, qOb_some, kr_v, kr_n, qinv_i, qinv_r, qinv_0, Nat.reduceAdd, List.getElem?_cons_zero, List.getElem?_cons_succ, List.set_cons_zero, List.set_cons_succ, List.length_cons, List.length_nil, s_isLim, bI_0, eq_true a, not_true_eq_false, not_false_eq_true, false_implies, true_implies, and_true, true_and, and_false, false_and, if_true, if_false, forall_const, or_true, true_or, false_or, or_false, i10, Bool.false_eq_true, hget i1, ho_0, qget_of i2.1, e0]
    exact this
  obtain ⟨x1, x2⟩ := cn_le (m := 200) (by decide) a.1 a.2
  have hQ := hQ a b
  have e0 : (nI T.n = 0) = False := eq_false (nI_ne0 (by omega) (by omega))
  simp only [g_72_0, g_72_1, g_72_2, g_72_5, g_72_8, g_72_11, g_72_21, g_72_22, g_72_25, g_72_28, g_72_31, g_72_41, g_72_42, g_72_45, g_72_46, g_72_49, g_72_52, g_72_55, g_72_56, g_72_59, g_72_60, g_72_63, g_72_64, g_72_67, g_72_68, g_72_69, g_72_70, g_72_72, g_72_75, g_72_76, g_72_79, g_72_80, g_72_83, g_72_84, qOb_some, kr_v, kr_n, qinv_i, qinv_r, qinv_0, Nat.reduceAdd, List.getElem?_cons_zero, List.getElem?_cons_succ, List.set_cons_zero, List.set_cons_succ, List.length_cons, List.length_nil, s_isLim, bI_0, eq_true a, not_true_eq_false, not_false_eq_true, false_implies, true_implies, and_true, true_and, and_false, false_and, if_true, if_false, forall_const, or_true, true_or, false_or, or_false, i10, Bool.false_eq_true, hget i1, ho_0, ho_2, ho_5, qget_of i2.1, e0, hO.get, fo_3, qcls_of i4.1]
  refine s_putInto i2 hS.1 i4 hS.2.1 (by decide) j2 (fun M1 p1 fl1 st1 wt1 a1 a2 a3 a4 => ?_)
  have i11 := i1.fr a1 (by omega)
  have hO1 := hO.fr a1 (by omega)
  have hA1 : NarAt M1 40 12 (w * h) (possM T F B) fl1 st1 wt1 := a2.c (fun k hk2 => (a4 k hk2).1)
  simp only [g_72_0, g_72_1, g_72_2, g_72_5, g_72_8, g_72_11, g_72_21, g_72_22, g_72_25, g_72_28, g_72_31, g_72_41, g_72_42, g_72_45, g_72_46, g_72_49, g_72_52, g_72_55, g_72_56, g_72_59, g_72_60, g_72_63, g_72_64, g_72_67, g_72_68, g_72_69, g_72_70, g_72_72, g_72_75, g_72_76, g_72_79, g_72_80, g_72_83, g_72_84, qOb_some, kr_v, kr_n, qinv_i, qinv_r, qinv_0, Nat.reduceAdd, List.getElem?_cons_zero, List.getElem?_cons_succ, List.set_cons_zero, List.set_cons_succ, List.length_cons, List.length_nil, not_true_eq_false, not_false_eq_true, false_implies, true_implies, and_true, true_and, and_false, false_and, if_true, if_false, forall_const, or_true, true_or, false_or, or_false, i10, Bool.false_eq_true, hget i11, ho_5, ho_10, hO1.cls]
  have he := fres_end (wo := wo) (road := rd) (lim := cn x) (s := nI sd) hS.1 hS.2.1.1 (possM_pn (T := T) hS.2.1)
  have st : cl 8 [.ref 31, .int (nI sd), .int (nI (cn x))] M1 (kr 72 64 [some (.ref 0), some (.int x), none] [] 0 0 Q) := by
    refine s_run (T := T) (o := 31) (a := 32) (G := 12) (Wo := 8) (lim := cn x) (wo := wo) (road := rd) (p := possM T F B) (i2.fr a1 (by omega)) hS.1 (i4.2.1.fr a1 (by omega)) hS.2.1.1 hS.2.2.2.1 x2 (by decide) (by decide) (by decide) (by decide) hO1 hA1 a3 (possM_pn hS.2.1) (fun k hk2 => (a4 k hk2).2) (j3.fr a1 (by omega)) (j4.fr a1 (by omega)) (i3.fr a1 (by omega)) (fun M2 b1 b2 => ?_)
    have b3 := b2.ifil
    have i12 : HObj M2 (nI sd) (bI (fd = true)) := (b1 0 (by decide) (by decide)).trans i11
    revert hQ b3 he
    generalize fres T w h wo rd (cn x) (possM T F B) (nI sd) = r
    intro hQ he b3
    obtain ⟨-, z1, z2⟩ := c16 he.1
    have e1 : (nI r.1 = 100) = (r.1 = 100) := propext (nI_eq (b := 100) (by omega) (by decide))
    have go : ∀ v : Int32, v = bI ((r.1 == 100) = true) → ∀ M3, qput M2 0 9 11 (.int v) = some M3 → Fr 0 1 M2 M3 → HObj M3 (nI sd) v → Q (.inl (some (.int (nI r.1)))) M3 := by
      intro v hv M3 _ f3 hH3
      rw [hv] at hH3
      refine hQ M3 (fun b q => (f3 b (by omega)).trans ((b1 b (by omega) (by omega)).trans (a1 b (by omega)))) (hI.fil (fun b q1 q2 => (f3 b (by omega)).trans ((b1 b (by omega) (by omega)).trans (a1 b (by omega)))) (fun b q => (f3 b (by omega)).trans ((b1 b (by omega) (by omega)).trans (a1 b (by omega)))) hH3 (b3.fr f3 (by omega)))
    by_cases hr : r.1 = 100
    · obtain ⟨M3, e3, f3, hH3⟩ := hput (sd' := nI sd) (fd' := 1) 11 1 i12 (by decide) rfl rfl
      have := go 1 (by rw [bI_t (by rw [hr]; rfl)]) M3 e3 f3 hH3
      simp only [g_72_0, g_72_1, g_72_2, g_72_5, g_72_8, g_72_11, g_72_21, g_72_22, g_72_25, g_72_28, g_72_31, g_72_41, g_72_42, g_72_45, g_72_46, g_72_49, g_72_52, g_72_55, g_72_56, g_72_59, g_72_60, g_72_63, g_72_64, g_72_67, g_72_68, g_72_69, g_72_70, g_72_72, g_72_75, g_72_76, g_72_79, g_72_80, g_72_83, g_72_84, qOb_some, kr_v, kr_n, qinv_i, qinv_r, qinv_0, Nat.reduceAdd, List.getElem?_cons_zero, List.getElem?_cons_succ, List.set_cons_zero, List.set_cons_succ, List.length_cons, List.length_nil, not_true_eq_false, not_false_eq_true, false_implies, true_implies, and_true, true_and, and_false, false_and, if_true, if_false, forall_const, or_true, true_or, false_or, or_false, i10, Bool.false_eq_true, e1, eq_true hr, e3, z1, z2]
      exact this
    · obtain ⟨M3, e3, f3, hH3⟩ := hput (sd' := nI sd) (fd' := 0) 11 0 i12 (by decide) rfl rfl
      have := go 0 (by rw [bI_f (fun q => hr (by simpa using q))]) M3 e3 f3 hH3
      simp only [g_72_0, g_72_1, g_72_2, g_72_5, g_72_8, g_72_11, g_72_21, g_72_22, g_72_25, g_72_28, g_72_31, g_72_41, g_72_42, g_72_45, g_72_46, g_72_49, g_72_52, g_72_55, g_72_56, g_72_59, g_72_60, g_72_63, g_72_64, g_72_67, g_72_68, g_72_69, g_72_70, g_72_72, g_72_75, g_72_76, g_72_79, g_72_80, g_72_83, g_72_84, qOb_some, kr_v, kr_n, qinv_i, qinv_r, qinv_0, Nat.reduceAdd, List.getElem?_cons_zero, List.getElem?_cons_succ, List.set_cons_zero, List.set_cons_succ, List.length_cons, List.length_nil, not_true_eq_false, not_false_eq_true, false_implies, true_implies, and_true, true_and, and_false, false_and, if_true, if_false, forall_const, or_true, true_or, false_or, or_false, i10, Bool.false_eq_true, e1, eq_false hr, e3, z1, z2]
      exact this
  rw [← x1] at st
  exact st
theorem c_ways {M : qM} {T : TS} {sd w h : Nat} {F : Nat → Option Nat} {B : Nat → Nat} {wo : Nat → Option Nat} {rd fd : Bool} {tl : Nat → Nat} {gs tk n : Nat} {cx cy : Nat → Int32} {ce : Nat → Nat} {ct : Nat → Nat → Nat} {Q : qR → qM → Prop} (hI : InvC M T sd w h F B wo rd fd tl gs tk n cx cy ce ct) (hS : SOk T sd w h F B wo rd fd tl gs tk n cx cy ce ct) (hE : 4 < w * h → Q (.inr 4) M)
    (hQ : w * h ≤ 4 → ∀ M', KC M M' → InvC M' T sd w h F B wo rd fd tl gs tk n cx cy ce ct → Q (.inl (some (.int (nI (nways T w h wo rd (possM T F B)))))) M') : cl 77 [.ref 0] M Q := by
  have hI0 := hI
  obtain ⟨i1, i2, i3, i4, i5, i6, i7, ⟨t0, i8⟩, i9, i10⟩ := hI
  obtain ⟨t1, p1⟩ := i8.any (w * h)
  refine s_ways i1 i2 hS.1 i4 hS.2.1 p1 i3 hS.2.2.2.1 hE (fun hle M' b1 b2 => hQ hle M' (b1.kc (by omega)) ?_)
  obtain ⟨t2, p2⟩ := b2
  exact ⟨i1.fr b1 (by omega), i2.fr b1 (by omega), i3.fr b1 (by omega), i4.fr b1 (by omega), i5.fr b1 (by omega), i6.fr b1 (by omega), i7.fr b1 (by omega), p2.any 0, i9.fr b1 (by omega), i10.fr b1 (by omega)⟩
theorem IFil.pla {M M' : qM} {N gs tk : Nat} {fd : Bool} {tl : Nat → Nat} (h : IFil M N fd tl gs tk) (hf : Fr 48 56 M M') (hfd : fd = true) (hP : PlaAt M' 47 12 N tl) : IFil M' N fd tl gs tk := by
  obtain ⟨⟨n0, s0, h1⟩, h2, h3, ⟨t0, h4⟩, h5⟩ := h
  exact ⟨⟨n0, s0, h1.fr hf (by omega)⟩, h2.fr hf (by omega), h3.fr hf (by omega), hP.any 0, fun _ => hP⟩
theorem InvC.pla {M M' : qM} {T : TS} {sd w h : Nat} {F : Nat → Option Nat} {B : Nat → Nat} {wo : Nat → Option Nat} {rd fd : Bool} {tl : Nat → Nat} {gs tk n : Nat} {cx cy : Nat → Int32} {ce : Nat → Nat} {ct : Nat → Nat → Nat} (hI : InvC M T sd w h F B wo rd fd tl gs tk n cx cy ce ct) (hf : Fr 48 56 M M') (hfd : fd = true) (hP : PlaAt M' 47 12 (w * h) tl) : InvC M' T sd w h F B wo rd fd tl gs tk n cx cy ce ct := by
  obtain ⟨i1, i2, i3, i4, i5, i6, i7, ⟨t0, i8⟩, i9, i10⟩ := hI
  exact ⟨i1.fr hf (by omega), i2.fr hf (by omega), i3.fr hf (by omega), i4.fr hf (by omega), i5.fr hf (by omega), i6.fr hf (by omega), i7.pla hf hfd hP, ⟨t0, i8.fr hf (by omega)⟩, i9.fr hf (by omega), i10.fr hf (by omega)⟩
theorem c_roads {M : qM} {T : TS} {sd w h : Nat} {F : Nat → Option Nat} {B : Nat → Nat} {wo : Nat → Option Nat} {rd fd : Bool} {tl : Nat → Nat} {gs tk n : Nat} {cx cy : Nat → Int32} {ce : Nat → Nat} {ct : Nat → Nat → Nat} {Q : qR → qM → Prop} (hI : InvC M T sd w h F B wo rd fd tl gs tk n cx cy ce ct) (hS : SOk T sd w h F B wo rd fd tl gs tk n cx cy ce ct) (hE : fd = false → Q (.inr 1) M)
    (hQ : fd = true → ∀ M', KC M M' → InvC M' T sd w h F B wo rd fd tl gs tk n cx cy ce ct → Q (.inl (some (.int (nI (npc T w h tl))))) M') : cl 78 [.ref 0] M Q := by
  have i1 := hI.1
  rw [e_78]
  by_cases hf : fd = true
  · obtain ⟨⟨n0, s0, hO⟩, -, -, -, hP⟩ := hI.2.2.2.2.2.2.1
    have hP := hP hf
    have i1' : HObj M (nI sd) 1 := by rw [← bI_t hf]; exact i1
    simp only [g_78_0, g_78_1, g_78_4, g_78_7, g_78_17, g_78_18, g_78_21, g_78_24, g_78_27, qOb_some, kr_v, kr_n, qinv_i, qinv_r, qinv_0, Nat.reduceAdd, List.getElem?_cons_zero, List.getElem?_cons_succ, List.set_cons_zero, List.set_cons_succ, List.length_cons, List.length_nil, not_true_eq_false, not_false_eq_true, false_implies, true_implies, and_true, true_and, and_false, false_and, if_true, if_false, forall_const, or_true, true_or, false_or, or_false, i10, Bool.false_eq_true, hget i1', ho_11, ho_5, hO.get, fo_4, qcls_of hP.1]
    refine s_pieces hI.2.1 hS.1 hI.2.2.2.1.2.1 hS.2.1.1 (by decide) (by decide) hP (hS.2.2.2.2.1 hf).1 (fun M1 b1 b2 => ?_)
    simp only [g_78_0, g_78_1, g_78_4, g_78_7, g_78_17, g_78_18, g_78_21, g_78_24, g_78_27, qOb_some, kr_v, kr_n, qinv_i, qinv_r, qinv_0, Nat.reduceAdd, List.getElem?_cons_zero, List.getElem?_cons_succ, List.set_cons_zero, List.set_cons_succ, List.length_cons, List.length_nil, not_true_eq_false, not_false_eq_true, false_implies, true_implies, and_true, true_and, and_false, false_and, if_true, if_false, forall_const, or_true, true_or, false_or, or_false, i10, Bool.false_eq_true]
    exact hQ hf M1 (b1.kc (by omega)) (hI.pla (b1.mono (by omega) (by omega)) hf b2)
  · have := hE (by simpa using hf)
    have i1' : HObj M (nI sd) 0 := by rw [← bI_f hf]; exact i1
    simp only [g_78_0, g_78_1, g_78_4, g_78_7, g_78_17, g_78_18, g_78_21, g_78_24, g_78_27, qOb_some, kr_v, kr_n, qinv_i, qinv_r, qinv_0, Nat.reduceAdd, List.getElem?_cons_zero, List.getElem?_cons_succ, List.set_cons_zero, List.set_cons_succ, List.length_cons, List.length_nil, not_true_eq_false, not_false_eq_true, false_implies, true_implies, and_true, true_and, and_false, false_and, if_true, if_false, forall_const, or_true, true_or, false_or, or_false, i10, Bool.false_eq_true, hget i1', ho_11]
    exact this
