/-! what the law's turns stand on -/
theorem fr_low {M M' : qM} (h : ∀ b, b < 101 → M'[b]? = M[b]?) : ∃ hi, Fr 101 hi M M' := by
  refine ⟨max M.length M'.length, fun a q => ?_⟩
  rcases q with q | q
  · exact h a q
  · rw [List.getElem?_eq_none (by omega), List.getElem?_eq_none (by omega)]
theorem InvC.low {M M' : qM} {T : TS} {sd w h : Nat} {F : Nat → Option Nat} {B : Nat → Nat} {wo : Nat → Option Nat} {rd fd : Bool} {tl : Nat → Nat} {gs tk n : Nat} {cx cy : Nat → Int32} {ce : Nat → Nat} {ct : Nat → Nat → Nat} (hI : InvC M T sd w h F B wo rd fd tl gs tk n cx cy ce ct) (hu : ∀ b : Nat, b < 101 → M'[b]? = M[b]?) : InvC M' T sd w h F B wo rd fd tl gs tk n cx cy ce ct := by
  obtain ⟨hi, hf⟩ := fr_low hu
  exact hI.fr hf (by omega)
theorem InvM.mid {M M' : qM} {s : Nat → Int32} {T : TS} {sd w h : Nat} {F : Nat → Option Nat} {B : Nat → Nat} {wo : Nat → Option Nat} {rd fd : Bool} {tl : Nat → Nat} {gs tk n : Nat} {cx cy : Nat → Int32} {ce : Nat → Nat} {ct : Nat → Nat → Nat} (hI : InvM M s T sd w h F B wo rd fd tl gs tk n cx cy ce ct) (hu : ∀ b : Nat, 101 ≤ b → b < 119 → M'[b]? = M[b]?) : InvM M' s T sd w h F B wo rd fd tl gs tk n cx cy ce ct := by
  obtain ⟨h1, h2, h3, h4, h5, h6, ⟨h7, h8⟩, h9, h10⟩ := hI
  exact ⟨(hu _ (by omega) (by omega)).trans h1, h2.u rfl (fun b q1 q2 => hu b (by omega) (by omega)), h3, h4.u rfl rfl (fun b q1 q2 => hu b (by omega) (by omega)), h5.u rfl (hu _ (by omega) (by omega)), h6.u rfl (hu _ (by omega) (by omega)), ⟨h7, h8⟩, h9.u rfl (fun b q1 q2 => hu b (by omega) (by omega)), h10.u (fun b q1 q2 => hu b (by omega) (by omega))⟩
def Outs (M : qM) : Prop := (∃ f, M[119]? = some (.inl (2, 1, .inr (.inl f)))) ∧ (∃ f, M[120]? = some (.inl (3, 1, .inr (.inr (.inr (.inl f)))))) ∧ M[qSCR]? = none
theorem Outs.up {M M' : qM} (h : Outs M) (hu : ∀ b, 119 ≤ b → M'[b]? = M[b]?) : Outs M' := by
  obtain ⟨⟨f, h1⟩, ⟨f', h2⟩, h3⟩ := h
  exact ⟨⟨f, (hu _ (by omega)).trans h1⟩, ⟨f', (hu _ (by omega)).trans h2⟩, (hu _ (by decide)).trans h3⟩
theorem KC.out {M M' : qM} (h : KC M M') (hO : Outs M) : Outs M' := hO.up (fun b q => h b (by omega))
theorem KM.out {M M' : qM} (h : KM M M') (hO : Outs M) : Outs M' := hO.up (fun b q => h b (by omega))
theorem KM.c {M M' : qM} (hkm : KM M M') {T : TS} {sd w h : Nat} {F : Nat → Option Nat} {B : Nat → Nat} {wo : Nat → Option Nat} {rd fd : Bool} {tl : Nat → Nat} {gs tk n : Nat} {cx cy : Nat → Int32} {ce : Nat → Nat} {ct : Nat → Nat → Nat} (hI : InvC M T sd w h F B wo rd fd tl gs tk n cx cy ce ct) : InvC M' T sd w h F B wo rd fd tl gs tk n cx cy ce ct := hI.low (fun b q => hkm b (by omega))
theorem KC.m {M M' : qM} (hkc : KC M M') {s : Nat → Int32} {T : TS} {sd w h : Nat} {F : Nat → Option Nat} {B : Nat → Nat} {wo : Nat → Option Nat} {rd fd : Bool} {tl : Nat → Nat} {gs tk n : Nat} {cx cy : Nat → Int32} {ce : Nat → Nat} {ct : Nat → Nat → Nat} (hI : InvM M s T sd w h F B wo rd fd tl gs tk n cx cy ce ct) : InvM M' s T sd w h F B wo rd fd tl gs tk n cx cy ce ct := hI.mid (fun b q1 q2 => hkc b (by omega))
/-- what the class answered is put out -/
theorem out_set {M : qM} {x : Int64} {f : Nat → Int64} (h : M[119]? = some (.inl (2, 1, .inr (.inl f)))) : Fr 119 120 M (M.set 119 (.inl (2, 1, .inr (.inl (vp_updL f 0 x))))) ∧ (M.set 119 (.inl (2, 1, .inr (.inl (vp_updL f 0 x)))))[119]? = some (.inl (2, 1, .inr (.inl (vp_updL f 0 x)))) := ⟨Fr.set (by omega) (by omega), get_set_eq h⟩
theorem ald_L {M : qM} {f : Nat → Int64} {x : Int64} (h : M[119]? = some (.inl (2, 1, .inr (.inl (vp_updL f 0 x))))) : qald none M 119 2 0 = some (.long x) := by
  unfold qald
  rw [h]
  simp only [show qIn 0 1 = true by decide, and_self, if_true, show (0 : Int32).toNatClampNeg = 0 from by decide, pk_uLs]
theorem ald_D {M : qM} {f : Nat → UInt64} {x : UInt64} (h : M[120]? = some (.inl (3, 1, .inr (.inr (.inr (.inl (vf_upd f 0 x))))))) : qald none M 120 3 0 = some (.double x) := by
  unfold qald
  rw [h]
  simp only [show qIn 0 1 = true by decide, and_self, if_true, show (0 : Int32).toNatClampNeg = 0 from by decide]
  rfl
theorem ald_S {N : Nat} {xs : Nat → Int32} {M : qM} {j : Nat} (h : M[qSCR]? = none) (hj : j < N) (hN : N ≤ 3072) : qald (some (N, xs)) M qSCR 0 (nI j) = some (.int (xs j)) := by
  unfold qald
  rw [h]
  simp only [qIn_nI hj (show N < 2147483648 by omega), and_self, if_true, nI_clamp (show j < 2 ^ 31 by omega)]
theorem len_S {N : Nat} {xs : Nat → Int32} {M : qM} (h : M[qSCR]? = none) : qlen (some (N, xs)) M qSCR = some (nI N) := by
  unfold qlen
  rw [h]
  simp only [if_true]
  rfl
theorem m_thrown {M : qM} {s : Nat → Int32} {Q : qR → qM → Prop} (hM : ModAt M s) : cl 101 [.ref 101] M Q ↔ Q (.inl (some (.int (s 0)))) M := by
  rw [e_101]
  simp only [g_101_0, g_101_1, g_101_4, qOb_some, kr_v, kr_n, qinv_i, qinv_r, qinv_0, Nat.reduceAdd, List.getElem?_cons_zero, List.getElem?_cons_succ, List.set_cons_zero, List.set_cons_succ, List.length_cons, List.length_nil, mget hM, mo_0]
theorem lg_same (x : Int64) : lg_cmp x x = 0 := (lg_cmp_eq x x).mpr rfl
/-- what a turn of the law leaves -/
def LN (N : Nat) (xs : Nat → Int32) (i k n0 : Nat) (Q : qR → qM → Prop) : Prop := ∀ {T : TS} {sd w h : Nat} {F : Nat → Option Nat} {B : Nat → Nat} {wo : Nat → Option Nat} {rd fd : Bool} {tl : Nat → Nat} {gs tk n : Nat} {cx cy : Nat → Int32} {ce : Nat → Nat} {ct : Nat → Nat → Nat}, SOk T sd w h F B wo rd fd tl gs tk n cx cy ce ct → ∀ (M : qM) (s : Nat → Int32), InvC M T sd w h F B wo rd fd tl gs tk n cx cy ce ct → InvM M s T sd w h F B wo rd fd tl gs tk n cx cy ce ct → Outs M → ∀ (k' n' : Nat) (l6 l7 l8 l9 : Option Value), k' ≤ k + 1 → n' ≤ n0 + 6 → gL N xs 1587 [some (.ref qSCR), some (.ref 0), some (.ref 101), some (.ref 119), some (.ref 120), some (.int (nI i)), l6, l7, l8, l9] [] M k' n' Q
theorem SOk.unf {T : TS} {sd w h : Nat} {F : Nat → Option Nat} {B : Nat → Nat} {wo : Nat → Option Nat} {rd fd : Bool} {tl : Nat → Nat} {gs tk n : Nat} {cx cy : Nat → Int32} {ce : Nat → Nat} {ct : Nat → Nat → Nat} (hS : SOk T sd w h F B wo rd fd tl gs tk n cx cy ce ct) : SOk T sd w h F B wo rd false tl gs tk n cx cy ce ct := by
  obtain ⟨h1, h2, h3, h4, h5, h6⟩ := hS
  exact ⟨h1, h2, h3, h4, fun q => (by cases q), h6⟩
theorem SOk.add {T : TS} {sd w h : Nat} {F : Nat → Option Nat} {B : Nat → Nat} {wo : Nat → Option Nat} {rd fd : Bool} {tl : Nat → Nat} {gs tk n : Nat} {cx cy : Nat → Int32} {ce : Nat → Nat} {ct : Nat → Nat → Nat} {u r d l wt : Int32} (hS : SOk T sd w h F B wo rd fd tl gs tk n cx cy ce ct) (hok : okT u r d l wt) (hn : T.n < 8) : SOk (addT T (cn u) (cn r) (cn d) (cn l) (cn wt)) sd w h F B wo rd false tl gs tk 0 cx cy ce ct := by
  obtain ⟨a1, a2, a3, a4, a5⟩ := hok
  obtain ⟨w1, w2⟩ := cn_le (m := 9) (by decide) (Int32.le_trans (by decide) a5.1) a5.2
  refine hS.noCh _ _ (addT_ok hS.1 hn (col_cn a1).2 (col_cn a2).2 (col_cn a3).2 (col_cn a4).2 ?_ w2) (Nat.le_succ _) hS.2.2.1
  have := a5.1
  rw [w1] at this
  exact (nI_leI (a := 1) (by decide) (by omega)).mp this
theorem SOk.seed {T : TS} {sd w h : Nat} {F : Nat → Option Nat} {B : Nat → Nat} {wo : Nat → Option Nat} {rd fd : Bool} {tl : Nat → Nat} {gs tk n : Nat} {cx cy : Nat → Int32} {ce : Nat → Nat} {ct : Nat → Nat → Nat} {x : Int32} (hS : SOk T sd w h F B wo rd fd tl gs tk n cx cy ce ct) (hx : 0 ≤ x ∧ x ≤ 99999) : SOk T (cn x) w h F B wo rd false tl gs tk 0 cx cy ce ct :=
  hS.noCh T _ hS.1 (Nat.le_refl _) (by have := (cn_le (m := 99999) (by decide) hx.1 hx.2).2; omega)
theorem SOk.size {T : TS} {sd w h : Nat} {F : Nat → Option Nat} {B : Nat → Nat} {wo : Nat → Option Nat} {rd fd : Bool} {tl : Nat → Nat} {gs tk n : Nat} {cx cy : Nat → Int32} {ce : Nat → Nat} {ct : Nat → Nat → Nat} {x y : Int32} (hS : SOk T sd w h F B wo rd fd tl gs tk n cx cy ce ct) (hx : sideP x) (hy : sideP y) : SOk T sd (cn x) (cn y) (fun _ => none) (fun _ => 0) wo rd false tl gs tk n cx cy ce ct := by
  obtain ⟨h1, h2, h3, h4, h5, h6⟩ := hS
  obtain ⟨-, x2, x3⟩ := side_cn hx
  obtain ⟨-, y2, y3⟩ := side_cn hy
  exact ⟨h1, ⟨⟨x2, x3, y2, y3⟩, fun k _ => ⟨fun t q => (by cases q), (show 0 < 256 by decide)⟩⟩, h3, h4, fun q => (by cases q), h6⟩
theorem SOk.wor {T : TS} {sd w h : Nat} {F : Nat → Option Nat} {B : Nat → Nat} {wo : Nat → Option Nat} {rd fd : Bool} {tl : Nat → Nat} {gs tk n : Nat} {cx cy : Nat → Int32} {ce : Nat → Nat} {ct : Nat → Nat → Nat} {F' : Nat → Option Nat} {B' : Nat → Nat} (hS : SOk T sd w h F B wo rd fd tl gs tk n cx cy ce ct) (hF : ∀ k, k < w * h → (∀ t, F' k = some t → t < T.n) ∧ B' k < 256) : SOk T sd w h F' B' wo rd false tl gs tk n cx cy ce ct := by
  obtain ⟨h1, h2, h3, h4, h5, h6⟩ := hS
  exact ⟨h1, ⟨h2.1, hF⟩, h3, h4, fun q => (by cases q), h6⟩
theorem SOk.fix {T : TS} {sd w h : Nat} {F : Nat → Option Nat} {B : Nat → Nat} {wo : Nat → Option Nat} {rd fd : Bool} {tl : Nat → Nat} {gs tk n : Nat} {cx cy : Nat → Int32} {ce : Nat → Nat} {ct : Nat → Nat → Nat} {c t : Int32} (hS : SOk T sd w h F B wo rd fd tl gs tk n cx cy ce ct) (ht : tileP T t) : SOk T sd w h (fuO F (cn c) (some (cn t))) B wo rd false tl gs tk n cx cy ce ct := by
  refine hS.wor (fun k hk => ⟨fun u hu => ?_, (hS.2.1.2 k hk).2⟩)
  by_cases e : k = cn c
  · rw [e, fuO_s] at hu
    cases hu
    exact (tile_cn hS.1 ht).2
  · rw [fuO_n e] at hu
    exact (hS.2.1.2 k hk).1 u hu
theorem SOk.ban {T : TS} {sd w h : Nat} {F : Nat → Option Nat} {B : Nat → Nat} {wo : Nat → Option Nat} {rd fd : Bool} {tl : Nat → Nat} {gs tk n : Nat} {cx cy : Nat → Int32} {ce : Nat → Nat} {ct : Nat → Nat → Nat} {c t : Int32} (hS : SOk T sd w h F B wo rd fd tl gs tk n cx cy ce ct) (ht : tileP T t) : SOk T sd w h F (fu B (cn c) (B (cn c) ||| 2 ^ cn t)) wo rd false tl gs tk n cx cy ce ct := by
  refine hS.wor (fun k hk => ⟨(hS.2.1.2 k hk).1, ?_⟩)
  have h8 := hS.1.1
  have h2 := (tile_cn hS.1 ht).2
  by_cases e : k = cn c
  · rw [e, fu_s]
    rw [e] at hk
    exact or_lt (hS.2.1.2 _ hk).2 (Nat.pow_lt_pow_right (a := 2) (m := cn t) (n := 8) (by decide) (by omega))
  · rw [fu_n e]
    exact (hS.2.1.2 k hk).2
theorem SOk.soft {T : TS} {sd w h : Nat} {F : Nat → Option Nat} {B : Nat → Nat} {wo : Nat → Option Nat} {rd fd : Bool} {tl : Nat → Nat} {gs tk n : Nat} {cx cy : Nat → Int32} {ce : Nat → Nat} {ct : Nat → Nat → Nat} {c : Int32} (hS : SOk T sd w h F B wo rd fd tl gs tk n cx cy ce ct) : SOk T sd w h (fuO F (cn c) none) (fu B (cn c) 0) wo rd false tl gs tk n cx cy ce ct := by
  refine hS.wor (fun k hk => ⟨fun u hu => ?_, ?_⟩)
  · by_cases e : k = cn c
    · rw [e, fuO_s] at hu
      cases hu
    · rw [fuO_n e] at hu
      exact (hS.2.1.2 k hk).1 u hu
  · by_cases e : k = cn c
    · rw [e, fu_s]
      decide
    · rw [fu_n e]
      exact (hS.2.1.2 k hk).2
theorem SOk.most {T : TS} {sd w h : Nat} {F : Nat → Option Nat} {B : Nat → Nat} {wo : Nat → Option Nat} {rd fd : Bool} {tl : Nat → Nat} {gs tk n : Nat} {cx cy : Nat → Int32} {ce : Nat → Nat} {ct : Nat → Nat → Nat} {t x : Int32} (hS : SOk T sd w h F B wo rd fd tl gs tk n cx cy ce ct) (hx : mostP x) : SOk T sd w h F B (fuO wo (cn t) (oI x)) rd false tl gs tk n cx cy ce ct := by
  obtain ⟨h1, h2, h3, h4, h5, h6⟩ := hS
  refine ⟨h1, h2, h3, fun u m q => ?_, fun q => (by cases q), h6⟩
  by_cases e : u = cn t
  · rw [e, fuO_s] at q
    have := (oI_e hx).2 m q
    omega
  · rw [fuO_n e] at q
    exact h4 u m q
theorem SOk.road {T : TS} {sd w h : Nat} {F : Nat → Option Nat} {B : Nat → Nat} {wo : Nat → Option Nat} {rd fd : Bool} {tl : Nat → Nat} {gs tk n : Nat} {cx cy : Nat → Int32} {ce : Nat → Nat} {ct : Nat → Nat → Nat} (hS : SOk T sd w h F B wo rd fd tl gs tk n cx cy ce ct) (b : Bool) : SOk T sd w h F B wo b false tl gs tk n cx cy ce ct := by
  obtain ⟨h1, h2, h3, h4, h5, h6⟩ := hS
  exact ⟨h1, h2, h3, h4, fun q => (by cases q), h6⟩
theorem SOk.forg {T : TS} {sd w h : Nat} {F : Nat → Option Nat} {B : Nat → Nat} {wo : Nat → Option Nat} {rd fd : Bool} {tl : Nat → Nat} {gs tk n : Nat} {cx cy : Nat → Int32} {ce : Nat → Nat} {ct : Nat → Nat → Nat} (hS : SOk T sd w h F B wo rd fd tl gs tk n cx cy ce ct) : SOk T sd w h F B wo rd fd tl gs tk 0 cx cy ce ct := by
  obtain ⟨h1, h2, h3, h4, h5, h6⟩ := hS
  exact ⟨h1, h2, h3, h4, h5, Nat.zero_le _, fun i j hi => absurd hi (Nat.not_lt_zero _), fun k hk => absurd hk (Nat.not_lt_zero _)⟩
theorem wrongP_c {T : TS} {N : Nat} {wo : Nat → Option Nat} {p q : Nat → Nat} (he : ∀ k, k < N → p k = q k) (h : wrongP T N wo q) : wrongP T N wo p := by
  rcases h with ⟨k, h1, h2⟩ | ⟨t, m, h1, h2, h3⟩
  · exact Or.inl ⟨k, h1, by rw [he k h1]; exact h2⟩
  · refine Or.inr ⟨t, m, h1, h2, ?_⟩
    have : al p t N = al q t N := cntB_c (fun i hi => by rw [he i hi])
    rw [this]
    exact h3
theorem SOk.fill {T : TS} {sd w h : Nat} {F : Nat → Option Nat} {B : Nat → Nat} {wo : Nat → Option Nat} {rd fd : Bool} {tl : Nat → Nat} {gs tk n : Nat} {cx cy : Nat → Int32} {ce : Nat → Nat} {ct : Nat → Nat → Nat} {lim : Nat} (hS : SOk T sd w h F B wo rd fd tl gs tk n cx cy ce ct) : SOk T sd w h F B wo rd ((fres T w h wo rd lim (possM T F B) (nI sd)).1 == 100) (tof (fres T w h wo rd lim (possM T F B) (nI sd)).2.1) (fres T w h wo rd lim (possM T F B) (nI sd)).2.2.1 (fres T w h wo rd lim (possM T F B) (nI sd)).2.2.2 n cx cy ce ct := by
  have he := fres_end (wo := wo) (road := rd) (lim := lim) (s := nI sd) hS.1 hS.2.1.1 (possM_pn (T := T) hS.2.1)
  obtain ⟨h1, h2, h3, h4, h5, h6⟩ := hS
  refine ⟨h1, h2, h3, h4, fun q => ?_, h6⟩
  revert q he
  generalize fres T w h wo rd lim (possM T F B) (nI sd) = r
  intro he q
  have hr : r.1 = 100 := by simpa using q
  obtain ⟨-, hpn, hgo⟩ := he
  obtain ⟨g1, g2, g3⟩ := hgo hr
  have hto := tof_ok h1 hpn (fun q => g1 (Or.inl q)) g2
  refine ⟨fun k hk => (hto k hk).1, fun k d j hk hd hn => ?_, fun q => g1 (Or.inl (wrongP_c (fun k hk => (hto k hk).2) q)), ?_⟩
  · have hj := nb_lt hk hn
    have := g3 k d j hk hd hn (tof r.2.1 j) (by rw [(hto j hj).2]; exact Nat.testBit_two_pow_self)
    rw [fitM_bit] at this
    obtain ⟨-, t, -, t1, t2⟩ := this
    rw [(hto k hk).2, Nat.testBit_two_pow, decide_eq_true_eq] at t1
    rw [t1]
    exact t2
  · exact Classical.byContradiction (fun q => g1 (Or.inr ⟨g2, q⟩))
theorem SOk.visit {T : TS} {sd w h : Nat} {F : Nat → Option Nat} {B : Nat → Nat} {wo : Nat → Option Nat} {rd fd : Bool} {tl : Nat → Nat} {gs tk n : Nat} {cx cy : Nat → Int32} {ce : Nat → Nat} {ct : Nat → Nat → Nat} {x y : Int32} (hS : SOk T sd w h F B wo rd fd tl gs tk n cx cy ce ct) (hf : fnd cx cy x y n = none) (hn : n < 30) : SOk T sd w h F B wo rd fd tl gs tk (n + 1) (upd cx n x) (upd cy n y) (fu ce n (chR T sd x y).1) (fut ct n (tof (chR T sd x y).2.1)) := by
  obtain ⟨h1, h2, h3, h4, h5, h6, h7, h8⟩ := hS
  have hno : ∀ i, i < n → ¬ (cx i = x ∧ cy i = y) := by
    have key : ∀ m, fnd cx cy x y m = none → ∀ i, i < m → ¬ (cx i = x ∧ cy i = y) := by
      intro m
      induction m with
      | zero => intro _ i hi; exact absurd hi (Nat.not_lt_zero _)
      | succ m ih =>
        intro h0 i hi
        rw [fnd_s] at h0
        cases hm : fnd cx cy x y m with
        | some j => rw [hm] at h0; cases h0
        | none =>
          rw [hm] at h0
          simp only at h0
          by_cases e : i = m
          · subst e
            intro q
            rw [if_pos q] at h0
            cases h0
          · exact ih hm i (by omega)
    exact key n hf
  refine ⟨h1, h2, h3, h4, h5, hn, fun i j hi hj e1 e2 => ?_, fun k hk => ?_⟩
  · by_cases ei : i = n
    · by_cases ej : j = n
      · omega
      · rw [ei, upd_s, upd_n ej] at e1 e2
        exact absurd ⟨e1.symm, e2.symm⟩ (hno j (by omega))
    · by_cases ej : j = n
      · rw [ej, upd_s, upd_n ei] at e1 e2
        exact absurd ⟨e1, e2⟩ (hno i (by omega))
      · rw [upd_n ei, upd_n ej] at e1 e2
        exact h7 i j (by omega) (by omega) e1 e2
  · by_cases e : k = n
    · subst e
      rw [upd_s, upd_s, fu_s]
      simp only [fut, if_true]
      exact ⟨rfl, fun _ _ _ => rfl⟩
    · rw [upd_n e, upd_n e, fu_n e]
      simp only [fut, e, if_false]
      exact h8 k (by omega)
theorem nI_p2 (a : Nat) : nI a + 2 = nI (a + 2) := nI_add a 2
theorem nI_p3 (a : Nat) : nI a + 3 = nI (a + 3) := nI_add a 3
theorem nI_p4 (a : Nat) : nI a + 4 = nI (a + 4) := nI_add a 4
theorem nI_p5 (a : Nat) : nI a + 5 = nI (a + 5) := nI_add a 5
theorem i30 : ((3 : Int32) = 0) = False := eq_false (by decide)
