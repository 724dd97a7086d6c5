/-! the states that the calls lead to -/
theorem fr_low {M M' : qM} (h : ∀ b, b < 101 → M'[b]? = M[b]?) : ∃ hi, Fr 101 hi M M' := by
  refine ⟨max M.length M'.length, fun a q => ?_⟩
  rcases q with q | q
  · exact h a q
  · rw [List.getElem?_eq_none (by omega), List.getElem?_eq_none (by omega)]
theorem InvC.low {M M' : qM} {T : TS} {sd w h : Nat} {F : Nat → Option Nat} {B : Nat → Nat} {wo : Nat → Option Nat} {rd fd : Bool} {tl : Nat → Nat} {gs tk n : Nat} {cx cy : Nat → Int32} {ce : Nat → Nat} {ct : Nat → Nat → Nat} (hI : InvC M T sd w h F B wo rd fd tl gs tk n cx cy ce ct) (hu : ∀ b : Nat, b < 101 → M'[b]? = M[b]?) : InvC M' T sd w h F B wo rd fd tl gs tk n cx cy ce ct := by
  obtain ⟨hi, hf⟩ := fr_low hu
  exact hI.fr hf (by omega)
theorem SOk.unf {T : TS} {sd w h : Nat} {F : Nat → Option Nat} {B : Nat → Nat} {wo : Nat → Option Nat} {rd fd : Bool} {tl : Nat → Nat} {gs tk n : Nat} {cx cy : Nat → Int32} {ce : Nat → Nat} {ct : Nat → Nat → Nat} (hS : SOk T sd w h F B wo rd fd tl gs tk n cx cy ce ct) : SOk T sd w h F B wo rd false tl gs tk n cx cy ce ct := by
  obtain ⟨h1, h2, h3, h4, h5, h6⟩ := hS
  exact ⟨h1, h2, h3, h4, fun q => (by cases q), h6⟩
theorem SOk.add {T : TS} {sd w h : Nat} {F : Nat → Option Nat} {B : Nat → Nat} {wo : Nat → Option Nat} {rd fd : Bool} {tl : Nat → Nat} {gs tk n : Nat} {cx cy : Nat → Int32} {ce : Nat → Nat} {ct : Nat → Nat → Nat} {u r d l wt : Int32} (hS : SOk T sd w h F B wo rd fd tl gs tk n cx cy ce ct) (hok : okT u r d l wt) (hn : T.n < 8) : SOk (addT T (cn u) (cn r) (cn d) (cn l) (cn wt)) sd w h F B wo rd false tl gs tk 0 cx cy ce ct := by
  obtain ⟨a1, a2, a3, a4, a5⟩ := hok
  obtain ⟨w1, w2⟩ := cn_le (m := 9) (by decide) (Int32.le_trans (by decide) a5.1) a5.2
  refine hS.noCh _ _ (addT_ok hS.1 hn (col_cn a1).2 (col_cn a2).2 (col_cn a3).2 (col_cn a4).2 ?_ w2) (Nat.le_succ _) hS.2.2.1
  have := a5.1
  rw [w1] at this
  exact (nI_leI (a := 1) (by decide) (by omega)).mp this
theorem SOk.seed {T : TS} {sd w h : Nat} {F : Nat → Option Nat} {B : Nat → Nat} {wo : Nat → Option Nat} {rd fd : Bool} {tl : Nat → Nat} {gs tk n : Nat} {cx cy : Nat → Int32} {ce : Nat → Nat} {ct : Nat → Nat → Nat} {x : Int32} (hS : SOk T sd w h F B wo rd fd tl gs tk n cx cy ce ct) (hx : 0 ≤ x ∧ x ≤ 99999) : SOk T (cn x) w h F B wo rd false tl gs tk 0 cx cy ce ct :=
  hS.noCh T _ hS.1 (Nat.le_refl _) (by have := (cn_le (m := 99999) (by decide) hx.1 hx.2).2; omega)
theorem SOk.size {T : TS} {sd w h : Nat} {F : Nat → Option Nat} {B : Nat → Nat} {wo : Nat → Option Nat} {rd fd : Bool} {tl : Nat → Nat} {gs tk n : Nat} {cx cy : Nat → Int32} {ce : Nat → Nat} {ct : Nat → Nat → Nat} {x y : Int32} (hS : SOk T sd w h F B wo rd fd tl gs tk n cx cy ce ct) (hx : sideP x) (hy : sideP y) : SOk T sd (cn x) (cn y) (fun _ => none) (fun _ => 0) wo rd false tl gs tk n cx cy ce ct := by
  obtain ⟨h1, h2, h3, h4, h5, h6⟩ := hS
  obtain ⟨-, x2, x3⟩ := side_cn hx
  obtain ⟨-, y2, y3⟩ := side_cn hy
  exact ⟨h1, ⟨⟨x2, x3, y2, y3⟩, fun k _ => ⟨fun t q => (by cases q), (show 0 < 256 by decide)⟩⟩, h3, h4, fun q => (by cases q), h6⟩
theorem SOk.most {T : TS} {sd w h : Nat} {F : Nat → Option Nat} {B : Nat → Nat} {wo : Nat → Option Nat} {rd fd : Bool} {tl : Nat → Nat} {gs tk n : Nat} {cx cy : Nat → Int32} {ce : Nat → Nat} {ct : Nat → Nat → Nat} {t x : Int32} (hS : SOk T sd w h F B wo rd fd tl gs tk n cx cy ce ct) (hx : mostP x) : SOk T sd w h F B (fuO wo (cn t) (oI x)) rd false tl gs tk n cx cy ce ct := by
  obtain ⟨h1, h2, h3, h4, h5, h6⟩ := hS
  refine ⟨h1, h2, h3, fun u m q => ?_, fun q => (by cases q), h6⟩
  by_cases e : u = cn t
  · rw [e, fuO_s] at q
    have := (oI_e hx).2 m q
    omega
  · rw [fuO_n e] at q
    exact h4 u m q
theorem SOk.road {T : TS} {sd w h : Nat} {F : Nat → Option Nat} {B : Nat → Nat} {wo : Nat → Option Nat} {rd fd : Bool} {tl : Nat → Nat} {gs tk n : Nat} {cx cy : Nat → Int32} {ce : Nat → Nat} {ct : Nat → Nat → Nat} (hS : SOk T sd w h F B wo rd fd tl gs tk n cx cy ce ct) (b : Bool) : SOk T sd w h F B wo b false tl gs tk n cx cy ce ct := by
  obtain ⟨h1, h2, h3, h4, h5, h6⟩ := hS
  exact ⟨h1, h2, h3, h4, fun q => (by cases q), h6⟩
theorem SOk.forg {T : TS} {sd w h : Nat} {F : Nat → Option Nat} {B : Nat → Nat} {wo : Nat → Option Nat} {rd fd : Bool} {tl : Nat → Nat} {gs tk n : Nat} {cx cy : Nat → Int32} {ce : Nat → Nat} {ct : Nat → Nat → Nat} (hS : SOk T sd w h F B wo rd fd tl gs tk n cx cy ce ct) : SOk T sd w h F B wo rd fd tl gs tk 0 cx cy ce ct := by
  obtain ⟨h1, h2, h3, h4, h5, h6⟩ := hS
  exact ⟨h1, h2, h3, h4, h5, Nat.zero_le _, fun i j hi => absurd hi (Nat.not_lt_zero _), fun k hk => absurd hk (Nat.not_lt_zero _)⟩
theorem wrongP_c {T : TS} {N : Nat} {wo : Nat → Option Nat} {p q : Nat → Nat} (he : ∀ k, k < N → p k = q k) (h : wrongP T N wo q) : wrongP T N wo p := by
  rcases h with ⟨k, h1, h2⟩ | ⟨t, m, h1, h2, h3⟩
  · exact Or.inl ⟨k, h1, by rw [he k h1]; exact h2⟩
  · refine Or.inr ⟨t, m, h1, h2, ?_⟩
    have : al p t N = al q t N := cntB_c (fun i hi => by rw [he i hi])
    rw [this]
    exact h3
theorem SOk.fill {T : TS} {sd w h : Nat} {F : Nat → Option Nat} {B : Nat → Nat} {wo : Nat → Option Nat} {rd fd : Bool} {tl : Nat → Nat} {gs tk n : Nat} {cx cy : Nat → Int32} {ce : Nat → Nat} {ct : Nat → Nat → Nat} {lim : Nat} (hS : SOk T sd w h F B wo rd fd tl gs tk n cx cy ce ct) : SOk T sd w h F B wo rd ((fres T w h wo rd lim (possM T F B) (nI sd)).1 == 100) (tof (fres T w h wo rd lim (possM T F B) (nI sd)).2.1) (fres T w h wo rd lim (possM T F B) (nI sd)).2.2.1 (fres T w h wo rd lim (possM T F B) (nI sd)).2.2.2 n cx cy ce ct := by
  have he := fres_end (wo := wo) (road := rd) (lim := lim) (s := nI sd) hS.1 hS.2.1.1 (possM_pn (T := T) hS.2.1)
  obtain ⟨h1, h2, h3, h4, h5, h6⟩ := hS
  refine ⟨h1, h2, h3, h4, fun q => ?_, h6⟩
  revert q he
  generalize fres T w h wo rd lim (possM T F B) (nI sd) = r
  intro he q
  have hr : r.1 = 100 := by simpa using q
  obtain ⟨-, hpn, hgo⟩ := he
  obtain ⟨g1, g2, g3⟩ := hgo hr
  have hto := tof_ok h1 hpn (fun q => g1 (Or.inl q)) g2
  refine ⟨fun k hk => (hto k hk).1, fun k d j hk hd hn => ?_, fun q => g1 (Or.inl (wrongP_c (fun k hk => (hto k hk).2) q)), ?_⟩
  · have hj := nb_lt hk hn
    have := g3 k d j hk hd hn (tof r.2.1 j) (by rw [(hto j hj).2]; exact Nat.testBit_two_pow_self)
    rw [fitM_bit] at this
    obtain ⟨-, t, -, t1, t2⟩ := this
    rw [(hto k hk).2, Nat.testBit_two_pow, decide_eq_true_eq] at t1
    rw [t1]
    exact t2
  · exact Classical.byContradiction (fun q => g1 (Or.inr ⟨g2, q⟩))
theorem SOk.visit {T : TS} {sd w h : Nat} {F : Nat → Option Nat} {B : Nat → Nat} {wo : Nat → Option Nat} {rd fd : Bool} {tl : Nat → Nat} {gs tk n : Nat} {cx cy : Nat → Int32} {ce : Nat → Nat} {ct : Nat → Nat → Nat} {x y : Int32} (hS : SOk T sd w h F B wo rd fd tl gs tk n cx cy ce ct) (hf : fnd cx cy x y n = none) (hn : n < 30) : SOk T sd w h F B wo rd fd tl gs tk (n + 1) (upd cx n x) (upd cy n y) (fu ce n (chR T sd x y).1) (fut ct n (tof (chR T sd x y).2.1)) := by
  obtain ⟨h1, h2, h3, h4, h5, h6, h7, h8⟩ := hS
  have hno : ∀ i, i < n → ¬ (cx i = x ∧ cy i = y) := by
    have key : ∀ m, fnd cx cy x y m = none → ∀ i, i < m → ¬ (cx i = x ∧ cy i = y) := by
      intro m
      induction m with
      | zero => intro _ i hi; exact absurd hi (Nat.not_lt_zero _)
      | succ m ih =>
        intro h0 i hi
        rw [fnd_s] at h0
        cases hm : fnd cx cy x y m with
        | some j => rw [hm] at h0; cases h0
        | none =>
          rw [hm] at h0
          simp only at h0
          by_cases e : i = m
          · subst e
            intro q
            rw [if_pos q] at h0
            cases h0
          · exact ih hm i (by omega)
    exact key n hf
  refine ⟨h1, h2, h3, h4, h5, hn, fun i j hi hj e1 e2 => ?_, fun k hk => ?_⟩
  · by_cases ei : i = n
    · by_cases ej : j = n
      · omega
      · rw [ei, upd_s, upd_n ej] at e1 e2
        exact absurd ⟨e1.symm, e2.symm⟩ (hno j (by omega))
    · by_cases ej : j = n
      · rw [ej, upd_s, upd_n ei] at e1 e2
        exact absurd ⟨e1, e2⟩ (hno i (by omega))
      · rw [upd_n ei, upd_n ej] at e1 e2
        exact h7 i j (by omega) (by omega) e1 e2
  · by_cases e : k = n
    · subst e
      rw [upd_s, upd_s, fu_s]
      simp only [fut, if_true]
      exact ⟨rfl, fun _ _ _ => rfl⟩
    · rw [upd_n e, upd_n e, fu_n e]
      simp only [fut, e, if_false]
      exact h8 k (by omega)
theorem ald_S {N : Nat} {xs : Nat → Int32} {M : qM} {j : Nat} (h : M[qSCR]? = none) (hj : j < N) (hN : N ≤ 260) : qald (some (N, xs)) M qSCR 0 (nI j) = some (.int (xs j)) := by
  unfold qald
  rw [h]
  simp only [qIn_nI hj (show N < 2147483648 by omega), and_self, if_true, nI_clamp (show j < 2 ^ 31 by omega)]
theorem len_S {N : Nat} {xs : Nat → Int32} {M : qM} (h : M[qSCR]? = none) : qlen (some (N, xs)) M qSCR = some (nI N) := by
  unfold qlen
  rw [h]
  simp only [if_true]
  rfl
theorem lg_same (x : Int64) : lg_cmp x x = 0 := (lg_cmp_eq x x).mpr rfl
