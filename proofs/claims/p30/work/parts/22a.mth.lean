/-! the mathematics of this law: what a filling that ends with 110, 100 or 108 says of all the ways to fill -/
/-- a filling of the world with all wishes -/
def Good (T : TS) (w h : Nat) (wo : Nat → Option Nat) (road : Bool) (tl : Nat → Nat) : Prop := (∀ k, k < w * h → tl k < T.n) ∧ fitP T w h tl ∧ ¬ wrongP T (w * h) wo (pw tl) ∧ rdOk T w h road tl
def InP (N : Nat) (p tl : Nat → Nat) : Prop := ∀ k, k < N → (p k).testBit (tl k) = true
theorem InP.sub {N : Nat} {p tl : Nat → Nat} (h : InP N p tl) : SubN N (pw tl) p := fun k hk => pow_sb (h k hk)
theorem InP.of {N : Nat} {p tl : Nat → Nat} (h : SubN N (pw tl) p) : InP N p tl := fun k hk => h k hk (tl k) (by
  show (2 ^ tl k).testBit (tl k) = true
  exact Nat.testBit_two_pow_self)
theorem InP.up {N : Nat} {p q tl : Nat → Nat} (h : InP N p tl) (hs : SubN N p q) : InP N q tl := fun k hk => hs k hk _ (h k hk)
theorem pw_stab {T : TS} {w h : Nat} {tl : Nat → Nat} (ht : ∀ k, k < w * h → tl k < T.n) (hf : fitP T w h tl) : Stab T w h (pw tl) := by
  intro k d k2 hk hd hn u hu
  have hu : (2 ^ tl k2).testBit u = true := hu
  rw [Nat.testBit_two_pow, decide_eq_true_eq] at hu
  subst hu
  rw [fitM_bit]
  refine ⟨ht k2 (nb_lt hk hn), tl k, ht k hk, ?_, hf k d k2 hk hd hn⟩
  show (2 ^ tl k).testBit (tl k) = true
  exact Nat.testBit_two_pow_self
theorem InP.nar {T : TS} {w h : Nat} {wo : Nat → Option Nat} {road : Bool} {p tl : Nat → Nat} (hG : Good T w h wo road tl) (hm : Msk (w * h) p) (hI : InP (w * h) p tl) : InP (w * h) (narF T w h p) tl :=
  InP.of ((narF_is hm).1.2 (pw tl) (pw_stab hG.1 hG.2.1) hI.sub)
theorem InP.ok {T : TS} {w h : Nat} {wo : Nat → Option Nat} {road : Bool} {p tl : Nat → Nat} (hk : TOk T) (hp : PN T (w * h) p) (hG : Good T w h wo road tl) (hI : InP (w * h) p tl) : ¬ goneP T w h wo road p := by
  have hw : ¬ wrongP T (w * h) wo p := by
    rintro (⟨k, h1, h2⟩ | ⟨t, m, h1, h2, h3⟩)
    · have := hI k h1
      rw [h2, Nat.zero_testBit] at this
      cases this
    · refine hG.2.2.1 (Or.inr ⟨t, m, h1, h2, Nat.lt_of_lt_of_le h3 ?_⟩)
      refine cntB_mono (fun i hi q => ?_)
      have q : p i = 2 ^ t := by simpa using q
      have q2 := hI i hi
      rw [q, Nat.testBit_two_pow, decide_eq_true_eq] at q2
      have : pw tl i = 2 ^ t := by
        show 2 ^ tl i = 2 ^ t
        rw [q2]
      simpa using this
  rintro (h1 | ⟨h1, h2⟩)
  · exact hw h1
  · refine h2 ((rdOk_c (fun k hk2 => ?_)).mp hG.2.2.2)
    have h3 := (tof_ok hk hp hw h1 k hk2).2
    have h4 := hI k hk2
    rw [h3, Nat.testBit_two_pow, decide_eq_true_eq] at h4
    exact h4.symm
theorem InP.fuS {N c v : Nat} {p tl : Nat → Nat} (hI : InP N p tl) (hv : v.testBit (tl c) = true) : InP N (fu p c v) tl := by
  intro k hk
  by_cases e : k = c
  · rw [e, fu_s]; exact hv
  · rw [fu_n e]; exact hI k hk
/-- 110: nothing is left, neither here nor in what was put aside -/
theorem frun_110 {T : TS} {w h : Nat} {wo : Nat → Option Nat} {road : Bool} {lim : Nat} (hk : TOk T) {tl : Nat → Nat} (hG : Good T w h wo road tl) : ∀ (f n : Nat) (p : Nat → Nat) (sn : Nat → Nat → Nat) (gc gt : Nat → Nat) (s : Int32) (gs tk : Nat), FInv T w h lim f n p sn gc gt tk → (frun T w h wo road lim f n p sn gc gt s gs tk).1 = 110 → ¬ (InP (w * h) p tl ∨ ∃ i, i < n ∧ InP (w * h) (sn i) tl ∧ tl (gc i) ≠ gt i) := by
  intro f
  induction f with
  | zero =>
    intro n p sn gc gt s gs tk hI hr
    rw [frun] at hr
    exact absurd hr (by show ¬ (0 : Nat) = 110; decide)
  | succ f ih =>
    intro n p sn gc gt s gs tk hI hr
    have h8 := hk.1
    rw [frun] at hr
    by_cases hg : goneP T w h wo road p
    · rw [if_pos (cB_iff.mpr hg)] at hr
      have h0 : ¬ InP (w * h) p tl := fun q => q.ok hk hI.2.2.2.1 hG hg
      by_cases hn : n = 0
      · subst hn
        rintro (q | ⟨i, hi, -⟩)
        · exact h0 q
        · exact absurd hi (Nat.not_lt_zero _)
      · rw [if_neg hn] at hr
        by_cases hl : lim ≤ tk
        · rw [if_pos hl] at hr
          exact absurd hr (by show ¬ (108 : Nat) = 110; decide)
        · rw [if_neg hl] at hr
          obtain ⟨m, rfl⟩ : ∃ m, n = m + 1 := ⟨n - 1, by omega⟩
          have ih := ih m _ sn gc gt s gs (tk + 1) (hI.back hk (by omega)) hr
          obtain ⟨a1, a2, a3, a4, a5, a6⟩ := hI.2.2.2.2.2 m (Nat.lt_succ_self _)
          rintro (q | ⟨i, hi, q1, q2⟩)
          · exact h0 q
          · by_cases e : i = m
            · subst e
              refine ih (Or.inl (InP.nar hG ?_ (q1.fuS ?_)))
              · exact (PN_fu a2 (clr_lt (a2 _ a4))).msk hk
              · rw [clr_bit (gt i) (by omega) (sn i (gc i)) ((a2.msk hk) _ a4) (tl (gc i)) (by have := hG.1 _ a4; omega), q1 _ a4]
                simpa using q2
            · exact ih (Or.inr ⟨i, by omega, q1, q2⟩)
    · rw [if_neg (fun q => hg (cB_iff.mp q))] at hr
      cases hf : few p (w * h) with
      | none =>
        rw [hf] at hr
        exact absurd hr (by show ¬ (100 : Nat) = 110; decide)
      | some c =>
        rw [hf] at hr
        obtain ⟨c1, c2⟩ := few_some hf
        have hd := dtl_ok (s := s) hk (hI.2.2.2.1 c c1) c2
        have ih := ih (n + 1) _ _ _ _ _ (gs + 1) tk (hI.guess hk hf hd.2.1 hd.2.2) hr
        rintro (q | ⟨i, hi, q1, q2⟩)
        · by_cases e : tl c = dtl T (p c) s
          · refine ih (Or.inl (InP.nar hG ?_ (q.fuS ?_)))
            · exact (PN_fu hI.2.2.2.1 (Nat.pow_lt_pow_right (by decide) hd.2.1)).msk hk
            · rw [e]
              exact Nat.testBit_two_pow_self
          · refine ih (Or.inr ⟨n, Nat.lt_succ_self _, ?_, ?_⟩)
            · show InP (w * h) (snu sn n p n) tl
              unfold snu
              rw [if_pos rfl]
              exact q
            · rw [fu_s, fu_s]
              exact e
        · refine ih (Or.inr ⟨i, by omega, ?_, ?_⟩)
          · show InP (w * h) (snu sn n p i) tl
            unfold snu
            rw [if_neg (by omega)]
            exact q1
          · rw [fu_n (by omega), fu_n (by omega)]
            exact q2
theorem fres_110 {T : TS} {w h : Nat} {wo : Nat → Option Nat} {road : Bool} {lim : Nat} {p tl : Nat → Nat} {s : Int32} (hk : TOk T) (hp : PN T (w * h) p) (hr : (fres T w h wo road lim p s).1 = 110) (hG : Good T w h wo road tl) : ¬ InP (w * h) p tl := by
  intro q
  have hn := narF_is (T := T) (hp.msk hk)
  exact frun_110 hk hG _ _ _ _ _ _ _ _ _ (FInv.start (narF_pn hk hp) hn.2) hr (Or.inl (q.nar hG (hp.msk hk)))
/-- how many guesses, how many taken back -/
theorem frun_b {T : TS} {w h : Nat} {wo : Nat → Option Nat} {road : Bool} {lim : Nat} (hk : TOk T) : ∀ (f n : Nat) (p : Nat → Nat) (sn : Nat → Nat → Nat) (gc gt : Nat → Nat) (s : Int32) (gs tk : Nat), FInv T w h lim f n p sn gc gt tk → n + tk = gs → (frun T w h wo road lim f n p sn gc gt s gs tk).2.2.2 ≤ lim ∧ (frun T w h wo road lim f n p sn gc gt s gs tk).2.2.2 ≤ (frun T w h wo road lim f n p sn gc gt s gs tk).2.2.1 ∧ (frun T w h wo road lim f n p sn gc gt s gs tk).2.2.1 ≤ gs + f ∧ ((frun T w h wo road lim f n p sn gc gt s gs tk).1 = 108 → (frun T w h wo road lim f n p sn gc gt s gs tk).2.2.2 = lim) := by
  intro f
  induction f with
  | zero =>
    intro n p sn gc gt s gs tk hI he
    rw [frun]
    exact ⟨hI.2.1, by show tk ≤ gs; omega, by show gs ≤ gs + 0; omega, fun q => absurd q (by show ¬ (0 : Nat) = 108; decide)⟩
  | succ f ih =>
    intro n p sn gc gt s gs tk hI he
    rw [frun]
    by_cases hg : goneP T w h wo road p
    · rw [if_pos (cB_iff.mpr hg)]
      by_cases hn : n = 0
      · rw [if_pos hn]
        exact ⟨hI.2.1, by show tk ≤ gs; omega, by show gs ≤ gs + (f + 1); omega, fun q => absurd q (by show ¬ (110 : Nat) = 108; decide)⟩
      · rw [if_neg hn]
        by_cases hl : lim ≤ tk
        · rw [if_pos hl]
          exact ⟨hI.2.1, by show tk ≤ gs; omega, by show gs ≤ gs + (f + 1); omega, fun _ => Nat.le_antisymm hI.2.1 hl⟩
        · rw [if_neg hl]
          obtain ⟨m, rfl⟩ : ∃ m, n = m + 1 := ⟨n - 1, by omega⟩
          obtain ⟨r1, r2, r3, r4⟩ := ih m (narF T w h (fu (sn m) (gc m) (sn m (gc m) &&& (255 - 2 ^ gt m)))) sn gc gt s gs (tk + 1) (hI.back hk (by omega)) (by omega)
          exact ⟨r1, r2, Nat.le_trans r3 (by omega), r4⟩
    · rw [if_neg (fun q => hg (cB_iff.mp q))]
      cases hf : few p (w * h) with
      | none => exact ⟨hI.2.1, by show tk ≤ gs; omega, by show gs ≤ gs + (f + 1); omega, fun q => absurd q (by show ¬ (100 : Nat) = 108; decide)⟩
      | some c =>
        obtain ⟨c1, c2⟩ := few_some hf
        have hd := dtl_ok (s := s) hk (hI.2.2.2.1 c c1) c2
        obtain ⟨r1, r2, r3, r4⟩ := ih (n + 1) _ _ _ _ (nxt s) (gs + 1) tk (hI.guess hk hf hd.2.1 hd.2.2) (by omega)
        exact ⟨r1, r2, Nat.le_trans r3 (by omega), r4⟩
theorem fres_b {T : TS} {w h : Nat} {wo : Nat → Option Nat} {road : Bool} {lim : Nat} {p : Nat → Nat} {s : Int32} (hk : TOk T) (hp : PN T (w * h) p) : (fres T w h wo road lim p s).2.2.2 ≤ lim ∧ (fres T w h wo road lim p s).2.2.2 ≤ (fres T w h wo road lim p s).2.2.1 ∧ (fres T w h wo road lim p s).2.2.1 ≤ 2 * lim + 38 ∧ ((fres T w h wo road lim p s).1 = 108 → (fres T w h wo road lim p s).2.2.2 = lim) := by
  have hn := narF_is (T := T) (hp.msk hk)
  have := frun_b (wo := wo) (road := road) (lim := lim) hk (2 * lim + 38) 0 (narF T w h p) (fun _ _ => 0) (fun _ => 0) (fun _ => 0) s 0 0 (FInv.start (narF_pn hk hp) hn.2) rfl
  rw [Nat.zero_add] at this
  exact this
/-- what a filling ends with lies in what was possible at first -/
theorem frun_sub {T : TS} {w h : Nat} {wo : Nat → Option Nat} {road : Bool} {lim : Nat} (hk : TOk T) {p0 : Nat → Nat} : ∀ (f n : Nat) (p : Nat → Nat) (sn : Nat → Nat → Nat) (gc gt : Nat → Nat) (s : Int32) (gs tk : Nat), FInv T w h lim f n p sn gc gt tk → SubN (w * h) p p0 → (∀ i, i < n → SubN (w * h) (sn i) p0) → SubN (w * h) (frun T w h wo road lim f n p sn gc gt s gs tk).2.1 p0 := by
  intro f
  induction f with
  | zero =>
    intro n p sn gc gt s gs tk hI h1 h2
    rw [frun]
    exact h1
  | succ f ih =>
    intro n p sn gc gt s gs tk hI h1 h2
    rw [frun]
    by_cases hg : goneP T w h wo road p
    · rw [if_pos (cB_iff.mpr hg)]
      by_cases hn : n = 0
      · rw [if_pos hn]
        exact h1
      · rw [if_neg hn]
        by_cases hl : lim ≤ tk
        · rw [if_pos hl]
          exact h1
        · rw [if_neg hl]
          obtain ⟨m, rfl⟩ : ∃ m, n = m + 1 := ⟨n - 1, by omega⟩
          obtain ⟨a1, a2, a3, a4, a5, a6⟩ := hI.2.2.2.2.2 m (Nat.lt_succ_self _)
          show SubN (w * h) (frun T w h wo road lim f m (narF T w h (fu (sn m) (gc m) (sn m (gc m) &&& (255 - 2 ^ gt m)))) sn gc gt s gs (tk + 1)).2.1 p0
          refine ih m _ sn gc gt s gs (tk + 1) (hI.back hk (by omega)) ?_ (fun i hi => h2 i (by omega))
          refine ((narF_is ((PN_fu a2 (clr_lt (a2 _ a4))).msk hk)).1.1).trans (fun i hi => ?_)
          by_cases e : i = gc m
          · rw [e, fu_s]
            exact (Sb.and_l _ _).trans (h2 m (Nat.lt_succ_self _) _ a4)
          · rw [fu_n e]
            exact h2 m (Nat.lt_succ_self _) i hi
    · rw [if_neg (fun q => hg (cB_iff.mp q))]
      cases hf : few p (w * h) with
      | none => exact h1
      | some c =>
        obtain ⟨c1, c2⟩ := few_some hf
        have hd := dtl_ok (s := s) hk (hI.2.2.2.1 c c1) c2
        refine ih (n + 1) _ _ _ _ (nxt s) (gs + 1) tk (hI.guess hk hf hd.2.1 hd.2.2) ?_ (fun i hi => ?_)
        · refine ((narF_is ((PN_fu hI.2.2.2.1 (Nat.pow_lt_pow_right (by decide) hd.2.1)).msk hk)).1.1).trans (fun i hi => ?_)
          by_cases e : i = c
          · rw [e, fu_s]
            exact (pow_sb hd.2.2).trans (h1 c c1)
          · rw [fu_n e]
            exact h1 i hi
        · unfold snu
          split
          · exact h1
          · exact h2 i (by omega)
theorem fres_sub {T : TS} {w h : Nat} {wo : Nat → Option Nat} {road : Bool} {lim : Nat} {p : Nat → Nat} {s : Int32} (hk : TOk T) (hp : PN T (w * h) p) : SubN (w * h) (fres T w h wo road lim p s).2.1 p := by
  have hn := narF_is (T := T) (hp.msk hk)
  exact frun_sub hk _ _ _ _ _ _ _ _ _ (FInv.start (narF_pn hk hp) hn.2) hn.1.1 (fun i hi => absurd hi (Nat.not_lt_zero _))
theorem fres_in {T : TS} {w h : Nat} {wo : Nat → Option Nat} {road : Bool} {lim : Nat} {p : Nat → Nat} {s : Int32} (hk : TOk T) (hD : Dim w h) (hp : PN T (w * h) p) (hr : (fres T w h wo road lim p s).1 = 100) : InP (w * h) p (tof (fres T w h wo road lim p s).2.1) := by
  obtain ⟨-, h2, h3⟩ := fres_end (wo := wo) (road := road) (lim := lim) (s := s) hk hD hp
  obtain ⟨g1, g2, g3⟩ := h3 hr
  have hto := tof_ok hk h2 (fun q => g1 (Or.inl q)) g2
  intro k hk2
  refine fres_sub (wo := wo) (road := road) (lim := lim) (s := s) hk hp k hk2 _ ?_
  rw [(hto k hk2).2]
  have e : tof (fun i => 2 ^ tof (fres T w h wo road lim p s).2.1 i) k = tof (fres T w h wo road lim p s).2.1 k := low_pow _ (by have := (hto k hk2).1; have := hk.1; omega)
  exact Nat.testBit_two_pow_self
/-! ways -/
theorem rst_succ {n num : Nat} : ∀ {k : Nat}, rst n num (k + 1) = rst n (num / n) k
  | 0 => rfl
  | k + 1 => by
    show rst n num (k + 1) / n = rst n (num / n) k / n
    rw [rst_succ]
def enc (n : Nat) : Nat → (Nat → Nat) → Nat
  | 0, _ => 0
  | N + 1, tl => tl 0 + n * enc n N (fun k => tl (k + 1))
theorem enc_lt {n : Nat} : ∀ {N : Nat} {tl : Nat → Nat}, (∀ k, k < N → tl k < n) → enc n N tl < n ^ N
  | 0, _, _ => by show 0 < 1; decide
  | N + 1, tl, h => by
    have h0 := h 0 (Nat.succ_pos _)
    have h1 := enc_lt (N := N) (tl := fun k => tl (k + 1)) (fun k hk => h (k + 1) (by omega))
    show tl 0 + n * enc n N (fun k => tl (k + 1)) < n ^ (N + 1)
    have h2 : n * (enc n N (fun k => tl (k + 1)) + 1) ≤ n * n ^ N := Nat.mul_le_mul_left n h1
    rw [Nat.pow_succ, Nat.mul_comm (n ^ N) n]
    rw [Nat.mul_succ] at h2
    omega
theorem enc_dgt {n : Nat} : ∀ {N : Nat} {tl : Nat → Nat}, (∀ k, k < N → tl k < n) → ∀ k, k < N → dgt n (enc n N tl) k = tl k
  | 0, _, _, k, hk => absurd hk (Nat.not_lt_zero _)
  | N + 1, tl, h, k, hk => by
    have h0 := h 0 (Nat.succ_pos _)
    have hn : 0 < n := by omega
    cases k with
    | zero =>
      show (tl 0 + n * enc n N (fun k => tl (k + 1))) % n = tl 0
      rw [Nat.add_mul_mod_self_left, Nat.mod_eq_of_lt h0]
    | succ k =>
      unfold dgt
      rw [rst_succ]
      have e : (enc n (N + 1) tl) / n = enc n N (fun k => tl (k + 1)) := by
        show (tl 0 + n * enc n N (fun k => tl (k + 1))) / n = _
        rw [Nat.add_mul_div_left _ _ hn, Nat.div_eq_of_lt h0, Nat.zero_add]
      rw [e]
      exact enc_dgt (N := N) (tl := fun k => tl (k + 1)) (fun k hk => h (k + 1) (by omega)) k (by omega)
theorem cntB_pos {f : Nat → Bool} : ∀ {n k : Nat}, k < n → f k = true → 0 < cntB f n
  | 0, k, hk, _ => absurd hk (Nat.not_lt_zero _)
  | n + 1, k, hk, h => by
    unfold cntB
    by_cases e : k = n
    · subst e
      rw [if_pos h]
      omega
    · have := cntB_pos (n := n) (k := k) (by omega) h
      omega
theorem cntB_ex {f : Nat → Bool} : ∀ {n : Nat}, 0 < cntB f n → ∃ k, k < n ∧ f k = true
  | 0, h => absurd h (Nat.lt_irrefl _)
  | n + 1, h => by
    unfold cntB at h
    by_cases e : f n = true
    · exact ⟨n, Nat.lt_succ_self _, e⟩
    · rw [if_neg e] at h
      obtain ⟨k, h1, h2⟩ := cntB_ex (n := n) (by omega)
      exact ⟨k, by omega, h2⟩
theorem Good_c {T : TS} {w h : Nat} {wo : Nat → Option Nat} {road : Bool} {tl tl' : Nat → Nat} (he : ∀ k, k < w * h → tl k = tl' k) (hG : Good T w h wo road tl) : Good T w h wo road tl' :=
  ⟨fun k hk => by rw [← he k hk]; exact hG.1 k hk, (fitP_c he).mp hG.2.1, fun q => hG.2.2.1 (wrongP_c (fun k hk => by show 2 ^ tl k = 2 ^ tl' k; rw [he k hk]) q), (rdOk_c he).mp hG.2.2.2⟩
theorem nways_pos {T : TS} {w h : Nat} {wo : Nat → Option Nat} {road : Bool} {PM tl : Nat → Nat} (hG : Good T w h wo road tl) (hI : InP (w * h) PM tl) : 0 < nways T w h wo road PM := by
  have e : ∀ k, k < w * h → tl k = dgt T.n (enc T.n (w * h) tl) k := fun k hk => (enc_dgt hG.1 k hk).symm
  have hG2 := Good_c e hG
  refine cntB_pos (enc_lt hG.1) (cB_iff.mpr ⟨fun k hk => ?_, hG2.2⟩)
  rw [← e k hk]
  exact hI k hk
theorem nways_zero {T : TS} {w h : Nat} {wo : Nat → Option Nat} {road : Bool} {PM : Nat → Nat} (hn : 0 < T.n) (hno : ∀ tl, Good T w h wo road tl → ¬ InP (w * h) PM tl) : nways T w h wo road PM = 0 := by
  rcases Nat.eq_zero_or_pos (nways T w h wo road PM) with h0 | h0
  · exact h0
  · obtain ⟨num, -, h2⟩ := cntB_ex h0
    obtain ⟨a1, a2⟩ := cB_iff.mp h2
    exact absurd a1 (hno _ ⟨fun k _ => Nat.mod_lt _ hn, a2⟩)
theorem nways_le {T : TS} {w h : Nat} {wo : Nat → Option Nat} {road : Bool} {PM : Nat → Nat} (hk : TOk T) (hN : w * h ≤ 4) : nways T w h wo road PM ≤ 4096 := Nat.le_trans cntB_le (tries_le hk hN)
/-! pieces of road, and cells with a road -/
theorem npc_pos {T : TS} {w h : Nat} {tl : Nat → Nat} : 0 < npc T w h tl ↔ 0 < cntB (fun k => roadT T (tl k)) (w * h) := by
  constructor
  · intro h0
    obtain ⟨k, h1, h2⟩ := cntB_ex h0
    exact cntB_pos h1 (cB_iff.mp h2).1
  · intro h0
    obtain ⟨k, h1, h2⟩ := cntB_ex h0
    have key : ∀ m k, k < m → k < w * h → roadT T (tl k) = true → ∃ j, j < w * h ∧ Lead T w h tl j := by
      intro m
      induction m with
      | zero => intro k hk; exact absurd hk (Nat.not_lt_zero _)
      | succ m ih =>
        intro k hk h1 h2
        by_cases hl : ∀ j, Conn T w h tl k j → k ≤ j
        · exact ⟨k, h1, h2, hl⟩
        · obtain ⟨j, hj⟩ := Classical.not_forall.mp hl
          obtain ⟨j1, j2⟩ := Classical.not_imp.mp hj
          exact ih j (by omega) (j1.lt h1) (j1.road h2)
    obtain ⟨j, h3, h4⟩ := key _ k (Nat.lt_succ_self _) h1 h2
    exact cntB_pos h3 (cB_iff.mpr h4)
theorem al_tl {tl : Nat → Nat} {t n : Nat} : al (pw tl) t n = cntB (fun k => tl k == t) n := by
  unfold al
  refine cntB_c (fun i _ => ?_)
  show (2 ^ tl i == 2 ^ t) = (tl i == t)
  rw [Bool.eq_iff_iff, beq_iff_eq, beq_iff_eq]
  exact ⟨pow_inj8, fun q => by rw [q]⟩
/-! chunks: the colours at the rim -/
theorem chR_rim {T : TS} {sd : Nat} {x y : Int32} (hk : TOk T) (hr : (chR T sd x y).1 = 100) {c : Nat} (hc : c < 9) : tof (chR T sd x y).2.1 c < T.n ∧ rimP T (nI sd) x y c (tof (chR T sd x y).2.1 c) := by
  have h1 : InP (3 * 3) (chM T (nI sd) x y) (tof (chR T sd x y).2.1) := fres_in (p := chM T (nI sd) x y) hk d33 chM_pn hr
  exact chM_bit.mp (h1 c hc)
