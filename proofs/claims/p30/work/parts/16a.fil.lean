/-! the filling, as mathematics -/
def al (p : Nat → Nat) (t n : Nat) : Nat := cntB (fun k => p k == 2 ^ t) n
theorem al_s {p : Nat → Nat} {t n : Nat} : al p t (n + 1) = al p t n + (if p n = 2 ^ t then 1 else 0) := by
  unfold al
  rw [cntB]
  by_cases h : p n = 2 ^ t
  · simp [h]
  · simp [h]
theorem al_le {p : Nat → Nat} {t n : Nat} : al p t n ≤ n := cntB_le
def wrongP (T : TS) (N : Nat) (wo : Nat → Option Nat) (p : Nat → Nat) : Prop := (∃ k, k < N ∧ p k = 0) ∨ (∃ t m, t < T.n ∧ wo t = some m ∧ m < al p t N)
def few (p : Nat → Nat) : Nat → Option Nat
  | 0 => none
  | n + 1 => match few p n with
    | none => if 1 < cnt (p n) then some n else none
    | some c => if 1 < cnt (p n) ∧ cnt (p n) < cnt (p c) then some n else some c
theorem few_some {p : Nat → Nat} : ∀ {n c : Nat}, few p n = some c → c < n ∧ 1 < cnt (p c)
  | 0, c, h => by cases h
  | n + 1, c, h => by
    unfold few at h
    cases hf : few p n with
    | none =>
      rw [hf] at h
      simp only at h
      split at h
      · cases h
        exact ⟨Nat.lt_succ_self _, by assumption⟩
      · cases h
    | some c0 =>
      rw [hf] at h
      simp only at h
      split at h
      · cases h
        rename_i q
        exact ⟨Nat.lt_succ_self _, q.1⟩
      · cases h
        have := few_some hf
        exact ⟨by omega, this.2⟩
theorem few_none {p : Nat → Nat} : ∀ {n : Nat}, few p n = none → ∀ k, k < n → cnt (p k) ≤ 1
  | 0, _, k, hk => absurd hk (Nat.not_lt_zero _)
  | n + 1, h, k, hk => by
    unfold few at h
    cases hf : few p n with
    | none =>
      rw [hf] at h
      simp only at h
      split at h
      · cases h
      · by_cases e : k = n
        · subst e; omega
        · exact few_none hf k (by omega)
    | some c0 =>
      rw [hf] at h
      simp only at h
      split at h <;> cases h
theorem few_c {p q : Nat → Nat} : ∀ {n : Nat}, (∀ k, k < n → p k = q k) → few p n = few q n
  | 0, _ => rfl
  | n + 1, h => by
    unfold few
    rw [few_c (n := n) (fun k hk => h k (by omega)), h n (by omega)]
    cases hf : few q n with
    | none => rfl
    | some c =>
      have := (few_some hf).1
      simp only [h c (by omega)]
def nxt (s : Int32) : Int32 := s * 1103515245 + 12345 &&& 2147483647
def drn (s : Int32) : Nat := (nxt s >>> (8 &&& 31)).toBitVec.toNat
theorem drn_e (s : Int32) : nxt s >>> (8 &&& 31) = nI (drn s) := by
  apply Int32.toBitVec_inj.mp
  unfold drn
  simp only [nI, Int32.toBitVec_ofNat']
  apply BitVec.eq_of_toNat_eq
  simp only [BitVec.toNat_ofNat]
  exact (Nat.mod_eq_of_lt (nxt s >>> (8 &&& 31)).toBitVec.isLt).symm
theorem drn_lt (s : Int32) : drn s < 2147483648 := by
  unfold drn
  have e : (nxt s >>> (8 &&& 31)).toBitVec = (nxt s).toBitVec.sshiftRight 8 := by
    rw [show ((8 : Int32) &&& 31) = 8 from by decide, Int32.toBitVec_shiftRight]
    rfl
  have m : (nxt s).toBitVec.msb = false := by
    unfold nxt
    rw [Int32.toBitVec_and, BitVec.msb_and, show (2147483647 : Int32).toBitVec.msb = false from by decide, Bool.and_false]
  rw [e, BitVec.toNat_sshiftRight_of_msb_false m, Nat.shiftRight_eq_div_pow]
  have := (nxt s).toBitVec.isLt
  omega
def tof (p : Nat → Nat) : Nat → Nat := fun k => low (p k)
def goneP (T : TS) (w h : Nat) (wo : Nat → Option Nat) (road : Bool) (p : Nat → Nat) : Prop := wrongP T (w * h) wo p ∨ (few p (w * h) = none ∧ ¬ rdOk T w h road (tof p))
def snu (sn : Nat → Nat → Nat) (n : Nat) (p : Nat → Nat) : Nat → Nat → Nat := fun i => if i = n then p else sn i
/-- the tile that is drawn for a cell -/
def dtl (T : TS) (b : Nat) (s : Int32) : Nat := drw T b (drn s % wsum T b T.n)
noncomputable def frun (T : TS) (w h : Nat) (wo : Nat → Option Nat) (road : Bool) (lim : Nat) : Nat → Nat → (Nat → Nat) → (Nat → Nat → Nat) → (Nat → Nat) → (Nat → Nat) → Int32 → Nat → Nat → Nat × (Nat → Nat) × Nat × Nat
  | 0, _, p, _, _, _, _, gs, tk => (0, p, gs, tk)
  | f + 1, n, p, sn, gc, gt, s, gs, tk =>
    if cB (goneP T w h wo road p) = true then
      (if n = 0 then (110, p, gs, tk)
       else if lim ≤ tk then (108, p, gs, tk)
       else frun T w h wo road lim f (n - 1) (narF T w h (fu (sn (n - 1)) (gc (n - 1)) (sn (n - 1) (gc (n - 1)) &&& (255 - 2 ^ gt (n - 1))))) sn gc gt s gs (tk + 1))
    else match few p (w * h) with
      | none => (100, p, gs, tk)
      | some c => frun T w h wo road lim f (n + 1) (narF T w h (fu p c (2 ^ dtl T (p c) s))) (snu sn n p) (fu gc n c) (fu gt n (dtl T (p c) s)) (nxt s) (gs + 1) tk
theorem dtl_ok {T : TS} {b : Nat} {s : Int32} (hk : TOk T) (hb : b < 2 ^ T.n) (h : 1 < cnt b) : 0 < wsum T b T.n ∧ dtl T b s < T.n ∧ b.testBit (dtl T b s) = true := by
  have hb8 : b < 256 := Nat.lt_of_lt_of_le hb (pow_le8 hk.1)
  have h0 : b ≠ 0 := by
    intro q
    subst q
    exact absurd h (by decide)
  obtain ⟨h1, h2⟩ := low_bit b hb8 h0
  have h3 := wsum_pos hk (bit_ltn hb h1) h1
  exact ⟨h3, drw_bit (Nat.mod_lt _ h3)⟩
theorem narF_is {T : TS} {w h : Nat} {p : Nat → Nat} (hm : Msk (w * h) p) : IsNar T w h p (narF T w h p) := by
  have hb : ∀ k u, (narF T w h p k).testBit u = true ↔ u < 8 ∧ ∃ S, Stab T w h S ∧ SubN (w * h) S p ∧ (S k).testBit u = true := by
    intro k u
    unfold narF
    rw [mk_bit, Bool.and_eq_true, decide_eq_true_eq, cB_iff]
  have hs : ∀ S, Stab T w h S → SubN (w * h) S p → SubN (w * h) S (narF T w h p) := fun S h1 h2 k hk u hu => (hb k u).mpr ⟨bit_lt (hm k hk) (h2 k hk u hu), S, h1, h2, hu⟩
  refine ⟨⟨fun k hk u hu => ?_, hs⟩, fun k d k2 hk hd hn u hu => ?_⟩
  · obtain ⟨_, S, h1, h2, h3⟩ := (hb k u).mp hu
    exact h2 k hk u h3
  · obtain ⟨_, S, h1, h2, h3⟩ := (hb k2 u).mp hu
    exact fitM_mono (hs S h1 h2 k hk) u (h1 k d k2 hk hd hn u h3)
theorem narF_pn {T : TS} {w h : Nat} {p : Nat → Nat} (hk : TOk T) (hp : PN T (w * h) p) : PN T (w * h) (narF T w h p) := hp.sub (narF_is (hp.msk hk)).1.1
def nOne (p : Nat → Nat) (N : Nat) : Nat := cntB (fun k => decide (cnt (p k) ≤ 1)) N
theorem cntB_mono {f f' : Nat → Bool} : ∀ {n : Nat}, (∀ i, i < n → f i = true → f' i = true) → cntB f n ≤ cntB f' n
  | 0, _ => Nat.le_refl _
  | n + 1, h => by
    have h1 := cntB_mono (n := n) (fun i hi => h i (by omega))
    have h2 := h n (by omega)
    unfold cntB
    by_cases q : f n = true
    · rw [if_pos q, if_pos (h2 q)]
      omega
    · rw [if_neg q]
      omega
theorem cntB_up {f : Nat → Bool} {a b : Nat} (h : a ≤ b) : cntB f a ≤ cntB f b := by
  induction h with
  | refl => exact Nat.le_refl _
  | step _ ih => exact Nat.le_trans ih (Nat.le_add_right _ _)
theorem nOne_mono {N : Nat} {p q : Nat → Nat} (hp : Msk N p) (h : SubN N q p) : nOne p N ≤ nOne q N := by
  refine cntB_mono (fun i hi h1 => ?_)
  have h1 := of_decide_eq_true h1
  have hq : q i < 256 := sb_ltn (n := 8) (hp i hi) (h i hi)
  exact decide_eq_true (Nat.le_trans (Sb.cnt hq (hp i hi) (h i hi)).1 h1)
/-- what holds at each turn of the filling -/
def FInv (T : TS) (w h lim f n : Nat) (p : Nat → Nat) (sn : Nat → Nat → Nat) (gc gt : Nat → Nat) (tk : Nat) : Prop :=
  n ≤ nOne p (w * h) ∧ tk ≤ lim ∧ f + n = 2 * (lim - tk) + 38 ∧ PN T (w * h) p ∧ Stab T w h p ∧ ∀ i, i < n → i ≤ nOne (sn i) (w * h) ∧ PN T (w * h) (sn i) ∧ Stab T w h (sn i) ∧ gc i < w * h ∧ gt i < T.n ∧ (sn i (gc i)).testBit (gt i) = true
theorem FInv.n_le {T : TS} {w h lim f n : Nat} {p : Nat → Nat} {sn : Nat → Nat → Nat} {gc gt : Nat → Nat} {tk : Nat} (hI : FInv T w h lim f n p sn gc gt tk) : n ≤ w * h := Nat.le_trans hI.1 cntB_le
theorem nOne_lt {p : Nat → Nat} {N c : Nat} (hc : c < N) (h : 1 < cnt (p c)) : nOne p N < N := cntB_lt (k := c) (decide_eq_false (by omega)) hc
theorem FInv.start {T : TS} {w h lim : Nat} {p : Nat → Nat} {sn : Nat → Nat → Nat} {gc gt : Nat → Nat} (hp : PN T (w * h) p) (hs : Stab T w h p) : FInv T w h lim (2 * lim + 38) 0 p sn gc gt 0 :=
  ⟨Nat.zero_le _, Nat.zero_le _, by omega, hp, hs, fun i hi => absurd hi (Nat.not_lt_zero _)⟩
theorem PN_fu {T : TS} {N k v : Nat} {p : Nat → Nat} (h : PN T N p) (hv : v < 2 ^ T.n) : PN T N (fu p k v) := by
  intro i hi
  unfold fu
  split
  · exact hv
  · exact h i hi
theorem cnt_pow : ∀ t, t < 8 → cnt (2 ^ t) = 1 := by decide +kernel
theorem FInv.guess {T : TS} {w h lim f n : Nat} {p : Nat → Nat} {sn : Nat → Nat → Nat} {gc gt : Nat → Nat} {tk c t : Nat} (hk : TOk T) (hI : FInv T w h lim (f + 1) n p sn gc gt tk) (hf : few p (w * h) = some c) (ht : t < T.n) (hb : (p c).testBit t = true) : FInv T w h lim f (n + 1) (narF T w h (fu p c (2 ^ t))) (snu sn n p) (fu gc n c) (fu gt n t) tk := by
  obtain ⟨h1, h2, h3, h4, h5, h6⟩ := hI
  obtain ⟨c1, c2⟩ := few_some hf
  have h8 := hk.1
  have hv : 2 ^ t < 2 ^ T.n := Nat.pow_lt_pow_right (by decide) ht
  have hp2 : PN T (w * h) (fu p c (2 ^ t)) := PN_fu h4 hv
  have hn := narF_is (T := T) (hp2.msk hk)
  have h7 : nOne (fu p c (2 ^ t)) (w * h) = nOne p (w * h) + 1 := by
    unfold nOne
    rw [← cntB_on (f := fun k => decide (cnt (p k) ≤ 1)) (k := c) (decide_eq_false (by omega)) c1]
    refine cntB_c (fun i _ => ?_)
    by_cases e : i = c
    · subst e
      rw [fb_s, fu_s, cnt_pow t (by omega)]
      rfl
    · rw [fb_n e, fu_n e]
  have h9 := nOne_mono (hp2.msk hk) hn.1.1
  refine ⟨by omega, h2, by omega, narF_pn hk hp2, hn.2, fun i hi => ?_⟩
  by_cases e : i = n
  · subst e
    simp only [snu, if_true, fu_s]
    exact ⟨h1, h4, h5, c1, ht, hb⟩
  · simp only [snu, e, if_false, fu_n e]
    exact h6 i (by omega)
theorem clr_lt {a t n : Nat} (ha : a < 2 ^ n) : a &&& (255 - 2 ^ t) < 2 ^ n := Nat.lt_of_le_of_lt Nat.and_le_left ha
theorem FInv.back {T : TS} {w h lim f n : Nat} {p : Nat → Nat} {sn : Nat → Nat → Nat} {gc gt : Nat → Nat} {tk : Nat} (hk : TOk T) (hI : FInv T w h lim (f + 1) (n + 1) p sn gc gt tk) (hl : tk < lim) : FInv T w h lim f n (narF T w h (fu (sn n) (gc n) (sn n (gc n) &&& (255 - 2 ^ gt n)))) sn gc gt (tk + 1) := by
  obtain ⟨h1, h2, h3, h4, h5, h6⟩ := hI
  obtain ⟨a1, a2, a3, a4, a5, a6⟩ := h6 n (Nat.lt_succ_self _)
  have hp2 : PN T (w * h) (fu (sn n) (gc n) (sn n (gc n) &&& (255 - 2 ^ gt n))) := PN_fu a2 (clr_lt (a2 _ a4))
  have hn := narF_is (T := T) (hp2.msk hk)
  have h7 : nOne (sn n) (w * h) ≤ nOne (fu (sn n) (gc n) (sn n (gc n) &&& (255 - 2 ^ gt n))) (w * h) := nOne_mono (a2.msk hk) (fun i hi => by
    by_cases e : i = gc n
    · rw [e, fu_s]
      exact Sb.and_l _ _
    · rw [fu_n e]
      exact Sb.refl _)
  have h9 := nOne_mono (hp2.msk hk) hn.1.1
  exact ⟨by omega, by omega, by omega, narF_pn hk hp2, hn.2, fun i hi => h6 i (by omega)⟩
/-- what a filling that ends with 'd' comes to -/
theorem frun_end {T : TS} {w h : Nat} {wo : Nat → Option Nat} {road : Bool} {lim : Nat} (hk : TOk T) (hD : Dim w h) : ∀ (f n : Nat) (p : Nat → Nat) (sn : Nat → Nat → Nat) (gc gt : Nat → Nat) (s : Int32) (gs tk : Nat), FInv T w h lim f n p sn gc gt tk → ∃ c p' g t, frun T w h wo road lim f n p sn gc gt s gs tk = (c, p', g, t) ∧ (c = 100 ∨ c = 108 ∨ c = 110) ∧ PN T (w * h) p' ∧ (c = 100 → ¬ goneP T w h wo road p' ∧ few p' (w * h) = none ∧ Stab T w h p') := by
  intro f
  induction f with
  | zero =>
    intro n p sn gc gt s gs tk hI
    have h1 := hI.n_le
    have h2 := hI.2.2.1
    have h3 := hD.le
    omega
  | succ f ih =>
    intro n p sn gc gt s gs tk hI
    rw [frun]
    by_cases hg : goneP T w h wo road p
    · rw [if_pos (cB_iff.mpr hg)]
      by_cases hn : n = 0
      · rw [if_pos hn]
        exact ⟨110, p, gs, tk, rfl, Or.inr (Or.inr rfl), hI.2.2.2.1, fun q => absurd q (by decide)⟩
      · rw [if_neg hn]
        by_cases hl : lim ≤ tk
        · rw [if_pos hl]
          exact ⟨108, p, gs, tk, rfl, Or.inr (Or.inl rfl), hI.2.2.2.1, fun q => absurd q (by decide)⟩
        · rw [if_neg hl]
          obtain ⟨m, rfl⟩ : ∃ m, n = m + 1 := ⟨n - 1, by omega⟩
          exact ih _ _ _ _ _ _ _ _ (hI.back hk (by omega))
    · rw [if_neg (fun q => hg (cB_iff.mp q))]
      cases hf : few p (w * h) with
      | none => exact ⟨100, p, gs, tk, rfl, Or.inl rfl, hI.2.2.2.1, fun _ => ⟨hg, hf, hI.2.2.2.2.1⟩⟩
      | some c =>
        obtain ⟨c1, c2⟩ := few_some hf
        have hd := dtl_ok (s := s) hk (hI.2.2.2.1 c c1) c2
        exact ih _ _ _ _ _ _ _ _ (hI.guess hk hf hd.2.1 hd.2.2)
