/-! the class's world: what is fixed and banned in it -/
def possM (T : TS) (F : Nat → Option Nat) (B : Nat → Nat) (k : Nat) : Nat := (match F k with
  | none => 2 ^ T.n - 1
  | some t => 2 ^ t) &&& (255 - B k)
def WOk (T : TS) (w h : Nat) (F : Nat → Option Nat) (B : Nat → Nat) : Prop := Dim w h ∧ ∀ k, k < w * h → (∀ t, F k = some t → t < T.n) ∧ B k < 256
theorem possM_pn {T : TS} {w h : Nat} {F : Nat → Option Nat} {B : Nat → Nat} (hW : WOk T w h F B) : PN T (w * h) (possM T F B) := by
  intro k hk
  have h1 := (hW.2 k hk).1
  unfold possM
  refine Nat.lt_of_le_of_lt Nat.and_le_left ?_
  cases hF : F k with
  | none =>
    show 2 ^ T.n - 1 < 2 ^ T.n
    have := Nat.two_pow_pos T.n
    omega
  | some t => exact Nat.pow_lt_pow_right (by decide) (h1 t hF)
theorem nI_notB : ∀ b, b < 256 → nI b ^^^ (-1) = nI (4294967040 + (255 - b)) := by decide +kernel
theorem and_hi : ∀ x, x < 256 → ∀ y, y < 256 → x &&& (4294967040 + y) = x &&& y := by decide +kernel
theorem nI_clr {x b : Nat} (hx : x < 256) (hb : b < 256) : nI x &&& (nI b ^^^ (-1)) = nI (x &&& (255 - b)) := by
  rw [nI_notB b hb, nI_and, and_hi x hx (255 - b) (by omega)]
def WorldAt (M : qM) (w h : Nat) (F : Nat → Option Nat) (B : Nat → Nat) : Prop := M[11]? = some (.inr (8, [.ref 1, .ref 12, .ref 13, .ref 15])) ∧ GridAt M 12 w h ∧ (∃ f, RowAt M 13 36 f ∧ ∀ k, k < w * h → f k = nbI (F k)) ∧ (∃ f, RowAt M 15 36 f ∧ ∀ k, k < w * h → f k = nI (B k))
theorem WorldAt.fr {lo hi w h : Nat} {F : Nat → Option Nat} {B : Nat → Nat} {M M' : qM} (hW : WorldAt M w h F B) (hf : Fr lo hi M M') (ho : 16 < lo ∨ hi ≤ 11) : WorldAt M' w h F B := by
  obtain ⟨h1, h2, ⟨f, h3, h4⟩, ⟨f', h5, h6⟩⟩ := hW
  exact ⟨(hf 11 (by omega)).trans h1, h2.fr hf (by omega), ⟨f, h3.fr hf (by omega), h4⟩, ⟨f', h5.fr hf (by omega), h6⟩⟩
theorem nbI_m1 {x : Option Nat} (hx : ∀ t, x = some t → t < 1000) : nbI x = -1 ↔ x = none := by
  cases x with
  | none => exact ⟨fun _ => rfl, fun _ => rfl⟩
  | some t =>
    have := m1_ne (hx t rfl)
    constructor
    · intro q
      exact absurd q (by rw [show nbI (some t) = nI t from rfl, this]; exact id)
    · intro q
      cases q
theorem s_possibleIn {M : qM} {T : TS} {w h k : Nat} {F : Nat → Option Nat} {B : Nat → Nat} {Q : qR → qM → Prop} (hT : TilesAt M T) (hk : TOk T) (hA : WorldAt M w h F B) (hW : WOk T w h F B) (hc : k < w * h) : cl 58 [.ref 11, .int (nI k)] M Q ↔ Q (.inl (some (.int (nI (possM T F B k))))) M := by
  have hN := hW.1.le
  have h8 := hk.1
  obtain ⟨a1, a2⟩ := hW.2 k hc
  obtain ⟨h1, -, ⟨f, r1, v1⟩, ⟨f', r2, v2⟩⟩ := hA
  rw [e_58]
  simp only [g_58_0, g_58_1, g_58_4, g_58_5, g_58_8, g_58_9, g_58_10, g_58_11, g_58_14, g_58_15, g_58_18, g_58_21, g_58_24, g_58_25, g_58_26, g_58_27, g_58_28, g_58_29, g_58_30, g_58_33, g_58_34, g_58_37, g_58_38, g_58_39, g_58_40, qOb_some, kr_v, kr_n, qinv_i, qinv_r, qinv_0, Nat.reduceAdd, List.getElem?_cons_zero, List.getElem?_cons_succ, List.set_cons_zero, List.set_cons_succ, List.length_cons, List.length_nil, qget_of h1, r1.cls, r2.cls, qcls_of hT.1, not_true_eq_false, not_false_eq_true, false_implies, true_implies, and_true, true_and, and_false, false_and, if_true, if_false, forall_const, or_true, true_or, false_or, or_false, i10, Bool.false_eq_true, s_get r1 (show 36 < 2147483648 by decide), s_get r2 (show 36 < 2147483648 by decide), rget_nI (show k < 36 by omega) (show 36 < 2147483648 by decide), v1 k hc, v2 k hc, s_allT hT hk]
  cases hF : F k with
  | none =>
    have hx : 2 ^ T.n - 1 < 256 := by
      have := pow_le8 h8
      omega
    simp only [nbI, not_true_eq_false, not_false_eq_true, false_implies, true_implies, and_true, true_and, and_false, false_and, if_true, if_false, forall_const, or_true, true_or, false_or, or_false, i10, Bool.false_eq_true, nI_clr hx a2, possM, hF]
  | some t =>
    have ht := a1 t hF
    have hx : 2 ^ t < 256 := Nat.pow_lt_pow_right (a := 2) (m := t) (n := 8) (by decide) (by omega)
    simp only [nbI, m1_ne (show t < 1000 by omega), not_true_eq_false, not_false_eq_true, false_implies, true_implies, and_true, true_and, and_false, false_and, if_true, if_false, forall_const, or_true, true_or, false_or, or_false, i10, Bool.false_eq_true, nI_shl1 t (show t < 8 by omega), nI_clr hx a2, possM, hF]
theorem i_nI (x : Int32) : ∃ n, x = nI n := ⟨x.toBitVec.toNat, by
  apply Int32.toBitVec_inj.mp
  simp only [nI, Int32.toBitVec_ofNat']
  apply BitVec.eq_of_toNat_eq
  simp only [BitVec.toNat_ofNat]
  exact (Nat.mod_eq_of_lt x.toBitVec.isLt).symm⟩
/-- nothing waits -/
def NarIdle (M : qM) (o G : Nat) : Prop := M[o]? = some (.inr (3, [.ref 1, .ref G, .ref (o + 1), .ref (o + 3), .ref (o + 5), .int (nI 0)])) ∧ (∃ f, RowAt M (o + 1) 36 f) ∧ (∃ f, RowAt M (o + 3) 36 f ∧ ∀ k, k < 36 → f k = 0) ∧ (∃ f, RowAt M (o + 5) 36 f)
theorem NarIdle.fr {lo hi o G : Nat} {M M' : qM} (h : NarIdle M o G) (hf : Fr lo hi M M') (ho : o + 6 < lo ∨ hi ≤ o) : NarIdle M' o G := by
  obtain ⟨h1, ⟨f, h2⟩, ⟨f', h3, h4⟩, ⟨f'', h5⟩⟩ := h
  exact ⟨(hf o (by omega)).trans h1, ⟨f, h2.fr hf (by omega)⟩, ⟨f', h3.fr hf (by omega), h4⟩, ⟨f'', h5.fr hf (by omega)⟩⟩
theorem NarIdle.at {M : qM} {o G : Nat} (h : NarIdle M o G) (N : Nat) : ∃ p st, NarAt M o G N p (fun _ => false) st 0 := by
  obtain ⟨h1, ⟨f, h2⟩, ⟨f', h3, h4⟩, ⟨f'', h5⟩⟩ := h
  refine ⟨fun k => (f k).toBitVec.toNat, fun _ => 0, h1, ⟨f, h2, fun k _ => ?_⟩, ⟨f', h3, fun k hk => (h4 k hk).trans rfl⟩, ⟨f'', h5, fun k hk => absurd hk (by omega)⟩⟩
  apply Int32.toBitVec_inj.mp
  simp only [nI, Int32.toBitVec_ofNat']
  apply BitVec.eq_of_toNat_eq
  simp only [BitVec.toNat_ofNat]
  exact (Nat.mod_eq_of_lt (f k).toBitVec.isLt).symm
theorem NarAt.idle {M : qM} {o G N : Nat} {p st : Nat → Nat} (h : NarAt M o G N p (fun _ => false) st 0) : NarIdle M o G := by
  obtain ⟨h1, ⟨f, h2, -⟩, ⟨f', h3, h4⟩, ⟨f'', h5, -⟩⟩ := h
  exact ⟨h1, ⟨f, h2⟩, ⟨f', h3, fun k hk => (h4 k hk).trans rfl⟩, ⟨f'', h5⟩⟩
theorem StkOk_0 {N : Nat} {st : Nat → Nat} : StkOk N (fun _ => false) st 0 := by
  refine ⟨?_, fun i hi => absurd hi (by omega), fun i j hi => absurd hi (by omega)⟩
  decide
theorem s_putInto {M : qM} {T : TS} {o w h : Nat} {F : Nat → Option Nat} {B : Nat → Nat} {Q : qR → qM → Prop} (hT : TilesAt M T) (hk : TOk T) (hA : WorldAt M w h F B) (hW : WOk T w h F B) (ho : 16 < o) (hI : NarIdle M o 12)
    (hQ : ∀ M' p' fl' st' wt', Fr o (o + 7) M M' → NarAt M' o 12 (w * h) p' fl' st' wt' → StkOk (w * h) fl' st' wt' → (∀ k, k < w * h → p' k = possM T F B k ∧ fl' k = true) → Q (.inl none) M') : cl 59 [.ref 11, .ref o] M Q := by
  have hN := hW.1.le
  obtain ⟨p0, st0, hA0⟩ := hI.at (w * h)
  rw [e_59]
  simp only [g_59_0, g_59_1, g_59_3, g_59_4, g_59_7, g_59_10, g_59_13, g_59_14, g_59_15, g_59_16, g_59_17, g_59_20, g_59_23, g_59_26, g_59_29, qOb_some, kr_v, kr_n, qinv_i, qinv_r, qinv_0, Nat.reduceAdd, List.getElem?_cons_zero, List.getElem?_cons_succ, List.set_cons_zero, List.set_cons_succ, List.length_cons, List.length_nil]
  refine upto (N := w * h) (I := fun c M' => ∃ p' fl' st' wt', Fr o (o + 7) M M' ∧ NarAt M' o 12 (w * h) p' fl' st' wt' ∧ StkOk (w * h) fl' st' wt' ∧ (∀ k, k < c → p' k = possM T F B k ∧ fl' k = true)) (G := fun c M' => g 59 2 [some (.ref 11), some (.ref o), some (.int (nI c))] [] M' 0 0 Q) ?_ ?_ 0 M (Nat.zero_le _) ⟨p0, _, st0, 0, Fr.refl, hA0, StkOk_0, fun k hk => absurd hk (by omega)⟩
  · rintro M1 ⟨p1, fl1, st1, wt1, a1, a2, a3, a4⟩
    have hW1 := hA.fr a1 (by omega)
    rw [g_59_2]
    simp only [g_59_0, g_59_1, g_59_3, g_59_4, g_59_7, g_59_10, g_59_13, g_59_14, g_59_15, g_59_16, g_59_17, g_59_20, g_59_23, g_59_26, g_59_29, qOb_some, kr_v, kr_n, qinv_i, qinv_r, qinv_0, Nat.reduceAdd, List.getElem?_cons_zero, List.getElem?_cons_succ, List.set_cons_zero, List.set_cons_succ, List.length_cons, List.length_nil, not_true_eq_false, not_false_eq_true, false_implies, true_implies, and_true, true_and, and_false, false_and, if_true, if_false, forall_const, or_true, true_or, false_or, or_false, i10, Bool.false_eq_true, qget_of hW1.1, qcls_of hW1.2.1, s_cells hW1.2.1, Int32.le_refl]
    exact hQ M1 p1 fl1 st1 wt1 a1 a2 a3 a4
  · rintro c M1 hc ⟨p1, fl1, st1, wt1, a1, a2, a3, a4⟩ ih
    have hW1 := hA.fr a1 (by omega)
    have hT1 := hT.fr a1 (by omega)
    rw [g_59_2]
    simp only [g_59_0, g_59_1, g_59_3, g_59_4, g_59_7, g_59_10, g_59_13, g_59_14, g_59_15, g_59_16, g_59_17, g_59_20, g_59_23, g_59_26, g_59_29, qOb_some, kr_v, kr_n, qinv_i, qinv_r, qinv_0, Nat.reduceAdd, List.getElem?_cons_zero, List.getElem?_cons_succ, List.set_cons_zero, List.set_cons_succ, List.length_cons, List.length_nil, not_true_eq_false, not_false_eq_true, false_implies, true_implies, and_true, true_and, and_false, false_and, if_true, if_false, forall_const, or_true, true_or, false_or, or_false, i10, Bool.false_eq_true, qget_of hW1.1, qcls_of hW1.2.1, qcls_of hW1.1, s_cells hW1.2.1, nI_ge hc (show w * h < 2 ^ 31 by omega), s_possibleIn hT1 hk hW1 hW hc, qcls_of a2.1]
    refine s_change a2 a3 hN hc (fun M2 st2 wt2 b1 b2 b3 _ => ?_)
    simp only [g_59_0, g_59_1, g_59_3, g_59_4, g_59_7, g_59_10, g_59_13, g_59_14, g_59_15, g_59_16, g_59_17, g_59_20, g_59_23, g_59_26, g_59_29, qOb_some, kr_v, kr_n, qinv_i, qinv_r, qinv_0, Nat.reduceAdd, List.getElem?_cons_zero, List.getElem?_cons_succ, List.set_cons_zero, List.set_cons_succ, List.length_cons, List.length_nil, nI_1]
    refine ih M2 ⟨_, _, st2, wt2, a1.trans b1, b2, b3, fun k hk => ?_⟩
    by_cases q : k = c
    · rw [q, fu_s, fb_s]
      exact ⟨rfl, rfl⟩
    · rw [fu_n q, fb_n q]
      exact a4 k (by omega)
