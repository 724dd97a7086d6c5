/-! the model's count of pieces -/
theorem m_hasRoad {M : qM} {s : Nat → Int32} {T : TS} {t : Nat} {Q : qR → qM → Prop} (hM : ModAt M s) (hT : MTil M s T) (hk : TOk T) (ht : t < T.n) : cl 128 [.ref 101, .int (nI t)] M Q ↔ Q (.inl (some (.int (bI (roadT T t = true))))) M := by
  refine cl_iff (fun Q hQ => ?_)
  rw [e_128]
  simp only [g_128_0, g_128_1, g_128_2, g_128_3, g_128_5, g_128_6, g_128_9, g_128_10, g_128_13, g_128_14, g_128_15, g_128_16, g_128_19, g_128_20, g_128_23, g_128_24, g_128_27, g_128_28, g_128_29, g_128_32, g_128_35, g_128_36, qOb_some, kr_v, kr_n, qinv_i, qinv_r, qinv_0, Nat.reduceAdd, List.getElem?_cons_zero, List.getElem?_cons_succ, List.set_cons_zero, List.set_cons_succ, List.length_cons, List.length_nil]
  refine upto (N := 4) (I := fun k b => (b = true ↔ ∃ d, d < k ∧ T.c t d = 1)) (G := fun k (b : Bool) => g 128 4 [some (.ref 101), some (.int (nI t)), some (.int (bI (b = true))), some (.int (nI k))] [] M 0 0 Q) ?_ ?_ 0 false (by decide) ⟨fun q => (by cases q), fun ⟨d, q, _⟩ => absurd q (Nat.not_lt_zero _)⟩
  · intro b hb
    rw [g_128_4]
    simp only [g_128_0, g_128_1, g_128_2, g_128_3, g_128_5, g_128_6, g_128_9, g_128_10, g_128_13, g_128_14, g_128_15, g_128_16, g_128_19, g_128_20, g_128_23, g_128_24, g_128_27, g_128_28, g_128_29, g_128_32, g_128_35, g_128_36, qOb_some, kr_v, kr_n, qinv_i, qinv_r, qinv_0, Nat.reduceAdd, List.getElem?_cons_zero, List.getElem?_cons_succ, List.set_cons_zero, List.set_cons_succ, List.length_cons, List.length_nil, show (4 : Int32) = nI 4 from rfl, Int32.le_refl, not_true_eq_false, not_false_eq_true, false_implies, true_implies, and_true, true_and, and_false, false_and, if_true, if_false, forall_const, or_true, true_or, false_or, or_false, i10, Bool.false_eq_true, bI_01]
    rw [bI_c (roadT_iff.trans hb.symm)] at hQ
    exact hQ
  · intro k b hk4 hb ih
    have a1 := hk.2.1 t k ht hk4
    have n1 : (nI (T.c t k) = 1) = (T.c t k = 1) := propext (nI_eq (b := 1) (by omega) (by decide))
    rw [g_128_4]
    simp only [g_128_0, g_128_1, g_128_2, g_128_3, g_128_5, g_128_6, g_128_9, g_128_10, g_128_13, g_128_14, g_128_15, g_128_16, g_128_19, g_128_20, g_128_23, g_128_24, g_128_27, g_128_28, g_128_29, g_128_32, g_128_35, g_128_36, qOb_some, kr_v, kr_n, qinv_i, qinv_r, qinv_0, Nat.reduceAdd, List.getElem?_cons_zero, List.getElem?_cons_succ, List.set_cons_zero, List.set_cons_succ, List.length_cons, List.length_nil, show (4 : Int32) = nI 4 from rfl, nI_ge hk4 (show 4 < 2 ^ 31 by decide), not_true_eq_false, not_false_eq_true, false_implies, true_implies, and_true, true_and, and_false, false_and, if_true, if_false, forall_const, or_true, true_or, false_or, or_false, i10, Bool.false_eq_true, bI_0, hM.cls, m_edgeOf hM hT hk ht hk4, n1, nI_1]
    have go : ∀ b2 : Bool, (b2 = true ↔ (b = true ∨ T.c t k = 1)) → g 128 4 [some (.ref 101), some (.int (nI t)), some (.int (bI (b2 = true))), some (.int (nI (k + 1)))] [] M 0 0 Q := by
      intro b2 h2
      refine ih b2 ?_
      rw [h2, hb]
      constructor
      · rintro (⟨d, q1, q2⟩ | q)
        · exact ⟨d, by omega, q2⟩
        · exact ⟨k, by omega, q⟩
      · rintro ⟨d, q1, q2⟩
        by_cases e : d = k
        · subst e; exact Or.inr q2
        · exact Or.inl ⟨d, by omega, q2⟩
    cases b with
    | true =>
      simp only [not_true_eq_false, not_false_eq_true, false_implies, true_implies, and_true, true_and, and_false, false_and, if_true, if_false, forall_const, or_true, true_or, false_or, or_false, i10, Bool.false_eq_true]
      exact go true ⟨fun _ => Or.inl rfl, fun _ => rfl⟩
    | false =>
      by_cases q : T.c t k = 1
      · simp only [q, not_true_eq_false, not_false_eq_true, false_implies, true_implies, and_true, true_and, and_false, false_and, if_true, if_false, forall_const, or_true, true_or, false_or, or_false, i10, Bool.false_eq_true]
        exact go true ⟨fun _ => Or.inr q, fun _ => rfl⟩
      · simp only [q, not_true_eq_false, not_false_eq_true, false_implies, true_implies, and_true, true_and, and_false, false_and, if_true, if_false, forall_const, or_true, true_or, false_or, or_false, i10, Bool.false_eq_true]
        exact go false ⟨fun q2 => (by cases q2), fun q2 => (by
          rcases q2 with q2 | q2
          · exact q2
          · exact absurd q2 q)⟩
def nsum (q : Nat → Nat) : Nat → Nat
  | 0 => 0
  | n + 1 => nsum q n + q n
theorem nsum_c {p q : Nat → Nat} : ∀ {n : Nat}, (∀ k, k < n → p k = q k) → nsum p n = nsum q n
  | 0, _ => rfl
  | n + 1, h => by
    unfold nsum
    rw [nsum_c (n := n) (fun k hk => h k (by omega)), h n (by omega)]
theorem nsum_fu {p : Nat → Nat} {k v : Nat} : ∀ {n : Nat}, k < n → nsum (fu p k v) n + p k = nsum p n + v
  | 0, h => absurd h (by omega)
  | n + 1, h => by
    unfold nsum
    by_cases q : k = n
    · subst q
      rw [fu_s, nsum_c (n := k) (q := p) (fun i hi => fu_n (by omega))]
      omega
    · have := nsum_fu (p := p) (k := k) (v := v) (n := n) (by omega)
      rw [fu_n (by omega)]
      omega
/-- the model's labels -/
def LabAt (T : TS) (M : qM) (N : Nat) (tl q : Nat → Nat) : Prop := ∃ f, M[114]? = some (.inl (0, 36, .inl f)) ∧ ∀ k, k < N → f k = if roadT T (tl k) = true then nI (q k) else -1
def LOk (T : TS) (w h : Nat) (tl q : Nat → Nat) : Prop := ∀ k, k < w * h → roadT T (tl k) = true → q k ≤ k ∧ Conn T w h tl k (q k)
theorem lab_stab {T : TS} {w h : Nat} {tl q : Nat → Nat} (hL : LOk T w h tl q) (hs : ∀ k j, k < w * h → Adj T w h tl k j → q k ≤ q j) {c : Nat} (hc : c < w * h) : (roadT T (tl c) = true ∧ q c = c) ↔ Lead T w h tl c := by
  have he : ∀ j, Conn T w h tl c j → j < w * h ∧ q j = q c := fun j hj => hj (fun i => i < w * h ∧ q i = q c) ⟨hc, rfl⟩ (fun a b ha hb hab => ⟨hab.lt ha, by
    have h1 := hs a b ha hab
    have h2 := hs b a (hab.lt ha) (hab.symm ha)
    omega⟩)
  constructor
  · rintro ⟨h1, h2⟩
    refine ⟨h1, fun j hj => ?_⟩
    obtain ⟨h3, h4⟩ := he j hj
    have := (hL j h3 (hj.road h1)).1
    omega
  · rintro ⟨h1, h2⟩
    refine ⟨h1, ?_⟩
    obtain ⟨h3, h4⟩ := hL c hc h1
    have := h2 _ h4
    omega
