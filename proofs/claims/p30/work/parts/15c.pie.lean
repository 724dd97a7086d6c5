/-! the model's count of pieces -/
def nsum (q : Nat → Nat) : Nat → Nat
  | 0 => 0
  | n + 1 => nsum q n + q n
theorem nsum_c {p q : Nat → Nat} : ∀ {n : Nat}, (∀ k, k < n → p k = q k) → nsum p n = nsum q n
  | 0, _ => rfl
  | n + 1, h => by
    unfold nsum
    rw [nsum_c (n := n) (fun k hk => h k (by omega)), h n (by omega)]
theorem nsum_fu {p : Nat → Nat} {k v : Nat} : ∀ {n : Nat}, k < n → nsum (fu p k v) n + p k = nsum p n + v
  | 0, h => absurd h (by omega)
  | n + 1, h => by
    unfold nsum
    by_cases q : k = n
    · subst q
      rw [fu_s, nsum_c (n := k) (q := p) (fun i hi => fu_n (by omega))]
      omega
    · have := nsum_fu (p := p) (k := k) (v := v) (n := n) (by omega)
      rw [fu_n (by omega)]
      omega
def LOk (T : TS) (w h : Nat) (tl q : Nat → Nat) : Prop := ∀ k, k < w * h → roadT T (tl k) = true → q k ≤ k ∧ Conn T w h tl k (q k)
theorem lab_stab {T : TS} {w h : Nat} {tl q : Nat → Nat} (hL : LOk T w h tl q) (hs : ∀ k j, k < w * h → Adj T w h tl k j → q k ≤ q j) {c : Nat} (hc : c < w * h) : (roadT T (tl c) = true ∧ q c = c) ↔ Lead T w h tl c := by
  have he : ∀ j, Conn T w h tl c j → j < w * h ∧ q j = q c := fun j hj => hj (fun i => i < w * h ∧ q i = q c) ⟨hc, rfl⟩ (fun a b ha hb hab => ⟨hab.lt ha, by
    have h1 := hs a b ha hab
    have h2 := hs b a (hab.lt ha) (hab.symm ha)
    omega⟩)
  constructor
  · rintro ⟨h1, h2⟩
    refine ⟨h1, fun j hj => ?_⟩
    obtain ⟨h3, h4⟩ := he j hj
    have := (hL j h3 (hj.road h1)).1
    omega
  · rintro ⟨h1, h2⟩
    refine ⟨h1, ?_⟩
    obtain ⟨h3, h4⟩ := hL c hc h1
    have := h2 _ h4
    omega
