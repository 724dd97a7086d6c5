/-! tools: results that change nothing, frames, counted loops, rows of numbers -/
theorem qG_iff {scr : qScr} {j : Nat} {F : qF} {r : qR} {M : qM} (h : ∀ Q : qR → qM → Prop, Q r M → qG scr j F Q) {Q : qR → qM → Prop} : qG scr j F Q ↔ Q r M := by
  constructor
  · rintro ⟨f, r1, M1, h1, h2⟩
    obtain ⟨f2, r2, M2, h3, h4, h5⟩ := h (fun r' M' => r' = r ∧ M' = M) ⟨rfl, rfl⟩
    have := q_det h1 h3
    cases this
    subst h4; subst h5
    exact h2
  · exact h Q
theorem cl_iff {a : Nat} {as : List Value} {r : qR} {M : qM} (h : ∀ Q : qR → qM → Prop, Q r M → cl a as M Q) {Q : qR → qM → Prop} : cl a as M Q ↔ Q r M := qG_iff h
def bI (p : Prop) [Decidable p] : Int32 := if p then 1 else 0
theorem bI_01 {p : Prop} [Decidable p] : (bI p = 0 ∨ bI p = 1) ↔ True := by
  unfold bI
  split <;> simp
theorem bI_0 {p : Prop} [Decidable p] : bI p = 0 ↔ ¬ p := by
  unfold bI
  split <;> simp_all
theorem bI_1 {p : Prop} [Decidable p] : bI p = 1 ↔ p := by
  unfold bI
  split <;> simp_all
theorem bI_t {p : Prop} [Decidable p] (h : p) : bI p = 1 := if_pos h
theorem bI_f {p : Prop} [Decidable p] (h : ¬ p) : bI p = 0 := if_neg h
theorem bI_c {p q : Prop} [Decidable p] [Decidable q] (h : p ↔ q) : bI p = bI q := by
  unfold bI
  by_cases hp : p
  · rw [if_pos hp, if_pos (h.mp hp)]
  · rw [if_neg hp, if_neg (fun x => hp (h.mpr x))]
/-- alike but for the cells from lo to hi -/
def Fr (lo hi : Nat) (M M' : qM) : Prop := ∀ a, a < lo ∨ hi ≤ a → M'[a]? = M[a]?
theorem Fr.refl {lo hi : Nat} {M : qM} : Fr lo hi M M := fun _ _ => rfl
theorem Fr.trans {lo hi : Nat} {M M1 M2 : qM} (h : Fr lo hi M M1) (h' : Fr lo hi M1 M2) : Fr lo hi M M2 := fun a ha => (h' a ha).trans (h a ha)
theorem Fr.mono {lo hi lo' hi' : Nat} {M M1 : qM} (h : Fr lo hi M M1) (h1 : lo' ≤ lo) (h2 : hi ≤ hi') : Fr lo' hi' M M1 := fun a ha => h a (by omega)
theorem Fr.set {lo hi a : Nat} {M : qM} {x : qE} (h1 : lo ≤ a) (h2 : a < hi) : Fr lo hi M (M.set a x) := fun b hb => get_set_ne (by omega)
theorem RowAt.fr {lo hi o n : Nat} {f : Nat → Int32} {M M' : qM} (h : RowAt M o n f) (hf : Fr lo hi M M') (ho : o + 1 < lo ∨ hi ≤ o) : RowAt M' o n f :=
  ⟨(hf o (by omega)).trans h.1, (hf (o + 1) (by omega)).trans h.2⟩
theorem GridAt.fr {lo hi o w h : Nat} {M M' : qM} (hg : GridAt M o w h) (hf : Fr lo hi M M') (ho : o < lo ∨ hi ≤ o) : GridAt M' o w h := (hf o ho).trans hg
/-- a counted loop -/
theorem upto {α : Type} {N : Nat} {I : Nat → α → Prop} {G : Nat → α → Prop} (hend : ∀ a, I N a → G N a) (hstep : ∀ k a, k < N → I k a → (∀ a', I (k + 1) a' → G (k + 1) a') → G k a) : ∀ k a, k ≤ N → I k a → G k a := by
  have key : ∀ m k a, N - k = m → k ≤ N → I k a → G k a := by
    intro m
    induction m with
    | zero =>
      intro k a hm hk hi
      have : k = N := by omega
      subst this
      exact hend a hi
    | succ m ih =>
      intro k a hm hk hi
      exact hstep k a (by omega) hi (fun a' hi' => ih (k + 1) a' (by omega) (by omega) hi')
  intro k a hk hi
  exact key _ k a rfl hk hi
theorem byM {α : Type} (μ : α → Nat) {P : α → Prop} (h : ∀ a, (∀ b, μ b < μ a → P b) → P a) : ∀ a, P a := by
  have key : ∀ m a, μ a < m → P a := by
    intro m
    induction m with
    | zero => intro a ha; omega
    | succ m ih => intro a ha; exact h a (fun b hb => ih b (by omega))
  intro a
  exact key _ a (Nat.lt_succ_self _)
/-- a row whose first N numbers are these -/
def RowV (M : qM) (o n N : Nat) (p : Nat → Nat) : Prop := ∃ f, RowAt M o n f ∧ ∀ k, k < N → f k = nI (p k)
theorem RowV.fr {lo hi o n N : Nat} {p : Nat → Nat} {M M' : qM} (h : RowV M o n N p) (hf : Fr lo hi M M') (ho : o + 1 < lo ∨ hi ≤ o) : RowV M' o n N p := by
  obtain ⟨f, h1, h2⟩ := h
  exact ⟨f, h1.fr hf ho, h2⟩
theorem upd_s {f : Nat → Int32} {k : Nat} {x : Int32} : upd f k x k = x := if_pos rfl
theorem upd_n {f : Nat → Int32} {k j : Nat} {x : Int32} (h : j ≠ k) : upd f k x j = f j := if_neg h
/-- the first below n -/
def fst (p : Nat → Bool) : Nat → Option Nat
  | 0 => none
  | n + 1 => match fst p n with
    | some k => some k
    | none => if p n = true then some n else none
theorem fst_none {p : Nat → Bool} : ∀ {n : Nat}, (∀ i, i < n → p i = false) → fst p n = none
  | 0, _ => rfl
  | n + 1, h => by
    unfold fst
    rw [fst_none (fun i hi => h i (by omega))]
    simp [h n (by omega)]
theorem fst_some {p : Nat → Bool} {k : Nat} (h : ∀ i, i < k → p i = false) (hk : p k = true) : ∀ {n : Nat}, k < n → fst p n = some k
  | 0, q => absurd q (by omega)
  | n + 1, q => by
    unfold fst
    by_cases hn : k = n
    · subst hn
      rw [fst_none h]
      simp [hk]
    · rw [fst_some h hk (show k < n by omega)]
theorem nI_eq0 {n : Nat} (h : n < 2147483648) : nI n = 0 ↔ n = 0 := nI_eq (b := 0) (by omega) (by omega)
theorem z_n : nI 0 = 0 := rfl
