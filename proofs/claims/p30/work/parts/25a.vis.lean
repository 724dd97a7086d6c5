/-! areChunks: visits and the law's own cells -/
theorem fnd_no {cx cy : Nat → Int32} {x y : Int32} : ∀ n, fnd cx cy x y n = none → ∀ i, i < n → ¬ (cx i = x ∧ cy i = y) := by
  intro m
  induction m with
  | zero => intro _ i hi; exact absurd hi (Nat.not_lt_zero _)
  | succ m ih =>
    intro h0 i hi
    rw [fnd_s] at h0
    cases hm : fnd cx cy x y m with
    | some j => rw [hm] at h0; cases h0
    | none =>
      rw [hm] at h0
      simp only at h0
      by_cases e : i = m
      · subst e
        intro q
        rw [if_pos q] at h0
        cases h0
      · exact ih hm i (by omega)
theorem fnd_non {cx cy : Nat → Int32} {x y : Int32} {n : Nat} (h : ∀ i, i < n → ¬ (cx i = x ∧ cy i = y)) : fnd cx cy x y n = none := by
  cases hf : fnd cx cy x y n with
  | none => rfl
  | some j =>
    obtain ⟨h1, h2⟩ := fnd_some hf
    exact absurd h2 (h j h1)
theorem fnd_at {cx cy : Nat → Int32} {x y : Int32} {n i : Nat} (hi : i < n) (hx : cx i = x) (hy : cy i = y) (hu : ∀ j, j < n → cx j = x → cy j = y → j = i) : fnd cx cy x y n = some i := by
  cases hf : fnd cx cy x y n with
  | none => exact absurd ⟨hx, hy⟩ (fnd_no n hf i hi)
  | some j =>
    obtain ⟨h1, h2, h3⟩ := fnd_some hf
    rw [hu j h1 h2 h3]
/-- what a chunk's cell is, once it is visited -/
noncomputable def tV (T : TS) (sd : Nat) (x y : Int32) (c : Nat) : Int32 := if (chR T sd x y).1 = 100 then nI (tof (chR T sd x y).2.1 c) else -1
theorem vis_new {M : qM} {T : TS} {sd w h : Nat} {F : Nat → Option Nat} {B : Nat → Nat} {wo : Nat → Option Nat} {rd fd : Bool} {tl : Nat → Nat} {gs tk n : Nat} {cx cy : Nat → Int32} {ce : Nat → Nat} {ct : Nat → Nat → Nat} {a b : Nat} {Q : qR → qM → Prop} (hA : LawAt M T sd w h F B wo rd fd tl gs tk n cx cy ce ct) (ha : a < 98) (hb : b < 98) (hn : n < 30) (hno : ∀ i, i < n → ¬ (cx i = plI a ∧ cy i = plI b))
    (hQ : ∀ (M' : qM) (cx' cy' : Nat → Int32) (ce' : Nat → Nat) (ct' : Nat → Nat → Nat), KC M M' → InvC M' T sd w h F B wo rd fd tl gs tk (n + 1) cx' cy' ce' ct' → SOk T sd w h F B wo rd fd tl gs tk (n + 1) cx' cy' ce' ct' → (∀ i, i < n → cx' i = cx i ∧ cy' i = cy i) → cx' n = plI a → cy' n = plI b → (∀ c, tOf cx' cy' ce' ct' (n + 1) (plI a) (plI b) c = tV T sd (plI a) (plI b) c) → fnd cx' cy' (plI a) (plI b) (n + 1) = some n → ce' n = (chR T sd (plI a) (plI b)).1 → Q (.inl (some (.int (nI (chR T sd (plI a) (plI b)).1)))) M') : cl 79 [.ref 0, .int (plI a), .int (plI b)] M Q := by
  obtain ⟨hI, hS, -, -, -, h2⟩ := id hA
  have hf := fnd_non hno
  refine c_visit hI hS (fun q => absurd ⟨(pl_near a ha).1, (pl_near b hb).1⟩ q) (fun _ q => ?_) (fun _ _ k q => ?_) (fun _ _ _ _ M' kc I' => ?_)
  · rcases q with q | ⟨-, q⟩ <;> omega
  · rw [hf] at q; cases q
  · have S' := hS.visit hf hn
    have hfn : fnd (upd cx n (plI a)) (upd cy n (plI b)) (plI a) (plI b) (n + 1) = some n := by
      refine fnd_at (Nat.lt_succ_self _) upd_s upd_s (fun j hj q1 q2 => ?_)
      by_cases e : j = n
      · exact e
      · rw [upd_n e] at q1 q2
        exact absurd ⟨q1, q2⟩ (hno j (by omega))
    refine hQ M' _ _ _ _ kc I' S' (fun i hi => ⟨upd_n (by omega), upd_n (by omega)⟩) upd_s upd_s (fun c => ?_) hfn fu_s
    unfold tOf tV
    rw [hfn]
    simp only [fu_s, fut, if_true]
/-- the law's own cells of areChunks -/
def ChM (M0 M : qM) (f : Nat → Int32) (g : Nat → Nat → Int32) : Prop := M.length = M0.length + 6 ∧ Up M0 M ∧ Lsc M ∧ M[M0.length]? = some (.inl (1, 4, .inl f)) ∧ M[M0.length + 1]? = some (.inr (11, [.ref (M0.length + 2), .ref (M0.length + 3), .ref (M0.length + 4), .ref (M0.length + 5)])) ∧ ∀ k, k < 4 → M[M0.length + 2 + k]? = some (.inl (0, 9, .inl (g k)))
theorem ChM.kc {M0 M M' : qM} {f : Nat → Int32} {g : Nat → Nat → Int32} (h : ChM M0 M f g) (kc : KC M M') (hL : 103 ≤ M0.length) : ChM M0 M' f g := by
  obtain ⟨h1, h2, h3, h4, h5, h6⟩ := h
  have e := kc.len h3.1
  exact ⟨e.trans h1, h2.trans (kc.up h3.1), kc.lsc h3, (kc _ (by omega)).trans h4, (kc _ (by omega)).trans h5, fun k hk => (kc _ (by omega)).trans (h6 k hk)⟩
theorem ChM.st {M0 M : qM} {f : Nat → Int32} {g : Nat → Nat → Int32} (h : ChM M0 M f g) (k : Nat) (v : Int32) : ChM M0 (M.set M0.length (.inl (1, 4, .inl (upd f k v)))) (upd f k v) g := by
  obtain ⟨h1, h2, h3, h4, h5, h6⟩ := h
  exact ⟨by rw [List.length_set]; exact h1, h2.put (Nat.le_refl _), h3.set rfl, get_set_eq h4, by rw [get_set_ne (by omega)]; exact h5, fun j hj => by rw [get_set_ne (by omega)]; exact h6 j hj⟩
def updR (g : Nat → Nat → Int32) (k c : Nat) (v : Int32) : Nat → Nat → Int32 := fun j => if j = k then upd (g k) c v else g j
theorem updR_s {g : Nat → Nat → Int32} {k c : Nat} {v : Int32} : updR g k c v k = upd (g k) c v := if_pos rfl
theorem updR_n {g : Nat → Nat → Int32} {k c j : Nat} {v : Int32} (h : j ≠ k) : updR g k c v j = g j := if_neg h
theorem ChM.row {M0 M : qM} {f : Nat → Int32} {g : Nat → Nat → Int32} (h : ChM M0 M f g) (k c : Nat) (hk : k < 4) (v : Int32) : ChM M0 (M.set (M0.length + 2 + k) (.inl (0, 9, .inl (upd (g k) c v)))) f (updR g k c v) := by
  obtain ⟨h1, h2, h3, h4, h5, h6⟩ := h
  refine ⟨by rw [List.length_set]; exact h1, h2.put (by omega), h3.set rfl, by rw [get_set_ne (by omega)]; exact h4, by rw [get_set_ne (by omega)]; exact h5, fun j hj => ?_⟩
  by_cases e : j = k
  · rw [e, updR_s]
    exact get_set_eq (h6 k hk)
  · rw [updR_n e, get_set_ne (by omega)]
    exact h6 j hj
theorem ChM.out {M0 M : qM} {f : Nat → Int32} {g : Nat → Nat → Int32} (h : ChM M0 M f g) {k : Nat} (hk : k < 4) : qaald M (M0.length + 1) (nI k) = some (.ref (M0.length + 2 + k)) := by
  obtain ⟨h1, h2, h3, h4, h5, h6⟩ := h
  refine qaald_z h5 ?_ (show 4 < 2147483648 by decide)
  rcases (show k = 0 ∨ k = 1 ∨ k = 2 ∨ k = 3 by omega) with rfl | rfl | rfl | rfl <;> rfl
theorem ChM.ldR {Z : qScr} {M0 M : qM} {f : Nat → Int32} {g : Nat → Nat → Int32} (h : ChM M0 M f g) {k c : Nat} (hk : k < 4) (hc : c < 9) : qald Z M (M0.length + 2 + k) 0 (nI c) = some (.int (g k c)) := qald_z (h.2.2.2.2.2 k hk) hc (by decide)
theorem ChM.ldS {M0 M : qM} {f : Nat → Int32} {g : Nat → Nat → Int32} (h : ChM M0 M f g) {k : Nat} (hk : k < 4) : qald none M M0.length 1 (nI k) = some (.int (f k)) := qald_c h.2.2.2.1 hk (by decide)
theorem ChM.wrR {M0 M : qM} {f : Nat → Int32} {g : Nat → Nat → Int32} (h : ChM M0 M f g) {k c : Nat} (hk : k < 4) (hc : c < 9) (v : Int32) : qasti M (M0.length + 2 + k) 0 (nI c) v = some (M.set (M0.length + 2 + k) (.inl (0, 9, .inl (upd (g k) c v)))) := qasti_z (h.2.2.2.2.2 k hk) hc (by decide)
theorem ChM.wrS {M0 M : qM} {f : Nat → Int32} {g : Nat → Nat → Int32} (h : ChM M0 M f g) {k : Nat} (hk : k < 4) {v : Int32} (h0 : 0 ≤ v) (h1 : v ≤ 65535) : qasti M M0.length 1 (nI k) v = some (M.set M0.length (.inl (1, 4, .inl (upd f k v)))) := qasti_c h.2.2.2.1 hk (by decide) h0 h1
theorem ChM.law {M0 M : qM} {f : Nat → Int32} {g : Nat → Nat → Int32} (hC : ChM M0 M f g) {T : TS} {sd w h : Nat} {F : Nat → Option Nat} {B : Nat → Nat} {wo : Nat → Option Nat} {rd fd : Bool} {tl : Nat → Nat} {gs tk n : Nat} {cx cy : Nat → Int32} {ce : Nat → Nat} {ct : Nat → Nat → Nat} {sd' w' h' : Nat} {F' : Nat → Option Nat} {B' : Nat → Nat} {rd' fd' : Bool} {tl' : Nat → Nat} {gs' tk' n' : Nat} {cx' cy' : Nat → Int32} {ce' : Nat → Nat} {ct' : Nat → Nat → Nat} (hA : LawAt M0 T sd w h F B wo rd fd tl gs tk n cx cy ce ct) (hI : InvC M T sd' w' h' F' B' wo rd' fd' tl' gs' tk' n' cx' cy' ce' ct') (hS : SOk T sd' w' h' F' B' wo rd' fd' tl' gs' tk' n' cx' cy' ce' ct') : LawAt M T sd' w' h' F' B' wo rd' fd' tl' gs' tk' n' cx' cy' ce' ct' := hA.up hC.2.1 hC.2.2.1 hI hS
/-- five cells more -/
def m49 (m : Nat) : qM := [.inr (11, [.ref (m + 1), .ref (m + 2), .ref (m + 3), .ref (m + 4)]), .inl (0, 9, .inl (fun _ => 0)), .inl (0, 9, .inl (fun _ => 0)), .inl (0, 9, .inl (fun _ => 0)), .inl (0, 9, .inl (fun _ => 0))]
theorem qmk4_of {L : qL} {st : List Value} {M : qM} (h1 : M.length + 4 < qSCR) (h2 : qscM M.length M = true) (h3 : qscL M.length L = true) (h4 : qscS M.length st = true) : qmk4 true L st M = some (.ref M.length :: st, M ++ m49 M.length) := by
  unfold qmk4
  rw [if_pos ⟨rfl, h1, h2, h3, h4⟩]
  rfl
theorem app5_old {M : qM} {x : qM} {b : Nat} (hb : b < M.length) : (M ++ x)[b]? = M[b]? := List.getElem?_append_left hb
theorem app5_new {M : qM} {x : qM} {b : Nat} : (M ++ x)[M.length + b]? = x[b]? := by
  rw [List.getElem?_append_right (Nat.le_add_right _ _), Nat.add_sub_cancel_left]
theorem ChM.start {M0 : qM} (hL : Lsc M0) (hl : M0.length + 6 ≤ 1000) : ChM M0 ((M0 ++ [.inl (1, 4, .inl (fun _ => 0))]) ++ m49 (M0.length + 1)) (fun _ => 0) (fun _ _ => 0) := by
  have hL3 := hL.1
  have e1 : (M0 ++ [((.inl (1, 4, .inl (fun _ => 0))) : qE)]).length = M0.length + 1 := app_len
  have L1 : Lsc (M0 ++ [.inl (1, 4, .inl (fun _ => 0))]) := hL.app (by omega) rfl
  have U1 : Up M0 (M0 ++ [.inl (1, 4, .inl (fun _ => 0))]) := Up.app
  have n1 : (M0 ++ [((.inl (1, 4, .inl (fun _ => 0))) : qE)])[M0.length]? = some (.inl (1, 4, .inl (fun _ => 0))) := app_new
  revert e1 L1 U1 n1
  generalize (M0 ++ [((.inl (1, 4, .inl (fun _ => 0))) : qE)]) = M1
  intro e1 L1 U1 n1
  have e2 : (M1 ++ m49 (M0.length + 1)).length = M0.length + 6 := by
    rw [List.length_append, e1]
    rfl
  have nw : ∀ b, (M1 ++ m49 (M0.length + 1))[M0.length + 1 + b]? = (m49 (M0.length + 1))[b]? := fun b => by
    rw [← e1]
    exact app5_new
  have U2 : Up M1 (M1 ++ m49 (M0.length + 1)) := ⟨by rw [e1, e2]; omega, fun b _ q => app5_old q⟩
  refine ⟨e2, U1.trans U2, ⟨by omega, by omega, fun b hb => ?_⟩, ?_, nw 0, fun k hk => ?_⟩
  · rw [e2]
    rcases Nat.lt_or_ge b M1.length with q | q
    · intro e he
      rw [app5_old q] at he
      exact scp_mono (by omega) (L1.2.2 b hb) e he
    · obtain ⟨j, rfl⟩ : ∃ j, b = M0.length + 1 + j := ⟨b - (M0.length + 1), by omega⟩
      intro e he
      rw [nw j] at he
      have hj := (List.getElem?_eq_some_iff.mp he).1
      have hj : j < 5 := hj
      rcases (show j = 0 ∨ j = 1 ∨ j = 2 ∨ j = 3 ∨ j = 4 by omega) with rfl | rfl | rfl | rfl | rfl
      · cases he
        rw [qscE]
        exact qS_r (by omega) (qS_r (by omega) (qS_r (by omega) (qS_r (by omega) qS_n)))
      · cases he; rfl
      · cases he; rfl
      · cases he; rfl
      · cases he; rfl
  · rw [app5_old (by omega)]
    exact n1
  · have := nw (k + 1)
    rw [show M0.length + 1 + (k + 1) = M0.length + 2 + k by omega] at this
    rw [this]
    rcases (show k = 0 ∨ k = 1 ∨ k = 2 ∨ k = 3 by omega) with rfl | rfl | rfl | rfl <;> rfl
theorem app5_inv {M x : qM} {T : TS} {sd w h : Nat} {F : Nat → Option Nat} {B : Nat → Nat} {wo : Nat → Option Nat} {rd fd : Bool} {tl : Nat → Nat} {gs tk n : Nat} {cx cy : Nat → Int32} {ce : Nat → Nat} {ct : Nat → Nat → Nat} (hI : InvC M T sd w h F B wo rd fd tl gs tk n cx cy ce ct) (hL : 101 ≤ M.length) : InvC (M ++ x) T sd w h F B wo rd fd tl gs tk n cx cy ce ct := hI.low (fun b q => app5_old (by omega))
