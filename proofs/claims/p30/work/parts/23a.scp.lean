/-! what is made lies at the end: no cell refers behind it -/
def sc (n : Nat) (M : qM) (b : Nat) : Prop := ∀ e, M[b]? = some e → qscM n [e] = true
theorem qscV_mono {n n' : Nat} (h : n ≤ n') {v : Value} (hv : qscV n v = true) : qscV n' v = true := by
  cases v with
  | ref a =>
    simp only [qscV, Bool.or_eq_true, decide_eq_true_eq] at hv ⊢
    exact hv.imp (fun q => Nat.lt_of_lt_of_le q h) id
  | _ => rfl
theorem qscS_mono {n n' : Nat} (h : n ≤ n') {st : List Value} (hv : qscS n st = true) : qscS n' st = true :=
  List.all_eq_true.mpr (fun v hm => qscV_mono h (List.all_eq_true.mp hv v hm))
theorem qscE {n c : Nat} {fs : List Value} : qscM n [.inr (c, fs)] = qscS n fs := by simp [qscM]
theorem scp_mono {n n' b : Nat} {M : qM} (h : n ≤ n') (hs : sc n M b) : sc n' M b := by
  intro e he
  have := hs e he
  cases e with
  | inl a => rfl
  | inr a =>
    obtain ⟨c, fs⟩ := a
    rw [qscE] at this ⊢
    exact qscS_mono h this
theorem scp_arr {n b : Nat} {M : qM} {a : Nat × vp_A} (h : M[b]? = some (.inl a)) : sc n M b := by
  intro e he
  rw [h] at he
  cases he
  rfl
theorem scp_obj {n b c : Nat} {fs : List Value} {M : qM} (h : M[b]? = some (.inr (c, fs))) (hs : qscS n fs = true) : sc n M b := by
  intro e he
  rw [h] at he
  cases he
  rw [qscE]
  exact hs
theorem qscS_c {n : Nat} {v : Value} {st : List Value} : qscS n (v :: st) = true ↔ qscV n v = true ∧ qscS n st = true := by
  simp [qscS]
theorem qscS_n {n : Nat} : qscS n [] = true := rfl
theorem qscV_r {n a : Nat} (h : a < n) : qscV n (.ref a) = true := by
  simp [qscV, h]
theorem qscV_i {n : Nat} {x : Int32} : qscV n (.int x) = true := rfl
theorem scp_row {n o m : Nat} {f : Nat → Int32} {M : qM} (h : RowAt M o m f) (ho : o + 1 < n) : sc n M o ∧ sc n M (o + 1) :=
  ⟨scp_obj h.1 (qscS_c.mpr ⟨qscV_r ho, rfl⟩), scp_arr h.2⟩
theorem scp_nar {n o G : Nat} {M : qM} (h : NarIdle M o G) (ho : o + 6 < n) (hG : G < n) : ∀ b, o ≤ b → b < o + 7 → sc n M b := by
  obtain ⟨h1, ⟨f, r1⟩, ⟨f2, r2, -⟩, ⟨f3, r3⟩⟩ := h
  intro b hb1 hb2
  rcases (show b = o ∨ b = o + 1 ∨ b = o + 1 + 1 ∨ b = o + 3 ∨ b = o + 3 + 1 ∨ b = o + 5 ∨ b = o + 5 + 1 by omega) with rfl | rfl | rfl | rfl | rfl | rfl | rfl
  · exact scp_obj h1 (qscS_c.mpr ⟨qscV_r (by omega), qscS_c.mpr ⟨qscV_r hG, qscS_c.mpr ⟨qscV_r (by omega), qscS_c.mpr ⟨qscV_r (by omega), qscS_c.mpr ⟨qscV_r (by omega), rfl⟩⟩⟩⟩⟩)
  · exact (scp_row r1 (by omega)).1
  · exact (scp_row r1 (by omega)).2
  · exact (scp_row r2 (by omega)).1
  · exact (scp_row r2 (by omega)).2
  · exact (scp_row r3 (by omega)).1
  · exact (scp_row r3 (by omega)).2
theorem scp_pla {n o G N : Nat} {tl : Nat → Nat} {M : qM} (h : PlaAt M o G N tl) (ho : o + 8 < n) (hG : G < n) : ∀ b, o ≤ b → b < o + 9 → sc n M b := by
  obtain ⟨h1, ⟨f, r1, -⟩, ⟨f2, r2⟩, ⟨f3, r3⟩, ⟨f4, r4⟩⟩ := h
  intro b hb1 hb2
  rcases (show b = o ∨ b = o + 1 ∨ b = o + 1 + 1 ∨ b = o + 3 ∨ b = o + 3 + 1 ∨ b = o + 5 ∨ b = o + 5 + 1 ∨ b = o + 7 ∨ b = o + 7 + 1 by omega) with rfl | rfl | rfl | rfl | rfl | rfl | rfl | rfl | rfl
  · exact scp_obj h1 (qscS_c.mpr ⟨qscV_r (by omega), qscS_c.mpr ⟨qscV_r hG, qscS_c.mpr ⟨qscV_r (by omega), qscS_c.mpr ⟨qscV_r (by omega), qscS_c.mpr ⟨qscV_r (by omega), qscS_c.mpr ⟨qscV_r (by omega), rfl⟩⟩⟩⟩⟩⟩)
  · exact (scp_row r1 (by omega)).1
  · exact (scp_row r1 (by omega)).2
  · exact (scp_row r2 (by omega)).1
  · exact (scp_row r2 (by omega)).2
  · exact (scp_row r3 (by omega)).1
  · exact (scp_row r3 (by omega)).2
  · exact (scp_row r4 (by omega)).1
  · exact (scp_row r4 (by omega)).2
theorem scp_frow {n a N m : Nat} {sn : Nat → Nat → Nat} {gc gt : Nat → Nat} {M : qM} (h : FRow M a N m sn gc gt) (ho : a + 7 < n) : ∀ b, a ≤ b → b < a + 8 → sc n M b := by
  obtain ⟨⟨f, r1⟩, ⟨f2, r2, -⟩, ⟨f3, r3, -⟩, ⟨f4, r4, -⟩⟩ := h
  intro b hb1 hb2
  rcases (show b = a ∨ b = a + 1 ∨ b = a + 2 ∨ b = a + 2 + 1 ∨ b = a + 4 ∨ b = a + 4 + 1 ∨ b = a + 6 ∨ b = a + 6 + 1 by omega) with rfl | rfl | rfl | rfl | rfl | rfl | rfl | rfl
  · exact (scp_row r1 (by omega)).1
  · exact (scp_row r1 (by omega)).2
  · exact (scp_row r2 (by omega)).1
  · exact (scp_row r2 (by omega)).2
  · exact (scp_row r3 (by omega)).1
  · exact (scp_row r3 (by omega)).2
  · exact (scp_row r4 (by omega)).1
  · exact (scp_row r4 (by omega)).2
theorem scp_fobj {n o a G Wo : Nat} {k s gs tk : Int32} {M : qM} (h : FObj M o a G Wo k s gs tk) (ho : a + 15 < n) (hG : G < n) (hW : Wo < n) : sc n M o :=
  scp_obj h (qscS_c.mpr ⟨qscV_r (by omega), qscS_c.mpr ⟨qscV_r hG, qscS_c.mpr ⟨qscV_r hW, qscS_c.mpr ⟨qscV_r (by omega), qscS_c.mpr ⟨qscV_r (by omega), qscS_c.mpr ⟨qscV_r (by omega), qscS_c.mpr ⟨qscV_r (by omega), qscS_c.mpr ⟨qscV_r (by omega), qscS_c.mpr ⟨qscV_r (by omega), rfl⟩⟩⟩⟩⟩⟩⟩⟩⟩)
theorem inv_scp {M : qM} {T : TS} {sd w h : Nat} {F : Nat → Option Nat} {B : Nat → Nat} {wo : Nat → Option Nat} {rd fd : Bool} {tl : Nat → Nat} {gs tk n : Nat} {cx cy : Nat → Int32} {ce : Nat → Nat} {ct : Nat → Nat → Nat} (hI : InvC M T sd w h F B wo rd fd tl gs tk n cx cy ce ct) : ∀ b, b < 101 → sc 101 M b := by
  obtain ⟨h1, ⟨t1, ⟨f2, t2, -⟩, ⟨f4, t4, -⟩, ⟨f6, t6, -⟩⟩, ⟨w1, f9, w9, -⟩, ⟨v1, v2, ⟨f13, v3, -⟩, ⟨f15, v4, -⟩⟩, h5, h6, ⟨⟨n0, s0, o1⟩, o2, o3, ⟨t0, o4⟩, -⟩, ⟨t9, h8⟩, ⟨c0, ⟨n2, s2, g2, k2, c1⟩, c2, c3, ⟨t3, c4⟩, ⟨c5, f68, c6, -⟩⟩, ⟨d1, ⟨f95, d2, -⟩, ⟨f97, d3, -⟩, ⟨f99, d4, -⟩⟩⟩ := hI
  intro b hb
  rcases (show b = 0 ∨ b = 1 ∨ b = 2 ∨ b = 2 + 1 ∨ b = 4 ∨ b = 4 + 1 ∨ b = 6 ∨ b = 6 + 1 ∨ b = 8 ∨ b = 9 ∨ b = 9 + 1 ∨ b = 11 ∨ b = 12 ∨ b = 13 ∨ b = 13 + 1 ∨ b = 15 ∨ b = 15 + 1 ∨ (17 ≤ b ∧ b < 17 + 7) ∨ (24 ≤ b ∧ b < 24 + 7) ∨ b = 31 ∨ (32 ≤ b ∧ b < 32 + 8) ∨ (40 ≤ b ∧ b < 40 + 7) ∨ (47 ≤ b ∧ b < 47 + 9) ∨ (56 ≤ b ∧ b < 56 + 9) ∨ b = 65 ∨ b = 66 ∨ b = 67 ∨ b = 68 ∨ b = 68 + 1 ∨ (70 ≤ b ∧ b < 70 + 8) ∨ (78 ≤ b ∧ b < 78 + 7) ∨ (85 ≤ b ∧ b < 85 + 9) ∨ b = 94 ∨ b = 95 ∨ b = 95 + 1 ∨ b = 97 ∨ b = 97 + 1 ∨ b = 99 ∨ b = 99 + 1 by omega) with
    rfl | rfl | rfl | rfl | rfl | rfl | rfl | rfl | rfl | rfl | rfl | rfl | rfl | rfl | rfl | rfl | rfl | q | q | rfl | q | q | q | q | rfl | rfl | rfl | rfl | rfl | q | q | q | rfl | rfl | rfl | rfl | rfl | rfl | rfl
  · exact scp_obj h1 rfl
  · exact scp_obj t1 rfl
  · exact (scp_row t2 (by decide)).1
  · exact (scp_row t2 (by decide)).2
  · exact (scp_row t4 (by decide)).1
  · exact (scp_row t4 (by decide)).2
  · exact (scp_row t6 (by decide)).1
  · exact (scp_row t6 (by decide)).2
  · exact scp_obj w1 rfl
  · exact (scp_row w9 (by decide)).1
  · exact (scp_row w9 (by decide)).2
  · exact scp_obj v1 rfl
  · exact scp_obj v2 rfl
  · exact (scp_row v3 (by decide)).1
  · exact (scp_row v3 (by decide)).2
  · exact (scp_row v4 (by decide)).1
  · exact (scp_row v4 (by decide)).2
  · exact scp_nar h5 (by decide) (by decide) b q.1 q.2
  · exact scp_nar h6 (by decide) (by decide) b q.1 q.2
  · exact scp_fobj o1 (by decide) (by decide) (by decide)
  · exact scp_frow o3 (by decide) b q.1 q.2
  · exact scp_nar o2 (by decide) (by decide) b q.1 q.2
  · exact scp_pla o4 (by decide) (by decide) b q.1 q.2
  · exact scp_pla h8 (by decide) (by decide) b q.1 q.2
  · exact scp_obj c0 rfl
  · exact scp_fobj c1 (by decide) (by decide) (by decide)
  · exact scp_obj c5 rfl
  · exact (scp_row c6 (by decide)).1
  · exact (scp_row c6 (by decide)).2
  · exact scp_frow c3 (by decide) b q.1 q.2
  · exact scp_nar c2 (by decide) (by decide) b q.1 q.2
  · exact scp_pla c4 (by decide) (by decide) b q.1 q.2
  · exact scp_obj d1 rfl
  · exact (scp_row d2 (by decide)).1
  · exact (scp_row d2 (by decide)).2
  · exact (scp_row d3 (by decide)).1
  · exact (scp_row d3 (by decide)).2
  · exact (scp_row d4 (by decide)).1
  · exact (scp_row d4 (by decide)).2
/-- the law's own cells -/
def Lsc (M : qM) : Prop := 103 ≤ M.length ∧ M.length ≤ 1000 ∧ ∀ b, 101 ≤ b → sc M.length M b
theorem Lsc.all {M : qM} {T : TS} {sd w h : Nat} {F : Nat → Option Nat} {B : Nat → Nat} {wo : Nat → Option Nat} {rd fd : Bool} {tl : Nat → Nat} {gs tk n : Nat} {cx cy : Nat → Int32} {ce : Nat → Nat} {ct : Nat → Nat → Nat} (hI : InvC M T sd w h F B wo rd fd tl gs tk n cx cy ce ct) (hL : Lsc M) : qscM M.length M = true := by
  refine List.all_eq_true.mpr (fun e he => ?_)
  obtain ⟨b, hb⟩ := List.getElem?_of_mem he
  have hs : sc M.length M b := by
    rcases Nat.lt_or_ge b 101 with q | q
    · exact scp_mono (by have := hL.1; omega) (inv_scp hI b q)
    · exact hL.2.2 b q
  have := hs e hb
  cases e with
  | inl a => rfl
  | inr a =>
    obtain ⟨c, fs⟩ := a
    rw [qscE] at this
    exact this
theorem Lsc.scr {M : qM} (hL : Lsc M) : M[qSCR]? = none := List.getElem?_eq_none (by
  have := hL.2.1
  show M.length ≤ 1000000
  omega)
theorem Lsc.lt {M : qM} (hL : Lsc M) : M.length < qSCR := by
  have := hL.2.1
  show M.length < 1000000
  omega
theorem KC.len {M M' : qM} (h : KC M M') (hL : 103 ≤ M.length) : M'.length = M.length := by
  have h1 := h M.length (by omega)
  rw [List.getElem?_eq_none (Nat.le_refl _)] at h1
  have h2 := List.getElem?_eq_none_iff.mp h1
  have h3 := h (M.length - 1) (by omega)
  have h4 : M[M.length - 1]? = some M[M.length - 1] := List.getElem?_eq_getElem (by omega)
  rw [h4] at h3
  have h5 := (List.getElem?_eq_some_iff.mp h3).1
  omega
theorem KC.lsc {M M' : qM} (h : KC M M') (hL : Lsc M) : Lsc M' := by
  have e := h.len hL.1
  refine ⟨by rw [e]; exact hL.1, by rw [e]; exact hL.2.1, fun b hb e9 he => ?_⟩
  rw [e]
  rw [h b hb] at he
  exact hL.2.2 b hb e9 he
theorem scp_app {n b : Nat} {M : qM} {x : qE} (h : sc n M b) (hb : b ≠ M.length) : sc n (M ++ [x]) b := by
  intro e he
  refine h e ?_
  rcases Nat.lt_or_ge b M.length with q | q
  · rwa [List.getElem?_append_left q] at he
  · rw [List.getElem?_append_right q] at he
    have := (List.getElem?_eq_some_iff.mp he).1
    simp only [List.length_cons, List.length_nil] at this
    omega
theorem app_old {M : qM} {x : qE} {b : Nat} (hb : b < M.length) : (M ++ [x])[b]? = M[b]? := List.getElem?_append_left hb
theorem app_new {M : qM} {x : qE} : (M ++ [x])[M.length]? = some x := by simp
theorem app_len {M : qM} {x : qE} : (M ++ [x]).length = M.length + 1 := by simp
theorem Lsc.app {M : qM} {x : qE} (hL : Lsc M) (hl : M.length + 1 ≤ 1000) (hx : qscM (M.length + 1) [x] = true) : Lsc (M ++ [x]) := by
  refine ⟨by rw [app_len]; have := hL.1; omega, by rw [app_len]; exact hl, fun b hb => ?_⟩
  rw [app_len]
  by_cases e : b = M.length
  · intro e9 he
    rw [e, app_new] at he
    cases he
    exact hx
  · exact scp_mono (Nat.le_succ _) (scp_app (hL.2.2 b hb) e)
theorem Lsc.set {M : qM} {a : Nat} {x : qE} (hL : Lsc M) (hx : qscM M.length [x] = true) : Lsc (M.set a x) := by
  refine ⟨by rw [List.length_set]; exact hL.1, by rw [List.length_set]; exact hL.2.1, fun b hb e he => ?_⟩
  rw [List.length_set]
  rw [List.getElem?_set] at he
  split at he
  · split at he
    · cases he
      exact hx
    · cases he
  · exact hL.2.2 b hb e he
theorem InvC.app {M : qM} {x : qE} {T : TS} {sd w h : Nat} {F : Nat → Option Nat} {B : Nat → Nat} {wo : Nat → Option Nat} {rd fd : Bool} {tl : Nat → Nat} {gs tk n : Nat} {cx cy : Nat → Int32} {ce : Nat → Nat} {ct : Nat → Nat → Nat} (hI : InvC M T sd w h F B wo rd fd tl gs tk n cx cy ce ct) (hL : 101 ≤ M.length) : InvC (M ++ [x]) T sd w h F B wo rd fd tl gs tk n cx cy ce ct := hI.low (fun b q => app_old (by omega))
theorem InvC.set {M : qM} {a : Nat} {x : qE} {T : TS} {sd w h : Nat} {F : Nat → Option Nat} {B : Nat → Nat} {wo : Nat → Option Nat} {rd fd : Bool} {tl : Nat → Nat} {gs tk n : Nat} {cx cy : Nat → Int32} {ce : Nat → Nat} {ct : Nat → Nat → Nat} (hI : InvC M T sd w h F B wo rd fd tl gs tk n cx cy ce ct) (ha : 101 ≤ a) : InvC (M.set a x) T sd w h F B wo rd fd tl gs tk n cx cy ce ct := hI.low (fun b q => get_set_ne (by omega))
theorem qmk_of {L : qL} {st : List Value} {M : qM} {e : qE} (h1 : M.length < qSCR) (h2 : qscM M.length M = true) (h3 : qscL M.length L = true) (h4 : qscS M.length st = true) (h5 : qscM M.length [e] = true) : qmk true L st M e = some (.ref M.length :: st, M ++ [e]) := by
  unfold qmk
  rw [if_pos ⟨rfl, h1, h2, h3, h4, h5⟩]
theorem qscL_c {n : Nat} {v : Option Value} {L : qL} : qscL n (v :: L) = true ↔ (∀ x, v = some x → qscV n x = true) ∧ qscL n L = true := by
  unfold qscL
  rw [List.all_cons, Bool.and_eq_true]
  refine and_congr_left (fun _ => ?_)
  cases v with
  | none => simp
  | some x => simp
/-- the law's rows of numbers -/
theorem qald_z {Z : qScr} {M : qM} {o n k : Nat} {f : Nat → Int32} (h : M[o]? = some (.inl (0, n, .inl f))) (hk : k < n) (hn : n < 2147483648) : qald Z M o 0 (nI k) = some (.int (f k)) := by
  unfold qald
  rw [h]
  simp [qIn_nI hk hn, nI_clamp (show k < 2 ^ 31 by omega)]
theorem qald_c {M : qM} {o n k : Nat} {f : Nat → Int32} (h : M[o]? = some (.inl (1, n, .inl f))) (hk : k < n) (hn : n < 2147483648) : qald none M o 1 (nI k) = some (.int (f k)) := by
  unfold qald
  rw [h]
  simp [qIn_nI hk hn, nI_clamp (show k < 2 ^ 31 by omega)]
theorem qasti_z {M : qM} {o n k : Nat} {f : Nat → Int32} {x : Int32} (h : M[o]? = some (.inl (0, n, .inl f))) (hk : k < n) (hn : n < 2147483648) : qasti M o 0 (nI k) x = some (M.set o (.inl (0, n, .inl (upd f k x)))) := by
  unfold qasti
  rw [h]
  simp [qIn_nI hk hn, nI_clamp (show k < 2 ^ 31 by omega)]
theorem qasti_c {M : qM} {o n k : Nat} {f : Nat → Int32} {x : Int32} (h : M[o]? = some (.inl (1, n, .inl f))) (hk : k < n) (hn : n < 2147483648) (h0 : 0 ≤ x) (h1 : x ≤ 65535) : qasti M o 1 (nI k) x = some (M.set o (.inl (1, n, .inl (upd f k x)))) := by
  unfold qasti
  rw [h]
  simp [qIn_nI hk hn, nI_clamp (show k < 2 ^ 31 by omega), h0, h1]
theorem qaald_z {M : qM} {o k a : Nat} {fs : List Value} (h : M[o]? = some (.inr (11, fs))) (hk : fs[k]? = some (.ref a)) (hn : fs.length < 2147483648) : qaald M o (nI k) = some (.ref a) := by
  have hlt := (List.getElem?_eq_some_iff.mp hk).1
  unfold qaald
  rw [h]
  simp [qIn_nI hlt hn, nI_clamp (show k < 2 ^ 31 by omega), hk]
theorem qaast_z {M : qM} {o k a n : Nat} {fs : List Value} {f : Nat → Int32} (h : M[o]? = some (.inr (11, fs))) (hk : k < fs.length) (hn : fs.length < 2147483648) (ha : M[a]? = some (.inl (0, n, .inl f))) : qaast M o (nI k) a = some (M.set o (.inr (11, fs.set k (.ref a)))) := by
  unfold qaast q_isI
  rw [h, ha]
  simp [qIn_nI hk hn, nI_clamp (show k < 2 ^ 31 by omega)]
