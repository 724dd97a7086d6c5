/-! one step of the small machine, whichever -/
section QS4
variable {p : Program} {l : Launch} {e : Env} {R : Room} {s : State} {m : MethodId} {args : Array Value} {below : List Frame} {meth : Method} {c : Code} {H : Heap} {locs : List Loc} {Q : State → Prop}
variable {pc j : Nat} {ls : Array Slot} {ad : Nat → Nat} {Ts : List Cond} {CA : Nat → ClassId} {D : va_G} {A : Nat → Prop} {M : qM}
theorem qset_len_le {M M' : qM} (h : M'.length = M.length) : M.length ≤ M'.length := Nat.le_of_eq h.symm
theorem qput_len {M M' : qM} {o ci k : Nat} {v : Value} (h : qput M o ci k v = some M') : M'.length = M.length := by
  obtain ⟨fs, -, -, -, rfl⟩ := qput_inv h
  simp
theorem qasti_len {M M' : qM} {o t : Nat} {i x : Int32} (h : qasti M o t i x = some M') : M'.length = M.length := by
  obtain ⟨n, f, -, -, -, rfl⟩ := qasti_inv h
  simp
theorem qs_step (C : qCx p l s m args meth c R j Ts CA D A) {scr : qScr} (hscr : qScr_ok scr A ad s) {x : qX} {L : qL} {st : List Value} {k n nL : Nat} {F' : qF} (hc : q_chk j pc x = true) (hnw : ∀ idx, x.1 = .new idx → q_isnw (q_oc j) idx x.2.2.1 = true) (h : q_step scr j x (pc, L, st, M, k, n) = some F')
    (hP : va_P D q_cl (qW CA ad M) H) (hD : va_D A (qW CA ad M)) (hS : va_S A s.heap H locs) (hl : qLs ad ls nL L) (hk : k ≤ q_mc j) (hn : n ≤ q_ms j)
    (kk : ∀ (ad' : Nat → Nat) (H' : Heap) (locs' : List Loc) (ls' : Array Slot), qAg M.length ad ad' → (q_al j = false → ad' = ad) → M.length ≤ F'.2.2.2.1.length → va_P D q_cl (qW CA ad' F'.2.2.2.1) H' → va_D A (qW CA ad' F'.2.2.2.1) → va_S A s.heap H' locs' → qLs ad' ls' nL F'.2.1 → F'.2.2.2.2.1 ≤ q_mc j → F'.2.2.2.2.2 ≤ q_ms j →
      W p l e R s m args below meth c H' locs' F'.2.2.2.2.1 F'.2.2.2.2.2 Q (F0 m F'.1 ls' (List.map (qt ad') F'.2.2.1))) :
    W p l e R s m args below meth c H locs k n Q (F0 m pc ls (List.map (qt ad) st)) := by
  obtain ⟨i, len, a, b, c9⟩ := x
  have hd := q_chk_dec hc
  simp only at hd
  have hx := C.1.1
  have hb := C.1.2.1
  have hown := C.1.2.2.2
  have hts := C.2.1.1
  have hgw := C.2.1.2
  have same : ∀ (ls' : Array Slot) (pc' : Nat) (L' : qL) (st' : List Value), F' = (pc', L', st', M, k, n) → qLs ad ls' nL L' → W p l e R s m args below meth c H locs k n Q (F0 m pc' ls' (List.map (qt ad) st')) := by
    intro ls' pc' L' st' hF hl'
    subst hF
    exact kk ad H locs ls' qAg.rf (fun _ => rfl) (Nat.le_refl _) hP hD hS hl' hk hn
  have wrote : ∀ (M' : qM) (pc' : Nat) (st' : List Value), M'.length = M.length → F' = (pc', L, st', M', k, n) → ∀ (H1 : Heap) (locs1 : List Loc), va_P D q_cl (qW CA ad M') H1 → va_D A (qW CA ad M') → va_S A s.heap H1 locs1 → W p l e R s m args below meth c H1 locs1 k n Q (F0 m pc' ls (List.map (qt ad) st')) := by
    intro M' pc' st' hM' hF H1 locs1 h1 h2 h3
    subst hF
    exact kk ad H1 locs1 ls qAg.rf (fun _ => rfl) (qset_len_le hM') h1 h2 h3 hl hk hn
  have gen : q_gen i len a (pc, L, st, M, k, n) = some F' → W p l e R s m args below meth c H locs k n Q (F0 m pc ls (List.map (qt ad) st)) := by
    intro hg
    refine qs_gen C hc hg hl (fun ls' hF hl' => ?_)
    obtain ⟨pc', L', st', z⟩ := F'
    simp only at hF hl'
    subst hF
    exact same ls' pc' L' st' rfl hl'
  unfold q_chk at hc
  simp only [Bool.and_eq_true, decide_eq_true_eq] at hc
  obtain ⟨-, hc⟩ := hc
  cases i
  case getfield idx =>
    cases st with
    | nil => exact absurd (show (none : Option qF) = some F' from h) (fun q => by cases q)
    | cons v r =>
      cases v with
      | ref o =>
        obtain ⟨v, h1, rfl⟩ := Option.map_eq_some_iff.mp (show (qget M o a b).map _ = some F' from h)
        simp only [Bool.or_eq_true, Bool.and_eq_true, decide_eq_true_eq] at hc
        obtain ⟨rfl, hc⟩ := hc
        exact qs_get C hP h1 hd hc (same ls _ _ _ rfl hl)
      | _ => exact absurd (show (none : Option qF) = some F' from h) (fun q => by cases q)
  case putfield idx =>
    cases st with
    | nil => exact absurd (show (none : Option qF) = some F' from h) (fun q => by cases q)
    | cons v r =>
      cases r with
      | nil => exact absurd (show (none : Option qF) = some F' from h) (fun q => by cases q)
      | cons w r =>
        cases w with
        | ref o =>
          obtain ⟨M', h1, rfl⟩ := Option.map_eq_some_iff.mp (show (qput M o a b v).map _ = some F' from h)
          simp only [Bool.or_eq_true, Bool.and_eq_true, decide_eq_true_eq] at hc
          obtain ⟨rfl, hc⟩ := hc
          exact qs_put C hP hD hS h1 hd hc (wrote M' _ _ (qput_len h1) rfl)
        | _ => exact absurd (show (none : Option qF) = some F' from h) (fun q => by cases q)
  case iaload =>
    cases st with
    | nil => exact absurd (show (none : Option qF) = some F' from h) (fun q => by cases q)
    | cons v r =>
      cases v with
      | int i =>
        cases r with
        | nil => exact absurd (show (none : Option qF) = some F' from h) (fun q => by cases q)
        | cons w r =>
          cases w with
          | ref o =>
            obtain ⟨v, h1, rfl⟩ := Option.map_eq_some_iff.mp (show (qald scr M o 0 i).map _ = some F' from h)
            have hc : len = 1 := of_decide_eq_true (show decide (len = 1) = true from hc)
            subst hc
            exact qs_iald C hP hS hscr h1 hd (same ls _ _ _ rfl hl)
          | _ => exact absurd (show (none : Option qF) = some F' from h) (fun q => by cases q)
      | _ => exact absurd (show (none : Option qF) = some F' from h) (fun q => by cases q)
  case caload =>
    cases st with
    | nil => exact absurd (show (none : Option qF) = some F' from h) (fun q => by cases q)
    | cons v r =>
      cases v with
      | int i =>
        cases r with
        | nil => exact absurd (show (none : Option qF) = some F' from h) (fun q => by cases q)
        | cons w r =>
          cases w with
          | ref o =>
            obtain ⟨v, h1, rfl⟩ := Option.map_eq_some_iff.mp (show (qald none M o 1 i).map _ = some F' from h)
            have hc : len = 1 := of_decide_eq_true (show decide (len = 1) = true from hc)
            subst hc
            exact qs_cald C hP h1 hd (same ls _ _ _ rfl hl)
          | _ => exact absurd (show (none : Option qF) = some F' from h) (fun q => by cases q)
      | _ => exact absurd (show (none : Option qF) = some F' from h) (fun q => by cases q)
  case iastore =>
    cases st with
    | nil => exact absurd (show (none : Option qF) = some F' from h) (fun q => by cases q)
    | cons v r =>
      cases v with
      | int y =>
        cases r with
        | nil => exact absurd (show (none : Option qF) = some F' from h) (fun q => by cases q)
        | cons w r =>
          cases w with
          | int i =>
            cases r with
            | nil => exact absurd (show (none : Option qF) = some F' from h) (fun q => by cases q)
            | cons u r =>
              cases u with
              | ref o =>
                obtain ⟨M', h1, rfl⟩ := Option.map_eq_some_iff.mp (show (qasti M o 0 i y).map _ = some F' from h)
                have hc : len = 1 := of_decide_eq_true (show decide (len = 1) = true from hc)
                subst hc
                exact qs_iast C hP hD hS h1 hd (wrote M' _ _ (qasti_len h1) rfl)
              | _ => exact absurd (show (none : Option qF) = some F' from h) (fun q => by cases q)
          | _ => exact absurd (show (none : Option qF) = some F' from h) (fun q => by cases q)
      | _ => exact absurd (show (none : Option qF) = some F' from h) (fun q => by cases q)
  case castore =>
    cases st with
    | nil => exact absurd (show (none : Option qF) = some F' from h) (fun q => by cases q)
    | cons v r =>
      cases v with
      | int y =>
        cases r with
        | nil => exact absurd (show (none : Option qF) = some F' from h) (fun q => by cases q)
        | cons w r =>
          cases w with
          | int i =>
            cases r with
            | nil => exact absurd (show (none : Option qF) = some F' from h) (fun q => by cases q)
            | cons u r =>
              cases u with
              | ref o =>
                obtain ⟨M', h1, rfl⟩ := Option.map_eq_some_iff.mp (show (qasti M o 1 i y).map _ = some F' from h)
                have hc : len = 1 := of_decide_eq_true (show decide (len = 1) = true from hc)
                subst hc
                exact qs_cast C hP hD hS h1 hd (wrote M' _ _ (qasti_len h1) rfl)
              | _ => exact absurd (show (none : Option qF) = some F' from h) (fun q => by cases q)
          | _ => exact absurd (show (none : Option qF) = some F' from h) (fun q => by cases q)
      | _ => exact absurd (show (none : Option qF) = some F' from h) (fun q => by cases q)
  case arraylength =>
    cases st with
    | nil => exact absurd (show (none : Option qF) = some F' from h) (fun q => by cases q)
    | cons v r =>
      cases v with
      | ref o =>
        obtain ⟨v, h1, rfl⟩ := Option.map_eq_some_iff.mp (show (qlen scr M o).map _ = some F' from h)
        have hc : len = 1 := of_decide_eq_true (show decide (len = 1) = true from hc)
        subst hc
        exact qs_len C hP hS hscr h1 hd (same ls _ _ _ rfl hl)
      | _ => exact absurd (show (none : Option qF) = some F' from h) (fun q => by cases q)
  case aaload =>
    cases st with
    | nil => exact absurd (show (none : Option qF) = some F' from h) (fun q => by cases q)
    | cons v r =>
      cases v with
      | int i =>
        cases r with
        | nil => exact absurd (show (none : Option qF) = some F' from h) (fun q => by cases q)
        | cons w r =>
          cases w with
          | ref o =>
            obtain ⟨v, h1, rfl⟩ := Option.map_eq_some_iff.mp (show (qaald M o i).map _ = some F' from h)
            have hc : len = 1 := of_decide_eq_true (show decide (len = 1) = true from hc)
            subst hc
            exact qs_aald C hP h1 hd (same ls _ _ _ rfl hl)
          | _ => exact absurd (show (none : Option qF) = some F' from h) (fun q => by cases q)
      | _ => exact absurd (show (none : Option qF) = some F' from h) (fun q => by cases q)
  case aastore =>
    cases st with
    | nil => exact absurd (show (none : Option qF) = some F' from h) (fun q => by cases q)
    | cons v r =>
      cases v with
      | ref y =>
        cases r with
        | nil => exact absurd (show (none : Option qF) = some F' from h) (fun q => by cases q)
        | cons w r =>
          cases w with
          | int i =>
            cases r with
            | nil => exact absurd (show (none : Option qF) = some F' from h) (fun q => by cases q)
            | cons u r =>
              cases u with
              | ref o =>
                obtain ⟨M', h1, rfl⟩ := Option.map_eq_some_iff.mp (show (qaast M o i y).map _ = some F' from h)
                have hc : len = 1 := of_decide_eq_true (show decide (len = 1) = true from hc)
                subst hc
                exact qs_aast C hP hD hS h1 hd (wrote M' _ _ (qaast_len h1) rfl)
              | _ => exact absurd (show (none : Option qF) = some F' from h) (fun q => by cases q)
          | _ => exact absurd (show (none : Option qF) = some F' from h) (fun q => by cases q)
      | _ => exact absurd (show (none : Option qF) = some F' from h) (fun q => by cases q)
  case anewarray idx =>
    cases st with
    | nil => exact absurd (show (none : Option qF) = some F' from h) (fun q => by cases q)
    | cons v r =>
      cases v with
      | int y =>
        simp only [Bool.and_eq_true, decide_eq_true_eq] at hc
        obtain ⟨rfl, hc⟩ := hc
        have h : (if 0 ≤ y ∧ y.toNatClampNeg ≤ 10000 ∧ k + 1 ≤ q_mc j ∧ n + y.toNatClampNeg ≤ q_ms j then (qmk (q_al j) L r M (.inr (11, List.replicate y.toNatClampNeg .null))).map (fun p => (pc + 3, L, p.1, p.2, k + 1, n + y.toNatClampNeg)) else none) = some F' := h
        by_cases hr : 0 ≤ y ∧ y.toNatClampNeg ≤ 10000 ∧ k + 1 ≤ q_mc j ∧ n + y.toNatClampNeg ≤ q_ms j
        · rw [if_pos hr] at h
          obtain ⟨⟨st', M'⟩, h1, rfl⟩ := Option.map_eq_some_iff.mp h
          obtain ⟨hal, -, -, -, -, -, -, hM'⟩ := qmk_inv h1
          refine qs_newr C hP hD hS hr.1 hr.2.1 h1 hl (q_wat_in hc) hr.2.2.1 hr.2.2.2 hd (fun ad' H1 g1 g2 g3 g4 g5 => ?_)
          exact kk ad' H1 locs ls g1 (fun q => by rw [hal] at q; cases q) (by rw [hM']; simp) g2 g3 g4 g5 hr.2.2.1 hr.2.2.2
        · rw [if_neg hr] at h
          cases h
      | _ => exact absurd (show (none : Option qF) = some F' from h) (fun q => by cases q)
  case multianewarray idx d =>
    cases st with
    | nil => exact absurd (show (none : Option qF) = some F' from h) (fun q => by cases q)
    | cons v r =>
      cases v with
      | int y =>
        cases r with
        | nil => exact absurd (show (none : Option qF) = some F' from h) (fun q => by cases q)
        | cons w r =>
          cases w with
          | int x =>
            simp only [Bool.and_eq_true, decide_eq_true_eq] at hc
            obtain ⟨rfl, rfl, hc⟩ := hc
            have h : (if x = 4 ∧ y = 9 ∧ k + 5 ≤ q_mc j ∧ n + 40 ≤ q_ms j then (qmk4 (q_al j) L r M).map (fun p => (pc + 4, L, p.1, p.2, k + 5, n + 40)) else none) = some F' := h
            by_cases hr : x = 4 ∧ y = 9 ∧ k + 5 ≤ q_mc j ∧ n + 40 ≤ q_ms j
            · rw [if_pos hr] at h
              obtain ⟨⟨st', M'⟩, h1, rfl⟩ := Option.map_eq_some_iff.mp h
              obtain ⟨rfl, rfl, hr3, hr4⟩ := hr
              obtain ⟨hal, -, -, -, -, -, hM'⟩ := qmk4_inv h1
              refine qs_new4 C hP hD hS h1 hl (q_wat_in hc) hr3 hr4 hd (fun ad' H1 locs1 g1 g2 g3 g4 g5 => ?_)
              exact kk ad' H1 locs1 ls g1 (fun q => by rw [hal] at q; cases q) (by rw [hM']; simp) g2 g3 g4 g5 hr3 hr4
            · rw [if_neg hr] at h
              cases h
          | _ => exact absurd (show (none : Option qF) = some F' from h) (fun q => by cases q)
      | _ => exact absurd (show (none : Option qF) = some F' from h) (fun q => by cases q)
  case iinc z d =>
    have hc : len = 3 := of_decide_eq_true (show decide (len = 3) = true from hc)
    subst hc
    have h : (match L[z]? with
        | some (some (.int y)) => some (pc + 3, qset1 L z (some (.int (y + Int32.ofInt d))), st, M, k, n)
        | _ => none) = some F' := h
    split at h
    · rename_i y hz
      cases h
      have hm : (z, Value.int y) ∈ ql ad L := ql_mem.mpr ⟨_, hz, rfl⟩
      obtain ⟨q, hq⟩ := List.getElem?_of_mem hm
      have hzl : z < nL := by
        have := (List.getElem?_eq_some_iff.mp hz).1
        rw [hl.1] at this
        exact this
      exact lv_iinc hx hb hd hl.2 hq rfl hzl rfl (fun ls' hl' => same ls' _ _ _ rfl (hl.st1 _ (fun w hw => by cases hw; rfl) hl'))
    · cases h
  case ldc idx =>
    cases (show some _ = some F' from h)
    simp only [Bool.and_eq_true, decide_eq_true_eq] at hc
    obtain ⟨rfl, hc⟩ := hc
    exact lv_ldc hx hb hown (hts _ (hgw _ (q_ct_spec hc))) hd (same ls _ _ _ rfl hl)
  case ldc_w idx =>
    cases (show some _ = some F' from h)
    simp only [Bool.and_eq_true, decide_eq_true_eq] at hc
    obtain ⟨rfl, hc⟩ := hc
    exact lv_ldcw hx hb hown (hts _ (hgw _ (q_ct_spec hc))) hd (same ls _ _ _ rfl hl)
  case tableswitch d lo hi offs =>
    cases st with
    | nil => exact absurd (show (none : Option qF) = some F' from h) (fun q => by cases q)
    | cons v r =>
      cases v with
      | int y =>
        obtain ⟨t, h1, rfl⟩ := Option.map_eq_some_iff.mp (show (q_tsw pc d lo hi offs y).map _ = some F' from h)
        unfold q_tsw at h1
        by_cases hr : y.toInt < lo ∨ hi < y.toInt
        · rw [if_pos hr] at h1
          obtain ⟨h2, rfl⟩ := qif_some h1
          exact lv_tableOut hx hb hd hr (Int.toNat_of_nonneg h2).symm (same ls _ _ _ rfl hl)
        · rw [if_neg hr] at h1
          split at h1
          · rename_i o ho
            obtain ⟨h2, rfl⟩ := qif_some h1
            exact lv_tableIn hx hb hd (fun q => hr (Or.inl q)) (fun q => hr (Or.inr q)) ho (Int.toNat_of_nonneg h2).symm (same ls _ _ _ rfl hl)
          · cases h1
      | _ => exact absurd (show (none : Option qF) = some F' from h) (fun q => by cases q)
  case new idx =>
    have hw := hnw idx rfl
    have hc : len = 3 := by
      simp only [Bool.and_eq_true, decide_eq_true_eq] at hc
      exact hc.1
    subst hc
    have h : (if k + 1 ≤ q_mc j ∧ n + q_N a ≤ q_ms j then (qmk (q_al j) L st M (.inr (a, q_df a))).map (fun p => (pc + 3, L, p.1, p.2, k + 1, n + q_N a)) else none) = some F' := h
    by_cases hr : k + 1 ≤ q_mc j ∧ n + q_N a ≤ q_ms j
    · rw [if_pos hr] at h
      obtain ⟨⟨st', M'⟩, h1, rfl⟩ := Option.map_eq_some_iff.mp h
      obtain ⟨hal, -, -, -, -, -, -, hM'⟩ := qmk_inv h1
      refine qs_new C hP hD hS h1 hl hw hr.1 hr.2 hd (fun ad' H1 g1 g2 g3 g4 g5 => ?_)
      exact kk ad' H1 locs ls g1 (fun q => by rw [hal] at q; cases q) (by rw [hM']; simp) g2 g3 g4 g5 hr.1 hr.2
    · rw [if_neg hr] at h
      cases h
  case newarray t =>
    cases st with
    | nil => exact absurd (show (none : Option qF) = some F' from h) (fun q => by cases q)
    | cons v r =>
      cases v with
      | int y =>
        have hc : len = 2 := of_decide_eq_true (show decide (len = 2) = true from hc)
        subst hc
        have h : (match q_at t with
          | some (u, g) => if 0 ≤ y ∧ y.toNatClampNeg ≤ 10000 ∧ k + 1 ≤ q_mc j ∧ n + y.toNatClampNeg ≤ q_ms j then (qmk (q_al j) L r M (.inl (u, g y.toNatClampNeg))).map (fun p => (pc + 2, L, p.1, p.2, k + 1, n + y.toNatClampNeg)) else none
          | none => none) = some F' := h
        split at h
        · rename_i u g ht
          by_cases hr : 0 ≤ y ∧ y.toNatClampNeg ≤ 10000 ∧ k + 1 ≤ q_mc j ∧ n + y.toNatClampNeg ≤ q_ms j
          · rw [if_pos hr] at h
            obtain ⟨⟨st', M'⟩, h1, rfl⟩ := Option.map_eq_some_iff.mp h
            obtain ⟨hal, -, -, -, -, -, -, hM'⟩ := qmk_inv h1
            refine qs_newa C hP hD hS ht hr.1 hr.2.1 h1 hl hr.2.2.1 hr.2.2.2 hd (fun ad' H1 g1 g2 g3 g4 g5 => ?_)
            exact kk ad' H1 locs ls g1 (fun q => by rw [hal] at q; cases q) (by rw [hM']; simp) g2 g3 g4 g5 hr.2.2.1 hr.2.2.2
          · rw [if_neg hr] at h
            cases h
        · cases h
      | _ => exact absurd (show (none : Option qF) = some F' from h) (fun q => by cases q)
  all_goals exact gen h
end QS4
